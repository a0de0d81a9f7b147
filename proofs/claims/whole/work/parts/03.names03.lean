theorem dX1_begin_36 : decode cX1_begin 36 = .ok (.aload_n 0, 1) := by decide +kernel
theorem dX1_begin_37 : decode cX1_begin 37 = .ok (.iconst 0, 1) := by decide +kernel
theorem dX1_begin_38 : decode cX1_begin 38 = .ok (.putfield 37, 3) := by decide +kernel
theorem dX1_begin_41 : decode cX1_begin 41 = .ok (.aload_n 0, 1) := by decide +kernel
theorem dX1_begin_42 : decode cX1_begin 42 = .ok (.iconst 0, 1) := by decide +kernel
theorem dX1_begin_43 : decode cX1_begin 43 = .ok (.putfield 40, 3) := by decide +kernel
theorem dX1_begin_46 : decode cX1_begin 46 = .ok (.aload_n 0, 1) := by decide +kernel
theorem dX1_begin_47 : decode cX1_begin 47 = .ok (.bipush (-2), 2) := by decide +kernel
theorem dX1_begin_49 : decode cX1_begin 49 = .ok (.putfield 43, 3) := by decide +kernel
theorem dX1_begin_52 : decode cX1_begin 52 = .ok (.return_, 1) := by decide +kernel
set_option maxRecDepth 20000 in
theorem ggX1_advance_X0_statueAt : GoodIn wsX1_advance wsX0_statueAt := goodIn_r _ [17, 18, 19, 128, 129, 130, 131, 132, 133, 134, 135, 136, 137, 138, 139, 140, 141, 142, 143, 144] rfl (by decide +kernel)
set_option maxRecDepth 20000 in
theorem gX1_advance_X0_statueAt : GoodIn wsX1_advance (wsV RX1 46 RX0 yX0_statueAt wsX0_statueAt) := goodIn_app (goodIn_of _ (by decide +kernel)) ggX1_advance_X0_statueAt
set_option maxRecDepth 20000 in
theorem ggX1_advance_X0_wayAt : GoodIn wsX1_advance wsX0_wayAt := goodIn_r _ [23, 18, 24, 128, 129, 130, 131, 132, 133, 134, 135, 136, 137, 138, 139, 140, 141, 142, 143, 144] rfl (by decide +kernel)
set_option maxRecDepth 20000 in
theorem gX1_advance_X0_wayAt : GoodIn wsX1_advance (wsV RX1 52 RX0 yX0_wayAt wsX0_wayAt) := goodIn_app (goodIn_of _ (by decide +kernel)) ggX1_advance_X0_wayAt
set_option maxRecDepth 20000 in
theorem ggX1_advance_X0_roadAt : GoodIn wsX1_advance wsX0_roadAt := goodIn_r _ [28, 18, 29, 128, 129, 130, 131, 132, 133, 134, 135, 136, 137, 138, 139, 140, 141, 142, 143, 144] rfl (by decide +kernel)
set_option maxRecDepth 20000 in
theorem gX1_advance_X0_roadAt : GoodIn wsX1_advance (wsV RX1 56 RX0 yX0_roadAt wsX0_roadAt) := goodIn_app (goodIn_of _ (by decide +kernel)) ggX1_advance_X0_roadAt
set_option maxRecDepth 20000 in
theorem ggX1_advance_X3_slopeAt : GoodIn wsX1_advance wsX3_slopeAt := goodIn_r _ [34, 35, 36, 37, 38, 125, 126, 127] rfl (by decide +kernel)
set_option maxRecDepth 20000 in
theorem gX1_advance_X3_slopeAt : GoodIn wsX1_advance (wsV RX1 60 RX3 yX3_slopeAt wsX3_slopeAt) := goodIn_app (goodIn_of _ (by decide +kernel)) ggX1_advance_X3_slopeAt
set_option maxRecDepth 20000 in
theorem ggX1_advance_X10_carries : GoodIn wsX1_advance wsX10_carries := goodIn_r _ [43, 44, 45, 46, 47, 145, 146, 147, 117, 118, 119, 120, 121, 122, 123, 124] rfl (by decide +kernel)
set_option maxRecDepth 20000 in
theorem gX1_advance_X10_carries : GoodIn wsX1_advance (wsV RX1 66 RX10 yX10_carries wsX10_carries) := goodIn_app (goodIn_of _ (by decide +kernel)) ggX1_advance_X10_carries
set_option maxRecDepth 20000 in
theorem ggX1_advance_X10_hands : GoodIn wsX1_advance wsX10_hands := goodIn_r _ [51, 52, 53, 54, 55, 56, 44, 57, 36, 37, 38, 58, 59, 145, 146, 147] rfl (by decide +kernel)
set_option maxRecDepth 20000 in
theorem gX1_advance_X10_hands : GoodIn wsX1_advance (wsV RX1 77 RX10 yX10_hands wsX10_hands) := goodIn_app (goodIn_of _ (by decide +kernel)) ggX1_advance_X10_hands
set_option maxRecDepth 20000 in
theorem ggX1_advance_X10_duration : GoodIn wsX1_advance wsX10_duration := goodIn_r _ [63, 64, 44, 52, 53, 54, 55, 36, 37, 38, 65, 49, 50, 42, 51, 56, 57, 58, 59, 145, 146, 147] rfl (by decide +kernel)
set_option maxRecDepth 20000 in
theorem gX1_advance_X10_duration : GoodIn wsX1_advance (wsV RX1 81 RX10 yX10_duration wsX10_duration) := goodIn_app (goodIn_of _ (by decide +kernel)) ggX1_advance_X10_duration
set_option maxRecDepth 20000 in
theorem ggX1_advance_X10_woodFor : GoodIn wsX1_advance wsX10_woodFor := goodIn_r _ [69, 70, 44, 36, 37, 38, 145, 146, 147] rfl (by decide +kernel)
set_option maxRecDepth 20000 in
theorem gX1_advance_X10_woodFor : GoodIn wsX1_advance (wsV RX1 85 RX10 yX10_woodFor wsX10_woodFor) := goodIn_app (goodIn_of _ (by decide +kernel)) ggX1_advance_X10_woodFor
set_option maxRecDepth 20000 in
theorem ggX1_advance_X10_risk : GoodIn wsX1_advance wsX10_risk := goodIn_r _ [74, 75, 44, 76, 77, 54, 78, 52, 53, 55, 79, 80, 81, 36, 37, 38, 145, 146, 147] rfl (by decide +kernel)
set_option maxRecDepth 20000 in
theorem gX1_advance_X10_risk : GoodIn wsX1_advance (wsV RX1 91 RX10 yX10_risk wsX10_risk) := goodIn_app (goodIn_of _ (by decide +kernel)) ggX1_advance_X10_risk
set_option maxRecDepth 20000 in
theorem ggX1_advance_X1_falls : GoodIn wsX1_advance wsX1_falls := goodIn_r _ [86, 87, 88, 89, 85, 90, 91, 92, 106, 107, 108, 109, 110, 111, 112, 113, 114, 115, 116] rfl (by decide +kernel)
set_option maxRecDepth 20000 in
theorem gX1_advance_X1_falls : GoodIn wsX1_advance (wsV RX1 94 RX1 yX1_falls wsX1_falls) := goodIn_app (goodIn_of _ (by decide +kernel)) ggX1_advance_X1_falls
set_option maxRecDepth 20000 in
theorem ggX1_advance_X1_laid : GoodIn wsX1_advance wsX1_laid := goodIn_r _ [96, 87, 88, 89, 85, 90, 91, 92, 97, 98, 99, 42, 100, 101, 44, 102, 103, 104, 105, 36, 37, 38, 106, 107, 108, 109, 110, 111, 112, 113, 114, 115, 116, 145, 146, 147] rfl (by decide +kernel)
set_option maxRecDepth 20000 in
theorem gX1_advance_X1_laid : GoodIn wsX1_advance (wsV RX1 98 RX1 yX1_laid wsX1_laid) := goodIn_app (goodIn_of _ (by decide +kernel)) ggX1_advance_X1_laid
theorem dX1_advance_0 : decode cX1_advance 0 = .ok (.aload_n 1, 1) := by decide +kernel
theorem dX1_advance_1 : decode cX1_advance 1 = .ok (.aload_n 0, 1) := by decide +kernel
theorem dX1_advance_2 : decode cX1_advance 2 = .ok (.getfield 22, 3) := by decide +kernel
theorem dX1_advance_5 : decode cX1_advance 5 = .ok (.invokevirtual 46, 3) := by decide +kernel
theorem dX1_advance_8 : decode cX1_advance 8 = .ok (.astore_n 2, 1) := by decide +kernel
theorem dX1_advance_9 : decode cX1_advance 9 = .ok (.aload_n 1, 1) := by decide +kernel
theorem dX1_advance_10 : decode cX1_advance 10 = .ok (.aload_n 0, 1) := by decide +kernel
theorem dX1_advance_11 : decode cX1_advance 11 = .ok (.getfield 25, 3) := by decide +kernel
theorem dX1_advance_14 : decode cX1_advance 14 = .ok (.invokevirtual 52, 3) := by decide +kernel
theorem dX1_advance_17 : decode cX1_advance 17 = .ok (.astore_n 3, 1) := by decide +kernel
theorem dX1_advance_18 : decode cX1_advance 18 = .ok (.aload_n 1, 1) := by decide +kernel
theorem dX1_advance_19 : decode cX1_advance 19 = .ok (.aload_n 0, 1) := by decide +kernel
theorem dX1_advance_20 : decode cX1_advance 20 = .ok (.getfield 28, 3) := by decide +kernel
theorem dX1_advance_23 : decode cX1_advance 23 = .ok (.invokevirtual 56, 3) := by decide +kernel
theorem dX1_advance_26 : decode cX1_advance 26 = .ok (.astore 4, 2) := by decide +kernel
theorem dX1_advance_28 : decode cX1_advance 28 = .ok (.aload_n 2, 1) := by decide +kernel
theorem dX1_advance_29 : decode cX1_advance 29 = .ok (.ifnull 12, 3) := by decide +kernel
theorem dX1_advance_32 : decode cX1_advance 32 = .ok (.aload_n 3, 1) := by decide +kernel
theorem dX1_advance_33 : decode cX1_advance 33 = .ok (.ifnull 8, 3) := by decide +kernel
theorem dX1_advance_36 : decode cX1_advance 36 = .ok (.aload 4, 2) := by decide +kernel
theorem dX1_advance_38 : decode cX1_advance 38 = .ok (.ifnonnull 8, 3) := by decide +kernel
theorem dX1_advance_41 : decode cX1_advance 41 = .ok (.aload_n 0, 1) := by decide +kernel
theorem dX1_advance_42 : decode cX1_advance 42 = .ok (.getfield 19, 3) := by decide +kernel
theorem dX1_advance_45 : decode cX1_advance 45 = .ok (.ireturn, 1) := by decide +kernel
theorem dX1_advance_46 : decode cX1_advance 46 = .ok (.aload 4, 2) := by decide +kernel
theorem dX1_advance_48 : decode cX1_advance 48 = .ok (.aload_n 0, 1) := by decide +kernel
theorem dX1_advance_49 : decode cX1_advance 49 = .ok (.getfield 34, 3) := by decide +kernel
theorem dX1_advance_52 : decode cX1_advance 52 = .ok (.invokevirtual 60, 3) := by decide +kernel
theorem dX1_advance_55 : decode cX1_advance 55 = .ok (.istore 5, 2) := by decide +kernel
theorem dX1_advance_57 : decode cX1_advance 57 = .ok (.aload_n 3, 1) := by decide +kernel
theorem dX1_advance_58 : decode cX1_advance 58 = .ok (.aload_n 2, 1) := by decide +kernel
theorem dX1_advance_59 : decode cX1_advance 59 = .ok (.iload 5, 2) := by decide +kernel
theorem dX1_advance_61 : decode cX1_advance 61 = .ok (.invokevirtual 66, 3) := by decide +kernel
theorem dX1_advance_64 : decode cX1_advance 64 = .ok (.ifCond .ne 11, 3) := by decide +kernel
theorem dX1_advance_67 : decode cX1_advance 67 = .ok (.aload_n 0, 1) := by decide +kernel
theorem dX1_advance_68 : decode cX1_advance 68 = .ok (.iconst 4, 1) := by decide +kernel
theorem dX1_advance_69 : decode cX1_advance 69 = .ok (.putfield 19, 3) := by decide +kernel
theorem dX1_advance_72 : decode cX1_advance 72 = .ok (.goto 135, 3) := by decide +kernel
theorem dX1_advance_75 : decode cX1_advance 75 = .ok (.aload_n 0, 1) := by decide +kernel
theorem dX1_advance_76 : decode cX1_advance 76 = .ok (.getfield 31, 3) := by decide +kernel
theorem dX1_advance_79 : decode cX1_advance 79 = .ok (.aload_n 3, 1) := by decide +kernel
theorem dX1_advance_80 : decode cX1_advance 80 = .ok (.aload_n 2, 1) := by decide +kernel
theorem dX1_advance_81 : decode cX1_advance 81 = .ok (.getfield 72, 3) := by decide +kernel
theorem dX1_advance_84 : decode cX1_advance 84 = .ok (.iload 5, 2) := by decide +kernel
theorem dX1_advance_86 : decode cX1_advance 86 = .ok (.invokevirtual 77, 3) := by decide +kernel
theorem dX1_advance_89 : decode cX1_advance 89 = .ok (.if_icmp .ge 11, 3) := by decide +kernel
theorem dX1_advance_92 : decode cX1_advance 92 = .ok (.aload_n 0, 1) := by decide +kernel
theorem dX1_advance_93 : decode cX1_advance 93 = .ok (.iconst 5, 1) := by decide +kernel
theorem dX1_advance_94 : decode cX1_advance 94 = .ok (.putfield 19, 3) := by decide +kernel
theorem dX1_advance_97 : decode cX1_advance 97 = .ok (.goto 110, 3) := by decide +kernel
theorem dX1_advance_100 : decode cX1_advance 100 = .ok (.aload_n 0, 1) := by decide +kernel
theorem dX1_advance_101 : decode cX1_advance 101 = .ok (.dup, 1) := by decide +kernel
theorem dX1_advance_102 : decode cX1_advance 102 = .ok (.getfield 37, 3) := by decide +kernel
theorem dX1_advance_105 : decode cX1_advance 105 = .ok (.aload_n 3, 1) := by decide +kernel
theorem dX1_advance_106 : decode cX1_advance 106 = .ok (.aload_n 2, 1) := by decide +kernel
theorem dX1_advance_107 : decode cX1_advance 107 = .ok (.getfield 72, 3) := by decide +kernel
theorem dX1_advance_110 : decode cX1_advance 110 = .ok (.iload 5, 2) := by decide +kernel
theorem dX1_advance_112 : decode cX1_advance 112 = .ok (.aload_n 0, 1) := by decide +kernel
theorem dX1_advance_113 : decode cX1_advance 113 = .ok (.getfield 31, 3) := by decide +kernel
theorem dX1_advance_116 : decode cX1_advance 116 = .ok (.invokevirtual 81, 3) := by decide +kernel
theorem dX1_advance_119 : decode cX1_advance 119 = .ok (.iadd, 1) := by decide +kernel
theorem dX1_advance_120 : decode cX1_advance 120 = .ok (.putfield 37, 3) := by decide +kernel
theorem dX1_advance_123 : decode cX1_advance 123 = .ok (.aload_n 0, 1) := by decide +kernel
theorem dX1_advance_124 : decode cX1_advance 124 = .ok (.dup, 1) := by decide +kernel
theorem dX1_advance_125 : decode cX1_advance 125 = .ok (.getfield 40, 3) := by decide +kernel
theorem dX1_advance_128 : decode cX1_advance 128 = .ok (.aload_n 3, 1) := by decide +kernel
theorem dX1_advance_129 : decode cX1_advance 129 = .ok (.aload_n 2, 1) := by decide +kernel
theorem dX1_advance_130 : decode cX1_advance 130 = .ok (.getfield 72, 3) := by decide +kernel
theorem dX1_advance_133 : decode cX1_advance 133 = .ok (.invokevirtual 85, 3) := by decide +kernel
theorem dX1_advance_136 : decode cX1_advance 136 = .ok (.iadd, 1) := by decide +kernel
theorem dX1_advance_137 : decode cX1_advance 137 = .ok (.putfield 40, 3) := by decide +kernel
theorem dX1_advance_140 : decode cX1_advance 140 = .ok (.aload_n 0, 1) := by decide +kernel
theorem dX1_advance_141 : decode cX1_advance 141 = .ok (.aload_n 3, 1) := by decide +kernel
theorem dX1_advance_142 : decode cX1_advance 142 = .ok (.aload_n 2, 1) := by decide +kernel
theorem dX1_advance_143 : decode cX1_advance 143 = .ok (.getfield 88, 3) := by decide +kernel
theorem dX1_advance_146 : decode cX1_advance 146 = .ok (.iload 5, 2) := by decide +kernel
theorem dX1_advance_148 : decode cX1_advance 148 = .ok (.invokevirtual 91, 3) := by decide +kernel
theorem dX1_advance_151 : decode cX1_advance 151 = .ok (.invokevirtual 94, 3) := by decide +kernel
theorem dX1_advance_154 : decode cX1_advance 154 = .ok (.ifCond .eq 22, 3) := by decide +kernel
theorem dX1_advance_157 : decode cX1_advance 157 = .ok (.aload_n 0, 1) := by decide +kernel
theorem dX1_advance_158 : decode cX1_advance 158 = .ok (.iconst 3, 1) := by decide +kernel
theorem dX1_advance_159 : decode cX1_advance 159 = .ok (.putfield 19, 3) := by decide +kernel
theorem dX1_advance_162 : decode cX1_advance 162 = .ok (.aload_n 0, 1) := by decide +kernel
theorem dX1_advance_163 : decode cX1_advance 163 = .ok (.aload_n 0, 1) := by decide +kernel
theorem dX1_advance_164 : decode cX1_advance 164 = .ok (.aload_n 3, 1) := by decide +kernel
theorem dX1_advance_165 : decode cX1_advance 165 = .ok (.iload 5, 2) := by decide +kernel
theorem dX1_advance_167 : decode cX1_advance 167 = .ok (.invokevirtual 98, 3) := by decide +kernel
theorem dX1_advance_170 : decode cX1_advance 170 = .ok (.putfield 43, 3) := by decide +kernel
theorem dX1_advance_173 : decode cX1_advance 173 = .ok (.goto 34, 3) := by decide +kernel
theorem dX1_advance_176 : decode cX1_advance 176 = .ok (.aload_n 0, 1) := by decide +kernel
theorem dX1_advance_177 : decode cX1_advance 177 = .ok (.dup, 1) := by decide +kernel
theorem dX1_advance_178 : decode cX1_advance 178 = .ok (.getfield 34, 3) := by decide +kernel
theorem dX1_advance_181 : decode cX1_advance 181 = .ok (.iconst 1, 1) := by decide +kernel
theorem dX1_advance_182 : decode cX1_advance 182 = .ok (.iadd, 1) := by decide +kernel
theorem dX1_advance_183 : decode cX1_advance 183 = .ok (.putfield 34, 3) := by decide +kernel
theorem dX1_advance_186 : decode cX1_advance 186 = .ok (.aload_n 0, 1) := by decide +kernel
theorem dX1_advance_187 : decode cX1_advance 187 = .ok (.aload_n 0, 1) := by decide +kernel
theorem dX1_advance_188 : decode cX1_advance 188 = .ok (.getfield 34, 3) := by decide +kernel
theorem dX1_advance_191 : decode cX1_advance 191 = .ok (.aload 4, 2) := by decide +kernel
theorem dX1_advance_193 : decode cX1_advance 193 = .ok (.getfield 102, 3) := by decide +kernel
theorem dX1_advance_196 : decode cX1_advance 196 = .ok (.if_icmp .ge 7, 3) := by decide +kernel
theorem dX1_advance_199 : decode cX1_advance 199 = .ok (.iconst 1, 1) := by decide +kernel
theorem dX1_advance_200 : decode cX1_advance 200 = .ok (.goto 4, 3) := by decide +kernel
theorem dX1_advance_203 : decode cX1_advance 203 = .ok (.iconst 2, 1) := by decide +kernel
theorem dX1_advance_204 : decode cX1_advance 204 = .ok (.putfield 19, 3) := by decide +kernel
theorem dX1_advance_207 : decode cX1_advance 207 = .ok (.aload_n 0, 1) := by decide +kernel
theorem dX1_advance_208 : decode cX1_advance 208 = .ok (.getfield 19, 3) := by decide +kernel
theorem dX1_advance_211 : decode cX1_advance 211 = .ok (.ireturn, 1) := by decide +kernel
set_option maxRecDepth 20000 in
theorem ggX1_arrives_X1_advance : GoodIn wsX1_arrives wsX1_advance := goodIn_r _ [6, 7, 8, 9, 1, 10, 11, 12, 13, 14, 15, 16, 17, 18, 19, 20, 21, 22, 23, 24, 25, 26, 27, 28, 29, 30, 31, 32, 33, 34, 35, 36, 37, 38, 39, 40, 41, 42, 43, 44, 45, 46, 47, 48, 49, 50, 51, 52, 53, 54, 55, 56, 57, 58, 59, 60, 61, 62, 63, 64, 65, 66, 67, 68, 69, 70, 71, 72, 73, 74, 75, 76, 77, 78, 79, 80, 81, 82, 83, 84, 85, 86, 87, 88, 89, 5, 90, 91, 92, 93, 94, 95, 96, 97, 98, 99, 100, 101, 102, 103, 104, 105, 106, 107, 108, 109, 110, 111, 112, 113, 114, 115, 116, 117, 118, 119, 120, 121, 122, 123, 124, 125, 126, 127, 128, 129, 130, 131, 132, 133, 134, 135, 136, 137, 138, 139, 140, 141, 142, 143, 144, 145, 146, 147, 148, 149, 150, 151] rfl (by decide +kernel)
set_option maxRecDepth 20000 in
theorem gX1_arrives_X1_advance : GoodIn wsX1_arrives (wsV RX1 105 RX1 yX1_advance wsX1_advance) := goodIn_app (goodIn_of _ (by decide +kernel)) ggX1_arrives_X1_advance
theorem dX1_arrives_0 : decode cX1_arrives 0 = .ok (.iconst 0, 1) := by decide +kernel
theorem dX1_arrives_1 : decode cX1_arrives 1 = .ok (.istore_n 2, 1) := by decide +kernel
theorem dX1_arrives_2 : decode cX1_arrives 2 = .ok (.iload_n 2, 1) := by decide +kernel
theorem dX1_arrives_3 : decode cX1_arrives 3 = .ok (.bipush 6, 2) := by decide +kernel
theorem dX1_arrives_5 : decode cX1_arrives 5 = .ok (.if_icmp .ge 23, 3) := by decide +kernel
theorem dX1_arrives_8 : decode cX1_arrives 8 = .ok (.aload_n 0, 1) := by decide +kernel
theorem dX1_arrives_9 : decode cX1_arrives 9 = .ok (.getfield 19, 3) := by decide +kernel
theorem dX1_arrives_12 : decode cX1_arrives 12 = .ok (.iconst 1, 1) := by decide +kernel
theorem dX1_arrives_13 : decode cX1_arrives 13 = .ok (.if_icmp .ne 15, 3) := by decide +kernel
theorem dX1_arrives_16 : decode cX1_arrives 16 = .ok (.aload_n 0, 1) := by decide +kernel
theorem dX1_arrives_17 : decode cX1_arrives 17 = .ok (.aload_n 1, 1) := by decide +kernel
theorem dX1_arrives_18 : decode cX1_arrives 18 = .ok (.invokevirtual 105, 3) := by decide +kernel
theorem dX1_arrives_21 : decode cX1_arrives 21 = .ok (.pop, 1) := by decide +kernel
theorem dX1_arrives_22 : decode cX1_arrives 22 = .ok (.iinc 2 1, 3) := by decide +kernel
theorem dX1_arrives_25 : decode cX1_arrives 25 = .ok (.goto (-23), 3) := by decide +kernel
theorem dX1_arrives_28 : decode cX1_arrives 28 = .ok (.aload_n 0, 1) := by decide +kernel
theorem dX1_arrives_29 : decode cX1_arrives 29 = .ok (.getfield 19, 3) := by decide +kernel
theorem dX1_arrives_32 : decode cX1_arrives 32 = .ok (.iconst 2, 1) := by decide +kernel
theorem dX1_arrives_33 : decode cX1_arrives 33 = .ok (.if_icmp .ne 7, 3) := by decide +kernel
theorem dX1_arrives_36 : decode cX1_arrives 36 = .ok (.iconst 1, 1) := by decide +kernel
theorem dX1_arrives_37 : decode cX1_arrives 37 = .ok (.goto 4, 3) := by decide +kernel
theorem dX1_arrives_40 : decode cX1_arrives 40 = .ok (.iconst 0, 1) := by decide +kernel
theorem dX1_arrives_41 : decode cX1_arrives 41 = .ok (.ireturn, 1) := by decide +kernel
set_option maxRecDepth 20000 in
theorem ggX1_falls_X1_draw : GoodIn wsX1_falls wsX1_draw := goodIn_r _ [5, 6, 7, 8, 9, 10, 11, 12, 13, 14, 15, 16, 17, 18] rfl (by decide +kernel)
set_option maxRecDepth 20000 in
theorem gX1_falls_X1_draw : GoodIn wsX1_falls (wsV RX1 109 RX1 yX1_draw wsX1_draw) := goodIn_app (goodIn_of _ (by decide +kernel)) ggX1_falls_X1_draw
theorem dX1_falls_0 : decode cX1_falls 0 = .ok (.iload_n 1, 1) := by decide +kernel
theorem dX1_falls_1 : decode cX1_falls 1 = .ok (.ifCond .le 18, 3) := by decide +kernel
theorem dX1_falls_4 : decode cX1_falls 4 = .ok (.aload_n 0, 1) := by decide +kernel
theorem dX1_falls_5 : decode cX1_falls 5 = .ok (.invokevirtual 109, 3) := by decide +kernel
theorem dX1_falls_8 : decode cX1_falls 8 = .ok (.bipush 100, 2) := by decide +kernel
theorem dX1_falls_10 : decode cX1_falls 10 = .ok (.irem, 1) := by decide +kernel
theorem dX1_falls_11 : decode cX1_falls 11 = .ok (.iload_n 1, 1) := by decide +kernel
theorem dX1_falls_12 : decode cX1_falls 12 = .ok (.if_icmp .ge 7, 3) := by decide +kernel
theorem dX1_falls_15 : decode cX1_falls 15 = .ok (.iconst 1, 1) := by decide +kernel
theorem dX1_falls_16 : decode cX1_falls 16 = .ok (.goto 4, 3) := by decide +kernel
theorem dX1_falls_19 : decode cX1_falls 19 = .ok (.iconst 0, 1) := by decide +kernel
theorem dX1_falls_20 : decode cX1_falls 20 = .ok (.ireturn, 1) := by decide +kernel
set_option maxRecDepth 20000 in
theorem ggX1_laid_X1_draw : GoodIn wsX1_laid wsX1_draw := goodIn_r _ [5, 6, 7, 22, 23, 24, 25, 26, 27, 28, 29, 30, 31, 32] rfl (by decide +kernel)
set_option maxRecDepth 20000 in
theorem gX1_laid_X1_draw : GoodIn wsX1_laid (wsV RX1 109 RX1 yX1_draw wsX1_draw) := goodIn_app (goodIn_of _ (by decide +kernel)) ggX1_laid_X1_draw
set_option maxRecDepth 20000 in
theorem ggX1_laid_X10_tenths : GoodIn wsX1_laid wsX10_tenths := goodIn_r _ [12, 13, 14, 15, 16, 17, 18, 19, 20, 21, 33, 34, 35] rfl (by decide +kernel)
set_option maxRecDepth 20000 in
theorem gX1_laid_X10_tenths : GoodIn wsX1_laid (wsV RX1 113 RX10 yX10_tenths wsX10_tenths) := goodIn_app (goodIn_of _ (by decide +kernel)) ggX1_laid_X10_tenths
theorem dX1_laid_0 : decode cX1_laid 0 = .ok (.aload_n 0, 1) := by decide +kernel
theorem dX1_laid_1 : decode cX1_laid 1 = .ok (.invokevirtual 109, 3) := by decide +kernel
theorem dX1_laid_4 : decode cX1_laid 4 = .ok (.bipush 10, 2) := by decide +kernel
theorem dX1_laid_6 : decode cX1_laid 6 = .ok (.irem, 1) := by decide +kernel
theorem dX1_laid_7 : decode cX1_laid 7 = .ok (.istore_n 3, 1) := by decide +kernel
theorem dX1_laid_8 : decode cX1_laid 8 = .ok (.aload_n 1, 1) := by decide +kernel
theorem dX1_laid_9 : decode cX1_laid 9 = .ok (.iload_n 2, 1) := by decide +kernel
theorem dX1_laid_10 : decode cX1_laid 10 = .ok (.iconst 0, 1) := by decide +kernel
theorem dX1_laid_11 : decode cX1_laid 11 = .ok (.invokevirtual 113, 3) := by decide +kernel
theorem dX1_laid_14 : decode cX1_laid 14 = .ok (.istore 4, 2) := by decide +kernel
theorem dX1_laid_16 : decode cX1_laid 16 = .ok (.iload_n 3, 1) := by decide +kernel
theorem dX1_laid_17 : decode cX1_laid 17 = .ok (.iload 4, 2) := by decide +kernel
theorem dX1_laid_19 : decode cX1_laid 19 = .ok (.if_icmp .ge 5, 3) := by decide +kernel
theorem dX1_laid_22 : decode cX1_laid 22 = .ok (.iconst 0, 1) := by decide +kernel
theorem dX1_laid_23 : decode cX1_laid 23 = .ok (.ireturn, 1) := by decide +kernel
theorem dX1_laid_24 : decode cX1_laid 24 = .ok (.iload_n 3, 1) := by decide +kernel
theorem dX1_laid_25 : decode cX1_laid 25 = .ok (.iload 4, 2) := by decide +kernel
theorem dX1_laid_27 : decode cX1_laid 27 = .ok (.aload_n 1, 1) := by decide +kernel
theorem dX1_laid_28 : decode cX1_laid 28 = .ok (.iload_n 2, 1) := by decide +kernel
theorem dX1_laid_29 : decode cX1_laid 29 = .ok (.iconst 1, 1) := by decide +kernel
theorem dX1_laid_30 : decode cX1_laid 30 = .ok (.invokevirtual 113, 3) := by decide +kernel
theorem dX1_laid_33 : decode cX1_laid 33 = .ok (.iadd, 1) := by decide +kernel
theorem dX1_laid_34 : decode cX1_laid 34 = .ok (.if_icmp .ge 7, 3) := by decide +kernel
theorem dX1_laid_37 : decode cX1_laid 37 = .ok (.iconst 1, 1) := by decide +kernel
theorem dX1_laid_38 : decode cX1_laid 38 = .ok (.goto 4, 3) := by decide +kernel
theorem dX1_laid_41 : decode cX1_laid 41 = .ok (.iconst 2, 1) := by decide +kernel
theorem dX1_laid_42 : decode cX1_laid 42 = .ok (.ireturn, 1) := by decide +kernel
theorem dX1_draw_0 : decode cX1_draw 0 = .ok (.aload_n 0, 1) := by decide +kernel
theorem dX1_draw_1 : decode cX1_draw 1 = .ok (.bipush 75, 2) := by decide +kernel
theorem dX1_draw_3 : decode cX1_draw 3 = .ok (.aload_n 0, 1) := by decide +kernel
theorem dX1_draw_4 : decode cX1_draw 4 = .ok (.getfield 15, 3) := by decide +kernel
theorem dX1_draw_7 : decode cX1_draw 7 = .ok (.imul, 1) := by decide +kernel
theorem dX1_draw_8 : decode cX1_draw 8 = .ok (.bipush 74, 2) := by decide +kernel
theorem dX1_draw_10 : decode cX1_draw 10 = .ok (.iadd, 1) := by decide +kernel
theorem dX1_draw_11 : decode cX1_draw 11 = .ok (.ldc 116, 2) := by decide +kernel
theorem dX1_draw_13 : decode cX1_draw 13 = .ok (.irem, 1) := by decide +kernel
theorem dX1_draw_14 : decode cX1_draw 14 = .ok (.putfield 15, 3) := by decide +kernel
theorem dX1_draw_17 : decode cX1_draw 17 = .ok (.aload_n 0, 1) := by decide +kernel
theorem dX1_draw_18 : decode cX1_draw 18 = .ok (.getfield 15, 3) := by decide +kernel
theorem dX1_draw_21 : decode cX1_draw 21 = .ok (.ireturn, 1) := by decide +kernel
theorem dX1_report_0 : decode cX1_report 0 = .ok (.iload_n 1, 1) := by decide +kernel
theorem dX1_report_1 : decode cX1_report 1 = .ok (.tableswitch 87 0 7 #[47, 52, 57, 62, 67, 72, 77, 82], 47) := by decide +kernel
theorem dX1_report_48 : decode cX1_report 48 = .ok (.aload_n 0, 1) := by decide +kernel
theorem dX1_report_49 : decode cX1_report 49 = .ok (.getfield 19, 3) := by decide +kernel
theorem dX1_report_52 : decode cX1_report 52 = .ok (.ireturn, 1) := by decide +kernel
theorem dX1_report_53 : decode cX1_report 53 = .ok (.aload_n 0, 1) := by decide +kernel
theorem dX1_report_54 : decode cX1_report 54 = .ok (.getfield 34, 3) := by decide +kernel
theorem dX1_report_57 : decode cX1_report 57 = .ok (.ireturn, 1) := by decide +kernel
theorem dX1_report_58 : decode cX1_report 58 = .ok (.aload_n 0, 1) := by decide +kernel
theorem dX1_report_59 : decode cX1_report 59 = .ok (.getfield 37, 3) := by decide +kernel
theorem dX1_report_62 : decode cX1_report 62 = .ok (.ireturn, 1) := by decide +kernel
theorem dX1_report_63 : decode cX1_report 63 = .ok (.aload_n 0, 1) := by decide +kernel
theorem dX1_report_64 : decode cX1_report 64 = .ok (.getfield 40, 3) := by decide +kernel
theorem dX1_report_67 : decode cX1_report 67 = .ok (.ireturn, 1) := by decide +kernel
theorem dX1_report_68 : decode cX1_report 68 = .ok (.aload_n 0, 1) := by decide +kernel
theorem dX1_report_69 : decode cX1_report 69 = .ok (.getfield 43, 3) := by decide +kernel
theorem dX1_report_72 : decode cX1_report 72 = .ok (.ireturn, 1) := by decide +kernel
theorem dX1_report_73 : decode cX1_report 73 = .ok (.aload_n 0, 1) := by decide +kernel
theorem dX1_report_74 : decode cX1_report 74 = .ok (.getfield 22, 3) := by decide +kernel
theorem dX1_report_77 : decode cX1_report 77 = .ok (.ireturn, 1) := by decide +kernel
theorem dX1_report_78 : decode cX1_report 78 = .ok (.aload_n 0, 1) := by decide +kernel
theorem dX1_report_79 : decode cX1_report 79 = .ok (.getfield 25, 3) := by decide +kernel
theorem dX1_report_82 : decode cX1_report 82 = .ok (.ireturn, 1) := by decide +kernel
theorem dX1_report_83 : decode cX1_report 83 = .ok (.aload_n 0, 1) := by decide +kernel
theorem dX1_report_84 : decode cX1_report 84 = .ok (.getfield 28, 3) := by decide +kernel
theorem dX1_report_87 : decode cX1_report 87 = .ok (.ireturn, 1) := by decide +kernel
theorem dX1_report_88 : decode cX1_report 88 = .ok (.aload_n 0, 1) := by decide +kernel
theorem dX1_report_89 : decode cX1_report 89 = .ok (.getfield 31, 3) := by decide +kernel
theorem dX1_report_92 : decode cX1_report 92 = .ok (.ireturn, 1) := by decide +kernel
theorem dX1_toImage_0 : decode cX1_toImage 0 = .ok (.aload_n 0, 1) := by decide +kernel
theorem dX1_toImage_1 : decode cX1_toImage 1 = .ok (.getfield 15, 3) := by decide +kernel
theorem dX1_toImage_4 : decode cX1_toImage 4 = .ok (.i2l, 1) := by decide +kernel
theorem dX1_toImage_5 : decode cX1_toImage 5 = .ok (.lstore_n 1, 1) := by decide +kernel
theorem dX1_toImage_6 : decode cX1_toImage 6 = .ok (.lload_n 1, 1) := by decide +kernel
theorem dX1_toImage_7 : decode cX1_toImage 7 = .ok (.ldc2_w 117, 3) := by decide +kernel
theorem dX1_toImage_10 : decode cX1_toImage 10 = .ok (.lmul, 1) := by decide +kernel
theorem dX1_toImage_11 : decode cX1_toImage 11 = .ok (.aload_n 0, 1) := by decide +kernel
theorem dX1_toImage_12 : decode cX1_toImage 12 = .ok (.getfield 19, 3) := by decide +kernel
theorem dX1_toImage_15 : decode cX1_toImage 15 = .ok (.i2l, 1) := by decide +kernel
theorem dX1_toImage_16 : decode cX1_toImage 16 = .ok (.ladd, 1) := by decide +kernel
theorem dX1_toImage_17 : decode cX1_toImage 17 = .ok (.lstore_n 1, 1) := by decide +kernel
theorem dX1_toImage_18 : decode cX1_toImage 18 = .ok (.lload_n 1, 1) := by decide +kernel
theorem dX1_toImage_19 : decode cX1_toImage 19 = .ok (.ldc2_w 119, 3) := by decide +kernel
theorem dX1_toImage_22 : decode cX1_toImage 22 = .ok (.lmul, 1) := by decide +kernel
theorem dX1_toImage_23 : decode cX1_toImage 23 = .ok (.aload_n 0, 1) := by decide +kernel
theorem dX1_toImage_24 : decode cX1_toImage 24 = .ok (.getfield 34, 3) := by decide +kernel
theorem dX1_toImage_27 : decode cX1_toImage 27 = .ok (.i2l, 1) := by decide +kernel
theorem dX1_toImage_28 : decode cX1_toImage 28 = .ok (.ladd, 1) := by decide +kernel
theorem dX1_toImage_29 : decode cX1_toImage 29 = .ok (.lstore_n 1, 1) := by decide +kernel
theorem dX1_toImage_30 : decode cX1_toImage 30 = .ok (.lload_n 1, 1) := by decide +kernel
theorem dX1_toImage_31 : decode cX1_toImage 31 = .ok (.ldc2_w 121, 3) := by decide +kernel
theorem dX1_toImage_34 : decode cX1_toImage 34 = .ok (.lmul, 1) := by decide +kernel
theorem dX1_toImage_35 : decode cX1_toImage 35 = .ok (.aload_n 0, 1) := by decide +kernel
theorem dX1_toImage_36 : decode cX1_toImage 36 = .ok (.getfield 37, 3) := by decide +kernel
theorem dX1_toImage_39 : decode cX1_toImage 39 = .ok (.i2l, 1) := by decide +kernel
theorem dX1_toImage_40 : decode cX1_toImage 40 = .ok (.ladd, 1) := by decide +kernel
theorem dX1_toImage_41 : decode cX1_toImage 41 = .ok (.lstore_n 1, 1) := by decide +kernel
theorem dX1_toImage_42 : decode cX1_toImage 42 = .ok (.lload_n 1, 1) := by decide +kernel
theorem dX1_toImage_43 : decode cX1_toImage 43 = .ok (.ldc2_w 123, 3) := by decide +kernel
theorem dX1_toImage_46 : decode cX1_toImage 46 = .ok (.lmul, 1) := by decide +kernel
theorem dX1_toImage_47 : decode cX1_toImage 47 = .ok (.aload_n 0, 1) := by decide +kernel
theorem dX1_toImage_48 : decode cX1_toImage 48 = .ok (.getfield 19, 3) := by decide +kernel
theorem dX1_toImage_51 : decode cX1_toImage 51 = .ok (.iconst 3, 1) := by decide +kernel
theorem dX1_toImage_52 : decode cX1_toImage 52 = .ok (.if_icmp .ne 10, 3) := by decide +kernel
theorem dX1_toImage_55 : decode cX1_toImage 55 = .ok (.aload_n 0, 1) := by decide +kernel
theorem dX1_toImage_56 : decode cX1_toImage 56 = .ok (.getfield 43, 3) := by decide +kernel
theorem dX1_toImage_59 : decode cX1_toImage 59 = .ok (.goto 4, 3) := by decide +kernel
theorem dX1_toImage_62 : decode cX1_toImage 62 = .ok (.iconst 3, 1) := by decide +kernel
theorem dX1_toImage_63 : decode cX1_toImage 63 = .ok (.i2l, 1) := by decide +kernel
theorem dX1_toImage_64 : decode cX1_toImage 64 = .ok (.ladd, 1) := by decide +kernel
theorem dX1_toImage_65 : decode cX1_toImage 65 = .ok (.lstore_n 1, 1) := by decide +kernel
theorem dX1_toImage_66 : decode cX1_toImage 66 = .ok (.lload_n 1, 1) := by decide +kernel
theorem dX1_toImage_67 : decode cX1_toImage 67 = .ok (.ldc2_w 125, 3) := by decide +kernel
theorem dX1_toImage_70 : decode cX1_toImage 70 = .ok (.lmul, 1) := by decide +kernel
theorem dX1_toImage_71 : decode cX1_toImage 71 = .ok (.aload_n 0, 1) := by decide +kernel
theorem dX1_toImage_72 : decode cX1_toImage 72 = .ok (.getfield 22, 3) := by decide +kernel
theorem dX1_toImage_75 : decode cX1_toImage 75 = .ok (.i2l, 1) := by decide +kernel
theorem dX1_toImage_76 : decode cX1_toImage 76 = .ok (.ladd, 1) := by decide +kernel
theorem dX1_toImage_77 : decode cX1_toImage 77 = .ok (.lstore_n 1, 1) := by decide +kernel
theorem dX1_toImage_78 : decode cX1_toImage 78 = .ok (.lload_n 1, 1) := by decide +kernel
theorem dX1_toImage_79 : decode cX1_toImage 79 = .ok (.ldc2_w 123, 3) := by decide +kernel
theorem dX1_toImage_82 : decode cX1_toImage 82 = .ok (.lmul, 1) := by decide +kernel
theorem dX1_toImage_83 : decode cX1_toImage 83 = .ok (.aload_n 0, 1) := by decide +kernel
theorem dX1_toImage_84 : decode cX1_toImage 84 = .ok (.getfield 25, 3) := by decide +kernel
theorem dX1_toImage_87 : decode cX1_toImage 87 = .ok (.i2l, 1) := by decide +kernel
theorem dX1_toImage_88 : decode cX1_toImage 88 = .ok (.ladd, 1) := by decide +kernel
theorem dX1_toImage_89 : decode cX1_toImage 89 = .ok (.lstore_n 1, 1) := by decide +kernel
theorem dX1_toImage_90 : decode cX1_toImage 90 = .ok (.lload_n 1, 1) := by decide +kernel
theorem dX1_toImage_91 : decode cX1_toImage 91 = .ok (.ldc2_w 127, 3) := by decide +kernel
theorem dX1_toImage_94 : decode cX1_toImage 94 = .ok (.lmul, 1) := by decide +kernel
theorem dX1_toImage_95 : decode cX1_toImage 95 = .ok (.aload_n 0, 1) := by decide +kernel
theorem dX1_toImage_96 : decode cX1_toImage 96 = .ok (.getfield 28, 3) := by decide +kernel
theorem dX1_toImage_99 : decode cX1_toImage 99 = .ok (.i2l, 1) := by decide +kernel
theorem dX1_toImage_100 : decode cX1_toImage 100 = .ok (.ladd, 1) := by decide +kernel
theorem dX1_toImage_101 : decode cX1_toImage 101 = .ok (.lstore_n 1, 1) := by decide +kernel
theorem dX1_toImage_102 : decode cX1_toImage 102 = .ok (.lload_n 1, 1) := by decide +kernel
theorem dX1_toImage_103 : decode cX1_toImage 103 = .ok (.ldc2_w 129, 3) := by decide +kernel
theorem dX1_toImage_106 : decode cX1_toImage 106 = .ok (.lmul, 1) := by decide +kernel
theorem dX1_toImage_107 : decode cX1_toImage 107 = .ok (.aload_n 0, 1) := by decide +kernel
theorem dX1_toImage_108 : decode cX1_toImage 108 = .ok (.getfield 31, 3) := by decide +kernel
theorem dX1_toImage_111 : decode cX1_toImage 111 = .ok (.i2l, 1) := by decide +kernel
theorem dX1_toImage_112 : decode cX1_toImage 112 = .ok (.ladd, 1) := by decide +kernel
theorem dX1_toImage_113 : decode cX1_toImage 113 = .ok (.lreturn, 1) := by decide +kernel
set_option maxRecDepth 20000 in
theorem ggX1_fromImage_X1_isOf : GoodIn wsX1_fromImage wsX1_isOf := goodIn_r _ [24, 4, 8, 6, 15, 13, 25, 9, 2, 26, 27, 28, 29, 30, 31, 32, 33, 34, 35, 36, 37, 38, 39, 40, 41, 42, 43, 44, 45, 68, 69, 70, 71, 72, 73, 74, 75, 76, 77, 78, 79, 80, 81, 82, 83, 84, 85, 86, 87, 88, 89, 90, 91, 92, 93, 94, 95, 96, 97, 98] rfl (by decide +kernel)
set_option maxRecDepth 20000 in
theorem gX1_fromImage_X1_isOf : GoodIn wsX1_fromImage (wsV RX1 133 RX1 yX1_isOf wsX1_isOf) := goodIn_app (goodIn_of _ (by decide +kernel)) ggX1_fromImage_X1_isOf
set_option maxRecDepth 20000 in
theorem ggX1_fromImage_X1_woodSoFar : GoodIn wsX1_fromImage wsX1_woodSoFar := goodIn_r _ [49, 8, 6, 50, 15, 13, 51, 52, 53, 29, 54, 31, 55, 56, 57, 58, 59, 60, 61, 62, 63, 64, 65, 66, 67, 41, 42, 43, 68, 69, 70, 71, 72, 73, 74, 75, 76, 77, 78, 99, 100, 101, 102, 103, 104, 105, 106, 82, 83, 84, 85, 86, 87, 88, 89, 90, 91, 92, 93, 94, 95, 96, 97, 98, 107, 108, 109] rfl (by decide +kernel)
set_option maxRecDepth 20000 in
theorem gX1_fromImage_X1_woodSoFar : GoodIn wsX1_fromImage (wsV RX1 137 RX1 yX1_woodSoFar wsX1_woodSoFar) := goodIn_app (goodIn_of _ (by decide +kernel)) ggX1_fromImage_X1_woodSoFar
theorem dX1_fromImage_0 : decode cX1_fromImage 0 = .ok (.lload_n 1, 1) := by decide +kernel
theorem dX1_fromImage_1 : decode cX1_fromImage 1 = .ok (.lstore 4, 2) := by decide +kernel
theorem dX1_fromImage_3 : decode cX1_fromImage 3 = .ok (.aload_n 0, 1) := by decide +kernel
theorem dX1_fromImage_4 : decode cX1_fromImage 4 = .ok (.lload 4, 2) := by decide +kernel
theorem dX1_fromImage_6 : decode cX1_fromImage 6 = .ok (.ldc2_w 129, 3) := by decide +kernel
theorem dX1_fromImage_9 : decode cX1_fromImage 9 = .ok (.lrem, 1) := by decide +kernel
theorem dX1_fromImage_10 : decode cX1_fromImage 10 = .ok (.l2i, 1) := by decide +kernel
theorem dX1_fromImage_11 : decode cX1_fromImage 11 = .ok (.putfield 31, 3) := by decide +kernel
theorem dX1_fromImage_14 : decode cX1_fromImage 14 = .ok (.lload 4, 2) := by decide +kernel
theorem dX1_fromImage_16 : decode cX1_fromImage 16 = .ok (.ldc2_w 129, 3) := by decide +kernel
theorem dX1_fromImage_19 : decode cX1_fromImage 19 = .ok (.ldiv, 1) := by decide +kernel
theorem dX1_fromImage_20 : decode cX1_fromImage 20 = .ok (.lstore 4, 2) := by decide +kernel
theorem dX1_fromImage_22 : decode cX1_fromImage 22 = .ok (.aload_n 0, 1) := by decide +kernel
theorem dX1_fromImage_23 : decode cX1_fromImage 23 = .ok (.lload 4, 2) := by decide +kernel
theorem dX1_fromImage_25 : decode cX1_fromImage 25 = .ok (.ldc2_w 127, 3) := by decide +kernel
theorem dX1_fromImage_28 : decode cX1_fromImage 28 = .ok (.lrem, 1) := by decide +kernel
theorem dX1_fromImage_29 : decode cX1_fromImage 29 = .ok (.l2i, 1) := by decide +kernel
theorem dX1_fromImage_30 : decode cX1_fromImage 30 = .ok (.putfield 28, 3) := by decide +kernel
theorem dX1_fromImage_33 : decode cX1_fromImage 33 = .ok (.lload 4, 2) := by decide +kernel
theorem dX1_fromImage_35 : decode cX1_fromImage 35 = .ok (.ldc2_w 127, 3) := by decide +kernel
theorem dX1_fromImage_38 : decode cX1_fromImage 38 = .ok (.ldiv, 1) := by decide +kernel
theorem dX1_fromImage_39 : decode cX1_fromImage 39 = .ok (.lstore 4, 2) := by decide +kernel
theorem dX1_fromImage_41 : decode cX1_fromImage 41 = .ok (.aload_n 0, 1) := by decide +kernel
theorem dX1_fromImage_42 : decode cX1_fromImage 42 = .ok (.lload 4, 2) := by decide +kernel
theorem dX1_fromImage_44 : decode cX1_fromImage 44 = .ok (.ldc2_w 123, 3) := by decide +kernel
theorem dX1_fromImage_47 : decode cX1_fromImage 47 = .ok (.lrem, 1) := by decide +kernel
theorem dX1_fromImage_48 : decode cX1_fromImage 48 = .ok (.l2i, 1) := by decide +kernel
theorem dX1_fromImage_49 : decode cX1_fromImage 49 = .ok (.putfield 25, 3) := by decide +kernel
theorem dX1_fromImage_52 : decode cX1_fromImage 52 = .ok (.lload 4, 2) := by decide +kernel
theorem dX1_fromImage_54 : decode cX1_fromImage 54 = .ok (.ldc2_w 123, 3) := by decide +kernel
theorem dX1_fromImage_57 : decode cX1_fromImage 57 = .ok (.ldiv, 1) := by decide +kernel
theorem dX1_fromImage_58 : decode cX1_fromImage 58 = .ok (.lstore 4, 2) := by decide +kernel
theorem dX1_fromImage_60 : decode cX1_fromImage 60 = .ok (.aload_n 0, 1) := by decide +kernel
theorem dX1_fromImage_61 : decode cX1_fromImage 61 = .ok (.lload 4, 2) := by decide +kernel
theorem dX1_fromImage_63 : decode cX1_fromImage 63 = .ok (.ldc2_w 125, 3) := by decide +kernel
theorem dX1_fromImage_66 : decode cX1_fromImage 66 = .ok (.lrem, 1) := by decide +kernel
theorem dX1_fromImage_67 : decode cX1_fromImage 67 = .ok (.l2i, 1) := by decide +kernel
theorem dX1_fromImage_68 : decode cX1_fromImage 68 = .ok (.putfield 22, 3) := by decide +kernel
theorem dX1_fromImage_71 : decode cX1_fromImage 71 = .ok (.lload 4, 2) := by decide +kernel
theorem dX1_fromImage_73 : decode cX1_fromImage 73 = .ok (.ldc2_w 125, 3) := by decide +kernel
theorem dX1_fromImage_76 : decode cX1_fromImage 76 = .ok (.ldiv, 1) := by decide +kernel
theorem dX1_fromImage_77 : decode cX1_fromImage 77 = .ok (.lstore 4, 2) := by decide +kernel
theorem dX1_fromImage_79 : decode cX1_fromImage 79 = .ok (.aload_n 0, 1) := by decide +kernel
theorem dX1_fromImage_80 : decode cX1_fromImage 80 = .ok (.lload 4, 2) := by decide +kernel
theorem dX1_fromImage_82 : decode cX1_fromImage 82 = .ok (.ldc2_w 123, 3) := by decide +kernel
theorem dX1_fromImage_85 : decode cX1_fromImage 85 = .ok (.lrem, 1) := by decide +kernel
theorem dX1_fromImage_86 : decode cX1_fromImage 86 = .ok (.l2i, 1) := by decide +kernel
theorem dX1_fromImage_87 : decode cX1_fromImage 87 = .ok (.putfield 43, 3) := by decide +kernel
theorem dX1_fromImage_90 : decode cX1_fromImage 90 = .ok (.lload 4, 2) := by decide +kernel
theorem dX1_fromImage_92 : decode cX1_fromImage 92 = .ok (.ldc2_w 123, 3) := by decide +kernel
theorem dX1_fromImage_95 : decode cX1_fromImage 95 = .ok (.ldiv, 1) := by decide +kernel
theorem dX1_fromImage_96 : decode cX1_fromImage 96 = .ok (.lstore 4, 2) := by decide +kernel
theorem dX1_fromImage_98 : decode cX1_fromImage 98 = .ok (.aload_n 0, 1) := by decide +kernel
theorem dX1_fromImage_99 : decode cX1_fromImage 99 = .ok (.lload 4, 2) := by decide +kernel
theorem dX1_fromImage_101 : decode cX1_fromImage 101 = .ok (.ldc2_w 121, 3) := by decide +kernel
theorem dX1_fromImage_104 : decode cX1_fromImage 104 = .ok (.lrem, 1) := by decide +kernel
theorem dX1_fromImage_105 : decode cX1_fromImage 105 = .ok (.l2i, 1) := by decide +kernel
theorem dX1_fromImage_106 : decode cX1_fromImage 106 = .ok (.putfield 37, 3) := by decide +kernel
theorem dX1_fromImage_109 : decode cX1_fromImage 109 = .ok (.lload 4, 2) := by decide +kernel
theorem dX1_fromImage_111 : decode cX1_fromImage 111 = .ok (.ldc2_w 121, 3) := by decide +kernel
theorem dX1_fromImage_114 : decode cX1_fromImage 114 = .ok (.ldiv, 1) := by decide +kernel
theorem dX1_fromImage_115 : decode cX1_fromImage 115 = .ok (.lstore 4, 2) := by decide +kernel
theorem dX1_fromImage_117 : decode cX1_fromImage 117 = .ok (.aload_n 0, 1) := by decide +kernel
theorem dX1_fromImage_118 : decode cX1_fromImage 118 = .ok (.lload 4, 2) := by decide +kernel
theorem dX1_fromImage_120 : decode cX1_fromImage 120 = .ok (.ldc2_w 119, 3) := by decide +kernel
theorem dX1_fromImage_123 : decode cX1_fromImage 123 = .ok (.lrem, 1) := by decide +kernel
theorem dX1_fromImage_124 : decode cX1_fromImage 124 = .ok (.l2i, 1) := by decide +kernel
theorem dX1_fromImage_125 : decode cX1_fromImage 125 = .ok (.putfield 34, 3) := by decide +kernel
theorem dX1_fromImage_128 : decode cX1_fromImage 128 = .ok (.lload 4, 2) := by decide +kernel
theorem dX1_fromImage_130 : decode cX1_fromImage 130 = .ok (.ldc2_w 119, 3) := by decide +kernel
theorem dX1_fromImage_133 : decode cX1_fromImage 133 = .ok (.ldiv, 1) := by decide +kernel
theorem dX1_fromImage_134 : decode cX1_fromImage 134 = .ok (.lstore 4, 2) := by decide +kernel
theorem dX1_fromImage_136 : decode cX1_fromImage 136 = .ok (.aload_n 0, 1) := by decide +kernel
theorem dX1_fromImage_137 : decode cX1_fromImage 137 = .ok (.lload 4, 2) := by decide +kernel
theorem dX1_fromImage_139 : decode cX1_fromImage 139 = .ok (.ldc2_w 117, 3) := by decide +kernel
theorem dX1_fromImage_142 : decode cX1_fromImage 142 = .ok (.lrem, 1) := by decide +kernel
theorem dX1_fromImage_143 : decode cX1_fromImage 143 = .ok (.l2i, 1) := by decide +kernel
theorem dX1_fromImage_144 : decode cX1_fromImage 144 = .ok (.putfield 19, 3) := by decide +kernel
theorem dX1_fromImage_147 : decode cX1_fromImage 147 = .ok (.lload 4, 2) := by decide +kernel
theorem dX1_fromImage_149 : decode cX1_fromImage 149 = .ok (.ldc2_w 117, 3) := by decide +kernel
theorem dX1_fromImage_152 : decode cX1_fromImage 152 = .ok (.ldiv, 1) := by decide +kernel
theorem dX1_fromImage_153 : decode cX1_fromImage 153 = .ok (.lstore 4, 2) := by decide +kernel
theorem dX1_fromImage_155 : decode cX1_fromImage 155 = .ok (.lload_n 1, 1) := by decide +kernel
theorem dX1_fromImage_156 : decode cX1_fromImage 156 = .ok (.lconst 0, 1) := by decide +kernel
theorem dX1_fromImage_157 : decode cX1_fromImage 157 = .ok (.lcmp, 1) := by decide +kernel
theorem dX1_fromImage_158 : decode cX1_fromImage 158 = .ok (.ifCond .lt 20, 3) := by decide +kernel
theorem dX1_fromImage_161 : decode cX1_fromImage 161 = .ok (.lload 4, 2) := by decide +kernel
theorem dX1_fromImage_163 : decode cX1_fromImage 163 = .ok (.ldc2_w 131, 3) := by decide +kernel
theorem dX1_fromImage_166 : decode cX1_fromImage 166 = .ok (.lcmp, 1) := by decide +kernel
theorem dX1_fromImage_167 : decode cX1_fromImage 167 = .ok (.ifCond .gt 11, 3) := by decide +kernel
theorem dX1_fromImage_170 : decode cX1_fromImage 170 = .ok (.aload_n 0, 1) := by decide +kernel
theorem dX1_fromImage_171 : decode cX1_fromImage 171 = .ok (.aload_n 3, 1) := by decide +kernel
theorem dX1_fromImage_172 : decode cX1_fromImage 172 = .ok (.invokevirtual 133, 3) := by decide +kernel
theorem dX1_fromImage_175 : decode cX1_fromImage 175 = .ok (.ifCond .ne 5, 3) := by decide +kernel
theorem dX1_fromImage_178 : decode cX1_fromImage 178 = .ok (.iconst 0, 1) := by decide +kernel
theorem dX1_fromImage_179 : decode cX1_fromImage 179 = .ok (.ireturn, 1) := by decide +kernel
theorem dX1_fromImage_180 : decode cX1_fromImage 180 = .ok (.aload_n 0, 1) := by decide +kernel
theorem dX1_fromImage_181 : decode cX1_fromImage 181 = .ok (.iconst 1, 1) := by decide +kernel
theorem dX1_fromImage_182 : decode cX1_fromImage 182 = .ok (.putfield 9, 3) := by decide +kernel
theorem dX1_fromImage_185 : decode cX1_fromImage 185 = .ok (.aload_n 0, 1) := by decide +kernel
theorem dX1_fromImage_186 : decode cX1_fromImage 186 = .ok (.lload 4, 2) := by decide +kernel
theorem dX1_fromImage_188 : decode cX1_fromImage 188 = .ok (.l2i, 1) := by decide +kernel
theorem dX1_fromImage_189 : decode cX1_fromImage 189 = .ok (.putfield 15, 3) := by decide +kernel
theorem dX1_fromImage_192 : decode cX1_fromImage 192 = .ok (.aload_n 0, 1) := by decide +kernel
theorem dX1_fromImage_193 : decode cX1_fromImage 193 = .ok (.getfield 19, 3) := by decide +kernel
theorem dX1_fromImage_196 : decode cX1_fromImage 196 = .ok (.iconst 3, 1) := by decide +kernel
theorem dX1_fromImage_197 : decode cX1_fromImage 197 = .ok (.if_icmp .eq 9, 3) := by decide +kernel
theorem dX1_fromImage_200 : decode cX1_fromImage 200 = .ok (.aload_n 0, 1) := by decide +kernel
theorem dX1_fromImage_201 : decode cX1_fromImage 201 = .ok (.bipush (-2), 2) := by decide +kernel
theorem dX1_fromImage_203 : decode cX1_fromImage 203 = .ok (.putfield 43, 3) := by decide +kernel
theorem dX1_fromImage_206 : decode cX1_fromImage 206 = .ok (.aload_n 0, 1) := by decide +kernel
theorem dX1_fromImage_207 : decode cX1_fromImage 207 = .ok (.aload_n 0, 1) := by decide +kernel
theorem dX1_fromImage_208 : decode cX1_fromImage 208 = .ok (.aload_n 3, 1) := by decide +kernel
theorem dX1_fromImage_209 : decode cX1_fromImage 209 = .ok (.invokevirtual 137, 3) := by decide +kernel
theorem dX1_fromImage_212 : decode cX1_fromImage 212 = .ok (.putfield 40, 3) := by decide +kernel
theorem dX1_fromImage_215 : decode cX1_fromImage 215 = .ok (.iconst 1, 1) := by decide +kernel
theorem dX1_fromImage_216 : decode cX1_fromImage 216 = .ok (.ireturn, 1) := by decide +kernel
set_option maxRecDepth 20000 in
theorem ggX1_isOf_X0_roadAt : GoodIn wsX1_isOf wsX0_roadAt := goodIn_r _ [13, 14, 15, 43, 44, 45, 46, 47, 48, 49, 50, 51, 52, 53, 54, 55, 56, 57, 58, 59] rfl (by decide +kernel)
set_option maxRecDepth 20000 in
theorem gX1_isOf_X0_roadAt : GoodIn wsX1_isOf (wsV RX1 56 RX0 yX0_roadAt wsX0_roadAt) := goodIn_app (goodIn_of _ (by decide +kernel)) ggX1_isOf_X0_roadAt
set_option maxRecDepth 20000 in
theorem ggX1_isOf_X0_has : GoodIn wsX1_isOf wsX0_has := goodIn_r _ [19, 20, 21, 22, 12, 23, 14, 24, 25, 26, 43, 44, 45, 46, 47, 48, 49, 50, 51, 52, 53, 54, 55, 56, 57, 58, 59] rfl (by decide +kernel)
set_option maxRecDepth 20000 in
theorem gX1_isOf_X0_has : GoodIn wsX1_isOf (wsV RX1 140 RX0 yX0_has wsX0_has) := goodIn_app (goodIn_of _ (by decide +kernel)) ggX1_isOf_X0_has
set_option maxRecDepth 20000 in
theorem ggX1_isOf_X11_isCrowd : GoodIn wsX1_isOf wsX11_isCrowd := goodIn_r _ [28] rfl (by decide +kernel)
set_option maxRecDepth 20000 in
theorem gX1_isOf_X11_isCrowd_n144 : GoodIn wsX1_isOf (wsX11_isCrowd) := ggX1_isOf_X11_isCrowd
theorem dX1_isOf_0 : decode cX1_isOf 0 = .ok (.aload_n 1, 1) := by decide +kernel
theorem dX1_isOf_1 : decode cX1_isOf 1 = .ok (.aload_n 0, 1) := by decide +kernel
theorem dX1_isOf_2 : decode cX1_isOf 2 = .ok (.getfield 28, 3) := by decide +kernel
theorem dX1_isOf_5 : decode cX1_isOf 5 = .ok (.invokevirtual 56, 3) := by decide +kernel
theorem dX1_isOf_8 : decode cX1_isOf 8 = .ok (.astore_n 2, 1) := by decide +kernel
theorem dX1_isOf_9 : decode cX1_isOf 9 = .ok (.aload_n 2, 1) := by decide +kernel
theorem dX1_isOf_10 : decode cX1_isOf 10 = .ok (.ifnull 27, 3) := by decide +kernel
theorem dX1_isOf_13 : decode cX1_isOf 13 = .ok (.aload_n 1, 1) := by decide +kernel
theorem dX1_isOf_14 : decode cX1_isOf 14 = .ok (.iconst 2, 1) := by decide +kernel
theorem dX1_isOf_15 : decode cX1_isOf 15 = .ok (.aload_n 0, 1) := by decide +kernel
theorem dX1_isOf_16 : decode cX1_isOf 16 = .ok (.getfield 22, 3) := by decide +kernel
theorem dX1_isOf_19 : decode cX1_isOf 19 = .ok (.invokevirtual 140, 3) := by decide +kernel
theorem dX1_isOf_22 : decode cX1_isOf 22 = .ok (.ifCond .eq 15, 3) := by decide +kernel
theorem dX1_isOf_25 : decode cX1_isOf 25 = .ok (.aload_n 1, 1) := by decide +kernel
theorem dX1_isOf_26 : decode cX1_isOf 26 = .ok (.iconst 0, 1) := by decide +kernel
theorem dX1_isOf_27 : decode cX1_isOf 27 = .ok (.aload_n 0, 1) := by decide +kernel
theorem dX1_isOf_28 : decode cX1_isOf 28 = .ok (.getfield 25, 3) := by decide +kernel
theorem dX1_isOf_31 : decode cX1_isOf 31 = .ok (.invokevirtual 140, 3) := by decide +kernel
theorem dX1_isOf_34 : decode cX1_isOf 34 = .ok (.ifCond .ne 5, 3) := by decide +kernel
theorem dX1_isOf_37 : decode cX1_isOf 37 = .ok (.iconst 0, 1) := by decide +kernel
theorem dX1_isOf_38 : decode cX1_isOf 38 = .ok (.ireturn, 1) := by decide +kernel
theorem dX1_isOf_39 : decode cX1_isOf 39 = .ok (.aload_n 0, 1) := by decide +kernel
theorem dX1_isOf_40 : decode cX1_isOf 40 = .ok (.getfield 19, 3) := by decide +kernel
theorem dX1_isOf_43 : decode cX1_isOf 43 = .ok (.iconst 2, 1) := by decide +kernel
theorem dX1_isOf_44 : decode cX1_isOf 44 = .ok (.if_icmp .ne 22, 3) := by decide +kernel
theorem dX1_isOf_47 : decode cX1_isOf 47 = .ok (.aload_n 0, 1) := by decide +kernel
theorem dX1_isOf_48 : decode cX1_isOf 48 = .ok (.getfield 34, 3) := by decide +kernel
theorem dX1_isOf_51 : decode cX1_isOf 51 = .ok (.aload_n 2, 1) := by decide +kernel
theorem dX1_isOf_52 : decode cX1_isOf 52 = .ok (.getfield 102, 3) := by decide +kernel
theorem dX1_isOf_55 : decode cX1_isOf 55 = .ok (.if_icmp .ne 7, 3) := by decide +kernel
theorem dX1_isOf_58 : decode cX1_isOf 58 = .ok (.iconst 1, 1) := by decide +kernel
theorem dX1_isOf_59 : decode cX1_isOf 59 = .ok (.goto 23, 3) := by decide +kernel
theorem dX1_isOf_62 : decode cX1_isOf 62 = .ok (.iconst 0, 1) := by decide +kernel
theorem dX1_isOf_63 : decode cX1_isOf 63 = .ok (.goto 19, 3) := by decide +kernel
theorem dX1_isOf_66 : decode cX1_isOf 66 = .ok (.aload_n 0, 1) := by decide +kernel
theorem dX1_isOf_67 : decode cX1_isOf 67 = .ok (.getfield 34, 3) := by decide +kernel
theorem dX1_isOf_70 : decode cX1_isOf 70 = .ok (.aload_n 2, 1) := by decide +kernel
theorem dX1_isOf_71 : decode cX1_isOf 71 = .ok (.getfield 102, 3) := by decide +kernel
theorem dX1_isOf_74 : decode cX1_isOf 74 = .ok (.if_icmp .ge 7, 3) := by decide +kernel
theorem dX1_isOf_77 : decode cX1_isOf 77 = .ok (.iconst 1, 1) := by decide +kernel
theorem dX1_isOf_78 : decode cX1_isOf 78 = .ok (.goto 4, 3) := by decide +kernel
theorem dX1_isOf_81 : decode cX1_isOf 81 = .ok (.iconst 0, 1) := by decide +kernel
theorem dX1_isOf_82 : decode cX1_isOf 82 = .ok (.istore_n 3, 1) := by decide +kernel
theorem dX1_isOf_83 : decode cX1_isOf 83 = .ok (.aload_n 0, 1) := by decide +kernel
theorem dX1_isOf_84 : decode cX1_isOf 84 = .ok (.getfield 19, 3) := by decide +kernel
theorem dX1_isOf_87 : decode cX1_isOf 87 = .ok (.iconst 3, 1) := by decide +kernel
theorem dX1_isOf_88 : decode cX1_isOf 88 = .ok (.if_icmp .ne 7, 3) := by decide +kernel
theorem dX1_isOf_91 : decode cX1_isOf 91 = .ok (.iconst 1, 1) := by decide +kernel
theorem dX1_isOf_92 : decode cX1_isOf 92 = .ok (.goto 4, 3) := by decide +kernel
theorem dX1_isOf_95 : decode cX1_isOf 95 = .ok (.iconst 0, 1) := by decide +kernel
theorem dX1_isOf_96 : decode cX1_isOf 96 = .ok (.aload_n 0, 1) := by decide +kernel
theorem dX1_isOf_97 : decode cX1_isOf 97 = .ok (.getfield 43, 3) := by decide +kernel
theorem dX1_isOf_100 : decode cX1_isOf 100 = .ok (.iconst 3, 1) := by decide +kernel
theorem dX1_isOf_101 : decode cX1_isOf 101 = .ok (.if_icmp .eq 7, 3) := by decide +kernel
theorem dX1_isOf_104 : decode cX1_isOf 104 = .ok (.iconst 1, 1) := by decide +kernel
theorem dX1_isOf_105 : decode cX1_isOf 105 = .ok (.goto 4, 3) := by decide +kernel
theorem dX1_isOf_108 : decode cX1_isOf 108 = .ok (.iconst 0, 1) := by decide +kernel
theorem dX1_isOf_109 : decode cX1_isOf 109 = .ok (.if_icmp .ne 7, 3) := by decide +kernel
theorem dX1_isOf_112 : decode cX1_isOf 112 = .ok (.iconst 1, 1) := by decide +kernel
theorem dX1_isOf_113 : decode cX1_isOf 113 = .ok (.goto 4, 3) := by decide +kernel
theorem dX1_isOf_116 : decode cX1_isOf 116 = .ok (.iconst 0, 1) := by decide +kernel
theorem dX1_isOf_117 : decode cX1_isOf 117 = .ok (.istore 4, 2) := by decide +kernel
theorem dX1_isOf_119 : decode cX1_isOf 119 = .ok (.aload_n 0, 1) := by decide +kernel
theorem dX1_isOf_120 : decode cX1_isOf 120 = .ok (.getfield 31, 3) := by decide +kernel
theorem dX1_isOf_123 : decode cX1_isOf 123 = .ok (.invokestatic 144, 3) := by decide +kernel
theorem dX1_isOf_126 : decode cX1_isOf 126 = .ok (.ifCond .eq 24, 3) := by decide +kernel
theorem dX1_isOf_129 : decode cX1_isOf 129 = .ok (.aload_n 0, 1) := by decide +kernel
theorem dX1_isOf_130 : decode cX1_isOf 130 = .ok (.getfield 19, 3) := by decide +kernel
theorem dX1_isOf_133 : decode cX1_isOf 133 = .ok (.iconst 1, 1) := by decide +kernel
theorem dX1_isOf_134 : decode cX1_isOf 134 = .ok (.if_icmp .lt 16, 3) := by decide +kernel
theorem dX1_isOf_137 : decode cX1_isOf 137 = .ok (.iload_n 3, 1) := by decide +kernel
theorem dX1_isOf_138 : decode cX1_isOf 138 = .ok (.ifCond .eq 12, 3) := by decide +kernel
theorem dX1_isOf_141 : decode cX1_isOf 141 = .ok (.iload 4, 2) := by decide +kernel
theorem dX1_isOf_143 : decode cX1_isOf 143 = .ok (.ifCond .eq 7, 3) := by decide +kernel
theorem dX1_isOf_146 : decode cX1_isOf 146 = .ok (.iconst 1, 1) := by decide +kernel
theorem dX1_isOf_147 : decode cX1_isOf 147 = .ok (.goto 4, 3) := by decide +kernel
theorem dX1_isOf_150 : decode cX1_isOf 150 = .ok (.iconst 0, 1) := by decide +kernel
theorem dX1_isOf_151 : decode cX1_isOf 151 = .ok (.ireturn, 1) := by decide +kernel
set_option maxRecDepth 20000 in
theorem ggX1_woodSoFar_X0_statueAt : GoodIn wsX1_woodSoFar wsX0_statueAt := goodIn_r _ [10, 11, 12, 47, 48, 49, 50, 51, 52, 53, 54, 55, 56, 57, 58, 59, 60, 61, 62, 63] rfl (by decide +kernel)
set_option maxRecDepth 20000 in
theorem gX1_woodSoFar_X0_statueAt : GoodIn wsX1_woodSoFar (wsV RX1 46 RX0 yX0_statueAt wsX0_statueAt) := goodIn_app (goodIn_of _ (by decide +kernel)) ggX1_woodSoFar_X0_statueAt
set_option maxRecDepth 20000 in
theorem ggX1_woodSoFar_X0_wayAt : GoodIn wsX1_woodSoFar wsX0_wayAt := goodIn_r _ [16, 11, 17, 47, 48, 49, 50, 51, 52, 53, 54, 55, 56, 57, 58, 59, 60, 61, 62, 63] rfl (by decide +kernel)
set_option maxRecDepth 20000 in
theorem gX1_woodSoFar_X0_wayAt : GoodIn wsX1_woodSoFar (wsV RX1 52 RX0 yX0_wayAt wsX0_wayAt) := goodIn_app (goodIn_of _ (by decide +kernel)) ggX1_woodSoFar_X0_wayAt
set_option maxRecDepth 20000 in
theorem ggX1_woodSoFar_X10_woodFor : GoodIn wsX1_woodSoFar wsX10_woodFor := goodIn_r _ [22, 23, 24, 25, 26, 27, 64, 65, 66] rfl (by decide +kernel)
set_option maxRecDepth 20000 in
theorem gX1_woodSoFar_X10_woodFor : GoodIn wsX1_woodSoFar (wsV RX1 85 RX10 yX10_woodFor wsX10_woodFor) := goodIn_app (goodIn_of _ (by decide +kernel)) ggX1_woodSoFar_X10_woodFor
theorem dX1_woodSoFar_0 : decode cX1_woodSoFar 0 = .ok (.aload_n 1, 1) := by decide +kernel
theorem dX1_woodSoFar_1 : decode cX1_woodSoFar 1 = .ok (.aload_n 0, 1) := by decide +kernel
theorem dX1_woodSoFar_2 : decode cX1_woodSoFar 2 = .ok (.getfield 22, 3) := by decide +kernel
theorem dX1_woodSoFar_5 : decode cX1_woodSoFar 5 = .ok (.invokevirtual 46, 3) := by decide +kernel
theorem dX1_woodSoFar_8 : decode cX1_woodSoFar 8 = .ok (.astore_n 2, 1) := by decide +kernel
theorem dX1_woodSoFar_9 : decode cX1_woodSoFar 9 = .ok (.aload_n 1, 1) := by decide +kernel
theorem dX1_woodSoFar_10 : decode cX1_woodSoFar 10 = .ok (.aload_n 0, 1) := by decide +kernel
theorem dX1_woodSoFar_11 : decode cX1_woodSoFar 11 = .ok (.getfield 25, 3) := by decide +kernel
theorem dX1_woodSoFar_14 : decode cX1_woodSoFar 14 = .ok (.invokevirtual 52, 3) := by decide +kernel
theorem dX1_woodSoFar_17 : decode cX1_woodSoFar 17 = .ok (.astore_n 3, 1) := by decide +kernel
theorem dX1_woodSoFar_18 : decode cX1_woodSoFar 18 = .ok (.aload_n 2, 1) := by decide +kernel
theorem dX1_woodSoFar_19 : decode cX1_woodSoFar 19 = .ok (.ifnull 7, 3) := by decide +kernel
theorem dX1_woodSoFar_22 : decode cX1_woodSoFar 22 = .ok (.aload_n 3, 1) := by decide +kernel
theorem dX1_woodSoFar_23 : decode cX1_woodSoFar 23 = .ok (.ifnonnull 5, 3) := by decide +kernel
theorem dX1_woodSoFar_26 : decode cX1_woodSoFar 26 = .ok (.iconst 0, 1) := by decide +kernel
theorem dX1_woodSoFar_27 : decode cX1_woodSoFar 27 = .ok (.ireturn, 1) := by decide +kernel
theorem dX1_woodSoFar_28 : decode cX1_woodSoFar 28 = .ok (.aload_n 3, 1) := by decide +kernel
theorem dX1_woodSoFar_29 : decode cX1_woodSoFar 29 = .ok (.aload_n 2, 1) := by decide +kernel
theorem dX1_woodSoFar_30 : decode cX1_woodSoFar 30 = .ok (.getfield 72, 3) := by decide +kernel
theorem dX1_woodSoFar_33 : decode cX1_woodSoFar 33 = .ok (.invokevirtual 85, 3) := by decide +kernel
theorem dX1_woodSoFar_36 : decode cX1_woodSoFar 36 = .ok (.aload_n 0, 1) := by decide +kernel
theorem dX1_woodSoFar_37 : decode cX1_woodSoFar 37 = .ok (.getfield 19, 3) := by decide +kernel
theorem dX1_woodSoFar_40 : decode cX1_woodSoFar 40 = .ok (.iconst 3, 1) := by decide +kernel
theorem dX1_woodSoFar_41 : decode cX1_woodSoFar 41 = .ok (.if_icmp .ne 12, 3) := by decide +kernel
theorem dX1_woodSoFar_44 : decode cX1_woodSoFar 44 = .ok (.aload_n 0, 1) := by decide +kernel
theorem dX1_woodSoFar_45 : decode cX1_woodSoFar 45 = .ok (.getfield 34, 3) := by decide +kernel
theorem dX1_woodSoFar_48 : decode cX1_woodSoFar 48 = .ok (.iconst 1, 1) := by decide +kernel
theorem dX1_woodSoFar_49 : decode cX1_woodSoFar 49 = .ok (.iadd, 1) := by decide +kernel
theorem dX1_woodSoFar_50 : decode cX1_woodSoFar 50 = .ok (.goto 7, 3) := by decide +kernel
theorem dX1_woodSoFar_53 : decode cX1_woodSoFar 53 = .ok (.aload_n 0, 1) := by decide +kernel
theorem dX1_woodSoFar_54 : decode cX1_woodSoFar 54 = .ok (.getfield 34, 3) := by decide +kernel
theorem dX1_woodSoFar_57 : decode cX1_woodSoFar 57 = .ok (.imul, 1) := by decide +kernel
theorem dX1_woodSoFar_58 : decode cX1_woodSoFar 58 = .ok (.ireturn, 1) := by decide +kernel
theorem dX2_init_0 : decode cX2_init 0 = .ok (.aload_n 0, 1) := by decide +kernel
theorem dX2_init_1 : decode cX2_init 1 = .ok (.invokespecial 3, 3) := by decide +kernel
theorem dX2_init_4 : decode cX2_init 4 = .ok (.aload_n 0, 1) := by decide +kernel
theorem dX2_init_5 : decode cX2_init 5 = .ok (.bipush 35, 2) := by decide +kernel
theorem dX2_init_7 : decode cX2_init 7 = .ok (.newarray .long, 2) := by decide +kernel
theorem dX2_init_9 : decode cX2_init 9 = .ok (.putfield 9, 3) := by decide +kernel
theorem dX2_init_12 : decode cX2_init 12 = .ok (.aload_n 0, 1) := by decide +kernel
theorem dX2_init_13 : decode cX2_init 13 = .ok (.bipush 35, 2) := by decide +kernel
theorem dX2_init_15 : decode cX2_init 15 = .ok (.newarray .int, 2) := by decide +kernel
theorem dX2_init_17 : decode cX2_init 17 = .ok (.putfield 15, 3) := by decide +kernel
theorem dX2_init_20 : decode cX2_init 20 = .ok (.aload_n 0, 1) := by decide +kernel
theorem dX2_init_21 : decode cX2_init 21 = .ok (.bipush 35, 2) := by decide +kernel
theorem dX2_init_23 : decode cX2_init 23 = .ok (.newarray .int, 2) := by decide +kernel
theorem dX2_init_25 : decode cX2_init 25 = .ok (.putfield 19, 3) := by decide +kernel
theorem dX2_init_28 : decode cX2_init 28 = .ok (.aload_n 0, 1) := by decide +kernel
theorem dX2_init_29 : decode cX2_init 29 = .ok (.aload_n 1, 1) := by decide +kernel
theorem dX2_init_30 : decode cX2_init 30 = .ok (.putfield 22, 3) := by decide +kernel
theorem dX2_init_33 : decode cX2_init 33 = .ok (.return_, 1) := by decide +kernel
set_option maxRecDepth 20000 in
theorem ggX2_readIsland_X0_clear : GoodIn wsX2_readIsland wsX0_clear := goodIn_r _ [10, 11, 12, 321, 322, 323, 324, 325, 326, 327, 328, 329, 330, 331, 332, 333, 334, 335, 336, 337] rfl (by decide +kernel)
set_option maxRecDepth 20000 in
theorem gX2_readIsland_X0_clear : GoodIn wsX2_readIsland (wsV RX2 36 RX0 yX0_clear wsX0_clear) := goodIn_app (goodIn_of _ (by decide +kernel)) ggX2_readIsland_X0_clear
set_option maxRecDepth 20000 in
theorem ggX2_readIsland_X7_begin : GoodIn wsX2_readIsland wsX7_begin := goodIn_r _ [17, 18, 19, 20, 21, 22, 23, 24, 25, 26, 27, 16, 28, 29, 30, 31, 32, 33, 34, 314, 315, 316, 317, 318, 319, 320] rfl (by decide +kernel)
set_option maxRecDepth 20000 in
theorem gX2_readIsland_X7_begin : GoodIn wsX2_readIsland (wsV RX2 41 RX7 yX7_begin wsX7_begin) := goodIn_app (goodIn_of _ (by decide +kernel)) ggX2_readIsland_X7_begin
set_option maxRecDepth 20000 in
theorem ggX2_readIsland_X2_readLine : GoodIn wsX2_readIsland wsX2_readLine := goodIn_r _ [39, 4, 40, 41, 42, 16, 43, 31, 44, 45, 30, 46, 47, 48, 49, 50, 51, 52, 53, 54, 55, 56, 57, 58, 59, 60, 61, 62, 63, 64, 65, 66, 67, 68, 69, 70, 71, 72, 73, 74, 75, 76, 77, 78, 79, 80, 81, 82, 83, 84, 85, 86, 87, 88, 89, 90, 91, 92, 93, 94, 95, 96, 97, 38, 98, 1, 99, 2, 100, 101, 102, 9, 103, 11, 104, 105, 106, 107, 108, 109, 110, 111, 26, 27, 28, 24, 23, 18, 29, 32, 33, 34, 112, 113, 114, 115, 3, 116, 117, 118, 119, 120, 121, 122, 123, 124, 125, 126, 127, 128, 129, 130, 131, 132, 133, 134, 135, 136, 137, 138, 139, 140, 141, 142, 143, 144, 145, 146, 147, 148, 149, 150, 151, 5, 152, 153, 154, 155, 156, 157, 158, 159, 160, 161, 162, 163, 164, 165, 166, 167, 168, 169, 170, 171, 172, 173, 174, 175, 176, 177, 178, 179, 180, 181, 182, 183, 184, 185, 186, 187, 188, 189, 190, 191, 192, 193, 194, 195, 196, 197, 198, 199, 200, 201, 202, 203, 204, 205, 206, 207, 208, 209, 210, 211, 212, 213, 214, 215, 216, 217, 218, 219, 220, 221, 222, 223, 224, 225, 226, 227, 228, 229, 230, 231, 232, 233, 234, 235, 236, 237, 238, 239, 240, 241, 242, 243, 244, 245, 246, 247, 248, 249, 250, 251, 252, 253, 254, 255, 256, 257, 258, 259, 260, 261, 262, 263, 264, 265, 266, 267, 268, 269, 270, 271, 272, 273, 274, 275, 276, 277, 278, 279, 280, 281, 282, 283, 284, 285, 286, 287, 288, 289, 290, 291, 292, 293, 294, 295, 296, 297, 298, 299, 300, 301, 302, 307, 308, 309, 310, 311, 312, 313, 314, 315, 316, 317, 318, 319, 320, 321, 322, 323, 324, 325, 326, 327, 328, 329, 330, 331, 332, 333, 334, 335, 336, 337, 338, 339, 340, 341, 342, 343, 344, 345, 346, 347, 348, 349, 350, 351, 352, 353, 354, 355, 356, 357, 358, 359, 360, 361, 362, 363] rfl (by decide +kernel)
set_option maxRecDepth 20000 in
theorem gX2_readIsland_X2_readLine : GoodIn wsX2_readIsland (wsV RX2 47 RX2 yX2_readLine wsX2_readLine) := goodIn_app (goodIn_of _ (by decide +kernel)) ggX2_readIsland_X2_readLine
set_option maxRecDepth 20000 in
theorem ggX2_readIsland_X2_passes : GoodIn wsX2_readIsland wsX2_passes := goodIn_r _ [177, 4, 178, 179, 180, 16, 181, 31, 30, 111, 26, 27, 28, 24, 23, 18, 29, 32, 33, 34, 307, 308, 309, 310, 311, 312, 313, 314, 315, 316, 317, 318, 319, 320] rfl (by decide +kernel)
set_option maxRecDepth 20000 in
theorem gX2_readIsland_X2_passes : GoodIn wsX2_readIsland (wsV RX2 51 RX2 yX2_passes wsX2_passes) := goodIn_app (goodIn_of _ (by decide +kernel)) ggX2_readIsland_X2_passes
set_option maxRecDepth 20000 in
theorem ggX2_readIsland_X2_fail : GoodIn wsX2_readIsland wsX2_fail := goodIn_r _ [98, 1, 4, 99, 2, 307, 308, 309, 310, 311, 312, 313, 314, 315, 316, 317, 318, 319, 320] rfl (by decide +kernel)
set_option maxRecDepth 20000 in
theorem gX2_readIsland_X2_fail : GoodIn wsX2_readIsland (wsV RX2 58 RX2 yX2_fail wsX2_fail) := goodIn_app (goodIn_of _ (by decide +kernel)) ggX2_readIsland_X2_fail
set_option maxRecDepth 20000 in
theorem ggX2_readIsland_X0_lacksAny : GoodIn wsX2_readIsland wsX0_lacksAny := goodIn_r _ [306, 104, 105, 106, 9, 107, 11, 108, 109, 110, 321, 322, 323, 324, 325, 326, 327, 328, 329, 330, 331, 332, 333, 334, 335, 336, 337] rfl (by decide +kernel)
set_option maxRecDepth 20000 in
theorem gX2_readIsland_X0_lacksAny : GoodIn wsX2_readIsland (wsV RX2 61 RX0 yX0_lacksAny wsX0_lacksAny) := goodIn_app (goodIn_of _ (by decide +kernel)) ggX2_readIsland_X0_lacksAny
theorem dX2_readIsland_0 : decode cX2_readIsland 0 = .ok (.aload_n 0, 1) := by decide +kernel
theorem dX2_readIsland_1 : decode cX2_readIsland 1 = .ok (.iconst 0, 1) := by decide +kernel
theorem dX2_readIsland_2 : decode cX2_readIsland 2 = .ok (.putfield 26, 3) := by decide +kernel
theorem dX2_readIsland_5 : decode cX2_readIsland 5 = .ok (.aload_n 0, 1) := by decide +kernel
theorem dX2_readIsland_6 : decode cX2_readIsland 6 = .ok (.iconst (-1), 1) := by decide +kernel
theorem dX2_readIsland_7 : decode cX2_readIsland 7 = .ok (.putfield 30, 3) := by decide +kernel
theorem dX2_readIsland_10 : decode cX2_readIsland 10 = .ok (.aload_n 0, 1) := by decide +kernel
theorem dX2_readIsland_11 : decode cX2_readIsland 11 = .ok (.iconst 0, 1) := by decide +kernel
theorem dX2_readIsland_12 : decode cX2_readIsland 12 = .ok (.putfield 33, 3) := by decide +kernel
theorem dX2_readIsland_15 : decode cX2_readIsland 15 = .ok (.aload_n 2, 1) := by decide +kernel
theorem dX2_readIsland_16 : decode cX2_readIsland 16 = .ok (.invokevirtual 36, 3) := by decide +kernel
theorem dX2_readIsland_19 : decode cX2_readIsland 19 = .ok (.aload_n 0, 1) := by decide +kernel
theorem dX2_readIsland_20 : decode cX2_readIsland 20 = .ok (.getfield 22, 3) := by decide +kernel
theorem dX2_readIsland_23 : decode cX2_readIsland 23 = .ok (.iload_n 1, 1) := by decide +kernel
theorem dX2_readIsland_24 : decode cX2_readIsland 24 = .ok (.invokevirtual 41, 3) := by decide +kernel
theorem dX2_readIsland_27 : decode cX2_readIsland 27 = .ok (.iconst 1, 1) := by decide +kernel
theorem dX2_readIsland_28 : decode cX2_readIsland 28 = .ok (.istore_n 3, 1) := by decide +kernel
theorem dX2_readIsland_29 : decode cX2_readIsland 29 = .ok (.iconst 0, 1) := by decide +kernel
theorem dX2_readIsland_30 : decode cX2_readIsland 30 = .ok (.istore 4, 2) := by decide +kernel
theorem dX2_readIsland_32 : decode cX2_readIsland 32 = .ok (.iload 4, 2) := by decide +kernel
theorem dX2_readIsland_34 : decode cX2_readIsland 34 = .ok (.iload_n 1, 1) := by decide +kernel
theorem dX2_readIsland_35 : decode cX2_readIsland 35 = .ok (.if_icmp .gt 40, 3) := by decide +kernel
theorem dX2_readIsland_38 : decode cX2_readIsland 38 = .ok (.iload_n 3, 1) := by decide +kernel
theorem dX2_readIsland_39 : decode cX2_readIsland 39 = .ok (.ifCond .eq 36, 3) := by decide +kernel
theorem dX2_readIsland_42 : decode cX2_readIsland 42 = .ok (.aload_n 0, 1) := by decide +kernel
theorem dX2_readIsland_43 : decode cX2_readIsland 43 = .ok (.aload_n 2, 1) := by decide +kernel
theorem dX2_readIsland_44 : decode cX2_readIsland 44 = .ok (.invokevirtual 47, 3) := by decide +kernel
theorem dX2_readIsland_47 : decode cX2_readIsland 47 = .ok (.aload_n 0, 1) := by decide +kernel
theorem dX2_readIsland_48 : decode cX2_readIsland 48 = .ok (.getfield 26, 3) := by decide +kernel
theorem dX2_readIsland_51 : decode cX2_readIsland 51 = .ok (.ifCond .ne 16, 3) := by decide +kernel
theorem dX2_readIsland_54 : decode cX2_readIsland 54 = .ok (.aload_n 0, 1) := by decide +kernel
theorem dX2_readIsland_55 : decode cX2_readIsland 55 = .ok (.bipush 59, 2) := by decide +kernel
theorem dX2_readIsland_57 : decode cX2_readIsland 57 = .ok (.invokevirtual 51, 3) := by decide +kernel
theorem dX2_readIsland_60 : decode cX2_readIsland 60 = .ok (.ifCond .eq 7, 3) := by decide +kernel
theorem dX2_readIsland_63 : decode cX2_readIsland 63 = .ok (.iconst 1, 1) := by decide +kernel
theorem dX2_readIsland_64 : decode cX2_readIsland 64 = .ok (.goto 4, 3) := by decide +kernel
theorem dX2_readIsland_67 : decode cX2_readIsland 67 = .ok (.iconst 0, 1) := by decide +kernel
theorem dX2_readIsland_68 : decode cX2_readIsland 68 = .ok (.istore_n 3, 1) := by decide +kernel
theorem dX2_readIsland_69 : decode cX2_readIsland 69 = .ok (.iinc 4 1, 3) := by decide +kernel
theorem dX2_readIsland_72 : decode cX2_readIsland 72 = .ok (.goto (-40), 3) := by decide +kernel
theorem dX2_readIsland_75 : decode cX2_readIsland 75 = .ok (.aload_n 0, 1) := by decide +kernel
theorem dX2_readIsland_76 : decode cX2_readIsland 76 = .ok (.getfield 22, 3) := by decide +kernel
theorem dX2_readIsland_79 : decode cX2_readIsland 79 = .ok (.getfield 55, 3) := by decide +kernel
theorem dX2_readIsland_82 : decode cX2_readIsland 82 = .ok (.iconst 4, 1) := by decide +kernel
theorem dX2_readIsland_83 : decode cX2_readIsland 83 = .ok (.if_icmp .eq 11, 3) := by decide +kernel
theorem dX2_readIsland_86 : decode cX2_readIsland 86 = .ok (.aload_n 0, 1) := by decide +kernel
theorem dX2_readIsland_87 : decode cX2_readIsland 87 = .ok (.iconst 1, 1) := by decide +kernel
theorem dX2_readIsland_88 : decode cX2_readIsland 88 = .ok (.invokevirtual 58, 3) := by decide +kernel
theorem dX2_readIsland_91 : decode cX2_readIsland 91 = .ok (.goto 16, 3) := by decide +kernel
theorem dX2_readIsland_94 : decode cX2_readIsland 94 = .ok (.aload_n 2, 1) := by decide +kernel
theorem dX2_readIsland_95 : decode cX2_readIsland 95 = .ok (.invokevirtual 61, 3) := by decide +kernel
theorem dX2_readIsland_98 : decode cX2_readIsland 98 = .ok (.ifCond .eq 9, 3) := by decide +kernel
theorem dX2_readIsland_101 : decode cX2_readIsland 101 = .ok (.aload_n 0, 1) := by decide +kernel
theorem dX2_readIsland_102 : decode cX2_readIsland 102 = .ok (.bipush 6, 2) := by decide +kernel
theorem dX2_readIsland_104 : decode cX2_readIsland 104 = .ok (.invokevirtual 58, 3) := by decide +kernel
theorem dX2_readIsland_107 : decode cX2_readIsland 107 = .ok (.aload_n 0, 1) := by decide +kernel
theorem dX2_readIsland_108 : decode cX2_readIsland 108 = .ok (.getfield 26, 3) := by decide +kernel
theorem dX2_readIsland_111 : decode cX2_readIsland 111 = .ok (.ifCond .ne 7, 3) := by decide +kernel
theorem dX2_readIsland_114 : decode cX2_readIsland 114 = .ok (.iconst 1, 1) := by decide +kernel
theorem dX2_readIsland_115 : decode cX2_readIsland 115 = .ok (.goto 4, 3) := by decide +kernel
theorem dX2_readIsland_118 : decode cX2_readIsland 118 = .ok (.iconst 0, 1) := by decide +kernel
theorem dX2_readIsland_119 : decode cX2_readIsland 119 = .ok (.ireturn, 1) := by decide +kernel
set_option maxRecDepth 20000 in
theorem ggX2_readLine_X7_among : GoodIn wsX2_readLine wsX7_among := goodIn_r _ [6, 7, 8, 9, 10, 11, 12, 13, 14, 15, 16, 17, 18, 19, 20, 21, 22, 23, 24, 25, 26, 27, 28, 29, 30, 31, 32, 33, 34, 35, 36, 37, 38, 39, 40, 41, 42, 43, 44, 45, 46, 47, 48, 49, 50, 51, 52, 53, 54, 55, 56, 57, 58, 59, 292, 293, 294, 295, 296, 297, 298] rfl (by decide +kernel)
set_option maxRecDepth 20000 in
theorem gX2_readLine_X7_among : GoodIn wsX2_readLine (wsV RX2 67 RX7 yX7_among wsX7_among) := goodIn_app (goodIn_of _ (by decide +kernel)) ggX2_readLine_X7_among
set_option maxRecDepth 20000 in
theorem ggX2_readLine_X2_fail : GoodIn wsX2_readLine wsX2_fail := goodIn_r _ [64, 65, 1, 66, 67, 285, 286, 287, 288, 289, 290, 291, 292, 293, 294, 295, 296, 297, 298] rfl (by decide +kernel)
set_option maxRecDepth 20000 in
theorem gX2_readLine_X2_fail : GoodIn wsX2_readLine (wsV RX2 58 RX2 yX2_fail wsX2_fail) := goodIn_app (goodIn_of _ (by decide +kernel)) ggX2_readLine_X2_fail
set_option maxRecDepth 20000 in
theorem ggX2_readLine_X0_add : GoodIn wsX2_readLine wsX0_add := goodIn_r _ [72, 73, 74, 75, 76, 71, 77, 78, 79, 80, 299, 300, 301, 302, 303, 304, 305, 306, 307, 308, 309, 310, 311, 312, 313, 314, 315] rfl (by decide +kernel)
set_option maxRecDepth 20000 in
theorem gX2_readLine_X0_add : GoodIn wsX2_readLine (wsV RX2 71 RX0 yX0_add wsX0_add) := goodIn_app (goodIn_of _ (by decide +kernel)) ggX2_readLine_X0_add
set_option maxRecDepth 20000 in
theorem ggX2_readLine_X7_advance : GoodIn wsX2_readLine wsX7_advance := goodIn_r _ [84, 85, 86, 87, 88, 10, 7, 89, 90, 5, 91, 292, 293, 294, 295, 296, 297, 298] rfl (by decide +kernel)
set_option maxRecDepth 20000 in
theorem gX2_readLine_X7_advance : GoodIn wsX2_readLine (wsV RX2 75 RX7 yX7_advance wsX7_advance) := goodIn_app (goodIn_of _ (by decide +kernel)) ggX2_readLine_X7_advance
set_option maxRecDepth 20000 in
theorem ggX2_readLine_X2_tellName : GoodIn wsX2_readLine wsX2_tellName := goodIn_r _ [95, 1, 96, 97, 98, 99, 100, 101, 102, 103, 5, 104, 7, 2, 3, 4, 6, 8, 9, 10, 11, 12, 13, 14, 15, 16, 17, 18, 19, 20, 21, 22, 23, 24, 25, 26, 27, 28, 29, 30, 31, 32, 33, 34, 35, 36, 37, 38, 39, 40, 41, 42, 43, 44, 45, 46, 47, 48, 49, 50, 51, 52, 53, 54, 55, 56, 57, 58, 59, 60, 61, 62, 63, 64, 65, 66, 67, 105, 106, 107, 108, 81, 82, 83, 84, 85, 86, 87, 88, 89, 90, 91, 285, 286, 287, 288, 289, 290, 291, 292, 293, 294, 295, 296, 297, 298] rfl (by decide +kernel)
set_option maxRecDepth 20000 in
theorem gX2_readLine_X2_tellName : GoodIn wsX2_readLine (wsV RX2 78 RX2 yX2_tellName wsX2_tellName) := goodIn_app (goodIn_of _ (by decide +kernel)) ggX2_readLine_X2_tellName
set_option maxRecDepth 20000 in
theorem ggX2_readLine_X0_wayAt : GoodIn wsX2_readLine wsX0_wayAt := goodIn_r _ [112, 73, 113, 299, 300, 301, 302, 303, 304, 305, 306, 307, 308, 309, 310, 311, 312, 313, 314, 315] rfl (by decide +kernel)
set_option maxRecDepth 20000 in
theorem gX2_readLine_X0_wayAt : GoodIn wsX2_readLine (wsV RX2 82 RX0 yX0_wayAt wsX0_wayAt) := goodIn_app (goodIn_of _ (by decide +kernel)) ggX2_readLine_X0_wayAt
set_option maxRecDepth 20000 in
theorem ggX2_readLine_X2_readWay : GoodIn wsX2_readLine wsX2_readWay := goodIn_r _ [117, 118, 119, 120, 121, 122, 123, 63, 124, 1, 2, 3, 4, 5, 6, 7, 8, 9, 10, 11, 12, 13, 14, 15, 16, 17, 18, 19, 20, 21, 22, 23, 24, 25, 26, 27, 28, 29, 30, 31, 32, 33, 34, 35, 36, 37, 38, 39, 40, 41, 42, 43, 44, 45, 46, 47, 48, 49, 50, 51, 52, 53, 54, 55, 56, 57, 58, 59, 60, 61, 62, 64, 65, 66, 67, 81, 82, 83, 84, 85, 86, 87, 88, 89, 90, 91, 125, 126, 127, 128, 129, 130, 131, 132, 133, 98, 316, 317, 318, 285, 286, 287, 288, 289, 290, 291, 292, 293, 294, 295, 296, 297, 298] rfl (by decide +kernel)
set_option maxRecDepth 20000 in
theorem gX2_readLine_X2_readWay : GoodIn wsX2_readLine (wsV RX2 86 RX2 yX2_readWay wsX2_readWay) := goodIn_app (goodIn_of _ (by decide +kernel)) ggX2_readLine_X2_readWay
set_option maxRecDepth 20000 in
theorem ggX2_readLine_X0_roadAt : GoodIn wsX2_readLine wsX0_roadAt := goodIn_r _ [137, 73, 138, 299, 300, 301, 302, 303, 304, 305, 306, 307, 308, 309, 310, 311, 312, 313, 314, 315] rfl (by decide +kernel)
set_option maxRecDepth 20000 in
theorem gX2_readLine_X0_roadAt : GoodIn wsX2_readLine (wsV RX2 90 RX0 yX0_roadAt wsX0_roadAt) := goodIn_app (goodIn_of _ (by decide +kernel)) ggX2_readLine_X0_roadAt
set_option maxRecDepth 20000 in
theorem ggX2_readLine_X2_readRoad : GoodIn wsX2_readLine wsX2_readRoad := goodIn_r _ [142, 143, 144, 1, 125, 126, 127, 63, 128, 2, 3, 4, 5, 6, 7, 8, 9, 10, 11, 12, 13, 14, 15, 16, 17, 18, 19, 20, 21, 22, 23, 24, 25, 26, 27, 28, 29, 30, 31, 32, 33, 34, 35, 36, 37, 38, 39, 40, 41, 42, 43, 44, 45, 46, 47, 48, 49, 50, 51, 52, 53, 54, 55, 56, 57, 58, 59, 60, 61, 62, 64, 65, 66, 67, 81, 82, 83, 84, 85, 86, 87, 88, 89, 90, 91, 129, 130, 131, 132, 133, 98, 121, 122, 123, 124, 145, 146, 147, 148, 149, 150, 151, 152, 153, 154, 155, 156, 157, 158, 159, 160, 161, 162, 163, 319, 320, 321, 285, 286, 287, 288, 289, 290, 291, 292, 293, 294, 295, 296, 297, 298] rfl (by decide +kernel)
set_option maxRecDepth 20000 in
theorem gX2_readLine_X2_readRoad : GoodIn wsX2_readLine (wsV RX2 94 RX2 yX2_readRoad wsX2_readRoad) := goodIn_app (goodIn_of _ (by decide +kernel)) ggX2_readLine_X2_readRoad
set_option maxRecDepth 20000 in
theorem ggX2_readLine_X0_statueAt : GoodIn wsX2_readLine wsX0_statueAt := goodIn_r _ [167, 73, 168, 299, 300, 301, 302, 303, 304, 305, 306, 307, 308, 309, 310, 311, 312, 313, 314, 315] rfl (by decide +kernel)
set_option maxRecDepth 20000 in
theorem gX2_readLine_X0_statueAt : GoodIn wsX2_readLine (wsV RX2 98 RX0 yX0_statueAt wsX0_statueAt) := goodIn_app (goodIn_of _ (by decide +kernel)) ggX2_readLine_X0_statueAt
set_option maxRecDepth 20000 in
theorem ggX2_readLine_X2_readMeasures : GoodIn wsX2_readLine wsX2_readMeasures := goodIn_r _ [172, 173, 174, 175, 125, 126, 127, 63, 128, 1, 2, 3, 4, 5, 6, 7, 8, 9, 10, 11, 12, 13, 14, 15, 16, 17, 18, 19, 20, 21, 22, 23, 24, 25, 26, 27, 28, 29, 30, 31, 32, 33, 34, 35, 36, 37, 38, 39, 40, 41, 42, 43, 44, 45, 46, 47, 48, 49, 50, 51, 52, 53, 54, 55, 56, 57, 58, 59, 60, 61, 62, 64, 65, 66, 67, 81, 82, 83, 84, 85, 86, 87, 88, 89, 90, 91, 129, 130, 131, 132, 133, 98, 322, 323, 324, 325, 326, 327, 328, 329, 285, 286, 287, 288, 289, 290, 291, 292, 293, 294, 295, 296, 297, 298] rfl (by decide +kernel)
set_option maxRecDepth 20000 in
theorem gX2_readLine_X2_readMeasures : GoodIn wsX2_readLine (wsV RX2 102 RX2 yX2_readMeasures wsX2_readMeasures) := goodIn_app (goodIn_of _ (by decide +kernel)) ggX2_readLine_X2_readMeasures
set_option maxRecDepth 20000 in
theorem ggX2_readLine_X2_readSort : GoodIn wsX2_readLine wsX2_readSort := goodIn_r _ [179, 180, 181, 182, 183, 1, 184, 2, 3, 4, 5, 6, 7, 8, 9, 10, 11, 12, 13, 14, 15, 16, 17, 18, 19, 20, 21, 22, 23, 24, 25, 26, 27, 28, 29, 30, 31, 32, 33, 34, 35, 36, 37, 38, 39, 40, 41, 42, 43, 44, 45, 46, 47, 48, 49, 50, 51, 52, 53, 54, 55, 56, 57, 58, 59, 60, 61, 62, 63, 64, 65, 66, 67, 121, 122, 123, 124, 81, 82, 83, 84, 85, 86, 87, 88, 89, 90, 91, 185, 186, 187, 188, 189, 190, 191, 192, 193, 194, 143, 195, 196, 197, 198, 199, 99, 100, 101, 102, 103, 104, 105, 106, 107, 108, 96, 97, 98, 78, 79, 80, 134, 135, 136, 71, 137, 73, 138, 129, 130, 131, 132, 133, 200, 201, 202, 152, 203, 155, 322, 323, 324, 325, 326, 327, 328, 329, 299, 300, 301, 302, 303, 304, 305, 306, 307, 308, 309, 310, 311, 312, 313, 314, 315, 285, 286, 287, 288, 289, 290, 291, 292, 293, 294, 295, 296, 297, 298, 319, 320, 321] rfl (by decide +kernel)
set_option maxRecDepth 20000 in
theorem gX2_readLine_X2_readSort : GoodIn wsX2_readLine (wsV RX2 106 RX2 yX2_readSort wsX2_readSort) := goodIn_app (goodIn_of _ (by decide +kernel)) ggX2_readLine_X2_readSort
set_option maxRecDepth 20000 in
theorem ggX2_readLine_X0_trialAt : GoodIn wsX2_readLine wsX0_trialAt := goodIn_r _ [207, 73, 208, 299, 300, 301, 302, 303, 304, 305, 306, 307, 308, 309, 310, 311, 312, 313, 314, 315] rfl (by decide +kernel)
set_option maxRecDepth 20000 in
theorem gX2_readLine_X0_trialAt : GoodIn wsX2_readLine (wsV RX2 110 RX0 yX0_trialAt wsX0_trialAt) := goodIn_app (goodIn_of _ (by decide +kernel)) ggX2_readLine_X0_trialAt
set_option maxRecDepth 20000 in
theorem ggX2_readLine_X2_readTrial : GoodIn wsX2_readLine wsX2_readTrial := goodIn_r _ [212, 213, 1, 214, 215, 216, 217, 121, 122, 123, 63, 124, 2, 3, 4, 5, 6, 7, 8, 9, 10, 11, 12, 13, 14, 15, 16, 17, 18, 19, 20, 21, 22, 23, 24, 25, 26, 27, 28, 29, 30, 31, 32, 33, 34, 35, 36, 37, 38, 39, 40, 41, 42, 43, 44, 45, 46, 47, 48, 49, 50, 51, 52, 53, 54, 55, 56, 57, 58, 59, 60, 61, 62, 64, 65, 66, 67, 81, 82, 83, 84, 85, 86, 87, 88, 89, 90, 91, 196, 197, 198, 199, 99, 100, 101, 102, 103, 104, 105, 106, 107, 108, 96, 97, 98, 78, 79, 80, 125, 126, 127, 128, 129, 130, 131, 132, 133, 330, 331, 332, 333, 334, 285, 286, 287, 288, 289, 290, 291, 292, 293, 294, 295, 296, 297, 298] rfl (by decide +kernel)
set_option maxRecDepth 20000 in
theorem gX2_readLine_X2_readTrial : GoodIn wsX2_readLine (wsV RX2 114 RX2 yX2_readTrial wsX2_readTrial) := goodIn_app (goodIn_of _ (by decide +kernel)) ggX2_readLine_X2_readTrial
set_option maxRecDepth 20000 in
theorem ggX2_readLine_X0_storyAt : GoodIn wsX2_readLine wsX0_storyAt := goodIn_r _ [221, 73, 222, 299, 300, 301, 302, 303, 304, 305, 306, 307, 308, 309, 310, 311, 312, 313, 314, 315] rfl (by decide +kernel)
set_option maxRecDepth 20000 in
theorem gX2_readLine_X0_storyAt : GoodIn wsX2_readLine (wsV RX2 118 RX0 yX0_storyAt wsX0_storyAt) := goodIn_app (goodIn_of _ (by decide +kernel)) ggX2_readLine_X0_storyAt
set_option maxRecDepth 20000 in
theorem ggX2_readLine_X2_readStory : GoodIn wsX2_readLine wsX2_readStory := goodIn_r _ [226, 227, 228, 229, 230, 125, 126, 127, 63, 128, 1, 2, 3, 4, 5, 6, 7, 8, 9, 10, 11, 12, 13, 14, 15, 16, 17, 18, 19, 20, 21, 22, 23, 24, 25, 26, 27, 28, 29, 30, 31, 32, 33, 34, 35, 36, 37, 38, 39, 40, 41, 42, 43, 44, 45, 46, 47, 48, 49, 50, 51, 52, 53, 54, 55, 56, 57, 58, 59, 60, 61, 62, 64, 65, 66, 67, 81, 82, 83, 84, 85, 86, 87, 88, 89, 90, 91, 129, 130, 131, 132, 133, 98, 121, 122, 123, 124, 335, 336, 337, 338, 339, 285, 286, 287, 288, 289, 290, 291, 292, 293, 294, 295, 296, 297, 298] rfl (by decide +kernel)
set_option maxRecDepth 20000 in
theorem gX2_readLine_X2_readStory : GoodIn wsX2_readLine (wsV RX2 122 RX2 yX2_readStory wsX2_readStory) := goodIn_app (goodIn_of _ (by decide +kernel)) ggX2_readLine_X2_readStory
set_option maxRecDepth 20000 in
theorem ggX2_readLine_X0_tellerAt : GoodIn wsX2_readLine wsX0_tellerAt := goodIn_r _ [234, 73, 235, 299, 300, 301, 302, 303, 304, 305, 306, 307, 308, 309, 310, 311, 312, 313, 314, 315] rfl (by decide +kernel)
set_option maxRecDepth 20000 in
theorem gX2_readLine_X0_tellerAt : GoodIn wsX2_readLine (wsV RX2 126 RX0 yX0_tellerAt wsX0_tellerAt) := goodIn_app (goodIn_of _ (by decide +kernel)) ggX2_readLine_X0_tellerAt
set_option maxRecDepth 20000 in
theorem ggX2_readLine_X2_readTeller : GoodIn wsX2_readLine wsX2_readTeller := goodIn_r _ [239, 240, 1, 241, 125, 126, 127, 63, 128, 2, 3, 4, 5, 6, 7, 8, 9, 10, 11, 12, 13, 14, 15, 16, 17, 18, 19, 20, 21, 22, 23, 24, 25, 26, 27, 28, 29, 30, 31, 32, 33, 34, 35, 36, 37, 38, 39, 40, 41, 42, 43, 44, 45, 46, 47, 48, 49, 50, 51, 52, 53, 54, 55, 56, 57, 58, 59, 60, 61, 62, 64, 65, 66, 67, 81, 82, 83, 84, 85, 86, 87, 88, 89, 90, 91, 129, 130, 131, 132, 133, 98, 121, 122, 123, 124, 242, 243, 244, 245, 196, 197, 198, 199, 99, 100, 101, 102, 103, 104, 105, 106, 107, 108, 96, 97, 78, 79, 80, 246, 247, 248, 249, 250, 251, 252, 253, 254, 255, 156, 157, 158, 159, 160, 161, 162, 163, 340, 341, 285, 286, 287, 288, 289, 290, 291, 292, 293, 294, 295, 296, 297, 298] rfl (by decide +kernel)
set_option maxRecDepth 20000 in
theorem gX2_readLine_X2_readTeller : GoodIn wsX2_readLine (wsV RX2 130 RX2 yX2_readTeller wsX2_readTeller) := goodIn_app (goodIn_of _ (by decide +kernel)) ggX2_readLine_X2_readTeller
set_option maxRecDepth 20000 in
theorem ggX2_readLine_X0_thingAt : GoodIn wsX2_readLine wsX0_thingAt := goodIn_r _ [259, 73, 260, 299, 300, 301, 302, 303, 304, 305, 306, 307, 308, 309, 310, 311, 312, 313, 314, 315] rfl (by decide +kernel)
set_option maxRecDepth 20000 in
theorem gX2_readLine_X0_thingAt : GoodIn wsX2_readLine (wsV RX2 134 RX0 yX0_thingAt wsX0_thingAt) := goodIn_app (goodIn_of _ (by decide +kernel)) ggX2_readLine_X0_thingAt
set_option maxRecDepth 20000 in
theorem ggX2_readLine_X2_readGround : GoodIn wsX2_readLine wsX2_readGround := goodIn_r _ [264, 195, 145, 146, 147, 63, 148, 121, 122, 123, 124, 1, 2, 3, 4, 5, 6, 7, 8, 9, 10, 11, 12, 13, 14, 15, 16, 17, 18, 19, 20, 21, 22, 23, 24, 25, 26, 27, 28, 29, 30, 31, 32, 33, 34, 35, 36, 37, 38, 39, 40, 41, 42, 43, 44, 45, 46, 47, 48, 49, 50, 51, 52, 53, 54, 55, 56, 57, 58, 59, 60, 61, 62, 64, 65, 66, 67, 81, 82, 83, 84, 85, 86, 87, 88, 89, 90, 91, 129, 130, 131, 132, 133, 98, 322, 323, 324, 325, 326, 327, 328, 329, 285, 286, 287, 288, 289, 290, 291, 292, 293, 294, 295, 296, 297, 298] rfl (by decide +kernel)
set_option maxRecDepth 20000 in
theorem gX2_readLine_X2_readGround : GoodIn wsX2_readLine (wsV RX2 137 RX2 yX2_readGround wsX2_readGround) := goodIn_app (goodIn_of _ (by decide +kernel)) ggX2_readLine_X2_readGround
set_option maxRecDepth 20000 in
theorem ggX2_readLine_X2_readLand : GoodIn wsX2_readLine wsX2_readLand := goodIn_r _ [268, 269, 270, 271, 125, 126, 127, 63, 128, 1, 2, 3, 4, 5, 6, 7, 8, 9, 10, 11, 12, 13, 14, 15, 16, 17, 18, 19, 20, 21, 22, 23, 24, 25, 26, 27, 28, 29, 30, 31, 32, 33, 34, 35, 36, 37, 38, 39, 40, 41, 42, 43, 44, 45, 46, 47, 48, 49, 50, 51, 52, 53, 54, 55, 56, 57, 58, 59, 60, 61, 62, 64, 65, 66, 67, 81, 82, 83, 84, 85, 86, 87, 88, 89, 90, 91, 129, 130, 131, 132, 133, 98, 299, 300, 301, 302, 303, 304, 305, 306, 307, 308, 309, 310, 311, 312, 313, 314, 315, 285, 286, 287, 288, 289, 290, 291, 292, 293, 294, 295, 296, 297, 298] rfl (by decide +kernel)
set_option maxRecDepth 20000 in
theorem gX2_readLine_X2_readLand : GoodIn wsX2_readLine (wsV RX2 140 RX2 yX2_readLand wsX2_readLand) := goodIn_app (goodIn_of _ (by decide +kernel)) ggX2_readLine_X2_readLand
set_option maxRecDepth 20000 in
theorem ggX2_readLine_X2_readFields : GoodIn wsX2_readLine wsX2_readFields := goodIn_r _ [275, 276, 277, 129, 130, 131, 63, 132, 1, 133, 98, 60, 61, 62, 64, 65, 66, 67, 81, 82, 83, 5, 84, 85, 86, 87, 88, 10, 7, 89, 90, 91, 125, 126, 127, 128, 2, 3, 4, 6, 8, 9, 11, 12, 13, 14, 15, 16, 17, 18, 19, 20, 21, 22, 23, 24, 25, 26, 27, 28, 29, 30, 31, 32, 33, 34, 35, 36, 37, 38, 39, 40, 41, 42, 43, 44, 45, 46, 47, 48, 49, 50, 51, 52, 53, 54, 55, 56, 57, 58, 59, 299, 300, 301, 302, 303, 304, 305, 306, 307, 308, 309, 310, 311, 312, 313, 314, 315, 285, 286, 287, 288, 289, 290, 291, 292, 293, 294, 295, 296, 297, 298] rfl (by decide +kernel)
set_option maxRecDepth 20000 in
theorem gX2_readLine_X2_readFields : GoodIn wsX2_readLine (wsV RX2 143 RX2 yX2_readFields wsX2_readFields) := goodIn_app (goodIn_of _ (by decide +kernel)) ggX2_readLine_X2_readFields
set_option maxRecDepth 20000 in
theorem ggX2_readLine_X2_readHouses : GoodIn wsX2_readLine wsX2_readHouses := goodIn_r _ [281, 282, 283, 284, 129, 130, 131, 63, 132, 1, 133, 98, 60, 61, 62, 64, 65, 66, 67, 81, 82, 83, 5, 84, 85, 86, 87, 88, 10, 7, 89, 90, 91, 125, 126, 127, 128, 2, 3, 4, 6, 8, 9, 11, 12, 13, 14, 15, 16, 17, 18, 19, 20, 21, 22, 23, 24, 25, 26, 27, 28, 29, 30, 31, 32, 33, 34, 35, 36, 37, 38, 39, 40, 41, 42, 43, 44, 45, 46, 47, 48, 49, 50, 51, 52, 53, 54, 55, 56, 57, 58, 59, 299, 300, 301, 302, 303, 304, 305, 306, 307, 308, 309, 310, 311, 312, 313, 314, 315, 285, 286, 287, 288, 289, 290, 291, 292, 293, 294, 295, 296, 297, 298] rfl (by decide +kernel)
set_option maxRecDepth 20000 in
theorem gX2_readLine_X2_readHouses : GoodIn wsX2_readLine (wsV RX2 146 RX2 yX2_readHouses wsX2_readHouses) := goodIn_app (goodIn_of _ (by decide +kernel)) ggX2_readLine_X2_readHouses
theorem dX2_readLine_0 : decode cX2_readLine 0 = .ok (.aload_n 0, 1) := by decide +kernel
theorem dX2_readLine_1 : decode cX2_readLine 1 = .ok (.getfield 22, 3) := by decide +kernel
theorem dX2_readLine_4 : decode cX2_readLine 4 = .ok (.ldc 65, 2) := by decide +kernel
theorem dX2_readLine_6 : decode cX2_readLine 6 = .ok (.invokevirtual 67, 3) := by decide +kernel
theorem dX2_readLine_9 : decode cX2_readLine 9 = .ok (.istore_n 2, 1) := by decide +kernel
theorem dX2_readLine_10 : decode cX2_readLine 10 = .ok (.iload_n 2, 1) := by decide +kernel
theorem dX2_readLine_11 : decode cX2_readLine 11 = .ok (.iconst (-1), 1) := by decide +kernel
theorem dX2_readLine_12 : decode cX2_readLine 12 = .ok (.if_icmp .ne 9, 3) := by decide +kernel
theorem dX2_readLine_15 : decode cX2_readLine 15 = .ok (.aload_n 0, 1) := by decide +kernel
theorem dX2_readLine_16 : decode cX2_readLine 16 = .ok (.iconst 1, 1) := by decide +kernel
theorem dX2_readLine_17 : decode cX2_readLine 17 = .ok (.invokevirtual 58, 3) := by decide +kernel
theorem dX2_readLine_20 : decode cX2_readLine 20 = .ok (.return_, 1) := by decide +kernel
theorem dX2_readLine_21 : decode cX2_readLine 21 = .ok (.aload_n 1, 1) := by decide +kernel
theorem dX2_readLine_22 : decode cX2_readLine 22 = .ok (.iload_n 2, 1) := by decide +kernel
theorem dX2_readLine_23 : decode cX2_readLine 23 = .ok (.invokevirtual 71, 3) := by decide +kernel
theorem dX2_readLine_26 : decode cX2_readLine 26 = .ok (.istore_n 3, 1) := by decide +kernel
theorem dX2_readLine_27 : decode cX2_readLine 27 = .ok (.iload_n 3, 1) := by decide +kernel
theorem dX2_readLine_28 : decode cX2_readLine 28 = .ok (.iconst (-1), 1) := by decide +kernel
theorem dX2_readLine_29 : decode cX2_readLine 29 = .ok (.if_icmp .ne 19, 3) := by decide +kernel
theorem dX2_readLine_32 : decode cX2_readLine 32 = .ok (.aload_n 0, 1) := by decide +kernel
theorem dX2_readLine_33 : decode cX2_readLine 33 = .ok (.iload_n 2, 1) := by decide +kernel
theorem dX2_readLine_34 : decode cX2_readLine 34 = .ok (.bipush 7, 2) := by decide +kernel
theorem dX2_readLine_36 : decode cX2_readLine 36 = .ok (.if_icmp .lt 7, 3) := by decide +kernel
theorem dX2_readLine_39 : decode cX2_readLine 39 = .ok (.iconst 3, 1) := by decide +kernel
theorem dX2_readLine_40 : decode cX2_readLine 40 = .ok (.goto 4, 3) := by decide +kernel
theorem dX2_readLine_43 : decode cX2_readLine 43 = .ok (.iconst 5, 1) := by decide +kernel
theorem dX2_readLine_44 : decode cX2_readLine 44 = .ok (.invokevirtual 58, 3) := by decide +kernel
theorem dX2_readLine_47 : decode cX2_readLine 47 = .ok (.return_, 1) := by decide +kernel
theorem dX2_readLine_48 : decode cX2_readLine 48 = .ok (.aload_n 0, 1) := by decide +kernel
theorem dX2_readLine_49 : decode cX2_readLine 49 = .ok (.getfield 22, 3) := by decide +kernel
theorem dX2_readLine_52 : decode cX2_readLine 52 = .ok (.invokevirtual 75, 3) := by decide +kernel
theorem dX2_readLine_55 : decode cX2_readLine 55 = .ok (.iload_n 2, 1) := by decide +kernel
theorem dX2_readLine_56 : decode cX2_readLine 56 = .ok (.bipush 7, 2) := by decide +kernel
theorem dX2_readLine_58 : decode cX2_readLine 58 = .ok (.if_icmp .ge 9, 3) := by decide +kernel
theorem dX2_readLine_61 : decode cX2_readLine 61 = .ok (.aload_n 0, 1) := by decide +kernel
theorem dX2_readLine_62 : decode cX2_readLine 62 = .ok (.iload_n 2, 1) := by decide +kernel
theorem dX2_readLine_63 : decode cX2_readLine 63 = .ok (.iload_n 3, 1) := by decide +kernel
theorem dX2_readLine_64 : decode cX2_readLine 64 = .ok (.invokevirtual 78, 3) := by decide +kernel
theorem dX2_readLine_67 : decode cX2_readLine 67 = .ok (.iload_n 2, 1) := by decide +kernel
theorem dX2_readLine_68 : decode cX2_readLine 68 = .ok (.tableswitch 171 0 8 #[52, 64, 76, 98, 110, 122, 134, 155, 163], 52) := by decide +kernel
theorem dX2_readLine_120 : decode cX2_readLine 120 = .ok (.aload_n 0, 1) := by decide +kernel
theorem dX2_readLine_121 : decode cX2_readLine 121 = .ok (.aload_n 1, 1) := by decide +kernel
theorem dX2_readLine_122 : decode cX2_readLine 122 = .ok (.iload_n 3, 1) := by decide +kernel
theorem dX2_readLine_123 : decode cX2_readLine 123 = .ok (.invokevirtual 82, 3) := by decide +kernel
theorem dX2_readLine_126 : decode cX2_readLine 126 = .ok (.invokevirtual 86, 3) := by decide +kernel
theorem dX2_readLine_129 : decode cX2_readLine 129 = .ok (.goto 115, 3) := by decide +kernel
theorem dX2_readLine_132 : decode cX2_readLine 132 = .ok (.aload_n 0, 1) := by decide +kernel
theorem dX2_readLine_133 : decode cX2_readLine 133 = .ok (.aload_n 1, 1) := by decide +kernel
theorem dX2_readLine_134 : decode cX2_readLine 134 = .ok (.iload_n 3, 1) := by decide +kernel
theorem dX2_readLine_135 : decode cX2_readLine 135 = .ok (.invokevirtual 90, 3) := by decide +kernel
theorem dX2_readLine_138 : decode cX2_readLine 138 = .ok (.invokevirtual 94, 3) := by decide +kernel
theorem dX2_readLine_141 : decode cX2_readLine 141 = .ok (.goto 103, 3) := by decide +kernel
theorem dX2_readLine_144 : decode cX2_readLine 144 = .ok (.aload_n 0, 1) := by decide +kernel
theorem dX2_readLine_145 : decode cX2_readLine 145 = .ok (.aload_n 1, 1) := by decide +kernel
theorem dX2_readLine_146 : decode cX2_readLine 146 = .ok (.iload_n 3, 1) := by decide +kernel
theorem dX2_readLine_147 : decode cX2_readLine 147 = .ok (.invokevirtual 98, 3) := by decide +kernel
theorem dX2_readLine_150 : decode cX2_readLine 150 = .ok (.invokevirtual 102, 3) := by decide +kernel
theorem dX2_readLine_153 : decode cX2_readLine 153 = .ok (.aload_n 0, 1) := by decide +kernel
theorem dX2_readLine_154 : decode cX2_readLine 154 = .ok (.aload_n 1, 1) := by decide +kernel
theorem dX2_readLine_155 : decode cX2_readLine 155 = .ok (.aload_n 1, 1) := by decide +kernel
theorem dX2_readLine_156 : decode cX2_readLine 156 = .ok (.iload_n 3, 1) := by decide +kernel
theorem dX2_readLine_157 : decode cX2_readLine 157 = .ok (.invokevirtual 98, 3) := by decide +kernel
theorem dX2_readLine_160 : decode cX2_readLine 160 = .ok (.invokevirtual 106, 3) := by decide +kernel
theorem dX2_readLine_163 : decode cX2_readLine 163 = .ok (.goto 81, 3) := by decide +kernel
theorem dX2_readLine_166 : decode cX2_readLine 166 = .ok (.aload_n 0, 1) := by decide +kernel
theorem dX2_readLine_167 : decode cX2_readLine 167 = .ok (.aload_n 1, 1) := by decide +kernel
theorem dX2_readLine_168 : decode cX2_readLine 168 = .ok (.iload_n 3, 1) := by decide +kernel
theorem dX2_readLine_169 : decode cX2_readLine 169 = .ok (.invokevirtual 110, 3) := by decide +kernel
theorem dX2_readLine_172 : decode cX2_readLine 172 = .ok (.invokevirtual 114, 3) := by decide +kernel
theorem dX2_readLine_175 : decode cX2_readLine 175 = .ok (.goto 69, 3) := by decide +kernel
theorem dX2_readLine_178 : decode cX2_readLine 178 = .ok (.aload_n 0, 1) := by decide +kernel
theorem dX2_readLine_179 : decode cX2_readLine 179 = .ok (.aload_n 1, 1) := by decide +kernel
theorem dX2_readLine_180 : decode cX2_readLine 180 = .ok (.iload_n 3, 1) := by decide +kernel
theorem dX2_readLine_181 : decode cX2_readLine 181 = .ok (.invokevirtual 118, 3) := by decide +kernel
theorem dX2_readLine_184 : decode cX2_readLine 184 = .ok (.invokevirtual 122, 3) := by decide +kernel
theorem dX2_readLine_187 : decode cX2_readLine 187 = .ok (.goto 57, 3) := by decide +kernel
theorem dX2_readLine_190 : decode cX2_readLine 190 = .ok (.aload_n 0, 1) := by decide +kernel
theorem dX2_readLine_191 : decode cX2_readLine 191 = .ok (.aload_n 1, 1) := by decide +kernel
theorem dX2_readLine_192 : decode cX2_readLine 192 = .ok (.iload_n 3, 1) := by decide +kernel
theorem dX2_readLine_193 : decode cX2_readLine 193 = .ok (.invokevirtual 126, 3) := by decide +kernel
theorem dX2_readLine_196 : decode cX2_readLine 196 = .ok (.invokevirtual 130, 3) := by decide +kernel
theorem dX2_readLine_199 : decode cX2_readLine 199 = .ok (.goto 45, 3) := by decide +kernel
theorem dX2_readLine_202 : decode cX2_readLine 202 = .ok (.aload_n 0, 1) := by decide +kernel
theorem dX2_readLine_203 : decode cX2_readLine 203 = .ok (.aload_n 1, 1) := by decide +kernel
theorem dX2_readLine_204 : decode cX2_readLine 204 = .ok (.iload_n 3, 1) := by decide +kernel
theorem dX2_readLine_205 : decode cX2_readLine 205 = .ok (.invokevirtual 134, 3) := by decide +kernel
theorem dX2_readLine_208 : decode cX2_readLine 208 = .ok (.invokevirtual 102, 3) := by decide +kernel
theorem dX2_readLine_211 : decode cX2_readLine 211 = .ok (.aload_n 0, 1) := by decide +kernel
theorem dX2_readLine_212 : decode cX2_readLine 212 = .ok (.aload_n 1, 1) := by decide +kernel
theorem dX2_readLine_213 : decode cX2_readLine 213 = .ok (.iload_n 3, 1) := by decide +kernel
theorem dX2_readLine_214 : decode cX2_readLine 214 = .ok (.invokevirtual 134, 3) := by decide +kernel
theorem dX2_readLine_217 : decode cX2_readLine 217 = .ok (.invokevirtual 137, 3) := by decide +kernel
theorem dX2_readLine_220 : decode cX2_readLine 220 = .ok (.goto 24, 3) := by decide +kernel
theorem dX2_readLine_223 : decode cX2_readLine 223 = .ok (.aload_n 0, 1) := by decide +kernel
theorem dX2_readLine_224 : decode cX2_readLine 224 = .ok (.aload_n 1, 1) := by decide +kernel
theorem dX2_readLine_225 : decode cX2_readLine 225 = .ok (.invokevirtual 140, 3) := by decide +kernel
theorem dX2_readLine_228 : decode cX2_readLine 228 = .ok (.goto 16, 3) := by decide +kernel
theorem dX2_readLine_231 : decode cX2_readLine 231 = .ok (.aload_n 0, 1) := by decide +kernel
theorem dX2_readLine_232 : decode cX2_readLine 232 = .ok (.aload_n 1, 1) := by decide +kernel
theorem dX2_readLine_233 : decode cX2_readLine 233 = .ok (.invokevirtual 143, 3) := by decide +kernel
theorem dX2_readLine_236 : decode cX2_readLine 236 = .ok (.goto 8, 3) := by decide +kernel
theorem dX2_readLine_239 : decode cX2_readLine 239 = .ok (.aload_n 0, 1) := by decide +kernel
theorem dX2_readLine_240 : decode cX2_readLine 240 = .ok (.aload_n 1, 1) := by decide +kernel
theorem dX2_readLine_241 : decode cX2_readLine 241 = .ok (.invokevirtual 146, 3) := by decide +kernel
theorem dX2_readLine_244 : decode cX2_readLine 244 = .ok (.return_, 1) := by decide +kernel
set_option maxRecDepth 20000 in
theorem ggX2_readWay_X2_choice : GoodIn wsX2_readWay wsX2_choice := goodIn_r _ [8, 9, 10, 11, 12, 13, 14, 15, 16, 17, 18, 19, 20, 21, 22, 23, 24, 25, 26, 27, 28, 29, 30, 31, 32, 33, 34, 35, 36, 37, 38, 39, 40, 41, 42, 43, 44, 45, 46, 47, 48, 49, 50, 51, 52, 53, 54, 55, 56, 57, 58, 59, 60, 61, 62, 63, 64, 65, 66, 67, 68, 69, 70, 7, 71, 72, 73, 74, 75, 76, 77, 78, 79, 80, 81, 82, 83, 84, 85, 99, 100, 101, 102, 103, 104, 105, 106, 107, 108, 109, 110, 111, 112] rfl (by decide +kernel)
set_option maxRecDepth 20000 in
theorem gX2_readWay_X2_choice : GoodIn wsX2_readWay (wsV RX2 151 RX2 yX2_choice wsX2_choice) := goodIn_app (goodIn_of _ (by decide +kernel)) ggX2_readWay_X2_choice
set_option maxRecDepth 20000 in
theorem ggX2_readWay_X2_measure : GoodIn wsX2_readWay wsX2_measure := goodIn_r _ [89, 9, 10, 11, 12, 13, 14, 15, 16, 17, 18, 19, 20, 21, 22, 23, 24, 25, 26, 27, 28, 29, 30, 31, 32, 33, 34, 35, 36, 37, 38, 39, 40, 41, 42, 43, 44, 45, 46, 47, 48, 49, 50, 51, 52, 53, 54, 55, 56, 57, 58, 59, 60, 61, 62, 63, 64, 65, 66, 67, 68, 69, 70, 7, 71, 72, 73, 74, 75, 76, 77, 78, 79, 80, 81, 82, 83, 84, 85, 90, 91, 92, 93, 94, 95, 99, 100, 101, 102, 103, 104, 105, 106, 107, 108, 109, 110, 111, 112] rfl (by decide +kernel)
set_option maxRecDepth 20000 in
theorem gX2_readWay_X2_measure : GoodIn wsX2_readWay (wsV RX2 161 RX2 yX2_measure wsX2_measure) := goodIn_app (goodIn_of _ (by decide +kernel)) ggX2_readWay_X2_measure
theorem dX2_readWay_0 : decode cX2_readWay 0 = .ok (.aload_n 1, 1) := by decide +kernel
theorem dX2_readWay_1 : decode cX2_readWay 1 = .ok (.ifnonnull 4, 3) := by decide +kernel
theorem dX2_readWay_4 : decode cX2_readWay 4 = .ok (.return_, 1) := by decide +kernel
theorem dX2_readWay_5 : decode cX2_readWay 5 = .ok (.aload_n 1, 1) := by decide +kernel
theorem dX2_readWay_6 : decode cX2_readWay 6 = .ok (.aload_n 0, 1) := by decide +kernel
theorem dX2_readWay_7 : decode cX2_readWay 7 = .ok (.ldc 149, 2) := by decide +kernel
theorem dX2_readWay_9 : decode cX2_readWay 9 = .ok (.invokevirtual 151, 3) := by decide +kernel
theorem dX2_readWay_12 : decode cX2_readWay 12 = .ok (.putfield 154, 3) := by decide +kernel
theorem dX2_readWay_15 : decode cX2_readWay 15 = .ok (.aload_n 1, 1) := by decide +kernel
theorem dX2_readWay_16 : decode cX2_readWay 16 = .ok (.aload_n 0, 1) := by decide +kernel
theorem dX2_readWay_17 : decode cX2_readWay 17 = .ok (.ldc 159, 2) := by decide +kernel
theorem dX2_readWay_19 : decode cX2_readWay 19 = .ok (.iconst 1, 1) := by decide +kernel
theorem dX2_readWay_20 : decode cX2_readWay 20 = .ok (.bipush 99, 2) := by decide +kernel
theorem dX2_readWay_22 : decode cX2_readWay 22 = .ok (.invokevirtual 161, 3) := by decide +kernel
theorem dX2_readWay_25 : decode cX2_readWay 25 = .ok (.putfield 165, 3) := by decide +kernel
theorem dX2_readWay_28 : decode cX2_readWay 28 = .ok (.aload_n 1, 1) := by decide +kernel
theorem dX2_readWay_29 : decode cX2_readWay 29 = .ok (.aload_n 0, 1) := by decide +kernel
theorem dX2_readWay_30 : decode cX2_readWay 30 = .ok (.ldc 167, 2) := by decide +kernel
theorem dX2_readWay_32 : decode cX2_readWay 32 = .ok (.iconst 1, 1) := by decide +kernel
theorem dX2_readWay_33 : decode cX2_readWay 33 = .ok (.bipush 20, 2) := by decide +kernel
theorem dX2_readWay_35 : decode cX2_readWay 35 = .ok (.invokevirtual 161, 3) := by decide +kernel
theorem dX2_readWay_38 : decode cX2_readWay 38 = .ok (.putfield 169, 3) := by decide +kernel
theorem dX2_readWay_41 : decode cX2_readWay 41 = .ok (.return_, 1) := by decide +kernel
set_option maxRecDepth 20000 in
theorem ggX2_readRoad_X2_measure : GoodIn wsX2_readRoad wsX2_measure := goodIn_r _ [8, 3, 9, 10, 11, 12, 13, 14, 15, 16, 17, 18, 19, 20, 21, 22, 23, 24, 25, 26, 27, 28, 29, 30, 31, 32, 33, 34, 35, 36, 37, 38, 39, 40, 41, 42, 43, 44, 45, 46, 47, 48, 49, 50, 51, 52, 53, 54, 55, 56, 57, 58, 59, 60, 61, 62, 63, 64, 65, 66, 67, 68, 69, 7, 70, 71, 72, 73, 74, 75, 76, 77, 78, 79, 80, 81, 82, 83, 84, 85, 86, 87, 88, 89, 90, 117, 118, 119, 120, 121, 122, 123, 124, 125, 126, 127, 128, 129, 130] rfl (by decide +kernel)
set_option maxRecDepth 20000 in
theorem gX2_readRoad_X2_measure : GoodIn wsX2_readRoad (wsV RX2 161 RX2 yX2_measure wsX2_measure) := goodIn_app (goodIn_of _ (by decide +kernel)) ggX2_readRoad_X2_measure
set_option maxRecDepth 20000 in
theorem ggX2_readRoad_X2_choice : GoodIn wsX2_readRoad wsX2_choice := goodIn_r _ [94, 3, 9, 10, 11, 12, 13, 14, 15, 16, 17, 18, 19, 20, 21, 22, 23, 24, 25, 26, 27, 28, 29, 30, 31, 32, 33, 34, 35, 36, 37, 38, 39, 40, 41, 42, 43, 44, 45, 46, 47, 48, 49, 50, 51, 52, 53, 54, 55, 56, 57, 58, 59, 60, 61, 62, 63, 64, 65, 66, 67, 68, 69, 7, 70, 71, 72, 73, 74, 75, 76, 77, 78, 79, 80, 81, 82, 83, 84, 117, 118, 119, 120, 121, 122, 123, 124, 125, 126, 127, 128, 129, 130] rfl (by decide +kernel)
set_option maxRecDepth 20000 in
theorem gX2_readRoad_X2_choice : GoodIn wsX2_readRoad (wsV RX2 151 RX2 yX2_choice wsX2_choice) := goodIn_app (goodIn_of _ (by decide +kernel)) ggX2_readRoad_X2_choice
set_option maxRecDepth 20000 in
theorem ggX2_readRoad_X7_among : GoodIn wsX2_readRoad wsX7_among := goodIn_r _ [13, 14, 15, 16, 17, 18, 19, 20, 21, 22, 23, 24, 25, 26, 27, 28, 29, 30, 31, 32, 33, 34, 35, 36, 37, 38, 39, 40, 41, 42, 43, 44, 45, 46, 47, 48, 49, 50, 51, 52, 53, 54, 55, 56, 57, 58, 59, 60, 61, 62, 63, 64, 65, 66, 124, 125, 126, 127, 128, 129, 130] rfl (by decide +kernel)
set_option maxRecDepth 20000 in
theorem gX2_readRoad_X7_among : GoodIn wsX2_readRoad (wsV RX2 67 RX7 yX7_among wsX7_among) := goodIn_app (goodIn_of _ (by decide +kernel)) ggX2_readRoad_X7_among
set_option maxRecDepth 20000 in
theorem ggX2_readRoad_X2_fail : GoodIn wsX2_readRoad wsX2_fail := goodIn_r _ [70, 71, 3, 72, 73, 117, 118, 119, 120, 121, 122, 123, 124, 125, 126, 127, 128, 129, 130] rfl (by decide +kernel)
set_option maxRecDepth 20000 in
theorem gX2_readRoad_X2_fail : GoodIn wsX2_readRoad (wsV RX2 58 RX2 yX2_fail wsX2_fail) := goodIn_app (goodIn_of _ (by decide +kernel)) ggX2_readRoad_X2_fail
set_option maxRecDepth 20000 in
theorem ggX2_readRoad_X2_readSlope : GoodIn wsX2_readRoad wsX2_readSlope := goodIn_r _ [98, 91, 92, 93, 7, 94, 3, 9, 10, 11, 12, 13, 14, 15, 16, 17, 18, 19, 20, 21, 22, 23, 24, 25, 26, 27, 28, 29, 30, 31, 32, 33, 34, 35, 36, 37, 38, 39, 40, 41, 42, 43, 44, 45, 46, 47, 48, 49, 50, 51, 52, 53, 54, 55, 56, 57, 58, 59, 60, 61, 62, 63, 64, 65, 66, 67, 68, 69, 70, 71, 72, 73, 74, 75, 76, 77, 78, 79, 80, 81, 82, 83, 84, 85, 86, 87, 88, 89, 90, 117, 118, 119, 120, 121, 122, 123, 124, 125, 126, 127, 128, 129, 130] rfl (by decide +kernel)
set_option maxRecDepth 20000 in
theorem gX2_readRoad_X2_readSlope : GoodIn wsX2_readRoad (wsV RX2 184 RX2 yX2_readSlope wsX2_readSlope) := goodIn_app (goodIn_of _ (by decide +kernel)) ggX2_readRoad_X2_readSlope
set_option maxRecDepth 20000 in
theorem ggX2_readRoad_X3_add : GoodIn wsX2_readRoad wsX3_add := goodIn_r _ [103, 104, 105, 114, 115, 116] rfl (by decide +kernel)
set_option maxRecDepth 20000 in
theorem gX2_readRoad_X3_add : GoodIn wsX2_readRoad (wsV RX2 188 RX3 yX3_add wsX3_add) := goodIn_app (goodIn_of _ (by decide +kernel)) ggX2_readRoad_X3_add
set_option maxRecDepth 20000 in
theorem ggX2_readRoad_X2_passes : GoodIn wsX2_readRoad wsX2_passes := goodIn_r _ [109, 3, 110, 111, 112, 12, 113, 14, 17, 74, 75, 76, 77, 78, 79, 80, 81, 82, 83, 84, 117, 118, 119, 120, 121, 122, 123, 124, 125, 126, 127, 128, 129, 130] rfl (by decide +kernel)
set_option maxRecDepth 20000 in
theorem gX2_readRoad_X2_passes : GoodIn wsX2_readRoad (wsV RX2 51 RX2 yX2_passes wsX2_passes) := goodIn_app (goodIn_of _ (by decide +kernel)) ggX2_readRoad_X2_passes
theorem dX2_readRoad_0 : decode cX2_readRoad 0 = .ok (.aload_n 1, 1) := by decide +kernel
theorem dX2_readRoad_1 : decode cX2_readRoad 1 = .ok (.ifnonnull 4, 3) := by decide +kernel
theorem dX2_readRoad_4 : decode cX2_readRoad 4 = .ok (.return_, 1) := by decide +kernel
theorem dX2_readRoad_5 : decode cX2_readRoad 5 = .ok (.aload_n 1, 1) := by decide +kernel
theorem dX2_readRoad_6 : decode cX2_readRoad 6 = .ok (.iconst 0, 1) := by decide +kernel
theorem dX2_readRoad_7 : decode cX2_readRoad 7 = .ok (.putfield 171, 3) := by decide +kernel
theorem dX2_readRoad_10 : decode cX2_readRoad 10 = .ok (.aload_n 1, 1) := by decide +kernel
theorem dX2_readRoad_11 : decode cX2_readRoad 11 = .ok (.aload_n 0, 1) := by decide +kernel
theorem dX2_readRoad_12 : decode cX2_readRoad 12 = .ok (.ldc 176, 2) := by decide +kernel
theorem dX2_readRoad_14 : decode cX2_readRoad 14 = .ok (.iconst 0, 1) := by decide +kernel
theorem dX2_readRoad_15 : decode cX2_readRoad 15 = .ok (.bipush 9, 2) := by decide +kernel
theorem dX2_readRoad_17 : decode cX2_readRoad 17 = .ok (.invokevirtual 161, 3) := by decide +kernel
theorem dX2_readRoad_20 : decode cX2_readRoad 20 = .ok (.putfield 178, 3) := by decide +kernel
theorem dX2_readRoad_23 : decode cX2_readRoad 23 = .ok (.aload_n 0, 1) := by decide +kernel
theorem dX2_readRoad_24 : decode cX2_readRoad 24 = .ok (.ldc 180, 2) := by decide +kernel
theorem dX2_readRoad_26 : decode cX2_readRoad 26 = .ok (.invokevirtual 151, 3) := by decide +kernel
theorem dX2_readRoad_29 : decode cX2_readRoad 29 = .ok (.pop, 1) := by decide +kernel
theorem dX2_readRoad_30 : decode cX2_readRoad 30 = .ok (.iconst 1, 1) := by decide +kernel
theorem dX2_readRoad_31 : decode cX2_readRoad 31 = .ok (.istore_n 2, 1) := by decide +kernel
theorem dX2_readRoad_32 : decode cX2_readRoad 32 = .ok (.iconst 0, 1) := by decide +kernel
theorem dX2_readRoad_33 : decode cX2_readRoad 33 = .ok (.istore_n 3, 1) := by decide +kernel
theorem dX2_readRoad_34 : decode cX2_readRoad 34 = .ok (.iload_n 3, 1) := by decide +kernel
theorem dX2_readRoad_35 : decode cX2_readRoad 35 = .ok (.bipush 6, 2) := by decide +kernel
theorem dX2_readRoad_37 : decode cX2_readRoad 37 = .ok (.if_icmp .gt 52, 3) := by decide +kernel
theorem dX2_readRoad_40 : decode cX2_readRoad 40 = .ok (.iload_n 2, 1) := by decide +kernel
theorem dX2_readRoad_41 : decode cX2_readRoad 41 = .ok (.ifCond .eq 48, 3) := by decide +kernel
theorem dX2_readRoad_44 : decode cX2_readRoad 44 = .ok (.iload_n 3, 1) := by decide +kernel
theorem dX2_readRoad_45 : decode cX2_readRoad 45 = .ok (.bipush 6, 2) := by decide +kernel
theorem dX2_readRoad_47 : decode cX2_readRoad 47 = .ok (.if_icmp .ne 21, 3) := by decide +kernel
theorem dX2_readRoad_50 : decode cX2_readRoad 50 = .ok (.aload_n 0, 1) := by decide +kernel
theorem dX2_readRoad_51 : decode cX2_readRoad 51 = .ok (.getfield 22, 3) := by decide +kernel
theorem dX2_readRoad_54 : decode cX2_readRoad 54 = .ok (.ldc 182, 2) := by decide +kernel
theorem dX2_readRoad_56 : decode cX2_readRoad 56 = .ok (.invokevirtual 67, 3) := by decide +kernel
theorem dX2_readRoad_59 : decode cX2_readRoad 59 = .ok (.iconst (-1), 1) := by decide +kernel
theorem dX2_readRoad_60 : decode cX2_readRoad 60 = .ok (.if_icmp .eq 8, 3) := by decide +kernel
theorem dX2_readRoad_63 : decode cX2_readRoad 63 = .ok (.aload_n 0, 1) := by decide +kernel
theorem dX2_readRoad_64 : decode cX2_readRoad 64 = .ok (.iconst 5, 1) := by decide +kernel
theorem dX2_readRoad_65 : decode cX2_readRoad 65 = .ok (.invokevirtual 58, 3) := by decide +kernel
theorem dX2_readRoad_68 : decode cX2_readRoad 68 = .ok (.aload_n 1, 1) := by decide +kernel
theorem dX2_readRoad_69 : decode cX2_readRoad 69 = .ok (.aload_n 0, 1) := by decide +kernel
theorem dX2_readRoad_70 : decode cX2_readRoad 70 = .ok (.invokevirtual 184, 3) := by decide +kernel
theorem dX2_readRoad_73 : decode cX2_readRoad 73 = .ok (.invokevirtual 188, 3) := by decide +kernel
theorem dX2_readRoad_76 : decode cX2_readRoad 76 = .ok (.aload_n 0, 1) := by decide +kernel
theorem dX2_readRoad_77 : decode cX2_readRoad 77 = .ok (.bipush 44, 2) := by decide +kernel
theorem dX2_readRoad_79 : decode cX2_readRoad 79 = .ok (.invokevirtual 51, 3) := by decide +kernel
theorem dX2_readRoad_82 : decode cX2_readRoad 82 = .ok (.istore_n 2, 1) := by decide +kernel
theorem dX2_readRoad_83 : decode cX2_readRoad 83 = .ok (.iinc 3 1, 3) := by decide +kernel
theorem dX2_readRoad_86 : decode cX2_readRoad 86 = .ok (.goto (-52), 3) := by decide +kernel
theorem dX2_readRoad_89 : decode cX2_readRoad 89 = .ok (.return_, 1) := by decide +kernel
set_option maxRecDepth 20000 in
theorem ggX2_readSlope_X2_choice : GoodIn wsX2_readSlope wsX2_choice := goodIn_r _ [5, 6, 7, 8, 9, 10, 11, 12, 13, 14, 15, 16, 17, 18, 19, 20, 21, 22, 23, 24, 25, 26, 27, 28, 29, 30, 31, 32, 33, 34, 35, 36, 37, 38, 39, 40, 41, 42, 43, 44, 45, 46, 47, 48, 49, 50, 51, 52, 53, 54, 55, 56, 57, 58, 59, 60, 61, 62, 63, 64, 65, 66, 67, 4, 68, 69, 70, 71, 72, 73, 74, 75, 76, 77, 78, 79, 80, 81, 82, 89, 90, 91, 92, 93, 94, 95, 96, 97, 98, 99, 100, 101, 102] rfl (by decide +kernel)
set_option maxRecDepth 20000 in
theorem gX2_readSlope_X2_choice : GoodIn wsX2_readSlope (wsV RX2 151 RX2 yX2_choice wsX2_choice) := goodIn_app (goodIn_of _ (by decide +kernel)) ggX2_readSlope_X2_choice
set_option maxRecDepth 20000 in
theorem ggX2_readSlope_X2_whole : GoodIn wsX2_readSlope wsX2_whole := goodIn_r _ [86, 6, 87, 88, 65, 66, 67, 4, 68, 69, 70, 71, 72, 73, 74, 10, 75, 76, 77, 78, 79, 15, 12, 80, 81, 82, 89, 90, 91, 92, 93, 94, 95, 96, 97, 98, 99, 100, 101, 102] rfl (by decide +kernel)
set_option maxRecDepth 20000 in
theorem gX2_readSlope_X2_whole : GoodIn wsX2_readSlope (wsV RX2 190 RX2 yX2_whole wsX2_whole) := goodIn_app (goodIn_of _ (by decide +kernel)) ggX2_readSlope_X2_whole
theorem dX2_readSlope_0 : decode cX2_readSlope 0 = .ok (.aload_n 0, 1) := by decide +kernel
theorem dX2_readSlope_1 : decode cX2_readSlope 1 = .ok (.ldc 182, 2) := by decide +kernel
theorem dX2_readSlope_3 : decode cX2_readSlope 3 = .ok (.invokevirtual 151, 3) := by decide +kernel
theorem dX2_readSlope_6 : decode cX2_readSlope 6 = .ok (.istore_n 1, 1) := by decide +kernel
theorem dX2_readSlope_7 : decode cX2_readSlope 7 = .ok (.aload_n 0, 1) := by decide +kernel
theorem dX2_readSlope_8 : decode cX2_readSlope 8 = .ok (.iconst 0, 1) := by decide +kernel
theorem dX2_readSlope_9 : decode cX2_readSlope 9 = .ok (.bipush 20, 2) := by decide +kernel
theorem dX2_readSlope_11 : decode cX2_readSlope 11 = .ok (.invokevirtual 190, 3) := by decide +kernel
theorem dX2_readSlope_14 : decode cX2_readSlope 14 = .ok (.istore_n 2, 1) := by decide +kernel
theorem dX2_readSlope_15 : decode cX2_readSlope 15 = .ok (.iload_n 1, 1) := by decide +kernel
theorem dX2_readSlope_16 : decode cX2_readSlope 16 = .ok (.ifCond .ne 7, 3) := by decide +kernel
theorem dX2_readSlope_19 : decode cX2_readSlope 19 = .ok (.iload_n 2, 1) := by decide +kernel
theorem dX2_readSlope_20 : decode cX2_readSlope 20 = .ok (.goto 5, 3) := by decide +kernel
theorem dX2_readSlope_23 : decode cX2_readSlope 23 = .ok (.iload_n 2, 1) := by decide +kernel
theorem dX2_readSlope_24 : decode cX2_readSlope 24 = .ok (.ineg, 1) := by decide +kernel
theorem dX2_readSlope_25 : decode cX2_readSlope 25 = .ok (.ireturn, 1) := by decide +kernel
set_option maxRecDepth 20000 in
theorem ggX2_readMeasures_X2_measure : GoodIn wsX2_readMeasures wsX2_measure := goodIn_r _ [8, 9, 10, 11, 12, 13, 14, 15, 16, 17, 18, 19, 20, 21, 22, 23, 24, 25, 26, 27, 28, 29, 30, 31, 32, 33, 34, 35, 36, 37, 38, 39, 40, 41, 42, 43, 44, 45, 46, 47, 48, 49, 50, 51, 52, 53, 54, 55, 56, 57, 58, 59, 60, 61, 62, 63, 64, 65, 66, 67, 68, 69, 70, 7, 71, 72, 73, 74, 75, 76, 77, 78, 79, 80, 81, 82, 83, 84, 85, 86, 87, 88, 89, 90, 91, 100, 101, 102, 103, 104, 105, 106, 107, 108, 109, 110, 111, 112, 113] rfl (by decide +kernel)
set_option maxRecDepth 20000 in
theorem gX2_readMeasures_X2_measure : GoodIn wsX2_readMeasures (wsV RX2 161 RX2 yX2_measure wsX2_measure) := goodIn_app (goodIn_of _ (by decide +kernel)) ggX2_readMeasures_X2_measure
theorem dX2_readMeasures_0 : decode cX2_readMeasures 0 = .ok (.aload_n 1, 1) := by decide +kernel
theorem dX2_readMeasures_1 : decode cX2_readMeasures 1 = .ok (.ifnonnull 4, 3) := by decide +kernel
theorem dX2_readMeasures_4 : decode cX2_readMeasures 4 = .ok (.return_, 1) := by decide +kernel
theorem dX2_readMeasures_5 : decode cX2_readMeasures 5 = .ok (.aload_n 1, 1) := by decide +kernel
theorem dX2_readMeasures_6 : decode cX2_readMeasures 6 = .ok (.aload_n 0, 1) := by decide +kernel
theorem dX2_readMeasures_7 : decode cX2_readMeasures 7 = .ok (.ldc 194, 2) := by decide +kernel
theorem dX2_readMeasures_9 : decode cX2_readMeasures 9 = .ok (.iconst 1, 1) := by decide +kernel
theorem dX2_readMeasures_10 : decode cX2_readMeasures 10 = .ok (.bipush 99, 2) := by decide +kernel
theorem dX2_readMeasures_12 : decode cX2_readMeasures 12 = .ok (.invokevirtual 161, 3) := by decide +kernel
theorem dX2_readMeasures_15 : decode cX2_readMeasures 15 = .ok (.putfield 196, 3) := by decide +kernel
theorem dX2_readMeasures_18 : decode cX2_readMeasures 18 = .ok (.aload_n 1, 1) := by decide +kernel
theorem dX2_readMeasures_19 : decode cX2_readMeasures 19 = .ok (.aload_n 0, 1) := by decide +kernel
theorem dX2_readMeasures_20 : decode cX2_readMeasures 20 = .ok (.ldc 200, 2) := by decide +kernel
theorem dX2_readMeasures_22 : decode cX2_readMeasures 22 = .ok (.iconst 0, 1) := by decide +kernel
theorem dX2_readMeasures_23 : decode cX2_readMeasures 23 = .ok (.bipush 30, 2) := by decide +kernel
theorem dX2_readMeasures_25 : decode cX2_readMeasures 25 = .ok (.invokevirtual 161, 3) := by decide +kernel
theorem dX2_readMeasures_28 : decode cX2_readMeasures 28 = .ok (.putfield 202, 3) := by decide +kernel
theorem dX2_readMeasures_31 : decode cX2_readMeasures 31 = .ok (.aload_n 1, 1) := by decide +kernel
theorem dX2_readMeasures_32 : decode cX2_readMeasures 32 = .ok (.aload_n 0, 1) := by decide +kernel
theorem dX2_readMeasures_33 : decode cX2_readMeasures 33 = .ok (.ldc 204, 2) := by decide +kernel
theorem dX2_readMeasures_35 : decode cX2_readMeasures 35 = .ok (.iconst 0, 1) := by decide +kernel
theorem dX2_readMeasures_36 : decode cX2_readMeasures 36 = .ok (.bipush 20, 2) := by decide +kernel
theorem dX2_readMeasures_38 : decode cX2_readMeasures 38 = .ok (.invokevirtual 161, 3) := by decide +kernel
theorem dX2_readMeasures_41 : decode cX2_readMeasures 41 = .ok (.putfield 206, 3) := by decide +kernel
theorem dX2_readMeasures_44 : decode cX2_readMeasures 44 = .ok (.return_, 1) := by decide +kernel
set_option maxRecDepth 20000 in
theorem ggX2_readSort_X7_among : GoodIn wsX2_readSort wsX7_among := goodIn_r _ [11, 12, 13, 14, 15, 16, 17, 18, 19, 20, 21, 22, 23, 24, 25, 26, 27, 28, 29, 30, 31, 32, 33, 34, 35, 36, 37, 38, 39, 40, 41, 42, 43, 44, 45, 46, 47, 48, 49, 50, 51, 52, 53, 54, 55, 56, 57, 58, 59, 60, 61, 62, 63, 64, 170, 171, 172, 173, 174, 175, 176] rfl (by decide +kernel)
set_option maxRecDepth 20000 in
theorem gX2_readSort_X7_among : GoodIn wsX2_readSort (wsV RX2 67 RX7 yX7_among wsX7_among) := goodIn_app (goodIn_of _ (by decide +kernel)) ggX2_readSort_X7_among
set_option maxRecDepth 20000 in
theorem ggX2_readSort_X2_fail : GoodIn wsX2_readSort wsX2_fail := goodIn_r _ [69, 70, 5, 71, 72, 163, 164, 165, 166, 167, 168, 169, 170, 171, 172, 173, 174, 175, 176] rfl (by decide +kernel)
set_option maxRecDepth 20000 in
theorem gX2_readSort_X2_fail : GoodIn wsX2_readSort (wsV RX2 58 RX2 yX2_fail wsX2_fail) := goodIn_app (goodIn_of _ (by decide +kernel)) ggX2_readSort_X2_fail
set_option maxRecDepth 20000 in
theorem ggX2_readSort_X2_choice : GoodIn wsX2_readSort wsX2_choice := goodIn_r _ [76, 5, 7, 8, 9, 10, 11, 12, 13, 14, 15, 16, 17, 18, 19, 20, 21, 22, 23, 24, 25, 26, 27, 28, 29, 30, 31, 32, 33, 34, 35, 36, 37, 38, 39, 40, 41, 42, 43, 44, 45, 46, 47, 48, 49, 50, 51, 52, 53, 54, 55, 56, 57, 58, 59, 60, 61, 62, 63, 64, 65, 66, 67, 68, 69, 70, 71, 72, 77, 78, 79, 80, 81, 82, 83, 84, 85, 86, 87, 163, 164, 165, 166, 167, 168, 169, 170, 171, 172, 173, 174, 175, 176] rfl (by decide +kernel)
set_option maxRecDepth 20000 in
theorem gX2_readSort_X2_choice : GoodIn wsX2_readSort (wsV RX2 151 RX2 yX2_choice wsX2_choice) := goodIn_app (goodIn_of _ (by decide +kernel)) ggX2_readSort_X2_choice
set_option maxRecDepth 20000 in
theorem ggX2_readSort_X5_isLying : GoodIn wsX2_readSort wsX5_isLying := goodIn_r _ [92, 93, 138, 139, 140, 141, 142, 143, 144, 145] rfl (by decide +kernel)
set_option maxRecDepth 20000 in
theorem gX2_readSort_X5_isLying : GoodIn wsX2_readSort (wsV RX2 225 RX5 yX5_isLying wsX5_isLying) := goodIn_app (goodIn_of _ (by decide +kernel)) ggX2_readSort_X5_isLying
set_option maxRecDepth 20000 in
theorem ggX2_readSort_X2_readLying : GoodIn wsX2_readSort wsX2_readLying := goodIn_r _ [97, 1, 2, 5, 98, 3, 99, 73, 74, 75, 68, 76, 7, 8, 9, 10, 11, 12, 13, 14, 15, 16, 17, 18, 19, 20, 21, 22, 23, 24, 25, 26, 27, 28, 29, 30, 31, 32, 33, 34, 35, 36, 37, 38, 39, 40, 41, 42, 43, 44, 45, 46, 47, 48, 49, 50, 51, 52, 53, 54, 55, 56, 57, 58, 59, 60, 61, 62, 63, 64, 65, 66, 67, 69, 70, 71, 72, 77, 78, 79, 80, 81, 82, 83, 84, 85, 86, 87, 100, 101, 102, 103, 104, 105, 106, 107, 108, 109, 110, 111, 112, 113, 114, 115, 116, 117, 118, 119, 120, 121, 122, 123, 124, 125, 126, 127, 128, 129, 130, 131, 132, 133, 134, 135, 136, 137, 138, 139, 140, 141, 142, 143, 144, 145, 163, 164, 165, 166, 167, 168, 169, 177, 178, 179, 170, 171, 172, 173, 174, 175, 176, 146, 147, 148, 149, 150, 151, 152, 153, 154, 155, 156, 157, 158, 159, 160, 161, 162] rfl (by decide +kernel)
set_option maxRecDepth 20000 in
theorem gX2_readSort_X2_readLying : GoodIn wsX2_readSort (wsV RX2 228 RX2 yX2_readLying wsX2_readLying) := goodIn_app (goodIn_of _ (by decide +kernel)) ggX2_readSort_X2_readLying
theorem dX2_readSort_0 : decode cX2_readSort 0 = .ok (.aload_n 2, 1) := by decide +kernel
theorem dX2_readSort_1 : decode cX2_readSort 1 = .ok (.ifnonnull 4, 3) := by decide +kernel
theorem dX2_readSort_4 : decode cX2_readSort 4 = .ok (.return_, 1) := by decide +kernel
theorem dX2_readSort_5 : decode cX2_readSort 5 = .ok (.aload_n 2, 1) := by decide +kernel
theorem dX2_readSort_6 : decode cX2_readSort 6 = .ok (.bipush (-2), 2) := by decide +kernel
theorem dX2_readSort_8 : decode cX2_readSort 8 = .ok (.putfield 208, 3) := by decide +kernel
theorem dX2_readSort_11 : decode cX2_readSort 11 = .ok (.aload_n 2, 1) := by decide +kernel
theorem dX2_readSort_12 : decode cX2_readSort 12 = .ok (.bipush (-2), 2) := by decide +kernel
theorem dX2_readSort_14 : decode cX2_readSort 14 = .ok (.putfield 211, 3) := by decide +kernel
theorem dX2_readSort_17 : decode cX2_readSort 17 = .ok (.aload_n 2, 1) := by decide +kernel
theorem dX2_readSort_18 : decode cX2_readSort 18 = .ok (.bipush (-2), 2) := by decide +kernel
theorem dX2_readSort_20 : decode cX2_readSort 20 = .ok (.putfield 214, 3) := by decide +kernel
theorem dX2_readSort_23 : decode cX2_readSort 23 = .ok (.aload_n 1, 1) := by decide +kernel
theorem dX2_readSort_24 : decode cX2_readSort 24 = .ok (.getfield 215, 3) := by decide +kernel
theorem dX2_readSort_27 : decode cX2_readSort 27 = .ok (.bipush 8, 2) := by decide +kernel
theorem dX2_readSort_29 : decode cX2_readSort 29 = .ok (.if_icmp .ne 21, 3) := by decide +kernel
theorem dX2_readSort_32 : decode cX2_readSort 32 = .ok (.aload_n 0, 1) := by decide +kernel
theorem dX2_readSort_33 : decode cX2_readSort 33 = .ok (.getfield 22, 3) := by decide +kernel
theorem dX2_readSort_36 : decode cX2_readSort 36 = .ok (.ldc 218, 2) := by decide +kernel
theorem dX2_readSort_38 : decode cX2_readSort 38 = .ok (.invokevirtual 67, 3) := by decide +kernel
theorem dX2_readSort_41 : decode cX2_readSort 41 = .ok (.iconst (-1), 1) := by decide +kernel
theorem dX2_readSort_42 : decode cX2_readSort 42 = .ok (.if_icmp .eq 8, 3) := by decide +kernel
theorem dX2_readSort_45 : decode cX2_readSort 45 = .ok (.aload_n 0, 1) := by decide +kernel
theorem dX2_readSort_46 : decode cX2_readSort 46 = .ok (.iconst 5, 1) := by decide +kernel
theorem dX2_readSort_47 : decode cX2_readSort 47 = .ok (.invokevirtual 58, 3) := by decide +kernel
theorem dX2_readSort_50 : decode cX2_readSort 50 = .ok (.aload_n 2, 1) := by decide +kernel
theorem dX2_readSort_51 : decode cX2_readSort 51 = .ok (.aload_n 0, 1) := by decide +kernel
theorem dX2_readSort_52 : decode cX2_readSort 52 = .ok (.ldc 220, 2) := by decide +kernel
theorem dX2_readSort_54 : decode cX2_readSort 54 = .ok (.invokevirtual 151, 3) := by decide +kernel
theorem dX2_readSort_57 : decode cX2_readSort 57 = .ok (.putfield 222, 3) := by decide +kernel
theorem dX2_readSort_60 : decode cX2_readSort 60 = .ok (.aload_n 2, 1) := by decide +kernel
theorem dX2_readSort_61 : decode cX2_readSort 61 = .ok (.invokevirtual 225, 3) := by decide +kernel
theorem dX2_readSort_64 : decode cX2_readSort 64 = .ok (.ifCond .eq 19, 3) := by decide +kernel
theorem dX2_readSort_67 : decode cX2_readSort 67 = .ok (.aload_n 1, 1) := by decide +kernel
theorem dX2_readSort_68 : decode cX2_readSort 68 = .ok (.dup, 1) := by decide +kernel
theorem dX2_readSort_69 : decode cX2_readSort 69 = .ok (.getfield 215, 3) := by decide +kernel
theorem dX2_readSort_72 : decode cX2_readSort 72 = .ok (.iconst 1, 1) := by decide +kernel
theorem dX2_readSort_73 : decode cX2_readSort 73 = .ok (.iadd, 1) := by decide +kernel
theorem dX2_readSort_74 : decode cX2_readSort 74 = .ok (.putfield 215, 3) := by decide +kernel
theorem dX2_readSort_77 : decode cX2_readSort 77 = .ok (.aload_n 0, 1) := by decide +kernel
theorem dX2_readSort_78 : decode cX2_readSort 78 = .ok (.aload_n 1, 1) := by decide +kernel
theorem dX2_readSort_79 : decode cX2_readSort 79 = .ok (.aload_n 2, 1) := by decide +kernel
theorem dX2_readSort_80 : decode cX2_readSort 80 = .ok (.invokevirtual 228, 3) := by decide +kernel
theorem dX2_readSort_83 : decode cX2_readSort 83 = .ok (.return_, 1) := by decide +kernel
set_option maxRecDepth 20000 in
theorem ggX2_readLying_X2_choice : GoodIn wsX2_readLying wsX2_choice := goodIn_r _ [11, 3, 12, 13, 14, 15, 16, 17, 18, 19, 20, 21, 22, 23, 24, 25, 26, 27, 28, 29, 30, 31, 32, 33, 34, 35, 36, 37, 38, 39, 40, 41, 42, 43, 44, 45, 46, 47, 48, 49, 50, 51, 52, 53, 54, 55, 56, 57, 58, 59, 60, 61, 62, 63, 64, 65, 66, 67, 68, 69, 70, 71, 72, 10, 73, 74, 75, 76, 77, 78, 79, 80, 81, 82, 83, 84, 85, 86, 87, 134, 135, 136, 137, 138, 139, 140, 144, 145, 146, 147, 148, 149, 150] rfl (by decide +kernel)
set_option maxRecDepth 20000 in
theorem gX2_readLying_X2_choice : GoodIn wsX2_readLying (wsV RX2 151 RX2 yX2_choice wsX2_choice) := goodIn_app (goodIn_of _ (by decide +kernel)) ggX2_readLying_X2_choice
set_option maxRecDepth 20000 in
theorem ggX2_readLying_X2_toldName : GoodIn wsX2_readLying wsX2_toldName := goodIn_r _ [91, 3, 92, 93, 94, 95, 96, 15, 97, 17, 12, 13, 14, 16, 18, 19, 20, 21, 22, 23, 24, 25, 26, 27, 28, 29, 30, 31, 32, 33, 34, 35, 36, 37, 38, 39, 40, 41, 42, 43, 44, 45, 46, 47, 48, 49, 50, 51, 52, 53, 54, 55, 56, 57, 58, 59, 60, 61, 62, 63, 64, 65, 66, 67, 68, 69, 70, 71, 72, 10, 73, 74, 75, 76, 98, 99, 100, 101, 102, 103, 104, 105, 106, 107, 134, 135, 136, 137, 138, 139, 140, 144, 145, 146, 147, 148, 149, 150] rfl (by decide +kernel)
set_option maxRecDepth 20000 in
theorem gX2_readLying_X2_toldName : GoodIn wsX2_readLying (wsV RX2 235 RX2 yX2_toldName wsX2_toldName) := goodIn_app (goodIn_of _ (by decide +kernel)) ggX2_readLying_X2_toldName
set_option maxRecDepth 20000 in
theorem ggX2_readLying_X7_advance : GoodIn wsX2_readLying wsX7_advance := goodIn_r _ [80, 81, 82, 83, 84, 20, 17, 85, 86, 15, 87, 144, 145, 146, 147, 148, 149, 150] rfl (by decide +kernel)
set_option maxRecDepth 20000 in
theorem gX2_readLying_X7_advance : GoodIn wsX2_readLying (wsV RX2 75 RX7 yX7_advance wsX7_advance) := goodIn_app (goodIn_of _ (by decide +kernel)) ggX2_readLying_X7_advance
set_option maxRecDepth 20000 in
theorem ggX2_readLying_X0_roadAt : GoodIn wsX2_readLying wsX0_roadAt := goodIn_r _ [112, 113, 114, 151, 152, 153, 154, 155, 156, 157, 158, 159, 160, 161, 162, 163, 164, 165, 166, 167] rfl (by decide +kernel)
set_option maxRecDepth 20000 in
theorem gX2_readLying_X0_roadAt : GoodIn wsX2_readLying (wsV RX2 90 RX0 yX0_roadAt wsX0_roadAt) := goodIn_app (goodIn_of _ (by decide +kernel)) ggX2_readLying_X0_roadAt
set_option maxRecDepth 20000 in
theorem ggX2_readLying_X2_whole : GoodIn wsX2_readLying wsX2_whole := goodIn_r _ [118, 3, 119, 104, 70, 71, 72, 10, 73, 74, 75, 76, 77, 78, 79, 15, 80, 81, 82, 83, 84, 20, 17, 85, 86, 87, 134, 135, 136, 137, 138, 139, 140, 144, 145, 146, 147, 148, 149, 150] rfl (by decide +kernel)
set_option maxRecDepth 20000 in
theorem gX2_readLying_X2_whole : GoodIn wsX2_readLying (wsV RX2 190 RX2 yX2_whole wsX2_whole) := goodIn_app (goodIn_of _ (by decide +kernel)) ggX2_readLying_X2_whole
set_option maxRecDepth 20000 in
theorem ggX2_readLying_X3_slopeAt : GoodIn wsX2_readLying wsX3_slopeAt := goodIn_r _ [124, 125, 105, 106, 107, 141, 142, 143] rfl (by decide +kernel)
set_option maxRecDepth 20000 in
theorem gX2_readLying_X3_slopeAt : GoodIn wsX2_readLying (wsV RX2 240 RX3 yX3_slopeAt wsX3_slopeAt) := goodIn_app (goodIn_of _ (by decide +kernel)) ggX2_readLying_X3_slopeAt
theorem dX2_readLying_0 : decode cX2_readLying 0 = .ok (.aload_n 2, 1) := by decide +kernel
theorem dX2_readLying_1 : decode cX2_readLying 1 = .ok (.aload_n 0, 1) := by decide +kernel
theorem dX2_readLying_2 : decode cX2_readLying 2 = .ok (.ldc 231, 2) := by decide +kernel
theorem dX2_readLying_4 : decode cX2_readLying 4 = .ok (.invokevirtual 151, 3) := by decide +kernel
theorem dX2_readLying_7 : decode cX2_readLying 7 = .ok (.putfield 208, 3) := by decide +kernel
theorem dX2_readLying_10 : decode cX2_readLying 10 = .ok (.aload_n 0, 1) := by decide +kernel
theorem dX2_readLying_11 : decode cX2_readLying 11 = .ok (.ldc 233, 2) := by decide +kernel
theorem dX2_readLying_13 : decode cX2_readLying 13 = .ok (.invokevirtual 151, 3) := by decide +kernel
theorem dX2_readLying_16 : decode cX2_readLying 16 = .ok (.pop, 1) := by decide +kernel
theorem dX2_readLying_17 : decode cX2_readLying 17 = .ok (.aload_n 2, 1) := by decide +kernel
theorem dX2_readLying_18 : decode cX2_readLying 18 = .ok (.aload_n 0, 1) := by decide +kernel
theorem dX2_readLying_19 : decode cX2_readLying 19 = .ok (.iconst 1, 1) := by decide +kernel
theorem dX2_readLying_20 : decode cX2_readLying 20 = .ok (.invokevirtual 235, 3) := by decide +kernel
theorem dX2_readLying_23 : decode cX2_readLying 23 = .ok (.putfield 211, 3) := by decide +kernel
theorem dX2_readLying_26 : decode cX2_readLying 26 = .ok (.aload_n 0, 1) := by decide +kernel
theorem dX2_readLying_27 : decode cX2_readLying 27 = .ok (.getfield 22, 3) := by decide +kernel
theorem dX2_readLying_30 : decode cX2_readLying 30 = .ok (.invokevirtual 75, 3) := by decide +kernel
theorem dX2_readLying_33 : decode cX2_readLying 33 = .ok (.aload_n 0, 1) := by decide +kernel
theorem dX2_readLying_34 : decode cX2_readLying 34 = .ok (.ldc 238, 2) := by decide +kernel
theorem dX2_readLying_36 : decode cX2_readLying 36 = .ok (.invokevirtual 151, 3) := by decide +kernel
theorem dX2_readLying_39 : decode cX2_readLying 39 = .ok (.pop, 1) := by decide +kernel
theorem dX2_readLying_40 : decode cX2_readLying 40 = .ok (.aload_n 1, 1) := by decide +kernel
theorem dX2_readLying_41 : decode cX2_readLying 41 = .ok (.aload_n 2, 1) := by decide +kernel
theorem dX2_readLying_42 : decode cX2_readLying 42 = .ok (.getfield 211, 3) := by decide +kernel
theorem dX2_readLying_45 : decode cX2_readLying 45 = .ok (.invokevirtual 90, 3) := by decide +kernel
theorem dX2_readLying_48 : decode cX2_readLying 48 = .ok (.astore_n 3, 1) := by decide +kernel
theorem dX2_readLying_49 : decode cX2_readLying 49 = .ok (.aload_n 3, 1) := by decide +kernel
theorem dX2_readLying_50 : decode cX2_readLying 50 = .ok (.ifnull 30, 3) := by decide +kernel
theorem dX2_readLying_53 : decode cX2_readLying 53 = .ok (.aload_n 2, 1) := by decide +kernel
theorem dX2_readLying_54 : decode cX2_readLying 54 = .ok (.aload_n 0, 1) := by decide +kernel
theorem dX2_readLying_55 : decode cX2_readLying 55 = .ok (.iconst 0, 1) := by decide +kernel
theorem dX2_readLying_56 : decode cX2_readLying 56 = .ok (.aload_n 3, 1) := by decide +kernel
theorem dX2_readLying_57 : decode cX2_readLying 57 = .ok (.getfield 171, 3) := by decide +kernel
theorem dX2_readLying_60 : decode cX2_readLying 60 = .ok (.iconst 1, 1) := by decide +kernel
theorem dX2_readLying_61 : decode cX2_readLying 61 = .ok (.isub, 1) := by decide +kernel
theorem dX2_readLying_62 : decode cX2_readLying 62 = .ok (.invokevirtual 190, 3) := by decide +kernel
theorem dX2_readLying_65 : decode cX2_readLying 65 = .ok (.putfield 214, 3) := by decide +kernel
theorem dX2_readLying_68 : decode cX2_readLying 68 = .ok (.aload_n 2, 1) := by decide +kernel
theorem dX2_readLying_69 : decode cX2_readLying 69 = .ok (.aload_n 3, 1) := by decide +kernel
theorem dX2_readLying_70 : decode cX2_readLying 70 = .ok (.aload_n 2, 1) := by decide +kernel
theorem dX2_readLying_71 : decode cX2_readLying 71 = .ok (.getfield 214, 3) := by decide +kernel
theorem dX2_readLying_74 : decode cX2_readLying 74 = .ok (.invokevirtual 240, 3) := by decide +kernel
theorem dX2_readLying_77 : decode cX2_readLying 77 = .ok (.putfield 243, 3) := by decide +kernel
theorem dX2_readLying_80 : decode cX2_readLying 80 = .ok (.return_, 1) := by decide +kernel
set_option maxRecDepth 20000 in
theorem ggX2_readGround_X2_readSlope : GoodIn wsX2_readGround wsX2_readSlope := goodIn_r _ [6, 7, 8, 9, 5, 10, 11, 12, 13, 14, 15, 16, 17, 18, 19, 20, 21, 22, 23, 24, 25, 26, 27, 28, 29, 30, 31, 32, 33, 34, 35, 36, 37, 38, 39, 40, 41, 42, 43, 44, 45, 46, 47, 48, 49, 50, 51, 52, 53, 54, 55, 56, 57, 58, 59, 60, 61, 62, 63, 64, 65, 66, 67, 68, 69, 70, 71, 72, 73, 74, 75, 76, 77, 78, 79, 80, 81, 82, 83, 84, 85, 86, 87, 88, 89, 90, 91, 92, 93, 102, 103, 104, 105, 106, 107, 108, 109, 110, 111, 112, 113, 114, 115] rfl (by decide +kernel)
set_option maxRecDepth 20000 in
theorem gX2_readGround_X2_readSlope : GoodIn wsX2_readGround (wsV RX2 184 RX2 yX2_readSlope wsX2_readSlope) := goodIn_app (goodIn_of _ (by decide +kernel)) ggX2_readGround_X2_readSlope
theorem dX2_readGround_0 : decode cX2_readGround 0 = .ok (.aload_n 1, 1) := by decide +kernel
theorem dX2_readGround_1 : decode cX2_readGround 1 = .ok (.ifnonnull 4, 3) := by decide +kernel
theorem dX2_readGround_4 : decode cX2_readGround 4 = .ok (.return_, 1) := by decide +kernel
theorem dX2_readGround_5 : decode cX2_readGround 5 = .ok (.aload_n 1, 1) := by decide +kernel
theorem dX2_readGround_6 : decode cX2_readGround 6 = .ok (.aload_n 0, 1) := by decide +kernel
theorem dX2_readGround_7 : decode cX2_readGround 7 = .ok (.invokevirtual 184, 3) := by decide +kernel
theorem dX2_readGround_10 : decode cX2_readGround 10 = .ok (.putfield 243, 3) := by decide +kernel
theorem dX2_readGround_13 : decode cX2_readGround 13 = .ok (.return_, 1) := by decide +kernel
set_option maxRecDepth 20000 in
theorem ggX2_readTrial_X2_choice : GoodIn wsX2_readTrial wsX2_choice := goodIn_r _ [11, 2, 12, 13, 14, 15, 16, 17, 18, 19, 20, 21, 22, 23, 24, 25, 26, 27, 28, 29, 30, 31, 32, 33, 34, 35, 36, 37, 38, 39, 40, 41, 42, 43, 44, 45, 46, 47, 48, 49, 50, 51, 52, 53, 54, 55, 56, 57, 58, 59, 60, 61, 62, 63, 64, 65, 66, 67, 68, 69, 70, 71, 72, 10, 73, 74, 75, 76, 77, 78, 79, 80, 81, 82, 83, 84, 85, 86, 87, 122, 123, 124, 125, 126, 127, 128, 129, 130, 131, 132, 133, 134, 135] rfl (by decide +kernel)
set_option maxRecDepth 20000 in
theorem gX2_readTrial_X2_choice : GoodIn wsX2_readTrial (wsV RX2 151 RX2 yX2_choice wsX2_choice) := goodIn_app (goodIn_of _ (by decide +kernel)) ggX2_readTrial_X2_choice
set_option maxRecDepth 20000 in
theorem ggX2_readTrial_X2_toldName : GoodIn wsX2_readTrial wsX2_toldName := goodIn_r _ [91, 2, 92, 93, 94, 95, 96, 15, 97, 17, 12, 13, 14, 16, 18, 19, 20, 21, 22, 23, 24, 25, 26, 27, 28, 29, 30, 31, 32, 33, 34, 35, 36, 37, 38, 39, 40, 41, 42, 43, 44, 45, 46, 47, 48, 49, 50, 51, 52, 53, 54, 55, 56, 57, 58, 59, 60, 61, 62, 63, 64, 65, 66, 67, 68, 69, 70, 71, 72, 10, 73, 74, 75, 76, 98, 99, 100, 101, 102, 103, 104, 105, 106, 107, 122, 123, 124, 125, 126, 127, 128, 129, 130, 131, 132, 133, 134, 135] rfl (by decide +kernel)
set_option maxRecDepth 20000 in
theorem gX2_readTrial_X2_toldName : GoodIn wsX2_readTrial (wsV RX2 235 RX2 yX2_toldName wsX2_toldName) := goodIn_app (goodIn_of _ (by decide +kernel)) ggX2_readTrial_X2_toldName
set_option maxRecDepth 20000 in
theorem ggX2_readTrial_X7_advance : GoodIn wsX2_readTrial wsX7_advance := goodIn_r _ [80, 81, 82, 83, 84, 20, 17, 85, 86, 15, 87, 129, 130, 131, 132, 133, 134, 135] rfl (by decide +kernel)
set_option maxRecDepth 20000 in
theorem gX2_readTrial_X7_advance : GoodIn wsX2_readTrial (wsV RX2 75 RX7 yX7_advance wsX7_advance) := goodIn_app (goodIn_of _ (by decide +kernel)) ggX2_readTrial_X7_advance
set_option maxRecDepth 20000 in
theorem ggX2_readTrial_X2_measure : GoodIn wsX2_readTrial wsX2_measure := goodIn_r _ [111, 2, 12, 13, 14, 15, 16, 17, 18, 19, 20, 21, 22, 23, 24, 25, 26, 27, 28, 29, 30, 31, 32, 33, 34, 35, 36, 37, 38, 39, 40, 41, 42, 43, 44, 45, 46, 47, 48, 49, 50, 51, 52, 53, 54, 55, 56, 57, 58, 59, 60, 61, 62, 63, 64, 65, 66, 67, 68, 69, 70, 71, 72, 10, 73, 74, 75, 76, 77, 78, 79, 80, 81, 82, 83, 84, 85, 86, 87, 112, 113, 114, 115, 116, 104, 122, 123, 124, 125, 126, 127, 128, 129, 130, 131, 132, 133, 134, 135] rfl (by decide +kernel)
set_option maxRecDepth 20000 in
theorem gX2_readTrial_X2_measure : GoodIn wsX2_readTrial (wsV RX2 161 RX2 yX2_measure wsX2_measure) := goodIn_app (goodIn_of _ (by decide +kernel)) ggX2_readTrial_X2_measure
theorem dX2_readTrial_0 : decode cX2_readTrial 0 = .ok (.aload_n 1, 1) := by decide +kernel
theorem dX2_readTrial_1 : decode cX2_readTrial 1 = .ok (.ifnonnull 4, 3) := by decide +kernel
theorem dX2_readTrial_4 : decode cX2_readTrial 4 = .ok (.return_, 1) := by decide +kernel
theorem dX2_readTrial_5 : decode cX2_readTrial 5 = .ok (.aload_n 0, 1) := by decide +kernel
theorem dX2_readTrial_6 : decode cX2_readTrial 6 = .ok (.ldc 246, 2) := by decide +kernel
theorem dX2_readTrial_8 : decode cX2_readTrial 8 = .ok (.invokevirtual 151, 3) := by decide +kernel
theorem dX2_readTrial_11 : decode cX2_readTrial 11 = .ok (.pop, 1) := by decide +kernel
theorem dX2_readTrial_12 : decode cX2_readTrial 12 = .ok (.aload_n 1, 1) := by decide +kernel
theorem dX2_readTrial_13 : decode cX2_readTrial 13 = .ok (.aload_n 0, 1) := by decide +kernel
theorem dX2_readTrial_14 : decode cX2_readTrial 14 = .ok (.iconst 0, 1) := by decide +kernel
theorem dX2_readTrial_15 : decode cX2_readTrial 15 = .ok (.invokevirtual 235, 3) := by decide +kernel
theorem dX2_readTrial_18 : decode cX2_readTrial 18 = .ok (.putfield 248, 3) := by decide +kernel
theorem dX2_readTrial_21 : decode cX2_readTrial 21 = .ok (.aload_n 0, 1) := by decide +kernel
theorem dX2_readTrial_22 : decode cX2_readTrial 22 = .ok (.getfield 22, 3) := by decide +kernel
theorem dX2_readTrial_25 : decode cX2_readTrial 25 = .ok (.invokevirtual 75, 3) := by decide +kernel
theorem dX2_readTrial_28 : decode cX2_readTrial 28 = .ok (.aload_n 1, 1) := by decide +kernel
theorem dX2_readTrial_29 : decode cX2_readTrial 29 = .ok (.aload_n 0, 1) := by decide +kernel
theorem dX2_readTrial_30 : decode cX2_readTrial 30 = .ok (.ldc 194, 2) := by decide +kernel
theorem dX2_readTrial_32 : decode cX2_readTrial 32 = .ok (.iconst 1, 1) := by decide +kernel
theorem dX2_readTrial_33 : decode cX2_readTrial 33 = .ok (.bipush 99, 2) := by decide +kernel
theorem dX2_readTrial_35 : decode cX2_readTrial 35 = .ok (.invokevirtual 161, 3) := by decide +kernel
theorem dX2_readTrial_38 : decode cX2_readTrial 38 = .ok (.putfield 253, 3) := by decide +kernel
theorem dX2_readTrial_41 : decode cX2_readTrial 41 = .ok (.aload_n 1, 1) := by decide +kernel
theorem dX2_readTrial_42 : decode cX2_readTrial 42 = .ok (.aload_n 0, 1) := by decide +kernel
theorem dX2_readTrial_43 : decode cX2_readTrial 43 = .ok (.ldc 254, 2) := by decide +kernel
theorem dX2_readTrial_45 : decode cX2_readTrial 45 = .ok (.iconst 1, 1) := by decide +kernel
theorem dX2_readTrial_46 : decode cX2_readTrial 46 = .ok (.sipush 200, 3) := by decide +kernel
theorem dX2_readTrial_49 : decode cX2_readTrial 49 = .ok (.invokevirtual 161, 3) := by decide +kernel
theorem dX2_readTrial_52 : decode cX2_readTrial 52 = .ok (.putfield 256, 3) := by decide +kernel
theorem dX2_readTrial_55 : decode cX2_readTrial 55 = .ok (.aload_n 1, 1) := by decide +kernel
theorem dX2_readTrial_56 : decode cX2_readTrial 56 = .ok (.aload_n 0, 1) := by decide +kernel
theorem dX2_readTrial_57 : decode cX2_readTrial 57 = .ok (.ldc_w 258, 3) := by decide +kernel
theorem dX2_readTrial_60 : decode cX2_readTrial 60 = .ok (.iconst 1, 1) := by decide +kernel
theorem dX2_readTrial_61 : decode cX2_readTrial 61 = .ok (.sipush 999, 3) := by decide +kernel
theorem dX2_readTrial_64 : decode cX2_readTrial 64 = .ok (.invokevirtual 161, 3) := by decide +kernel
theorem dX2_readTrial_67 : decode cX2_readTrial 67 = .ok (.putfield 260, 3) := by decide +kernel
theorem dX2_readTrial_70 : decode cX2_readTrial 70 = .ok (.aload_n 1, 1) := by decide +kernel
theorem dX2_readTrial_71 : decode cX2_readTrial 71 = .ok (.aload_n 0, 1) := by decide +kernel
theorem dX2_readTrial_72 : decode cX2_readTrial 72 = .ok (.ldc_w 262, 3) := by decide +kernel
theorem dX2_readTrial_75 : decode cX2_readTrial 75 = .ok (.iconst 1, 1) := by decide +kernel
theorem dX2_readTrial_76 : decode cX2_readTrial 76 = .ok (.sipush 999, 3) := by decide +kernel
theorem dX2_readTrial_79 : decode cX2_readTrial 79 = .ok (.invokevirtual 161, 3) := by decide +kernel
theorem dX2_readTrial_82 : decode cX2_readTrial 82 = .ok (.putfield 264, 3) := by decide +kernel
theorem dX2_readTrial_85 : decode cX2_readTrial 85 = .ok (.return_, 1) := by decide +kernel
set_option maxRecDepth 20000 in
theorem ggX2_readStory_X2_measure : GoodIn wsX2_readStory wsX2_measure := goodIn_r _ [9, 10, 11, 12, 13, 14, 15, 16, 17, 18, 19, 20, 21, 22, 23, 24, 25, 26, 27, 28, 29, 30, 31, 32, 33, 34, 35, 36, 37, 38, 39, 40, 41, 42, 43, 44, 45, 46, 47, 48, 49, 50, 51, 52, 53, 54, 55, 56, 57, 58, 59, 60, 61, 62, 63, 64, 65, 66, 67, 68, 69, 70, 71, 8, 72, 73, 74, 75, 76, 77, 78, 79, 80, 81, 82, 83, 84, 85, 86, 87, 88, 89, 90, 91, 92, 102, 103, 104, 105, 106, 107, 108, 109, 110, 111, 112, 113, 114, 115] rfl (by decide +kernel)
set_option maxRecDepth 20000 in
theorem gX2_readStory_X2_measure : GoodIn wsX2_readStory (wsV RX2 161 RX2 yX2_measure wsX2_measure) := goodIn_app (goodIn_of _ (by decide +kernel)) ggX2_readStory_X2_measure
set_option maxRecDepth 20000 in
theorem ggX2_readStory_X2_choice : GoodIn wsX2_readStory wsX2_choice := goodIn_r _ [96, 10, 11, 12, 13, 14, 15, 16, 17, 18, 19, 20, 21, 22, 23, 24, 25, 26, 27, 28, 29, 30, 31, 32, 33, 34, 35, 36, 37, 38, 39, 40, 41, 42, 43, 44, 45, 46, 47, 48, 49, 50, 51, 52, 53, 54, 55, 56, 57, 58, 59, 60, 61, 62, 63, 64, 65, 66, 67, 68, 69, 70, 71, 8, 72, 73, 74, 75, 76, 77, 78, 79, 80, 81, 82, 83, 84, 85, 86, 102, 103, 104, 105, 106, 107, 108, 109, 110, 111, 112, 113, 114, 115] rfl (by decide +kernel)
set_option maxRecDepth 20000 in
theorem gX2_readStory_X2_choice : GoodIn wsX2_readStory (wsV RX2 151 RX2 yX2_choice wsX2_choice) := goodIn_app (goodIn_of _ (by decide +kernel)) ggX2_readStory_X2_choice
set_option maxRecDepth 20000 in
theorem ggX2_readStory_X2_whole : GoodIn wsX2_readStory wsX2_whole := goodIn_r _ [90, 10, 91, 92, 69, 70, 71, 8, 72, 73, 74, 75, 76, 77, 78, 14, 79, 80, 81, 82, 83, 19, 16, 84, 85, 86, 102, 103, 104, 105, 106, 107, 108, 109, 110, 111, 112, 113, 114, 115] rfl (by decide +kernel)
set_option maxRecDepth 20000 in
theorem gX2_readStory_X2_whole : GoodIn wsX2_readStory (wsV RX2 190 RX2 yX2_whole wsX2_whole) := goodIn_app (goodIn_of _ (by decide +kernel)) ggX2_readStory_X2_whole
theorem dX2_readStory_0 : decode cX2_readStory 0 = .ok (.aload_n 1, 1) := by decide +kernel
theorem dX2_readStory_1 : decode cX2_readStory 1 = .ok (.ifnonnull 4, 3) := by decide +kernel
theorem dX2_readStory_4 : decode cX2_readStory 4 = .ok (.return_, 1) := by decide +kernel
theorem dX2_readStory_5 : decode cX2_readStory 5 = .ok (.aload_n 1, 1) := by decide +kernel
theorem dX2_readStory_6 : decode cX2_readStory 6 = .ok (.aload_n 0, 1) := by decide +kernel
theorem dX2_readStory_7 : decode cX2_readStory 7 = .ok (.ldc 159, 2) := by decide +kernel
theorem dX2_readStory_9 : decode cX2_readStory 9 = .ok (.iconst 1, 1) := by decide +kernel
theorem dX2_readStory_10 : decode cX2_readStory 10 = .ok (.bipush 99, 2) := by decide +kernel
theorem dX2_readStory_12 : decode cX2_readStory 12 = .ok (.invokevirtual 161, 3) := by decide +kernel
theorem dX2_readStory_15 : decode cX2_readStory 15 = .ok (.putfield 266, 3) := by decide +kernel
theorem dX2_readStory_18 : decode cX2_readStory 18 = .ok (.aload_n 1, 1) := by decide +kernel
theorem dX2_readStory_19 : decode cX2_readStory 19 = .ok (.aload_n 0, 1) := by decide +kernel
theorem dX2_readStory_20 : decode cX2_readStory 20 = .ok (.ldc_w 269, 3) := by decide +kernel
theorem dX2_readStory_23 : decode cX2_readStory 23 = .ok (.invokevirtual 151, 3) := by decide +kernel
theorem dX2_readStory_26 : decode cX2_readStory 26 = .ok (.putfield 271, 3) := by decide +kernel
theorem dX2_readStory_29 : decode cX2_readStory 29 = .ok (.aload_n 1, 1) := by decide +kernel
theorem dX2_readStory_30 : decode cX2_readStory 30 = .ok (.aload_n 0, 1) := by decide +kernel
theorem dX2_readStory_31 : decode cX2_readStory 31 = .ok (.iconst 0, 1) := by decide +kernel
theorem dX2_readStory_32 : decode cX2_readStory 32 = .ok (.aload_n 1, 1) := by decide +kernel
theorem dX2_readStory_33 : decode cX2_readStory 33 = .ok (.getfield 271, 3) := by decide +kernel
theorem dX2_readStory_36 : decode cX2_readStory 36 = .ok (.ifCond .ne 8, 3) := by decide +kernel
theorem dX2_readStory_39 : decode cX2_readStory 39 = .ok (.bipush 99, 2) := by decide +kernel
theorem dX2_readStory_41 : decode cX2_readStory 41 = .ok (.goto 5, 3) := by decide +kernel
theorem dX2_readStory_44 : decode cX2_readStory 44 = .ok (.bipush 100, 2) := by decide +kernel
theorem dX2_readStory_46 : decode cX2_readStory 46 = .ok (.invokevirtual 190, 3) := by decide +kernel
theorem dX2_readStory_49 : decode cX2_readStory 49 = .ok (.putfield 274, 3) := by decide +kernel
theorem dX2_readStory_52 : decode cX2_readStory 52 = .ok (.aload_n 1, 1) := by decide +kernel
theorem dX2_readStory_53 : decode cX2_readStory 53 = .ok (.getfield 271, 3) := by decide +kernel
theorem dX2_readStory_56 : decode cX2_readStory 56 = .ok (.iconst 2, 1) := by decide +kernel
theorem dX2_readStory_57 : decode cX2_readStory 57 = .ok (.if_icmp .ne 17, 3) := by decide +kernel
theorem dX2_readStory_60 : decode cX2_readStory 60 = .ok (.aload_n 1, 1) := by decide +kernel
theorem dX2_readStory_61 : decode cX2_readStory 61 = .ok (.aload_n 0, 1) := by decide +kernel
theorem dX2_readStory_62 : decode cX2_readStory 62 = .ok (.ldc_w 277, 3) := by decide +kernel
theorem dX2_readStory_65 : decode cX2_readStory 65 = .ok (.iconst 1, 1) := by decide +kernel
theorem dX2_readStory_66 : decode cX2_readStory 66 = .ok (.bipush 50, 2) := by decide +kernel
theorem dX2_readStory_68 : decode cX2_readStory 68 = .ok (.invokevirtual 161, 3) := by decide +kernel
theorem dX2_readStory_71 : decode cX2_readStory 71 = .ok (.putfield 279, 3) := by decide +kernel
theorem dX2_readStory_74 : decode cX2_readStory 74 = .ok (.return_, 1) := by decide +kernel
set_option maxRecDepth 20000 in
theorem ggX2_readTeller_X2_measure : GoodIn wsX2_readTeller wsX2_measure := goodIn_r _ [8, 2, 9, 10, 11, 12, 13, 14, 15, 16, 17, 18, 19, 20, 21, 22, 23, 24, 25, 26, 27, 28, 29, 30, 31, 32, 33, 34, 35, 36, 37, 38, 39, 40, 41, 42, 43, 44, 45, 46, 47, 48, 49, 50, 51, 52, 53, 54, 55, 56, 57, 58, 59, 60, 61, 62, 63, 64, 65, 66, 67, 68, 69, 7, 70, 71, 72, 73, 74, 75, 76, 77, 78, 79, 80, 81, 82, 83, 84, 85, 86, 87, 88, 89, 90, 138, 139, 140, 141, 142, 143, 144, 145, 146, 147, 148, 149, 150, 151] rfl (by decide +kernel)
set_option maxRecDepth 20000 in
theorem gX2_readTeller_X2_measure : GoodIn wsX2_readTeller (wsV RX2 161 RX2 yX2_measure wsX2_measure) := goodIn_app (goodIn_of _ (by decide +kernel)) ggX2_readTeller_X2_measure
set_option maxRecDepth 20000 in
theorem ggX2_readTeller_X2_choice : GoodIn wsX2_readTeller wsX2_choice := goodIn_r _ [94, 2, 9, 10, 11, 12, 13, 14, 15, 16, 17, 18, 19, 20, 21, 22, 23, 24, 25, 26, 27, 28, 29, 30, 31, 32, 33, 34, 35, 36, 37, 38, 39, 40, 41, 42, 43, 44, 45, 46, 47, 48, 49, 50, 51, 52, 53, 54, 55, 56, 57, 58, 59, 60, 61, 62, 63, 64, 65, 66, 67, 68, 69, 7, 70, 71, 72, 73, 74, 75, 76, 77, 78, 79, 80, 81, 82, 83, 84, 138, 139, 140, 141, 142, 143, 144, 145, 146, 147, 148, 149, 150, 151] rfl (by decide +kernel)
set_option maxRecDepth 20000 in
theorem gX2_readTeller_X2_choice : GoodIn wsX2_readTeller (wsV RX2 151 RX2 yX2_choice wsX2_choice) := goodIn_app (goodIn_of _ (by decide +kernel)) ggX2_readTeller_X2_choice
set_option maxRecDepth 20000 in
theorem ggX2_readTeller_X2_readMeant : GoodIn wsX2_readTeller wsX2_readMeant := goodIn_r _ [98, 2, 99, 100, 101, 7, 102, 103, 104, 105, 106, 107, 12, 108, 14, 9, 10, 11, 13, 15, 16, 17, 18, 19, 20, 21, 22, 23, 24, 25, 26, 27, 28, 29, 30, 31, 32, 33, 34, 35, 36, 37, 38, 39, 40, 41, 42, 43, 44, 45, 46, 47, 48, 49, 50, 51, 52, 53, 54, 55, 56, 57, 58, 59, 60, 61, 62, 63, 64, 65, 66, 67, 68, 69, 70, 71, 72, 73, 109, 110, 111, 112, 113, 114, 90, 115, 116, 117, 118, 119, 120, 121, 122, 123, 124, 125, 126, 127, 74, 75, 76, 77, 78, 79, 80, 81, 82, 83, 84, 138, 139, 140, 141, 142, 143, 144, 145, 146, 147, 148, 149, 150, 151, 136, 137] rfl (by decide +kernel)
set_option maxRecDepth 20000 in
theorem gX2_readTeller_X2_readMeant : GoodIn wsX2_readTeller (wsV RX2 290 RX2 yX2_readMeant wsX2_readMeant) := goodIn_app (goodIn_of _ (by decide +kernel)) ggX2_readTeller_X2_readMeant
set_option maxRecDepth 20000 in
theorem ggX2_readTeller_X2_passes : GoodIn wsX2_readTeller wsX2_passes := goodIn_r _ [131, 2, 132, 133, 134, 12, 135, 14, 17, 74, 75, 76, 77, 78, 79, 80, 81, 82, 83, 84, 138, 139, 140, 141, 142, 143, 144, 145, 146, 147, 148, 149, 150, 151] rfl (by decide +kernel)
set_option maxRecDepth 20000 in
theorem gX2_readTeller_X2_passes : GoodIn wsX2_readTeller (wsV RX2 51 RX2 yX2_passes wsX2_passes) := goodIn_app (goodIn_of _ (by decide +kernel)) ggX2_readTeller_X2_passes
set_option maxRecDepth 20000 in
theorem ggX2_readTeller_X7_among : GoodIn wsX2_readTeller wsX7_among := goodIn_r _ [13, 14, 15, 16, 17, 18, 19, 20, 21, 22, 23, 24, 25, 26, 27, 28, 29, 30, 31, 32, 33, 34, 35, 36, 37, 38, 39, 40, 41, 42, 43, 44, 45, 46, 47, 48, 49, 50, 51, 52, 53, 54, 55, 56, 57, 58, 59, 60, 61, 62, 63, 64, 65, 66, 145, 146, 147, 148, 149, 150, 151] rfl (by decide +kernel)
set_option maxRecDepth 20000 in
theorem gX2_readTeller_X7_among : GoodIn wsX2_readTeller (wsV RX2 67 RX7 yX7_among wsX7_among) := goodIn_app (goodIn_of _ (by decide +kernel)) ggX2_readTeller_X7_among
set_option maxRecDepth 20000 in
theorem ggX2_readTeller_X7_advance : GoodIn wsX2_readTeller wsX7_advance := goodIn_r _ [77, 78, 79, 80, 81, 17, 14, 82, 83, 12, 84, 145, 146, 147, 148, 149, 150, 151] rfl (by decide +kernel)
set_option maxRecDepth 20000 in
theorem gX2_readTeller_X7_advance : GoodIn wsX2_readTeller (wsV RX2 75 RX7 yX7_advance wsX7_advance) := goodIn_app (goodIn_of _ (by decide +kernel)) ggX2_readTeller_X7_advance
theorem dX2_readTeller_0 : decode cX2_readTeller 0 = .ok (.aload_n 1, 1) := by decide +kernel
theorem dX2_readTeller_1 : decode cX2_readTeller 1 = .ok (.ifnonnull 4, 3) := by decide +kernel
theorem dX2_readTeller_4 : decode cX2_readTeller 4 = .ok (.return_, 1) := by decide +kernel
theorem dX2_readTeller_5 : decode cX2_readTeller 5 = .ok (.aload_n 0, 1) := by decide +kernel
theorem dX2_readTeller_6 : decode cX2_readTeller 6 = .ok (.ldc_w 281, 3) := by decide +kernel
theorem dX2_readTeller_9 : decode cX2_readTeller 9 = .ok (.iconst 0, 1) := by decide +kernel
theorem dX2_readTeller_10 : decode cX2_readTeller 10 = .ok (.sipush 999, 3) := by decide +kernel
theorem dX2_readTeller_13 : decode cX2_readTeller 13 = .ok (.invokevirtual 161, 3) := by decide +kernel
theorem dX2_readTeller_16 : decode cX2_readTeller 16 = .ok (.pop, 1) := by decide +kernel
theorem dX2_readTeller_17 : decode cX2_readTeller 17 = .ok (.aload_n 0, 1) := by decide +kernel
theorem dX2_readTeller_18 : decode cX2_readTeller 18 = .ok (.ldc_w 283, 3) := by decide +kernel
theorem dX2_readTeller_21 : decode cX2_readTeller 21 = .ok (.invokevirtual 151, 3) := by decide +kernel
theorem dX2_readTeller_24 : decode cX2_readTeller 24 = .ok (.pop, 1) := by decide +kernel
theorem dX2_readTeller_25 : decode cX2_readTeller 25 = .ok (.aload_n 1, 1) := by decide +kernel
theorem dX2_readTeller_26 : decode cX2_readTeller 26 = .ok (.iconst 0, 1) := by decide +kernel
theorem dX2_readTeller_27 : decode cX2_readTeller 27 = .ok (.putfield 285, 3) := by decide +kernel
theorem dX2_readTeller_30 : decode cX2_readTeller 30 = .ok (.iconst 1, 1) := by decide +kernel
theorem dX2_readTeller_31 : decode cX2_readTeller 31 = .ok (.istore_n 2, 1) := by decide +kernel
theorem dX2_readTeller_32 : decode cX2_readTeller 32 = .ok (.iconst 0, 1) := by decide +kernel
theorem dX2_readTeller_33 : decode cX2_readTeller 33 = .ok (.istore_n 3, 1) := by decide +kernel
theorem dX2_readTeller_34 : decode cX2_readTeller 34 = .ok (.iload_n 3, 1) := by decide +kernel
theorem dX2_readTeller_35 : decode cX2_readTeller 35 = .ok (.iconst 4, 1) := by decide +kernel
theorem dX2_readTeller_36 : decode cX2_readTeller 36 = .ok (.if_icmp .gt 25, 3) := by decide +kernel
theorem dX2_readTeller_39 : decode cX2_readTeller 39 = .ok (.iload_n 2, 1) := by decide +kernel
theorem dX2_readTeller_40 : decode cX2_readTeller 40 = .ok (.ifCond .eq 21, 3) := by decide +kernel
theorem dX2_readTeller_43 : decode cX2_readTeller 43 = .ok (.aload_n 0, 1) := by decide +kernel
theorem dX2_readTeller_44 : decode cX2_readTeller 44 = .ok (.aload_n 1, 1) := by decide +kernel
theorem dX2_readTeller_45 : decode cX2_readTeller 45 = .ok (.invokevirtual 290, 3) := by decide +kernel
theorem dX2_readTeller_48 : decode cX2_readTeller 48 = .ok (.aload_n 0, 1) := by decide +kernel
theorem dX2_readTeller_49 : decode cX2_readTeller 49 = .ok (.bipush 44, 2) := by decide +kernel
theorem dX2_readTeller_51 : decode cX2_readTeller 51 = .ok (.invokevirtual 51, 3) := by decide +kernel
theorem dX2_readTeller_54 : decode cX2_readTeller 54 = .ok (.istore_n 2, 1) := by decide +kernel
theorem dX2_readTeller_55 : decode cX2_readTeller 55 = .ok (.iinc 3 1, 3) := by decide +kernel
theorem dX2_readTeller_58 : decode cX2_readTeller 58 = .ok (.goto (-24), 3) := by decide +kernel
theorem dX2_readTeller_61 : decode cX2_readTeller 61 = .ok (.aload_n 1, 1) := by decide +kernel
theorem dX2_readTeller_62 : decode cX2_readTeller 62 = .ok (.aload_n 0, 1) := by decide +kernel
theorem dX2_readTeller_63 : decode cX2_readTeller 63 = .ok (.getfield 22, 3) := by decide +kernel
theorem dX2_readTeller_66 : decode cX2_readTeller 66 = .ok (.ldc_w 293, 3) := by decide +kernel
theorem dX2_readTeller_69 : decode cX2_readTeller 69 = .ok (.invokevirtual 67, 3) := by decide +kernel
theorem dX2_readTeller_72 : decode cX2_readTeller 72 = .ok (.iconst (-1), 1) := by decide +kernel
theorem dX2_readTeller_73 : decode cX2_readTeller 73 = .ok (.if_icmp .eq 7, 3) := by decide +kernel
theorem dX2_readTeller_76 : decode cX2_readTeller 76 = .ok (.iconst 1, 1) := by decide +kernel
theorem dX2_readTeller_77 : decode cX2_readTeller 77 = .ok (.goto 4, 3) := by decide +kernel
theorem dX2_readTeller_80 : decode cX2_readTeller 80 = .ok (.iconst 0, 1) := by decide +kernel
theorem dX2_readTeller_81 : decode cX2_readTeller 81 = .ok (.putfield 295, 3) := by decide +kernel
theorem dX2_readTeller_84 : decode cX2_readTeller 84 = .ok (.aload_n 1, 1) := by decide +kernel
theorem dX2_readTeller_85 : decode cX2_readTeller 85 = .ok (.getfield 295, 3) := by decide +kernel
theorem dX2_readTeller_88 : decode cX2_readTeller 88 = .ok (.ifCond .eq 10, 3) := by decide +kernel
theorem dX2_readTeller_91 : decode cX2_readTeller 91 = .ok (.aload_n 0, 1) := by decide +kernel
theorem dX2_readTeller_92 : decode cX2_readTeller 92 = .ok (.getfield 22, 3) := by decide +kernel
theorem dX2_readTeller_95 : decode cX2_readTeller 95 = .ok (.invokevirtual 75, 3) := by decide +kernel
theorem dX2_readTeller_98 : decode cX2_readTeller 98 = .ok (.return_, 1) := by decide +kernel
set_option maxRecDepth 20000 in
theorem ggX2_readMeant_X2_toldName : GoodIn wsX2_readMeant wsX2_toldName := goodIn_r _ [6, 1, 7, 8, 9, 10, 11, 12, 13, 14, 15, 16, 17, 18, 19, 20, 21, 22, 23, 24, 25, 26, 27, 28, 29, 30, 31, 32, 33, 34, 35, 36, 37, 38, 39, 40, 41, 42, 43, 44, 45, 46, 47, 48, 49, 50, 51, 52, 53, 54, 55, 56, 57, 58, 59, 60, 61, 62, 63, 64, 65, 66, 67, 68, 69, 70, 71, 72, 73, 5, 74, 75, 76, 77, 78, 79, 80, 81, 82, 83, 84, 85, 86, 87, 109, 110, 111, 112, 113, 114, 115, 116, 117, 118, 119, 120, 121, 122] rfl (by decide +kernel)
set_option maxRecDepth 20000 in
theorem gX2_readMeant_X2_toldName : GoodIn wsX2_readMeant (wsV RX2 235 RX2 yX2_toldName wsX2_toldName) := goodIn_app (goodIn_of _ (by decide +kernel)) ggX2_readMeant_X2_toldName
set_option maxRecDepth 20000 in
theorem ggX2_readMeant_X8_means : GoodIn wsX2_readMeant wsX8_means := goodIn_r _ [92, 93, 123, 124] rfl (by decide +kernel)
set_option maxRecDepth 20000 in
theorem gX2_readMeant_X8_means : GoodIn wsX2_readMeant (wsV RX2 298 RX8 yX8_means wsX8_means) := goodIn_app (goodIn_of _ (by decide +kernel)) ggX2_readMeant_X8_means
set_option maxRecDepth 20000 in
theorem ggX2_readMeant_X2_fail : GoodIn wsX2_readMeant wsX2_fail := goodIn_r _ [74, 75, 1, 76, 77, 109, 110, 111, 112, 113, 114, 115, 116, 117, 118, 119, 120, 121, 122] rfl (by decide +kernel)
set_option maxRecDepth 20000 in
theorem gX2_readMeant_X2_fail : GoodIn wsX2_readMeant (wsV RX2 58 RX2 yX2_fail wsX2_fail) := goodIn_app (goodIn_of _ (by decide +kernel)) ggX2_readMeant_X2_fail
set_option maxRecDepth 20000 in
theorem ggX2_readMeant_X8_add : GoodIn wsX2_readMeant wsX8_add := goodIn_r _ [97, 93, 123, 124] rfl (by decide +kernel)
set_option maxRecDepth 20000 in
theorem gX2_readMeant_X8_add : GoodIn wsX2_readMeant (wsV RX2 301 RX8 yX8_add wsX8_add) := goodIn_app (goodIn_of _ (by decide +kernel)) ggX2_readMeant_X8_add
set_option maxRecDepth 20000 in
theorem ggX2_readMeant_X7_advance : GoodIn wsX2_readMeant wsX7_advance := goodIn_r _ [101, 102, 103, 104, 105, 21, 14, 106, 107, 12, 108, 116, 117, 118, 119, 120, 121, 122] rfl (by decide +kernel)
set_option maxRecDepth 20000 in
theorem gX2_readMeant_X7_advance : GoodIn wsX2_readMeant (wsV RX2 75 RX7 yX7_advance wsX7_advance) := goodIn_app (goodIn_of _ (by decide +kernel)) ggX2_readMeant_X7_advance
theorem dX2_readMeant_0 : decode cX2_readMeant 0 = .ok (.aload_n 0, 1) := by decide +kernel
theorem dX2_readMeant_1 : decode cX2_readMeant 1 = .ok (.iconst 0, 1) := by decide +kernel
theorem dX2_readMeant_2 : decode cX2_readMeant 2 = .ok (.invokevirtual 235, 3) := by decide +kernel
theorem dX2_readMeant_5 : decode cX2_readMeant 5 = .ok (.istore_n 2, 1) := by decide +kernel
theorem dX2_readMeant_6 : decode cX2_readMeant 6 = .ok (.aload_n 1, 1) := by decide +kernel
theorem dX2_readMeant_7 : decode cX2_readMeant 7 = .ok (.iload_n 2, 1) := by decide +kernel
theorem dX2_readMeant_8 : decode cX2_readMeant 8 = .ok (.invokevirtual 298, 3) := by decide +kernel
theorem dX2_readMeant_11 : decode cX2_readMeant 11 = .ok (.ifCond .eq 8, 3) := by decide +kernel
theorem dX2_readMeant_14 : decode cX2_readMeant 14 = .ok (.aload_n 0, 1) := by decide +kernel
theorem dX2_readMeant_15 : decode cX2_readMeant 15 = .ok (.iconst 3, 1) := by decide +kernel
theorem dX2_readMeant_16 : decode cX2_readMeant 16 = .ok (.invokevirtual 58, 3) := by decide +kernel
theorem dX2_readMeant_19 : decode cX2_readMeant 19 = .ok (.aload_n 1, 1) := by decide +kernel
theorem dX2_readMeant_20 : decode cX2_readMeant 20 = .ok (.iload_n 2, 1) := by decide +kernel
theorem dX2_readMeant_21 : decode cX2_readMeant 21 = .ok (.invokevirtual 301, 3) := by decide +kernel
theorem dX2_readMeant_24 : decode cX2_readMeant 24 = .ok (.aload_n 0, 1) := by decide +kernel
theorem dX2_readMeant_25 : decode cX2_readMeant 25 = .ok (.getfield 22, 3) := by decide +kernel
theorem dX2_readMeant_28 : decode cX2_readMeant 28 = .ok (.invokevirtual 75, 3) := by decide +kernel
theorem dX2_readMeant_31 : decode cX2_readMeant 31 = .ok (.return_, 1) := by decide +kernel
set_option maxRecDepth 20000 in
theorem ggX2_readLand_X2_measure : GoodIn wsX2_readLand wsX2_measure := goodIn_r _ [8, 9, 10, 11, 12, 13, 14, 15, 16, 17, 18, 19, 20, 21, 22, 23, 24, 25, 26, 27, 28, 29, 30, 31, 32, 33, 34, 35, 36, 37, 38, 39, 40, 41, 42, 43, 44, 45, 46, 47, 48, 49, 50, 51, 52, 53, 54, 55, 56, 57, 58, 59, 60, 61, 62, 63, 64, 65, 66, 67, 68, 69, 70, 7, 71, 72, 73, 74, 75, 76, 77, 78, 79, 80, 81, 82, 83, 84, 85, 86, 87, 88, 89, 90, 91, 109, 110, 111, 112, 113, 114, 115, 116, 117, 118, 119, 120, 121, 122] rfl (by decide +kernel)
set_option maxRecDepth 20000 in
theorem gX2_readLand_X2_measure : GoodIn wsX2_readLand (wsV RX2 161 RX2 yX2_measure wsX2_measure) := goodIn_app (goodIn_of _ (by decide +kernel)) ggX2_readLand_X2_measure
theorem dX2_readLand_0 : decode cX2_readLand 0 = .ok (.aload_n 1, 1) := by decide +kernel
theorem dX2_readLand_1 : decode cX2_readLand 1 = .ok (.aload_n 0, 1) := by decide +kernel
theorem dX2_readLand_2 : decode cX2_readLand 2 = .ok (.ldc_w 302, 3) := by decide +kernel
theorem dX2_readLand_5 : decode cX2_readLand 5 = .ok (.iconst 0, 1) := by decide +kernel
theorem dX2_readLand_6 : decode cX2_readLand 6 = .ok (.sipush 999, 3) := by decide +kernel
theorem dX2_readLand_9 : decode cX2_readLand 9 = .ok (.invokevirtual 161, 3) := by decide +kernel
theorem dX2_readLand_12 : decode cX2_readLand 12 = .ok (.putfield 304, 3) := by decide +kernel
theorem dX2_readLand_15 : decode cX2_readLand 15 = .ok (.aload_n 1, 1) := by decide +kernel
theorem dX2_readLand_16 : decode cX2_readLand 16 = .ok (.aload_n 0, 1) := by decide +kernel
theorem dX2_readLand_17 : decode cX2_readLand 17 = .ok (.ldc_w 306, 3) := by decide +kernel
theorem dX2_readLand_20 : decode cX2_readLand 20 = .ok (.iconst 0, 1) := by decide +kernel
theorem dX2_readLand_21 : decode cX2_readLand 21 = .ok (.bipush 50, 2) := by decide +kernel
theorem dX2_readLand_23 : decode cX2_readLand 23 = .ok (.invokevirtual 161, 3) := by decide +kernel
theorem dX2_readLand_26 : decode cX2_readLand 26 = .ok (.putfield 308, 3) := by decide +kernel
theorem dX2_readLand_29 : decode cX2_readLand 29 = .ok (.aload_n 1, 1) := by decide +kernel
theorem dX2_readLand_30 : decode cX2_readLand 30 = .ok (.aload_n 0, 1) := by decide +kernel
theorem dX2_readLand_31 : decode cX2_readLand 31 = .ok (.ldc 254, 2) := by decide +kernel
theorem dX2_readLand_33 : decode cX2_readLand 33 = .ok (.iconst 0, 1) := by decide +kernel
theorem dX2_readLand_34 : decode cX2_readLand 34 = .ok (.sipush 999, 3) := by decide +kernel
theorem dX2_readLand_37 : decode cX2_readLand 37 = .ok (.invokevirtual 161, 3) := by decide +kernel
theorem dX2_readLand_40 : decode cX2_readLand 40 = .ok (.putfield 310, 3) := by decide +kernel
theorem dX2_readLand_43 : decode cX2_readLand 43 = .ok (.return_, 1) := by decide +kernel
set_option maxRecDepth 20000 in
theorem ggX2_readFields_X2_whole : GoodIn wsX2_readFields wsX2_whole := goodIn_r _ [7, 8, 9, 10, 11, 12, 13, 6, 14, 15, 16, 17, 18, 19, 20, 21, 22, 23, 24, 25, 26, 27, 28, 29, 30, 31, 108, 109, 110, 111, 112, 113, 114, 115, 116, 117, 118, 119, 120, 121] rfl (by decide +kernel)
set_option maxRecDepth 20000 in
theorem gX2_readFields_X2_whole : GoodIn wsX2_readFields (wsV RX2 190 RX2 yX2_whole wsX2_whole) := goodIn_app (goodIn_of _ (by decide +kernel)) ggX2_readFields_X2_whole
set_option maxRecDepth 20000 in
theorem ggX2_readFields_X2_measure : GoodIn wsX2_readFields wsX2_measure := goodIn_r _ [35, 8, 36, 37, 38, 21, 39, 28, 40, 41, 27, 42, 43, 44, 45, 46, 47, 48, 49, 50, 51, 52, 53, 54, 55, 56, 57, 58, 59, 60, 61, 62, 63, 64, 65, 66, 67, 68, 69, 70, 71, 72, 73, 74, 75, 76, 77, 78, 79, 80, 81, 82, 83, 84, 85, 86, 87, 88, 89, 90, 11, 12, 13, 6, 14, 15, 16, 17, 18, 19, 20, 22, 23, 24, 25, 26, 29, 30, 31, 3, 4, 5, 7, 9, 10, 108, 109, 110, 111, 112, 113, 114, 115, 116, 117, 118, 119, 120, 121] rfl (by decide +kernel)
set_option maxRecDepth 20000 in
theorem gX2_readFields_X2_measure : GoodIn wsX2_readFields (wsV RX2 161 RX2 yX2_measure wsX2_measure) := goodIn_app (goodIn_of _ (by decide +kernel)) ggX2_readFields_X2_measure
theorem dX2_readFields_0 : decode cX2_readFields 0 = .ok (.aload_n 1, 1) := by decide +kernel
theorem dX2_readFields_1 : decode cX2_readFields 1 = .ok (.aload_n 0, 1) := by decide +kernel
theorem dX2_readFields_2 : decode cX2_readFields 2 = .ok (.iconst 0, 1) := by decide +kernel
theorem dX2_readFields_3 : decode cX2_readFields 3 = .ok (.sipush 999, 3) := by decide +kernel
theorem dX2_readFields_6 : decode cX2_readFields 6 = .ok (.invokevirtual 190, 3) := by decide +kernel
theorem dX2_readFields_9 : decode cX2_readFields 9 = .ok (.putfield 311, 3) := by decide +kernel
theorem dX2_readFields_12 : decode cX2_readFields 12 = .ok (.aload_n 1, 1) := by decide +kernel
theorem dX2_readFields_13 : decode cX2_readFields 13 = .ok (.aload_n 0, 1) := by decide +kernel
theorem dX2_readFields_14 : decode cX2_readFields 14 = .ok (.ldc_w 314, 3) := by decide +kernel
theorem dX2_readFields_17 : decode cX2_readFields 17 = .ok (.iconst 0, 1) := by decide +kernel
theorem dX2_readFields_18 : decode cX2_readFields 18 = .ok (.bipush 99, 2) := by decide +kernel
theorem dX2_readFields_20 : decode cX2_readFields 20 = .ok (.invokevirtual 161, 3) := by decide +kernel
theorem dX2_readFields_23 : decode cX2_readFields 23 = .ok (.putfield 316, 3) := by decide +kernel
theorem dX2_readFields_26 : decode cX2_readFields 26 = .ok (.return_, 1) := by decide +kernel
set_option maxRecDepth 20000 in
theorem ggX2_readHouses_X2_whole : GoodIn wsX2_readHouses wsX2_whole := goodIn_r _ [8, 9, 10, 11, 12, 13, 14, 7, 15, 16, 17, 18, 19, 20, 21, 22, 23, 24, 25, 26, 27, 28, 29, 30, 31, 32, 109, 110, 111, 112, 113, 114, 115, 116, 117, 118, 119, 120, 121, 122] rfl (by decide +kernel)
set_option maxRecDepth 20000 in
theorem gX2_readHouses_X2_whole : GoodIn wsX2_readHouses (wsV RX2 190 RX2 yX2_whole wsX2_whole) := goodIn_app (goodIn_of _ (by decide +kernel)) ggX2_readHouses_X2_whole
set_option maxRecDepth 20000 in
theorem ggX2_readHouses_X2_measure : GoodIn wsX2_readHouses wsX2_measure := goodIn_r _ [36, 9, 37, 38, 39, 22, 40, 29, 41, 42, 28, 43, 44, 45, 46, 47, 48, 49, 50, 51, 52, 53, 54, 55, 56, 57, 58, 59, 60, 61, 62, 63, 64, 65, 66, 67, 68, 69, 70, 71, 72, 73, 74, 75, 76, 77, 78, 79, 80, 81, 82, 83, 84, 85, 86, 87, 88, 89, 90, 91, 12, 13, 14, 7, 15, 16, 17, 18, 19, 20, 21, 23, 24, 25, 26, 27, 30, 31, 32, 4, 5, 6, 8, 10, 11, 109, 110, 111, 112, 113, 114, 115, 116, 117, 118, 119, 120, 121, 122] rfl (by decide +kernel)
set_option maxRecDepth 20000 in
theorem gX2_readHouses_X2_measure : GoodIn wsX2_readHouses (wsV RX2 161 RX2 yX2_measure wsX2_measure) := goodIn_app (goodIn_of _ (by decide +kernel)) ggX2_readHouses_X2_measure
theorem dX2_readHouses_0 : decode cX2_readHouses 0 = .ok (.aload_n 1, 1) := by decide +kernel
theorem dX2_readHouses_1 : decode cX2_readHouses 1 = .ok (.aload_n 0, 1) := by decide +kernel
theorem dX2_readHouses_2 : decode cX2_readHouses 2 = .ok (.iconst 0, 1) := by decide +kernel
theorem dX2_readHouses_3 : decode cX2_readHouses 3 = .ok (.sipush 999, 3) := by decide +kernel
theorem dX2_readHouses_6 : decode cX2_readHouses 6 = .ok (.invokevirtual 190, 3) := by decide +kernel
theorem dX2_readHouses_9 : decode cX2_readHouses 9 = .ok (.putfield 318, 3) := by decide +kernel
theorem dX2_readHouses_12 : decode cX2_readHouses 12 = .ok (.aload_n 1, 1) := by decide +kernel
theorem dX2_readHouses_13 : decode cX2_readHouses 13 = .ok (.aload_n 0, 1) := by decide +kernel
theorem dX2_readHouses_14 : decode cX2_readHouses 14 = .ok (.ldc_w 321, 3) := by decide +kernel
theorem dX2_readHouses_17 : decode cX2_readHouses 17 = .ok (.iconst 0, 1) := by decide +kernel
theorem dX2_readHouses_18 : decode cX2_readHouses 18 = .ok (.bipush 20, 2) := by decide +kernel
theorem dX2_readHouses_20 : decode cX2_readHouses 20 = .ok (.invokevirtual 161, 3) := by decide +kernel
theorem dX2_readHouses_23 : decode cX2_readHouses 23 = .ok (.putfield 323, 3) := by decide +kernel
theorem dX2_readHouses_26 : decode cX2_readHouses 26 = .ok (.aload_n 1, 1) := by decide +kernel
theorem dX2_readHouses_27 : decode cX2_readHouses 27 = .ok (.aload_n 0, 1) := by decide +kernel
theorem dX2_readHouses_28 : decode cX2_readHouses 28 = .ok (.ldc_w 326, 3) := by decide +kernel
theorem dX2_readHouses_31 : decode cX2_readHouses 31 = .ok (.aload_n 1, 1) := by decide +kernel
theorem dX2_readHouses_32 : decode cX2_readHouses 32 = .ok (.getfield 323, 3) := by decide +kernel
theorem dX2_readHouses_35 : decode cX2_readHouses 35 = .ok (.bipush 40, 2) := by decide +kernel
theorem dX2_readHouses_37 : decode cX2_readHouses 37 = .ok (.invokevirtual 161, 3) := by decide +kernel
theorem dX2_readHouses_40 : decode cX2_readHouses 40 = .ok (.putfield 328, 3) := by decide +kernel
theorem dX2_readHouses_43 : decode cX2_readHouses 43 = .ok (.return_, 1) := by decide +kernel
theorem dX2_fail_0 : decode cX2_fail 0 = .ok (.aload_n 0, 1) := by decide +kernel
theorem dX2_fail_1 : decode cX2_fail 1 = .ok (.getfield 26, 3) := by decide +kernel
theorem dX2_fail_4 : decode cX2_fail 4 = .ok (.ifCond .ne 19, 3) := by decide +kernel
theorem dX2_fail_7 : decode cX2_fail 7 = .ok (.aload_n 0, 1) := by decide +kernel
theorem dX2_fail_8 : decode cX2_fail 8 = .ok (.iload_n 1, 1) := by decide +kernel
theorem dX2_fail_9 : decode cX2_fail 9 = .ok (.putfield 26, 3) := by decide +kernel
theorem dX2_fail_12 : decode cX2_fail 12 = .ok (.aload_n 0, 1) := by decide +kernel
theorem dX2_fail_13 : decode cX2_fail 13 = .ok (.aload_n 0, 1) := by decide +kernel
theorem dX2_fail_14 : decode cX2_fail 14 = .ok (.getfield 22, 3) := by decide +kernel
theorem dX2_fail_17 : decode cX2_fail 17 = .ok (.getfield 331, 3) := by decide +kernel
theorem dX2_fail_20 : decode cX2_fail 20 = .ok (.putfield 30, 3) := by decide +kernel
theorem dX2_fail_23 : decode cX2_fail 23 = .ok (.return_, 1) := by decide +kernel
set_option maxRecDepth 20000 in
theorem ggX2_passes_X7_isSign : GoodIn wsX2_passes wsX7_isSign := goodIn_r _ [6, 7, 8, 27, 28, 29, 30, 31, 32, 33] rfl (by decide +kernel)
set_option maxRecDepth 20000 in
theorem gX2_passes_X7_isSign : GoodIn wsX2_passes (wsV RX2 334 RX7 yX7_isSign wsX7_isSign) := goodIn_app (goodIn_of _ (by decide +kernel)) ggX2_passes_X7_isSign
set_option maxRecDepth 20000 in
theorem ggX2_passes_X7_advance : GoodIn wsX2_passes wsX7_advance := goodIn_r _ [12, 13, 14, 15, 16, 8, 7, 17, 18, 5, 19, 27, 28, 29, 30, 31, 32, 33] rfl (by decide +kernel)
set_option maxRecDepth 20000 in
theorem gX2_passes_X7_advance : GoodIn wsX2_passes (wsV RX2 75 RX7 yX7_advance wsX7_advance) := goodIn_app (goodIn_of _ (by decide +kernel)) ggX2_passes_X7_advance
theorem dX2_passes_0 : decode cX2_passes 0 = .ok (.aload_n 0, 1) := by decide +kernel
theorem dX2_passes_1 : decode cX2_passes 1 = .ok (.getfield 22, 3) := by decide +kernel
theorem dX2_passes_4 : decode cX2_passes 4 = .ok (.iload_n 1, 1) := by decide +kernel
theorem dX2_passes_5 : decode cX2_passes 5 = .ok (.invokevirtual 334, 3) := by decide +kernel
theorem dX2_passes_8 : decode cX2_passes 8 = .ok (.istore_n 2, 1) := by decide +kernel
theorem dX2_passes_9 : decode cX2_passes 9 = .ok (.iload_n 2, 1) := by decide +kernel
theorem dX2_passes_10 : decode cX2_passes 10 = .ok (.ifCond .eq 10, 3) := by decide +kernel
theorem dX2_passes_13 : decode cX2_passes 13 = .ok (.aload_n 0, 1) := by decide +kernel
theorem dX2_passes_14 : decode cX2_passes 14 = .ok (.getfield 22, 3) := by decide +kernel
theorem dX2_passes_17 : decode cX2_passes 17 = .ok (.invokevirtual 75, 3) := by decide +kernel
theorem dX2_passes_20 : decode cX2_passes 20 = .ok (.iload_n 2, 1) := by decide +kernel
theorem dX2_passes_21 : decode cX2_passes 21 = .ok (.ireturn, 1) := by decide +kernel
set_option maxRecDepth 20000 in
theorem ggX2_choice_X7_among : GoodIn wsX2_choice wsX7_among := goodIn_r _ [6, 7, 8, 9, 10, 11, 12, 13, 14, 15, 16, 17, 18, 19, 20, 21, 22, 23, 24, 25, 26, 27, 28, 29, 30, 31, 32, 33, 34, 35, 36, 37, 38, 39, 40, 41, 42, 43, 44, 45, 46, 47, 48, 49, 50, 51, 52, 53, 54, 55, 56, 57, 58, 59, 86, 87, 88, 89, 90, 91, 92] rfl (by decide +kernel)
set_option maxRecDepth 20000 in
theorem gX2_choice_X7_among : GoodIn wsX2_choice (wsV RX2 67 RX7 yX7_among wsX7_among) := goodIn_app (goodIn_of _ (by decide +kernel)) ggX2_choice_X7_among
set_option maxRecDepth 20000 in
theorem ggX2_choice_X2_fail : GoodIn wsX2_choice wsX2_fail := goodIn_r _ [64, 65, 1, 66, 67, 79, 80, 81, 82, 83, 84, 85, 86, 87, 88, 89, 90, 91, 92] rfl (by decide +kernel)
set_option maxRecDepth 20000 in
theorem gX2_choice_X2_fail : GoodIn wsX2_choice (wsV RX2 58 RX2 yX2_fail wsX2_fail) := goodIn_app (goodIn_of _ (by decide +kernel)) ggX2_choice_X2_fail
set_option maxRecDepth 20000 in
theorem ggX2_choice_X7_advance : GoodIn wsX2_choice wsX7_advance := goodIn_r _ [71, 72, 73, 74, 75, 10, 7, 76, 77, 5, 78, 86, 87, 88, 89, 90, 91, 92] rfl (by decide +kernel)
set_option maxRecDepth 20000 in
theorem gX2_choice_X7_advance : GoodIn wsX2_choice (wsV RX2 75 RX7 yX7_advance wsX7_advance) := goodIn_app (goodIn_of _ (by decide +kernel)) ggX2_choice_X7_advance
theorem dX2_choice_0 : decode cX2_choice 0 = .ok (.aload_n 0, 1) := by decide +kernel
theorem dX2_choice_1 : decode cX2_choice 1 = .ok (.getfield 22, 3) := by decide +kernel
theorem dX2_choice_4 : decode cX2_choice 4 = .ok (.aload_n 1, 1) := by decide +kernel
theorem dX2_choice_5 : decode cX2_choice 5 = .ok (.invokevirtual 67, 3) := by decide +kernel
theorem dX2_choice_8 : decode cX2_choice 8 = .ok (.istore_n 2, 1) := by decide +kernel
theorem dX2_choice_9 : decode cX2_choice 9 = .ok (.iload_n 2, 1) := by decide +kernel
theorem dX2_choice_10 : decode cX2_choice 10 = .ok (.iconst (-1), 1) := by decide +kernel
theorem dX2_choice_11 : decode cX2_choice 11 = .ok (.if_icmp .ne 8, 3) := by decide +kernel
theorem dX2_choice_14 : decode cX2_choice 14 = .ok (.aload_n 0, 1) := by decide +kernel
theorem dX2_choice_15 : decode cX2_choice 15 = .ok (.iconst 1, 1) := by decide +kernel
theorem dX2_choice_16 : decode cX2_choice 16 = .ok (.invokevirtual 58, 3) := by decide +kernel
theorem dX2_choice_19 : decode cX2_choice 19 = .ok (.aload_n 0, 1) := by decide +kernel
theorem dX2_choice_20 : decode cX2_choice 20 = .ok (.getfield 22, 3) := by decide +kernel
theorem dX2_choice_23 : decode cX2_choice 23 = .ok (.invokevirtual 75, 3) := by decide +kernel
theorem dX2_choice_26 : decode cX2_choice 26 = .ok (.iload_n 2, 1) := by decide +kernel
theorem dX2_choice_27 : decode cX2_choice 27 = .ok (.ireturn, 1) := by decide +kernel
set_option maxRecDepth 20000 in
theorem ggX2_measure_X7_among : GoodIn wsX2_measure wsX7_among := goodIn_r _ [6, 7, 8, 9, 10, 11, 12, 13, 14, 15, 16, 17, 18, 19, 20, 21, 22, 23, 24, 25, 26, 27, 28, 29, 30, 31, 32, 33, 34, 35, 36, 37, 38, 39, 40, 41, 42, 43, 44, 45, 46, 47, 48, 49, 50, 51, 52, 53, 54, 55, 56, 57, 58, 59, 92, 93, 94, 95, 96, 97, 98] rfl (by decide +kernel)
set_option maxRecDepth 20000 in
theorem gX2_measure_X7_among : GoodIn wsX2_measure (wsV RX2 67 RX7 yX7_among wsX7_among) := goodIn_app (goodIn_of _ (by decide +kernel)) ggX2_measure_X7_among
set_option maxRecDepth 20000 in
theorem ggX2_measure_X2_fail : GoodIn wsX2_measure wsX2_fail := goodIn_r _ [64, 65, 1, 66, 67, 85, 86, 87, 88, 89, 90, 91, 92, 93, 94, 95, 96, 97, 98] rfl (by decide +kernel)
set_option maxRecDepth 20000 in
theorem gX2_measure_X2_fail : GoodIn wsX2_measure (wsV RX2 58 RX2 yX2_fail wsX2_fail) := goodIn_app (goodIn_of _ (by decide +kernel)) ggX2_measure_X2_fail
set_option maxRecDepth 20000 in
theorem ggX2_measure_X7_advance : GoodIn wsX2_measure wsX7_advance := goodIn_r _ [71, 72, 73, 74, 75, 10, 7, 76, 77, 5, 78, 92, 93, 94, 95, 96, 97, 98] rfl (by decide +kernel)
set_option maxRecDepth 20000 in
theorem gX2_measure_X7_advance : GoodIn wsX2_measure (wsV RX2 75 RX7 yX7_advance wsX7_advance) := goodIn_app (goodIn_of _ (by decide +kernel)) ggX2_measure_X7_advance
set_option maxRecDepth 20000 in
theorem ggX2_measure_X2_whole : GoodIn wsX2_measure wsX2_whole := goodIn_r _ [82, 1, 83, 84, 60, 61, 62, 63, 64, 65, 66, 67, 68, 69, 70, 5, 71, 72, 73, 74, 75, 10, 7, 76, 77, 78, 85, 86, 87, 88, 89, 90, 91, 92, 93, 94, 95, 96, 97, 98] rfl (by decide +kernel)
set_option maxRecDepth 20000 in
theorem gX2_measure_X2_whole : GoodIn wsX2_measure (wsV RX2 190 RX2 yX2_whole wsX2_whole) := goodIn_app (goodIn_of _ (by decide +kernel)) ggX2_measure_X2_whole
theorem dX2_measure_0 : decode cX2_measure 0 = .ok (.aload_n 0, 1) := by decide +kernel
theorem dX2_measure_1 : decode cX2_measure 1 = .ok (.getfield 22, 3) := by decide +kernel
theorem dX2_measure_4 : decode cX2_measure 4 = .ok (.aload_n 1, 1) := by decide +kernel
theorem dX2_measure_5 : decode cX2_measure 5 = .ok (.invokevirtual 67, 3) := by decide +kernel
theorem dX2_measure_8 : decode cX2_measure 8 = .ok (.iconst (-1), 1) := by decide +kernel
theorem dX2_measure_9 : decode cX2_measure 9 = .ok (.if_icmp .ne 8, 3) := by decide +kernel
theorem dX2_measure_12 : decode cX2_measure 12 = .ok (.aload_n 0, 1) := by decide +kernel
theorem dX2_measure_13 : decode cX2_measure 13 = .ok (.iconst 1, 1) := by decide +kernel
theorem dX2_measure_14 : decode cX2_measure 14 = .ok (.invokevirtual 58, 3) := by decide +kernel
theorem dX2_measure_17 : decode cX2_measure 17 = .ok (.aload_n 0, 1) := by decide +kernel
theorem dX2_measure_18 : decode cX2_measure 18 = .ok (.getfield 22, 3) := by decide +kernel
theorem dX2_measure_21 : decode cX2_measure 21 = .ok (.invokevirtual 75, 3) := by decide +kernel
theorem dX2_measure_24 : decode cX2_measure 24 = .ok (.aload_n 0, 1) := by decide +kernel
theorem dX2_measure_25 : decode cX2_measure 25 = .ok (.iload_n 2, 1) := by decide +kernel
theorem dX2_measure_26 : decode cX2_measure 26 = .ok (.iload_n 3, 1) := by decide +kernel
theorem dX2_measure_27 : decode cX2_measure 27 = .ok (.invokevirtual 190, 3) := by decide +kernel
theorem dX2_measure_30 : decode cX2_measure 30 = .ok (.ireturn, 1) := by decide +kernel
set_option maxRecDepth 20000 in
theorem ggX2_whole_X2_fail : GoodIn wsX2_whole wsX2_fail := goodIn_r _ [8, 9, 1, 10, 11, 26, 27, 28, 29, 30, 31, 32, 33, 34, 35, 36, 37, 38, 39] rfl (by decide +kernel)
set_option maxRecDepth 20000 in
theorem gX2_whole_X2_fail : GoodIn wsX2_whole (wsV RX2 58 RX2 yX2_fail wsX2_fail) := goodIn_app (goodIn_of _ (by decide +kernel)) ggX2_whole_X2_fail
set_option maxRecDepth 20000 in
theorem ggX2_whole_X7_advance : GoodIn wsX2_whole wsX7_advance := goodIn_r _ [16, 17, 18, 19, 20, 21, 22, 23, 24, 15, 25, 33, 34, 35, 36, 37, 38, 39] rfl (by decide +kernel)
set_option maxRecDepth 20000 in
theorem gX2_whole_X7_advance : GoodIn wsX2_whole (wsV RX2 75 RX7 yX7_advance wsX7_advance) := goodIn_app (goodIn_of _ (by decide +kernel)) ggX2_whole_X7_advance
theorem dX2_whole_0 : decode cX2_whole 0 = .ok (.aload_n 0, 1) := by decide +kernel
theorem dX2_whole_1 : decode cX2_whole 1 = .ok (.getfield 22, 3) := by decide +kernel
theorem dX2_whole_4 : decode cX2_whole 4 = .ok (.getfield 55, 3) := by decide +kernel
theorem dX2_whole_7 : decode cX2_whole 7 = .ok (.iconst 2, 1) := by decide +kernel
theorem dX2_whole_8 : decode cX2_whole 8 = .ok (.if_icmp .eq 10, 3) := by decide +kernel
theorem dX2_whole_11 : decode cX2_whole 11 = .ok (.aload_n 0, 1) := by decide +kernel
theorem dX2_whole_12 : decode cX2_whole 12 = .ok (.iconst 1, 1) := by decide +kernel
theorem dX2_whole_13 : decode cX2_whole 13 = .ok (.invokevirtual 58, 3) := by decide +kernel
theorem dX2_whole_16 : decode cX2_whole 16 = .ok (.iconst (-1), 1) := by decide +kernel
theorem dX2_whole_17 : decode cX2_whole 17 = .ok (.ireturn, 1) := by decide +kernel
theorem dX2_whole_18 : decode cX2_whole 18 = .ok (.aload_n 0, 1) := by decide +kernel
theorem dX2_whole_19 : decode cX2_whole 19 = .ok (.getfield 22, 3) := by decide +kernel
theorem dX2_whole_22 : decode cX2_whole 22 = .ok (.getfield 337, 3) := by decide +kernel
theorem dX2_whole_25 : decode cX2_whole 25 = .ok (.l2i, 1) := by decide +kernel
theorem dX2_whole_26 : decode cX2_whole 26 = .ok (.istore_n 3, 1) := by decide +kernel
theorem dX2_whole_27 : decode cX2_whole 27 = .ok (.iload_n 3, 1) := by decide +kernel
theorem dX2_whole_28 : decode cX2_whole 28 = .ok (.iload_n 1, 1) := by decide +kernel
theorem dX2_whole_29 : decode cX2_whole 29 = .ok (.if_icmp .lt 8, 3) := by decide +kernel
theorem dX2_whole_32 : decode cX2_whole 32 = .ok (.iload_n 3, 1) := by decide +kernel
theorem dX2_whole_33 : decode cX2_whole 33 = .ok (.iload_n 2, 1) := by decide +kernel
theorem dX2_whole_34 : decode cX2_whole 34 = .ok (.if_icmp .le 8, 3) := by decide +kernel
theorem dX2_whole_37 : decode cX2_whole 37 = .ok (.aload_n 0, 1) := by decide +kernel
theorem dX2_whole_38 : decode cX2_whole 38 = .ok (.iconst 4, 1) := by decide +kernel
theorem dX2_whole_39 : decode cX2_whole 39 = .ok (.invokevirtual 58, 3) := by decide +kernel
theorem dX2_whole_42 : decode cX2_whole 42 = .ok (.aload_n 0, 1) := by decide +kernel
theorem dX2_whole_43 : decode cX2_whole 43 = .ok (.getfield 22, 3) := by decide +kernel
theorem dX2_whole_46 : decode cX2_whole 46 = .ok (.invokevirtual 75, 3) := by decide +kernel
theorem dX2_whole_49 : decode cX2_whole 49 = .ok (.iload_n 3, 1) := by decide +kernel
theorem dX2_whole_50 : decode cX2_whole 50 = .ok (.ireturn, 1) := by decide +kernel
set_option maxRecDepth 20000 in
theorem ggX2_tellName_X7_isWord : GoodIn wsX2_tellName wsX7_isWord := goodIn_r _ [11, 12, 99, 100, 101, 102, 103, 104, 105] rfl (by decide +kernel)
set_option maxRecDepth 20000 in
theorem gX2_tellName_X7_isWord : GoodIn wsX2_tellName (wsV RX2 341 RX7 yX7_isWord wsX7_isWord) := goodIn_app (goodIn_of _ (by decide +kernel)) ggX2_tellName_X7_isWord
set_option maxRecDepth 20000 in
theorem ggX2_tellName_X7_among : GoodIn wsX2_tellName wsX7_among := goodIn_r _ [16, 12, 17, 18, 19, 20, 21, 22, 23, 24, 25, 26, 27, 28, 29, 30, 31, 32, 33, 34, 35, 36, 37, 38, 39, 40, 41, 42, 43, 44, 45, 46, 47, 48, 49, 50, 51, 52, 53, 54, 55, 56, 57, 58, 59, 60, 61, 62, 63, 64, 65, 66, 67, 68, 99, 100, 101, 102, 103, 104, 105] rfl (by decide +kernel)
set_option maxRecDepth 20000 in
theorem gX2_tellName_X7_among : GoodIn wsX2_tellName (wsV RX2 67 RX7 yX7_among wsX7_among) := goodIn_app (goodIn_of _ (by decide +kernel)) ggX2_tellName_X7_among
set_option maxRecDepth 20000 in
theorem ggX2_tellName_X2_fail : GoodIn wsX2_tellName wsX2_fail := goodIn_r _ [73, 74, 1, 75, 76, 92, 93, 94, 95, 96, 97, 98, 99, 100, 101, 102, 103, 104, 105] rfl (by decide +kernel)
set_option maxRecDepth 20000 in
theorem gX2_tellName_X2_fail : GoodIn wsX2_tellName (wsV RX2 58 RX2 yX2_fail wsX2_fail) := goodIn_app (goodIn_of _ (by decide +kernel)) ggX2_tellName_X2_fail
set_option maxRecDepth 20000 in
theorem ggX2_tellName_X2_findName : GoodIn wsX2_tellName wsX2_findName := goodIn_r _ [80, 2, 3, 1, 4, 92, 93, 94, 95, 96, 97, 98, 99, 100, 101, 102, 103, 104, 105] rfl (by decide +kernel)
set_option maxRecDepth 20000 in
theorem gX2_tellName_X2_findName : GoodIn wsX2_tellName (wsV RX2 346 RX2 yX2_findName wsX2_findName) := goodIn_app (goodIn_of _ (by decide +kernel)) ggX2_tellName_X2_findName
set_option maxRecDepth 20000 in
theorem ggX2_tellName_X7_advance : GoodIn wsX2_tellName wsX7_advance := goodIn_r _ [84, 85, 86, 87, 88, 19, 12, 89, 90, 10, 91, 99, 100, 101, 102, 103, 104, 105] rfl (by decide +kernel)
set_option maxRecDepth 20000 in
theorem gX2_tellName_X7_advance : GoodIn wsX2_tellName (wsV RX2 75 RX7 yX7_advance wsX7_advance) := goodIn_app (goodIn_of _ (by decide +kernel)) ggX2_tellName_X7_advance
theorem dX2_tellName_0 : decode cX2_tellName 0 = .ok (.aload_n 0, 1) := by decide +kernel
theorem dX2_tellName_1 : decode cX2_tellName 1 = .ok (.getfield 22, 3) := by decide +kernel
theorem dX2_tellName_4 : decode cX2_tellName 4 = .ok (.invokevirtual 341, 3) := by decide +kernel
theorem dX2_tellName_7 : decode cX2_tellName 7 = .ok (.ifCond .eq 17, 3) := by decide +kernel
theorem dX2_tellName_10 : decode cX2_tellName 10 = .ok (.aload_n 0, 1) := by decide +kernel
theorem dX2_tellName_11 : decode cX2_tellName 11 = .ok (.getfield 22, 3) := by decide +kernel
theorem dX2_tellName_14 : decode cX2_tellName 14 = .ok (.ldc_w 344, 3) := by decide +kernel
theorem dX2_tellName_17 : decode cX2_tellName 17 = .ok (.invokevirtual 67, 3) := by decide +kernel
theorem dX2_tellName_20 : decode cX2_tellName 20 = .ok (.iconst (-1), 1) := by decide +kernel
theorem dX2_tellName_21 : decode cX2_tellName 21 = .ok (.if_icmp .eq 11, 3) := by decide +kernel
theorem dX2_tellName_24 : decode cX2_tellName 24 = .ok (.aload_n 0, 1) := by decide +kernel
theorem dX2_tellName_25 : decode cX2_tellName 25 = .ok (.iconst 1, 1) := by decide +kernel
theorem dX2_tellName_26 : decode cX2_tellName 26 = .ok (.invokevirtual 58, 3) := by decide +kernel
theorem dX2_tellName_29 : decode cX2_tellName 29 = .ok (.goto 77, 3) := by decide +kernel
theorem dX2_tellName_32 : decode cX2_tellName 32 = .ok (.aload_n 0, 1) := by decide +kernel
theorem dX2_tellName_33 : decode cX2_tellName 33 = .ok (.invokevirtual 346, 3) := by decide +kernel
theorem dX2_tellName_36 : decode cX2_tellName 36 = .ok (.iconst (-1), 1) := by decide +kernel
theorem dX2_tellName_37 : decode cX2_tellName 37 = .ok (.if_icmp .eq 11, 3) := by decide +kernel
theorem dX2_tellName_40 : decode cX2_tellName 40 = .ok (.aload_n 0, 1) := by decide +kernel
theorem dX2_tellName_41 : decode cX2_tellName 41 = .ok (.iconst 3, 1) := by decide +kernel
theorem dX2_tellName_42 : decode cX2_tellName 42 = .ok (.invokevirtual 58, 3) := by decide +kernel
theorem dX2_tellName_45 : decode cX2_tellName 45 = .ok (.goto 61, 3) := by decide +kernel
theorem dX2_tellName_48 : decode cX2_tellName 48 = .ok (.aload_n 0, 1) := by decide +kernel
theorem dX2_tellName_49 : decode cX2_tellName 49 = .ok (.getfield 33, 3) := by decide +kernel
theorem dX2_tellName_52 : decode cX2_tellName 52 = .ok (.aload_n 0, 1) := by decide +kernel
theorem dX2_tellName_53 : decode cX2_tellName 53 = .ok (.getfield 9, 3) := by decide +kernel
theorem dX2_tellName_56 : decode cX2_tellName 56 = .ok (.arraylength, 1) := by decide +kernel
theorem dX2_tellName_57 : decode cX2_tellName 57 = .ok (.if_icmp .ge 49, 3) := by decide +kernel
theorem dX2_tellName_60 : decode cX2_tellName 60 = .ok (.aload_n 0, 1) := by decide +kernel
theorem dX2_tellName_61 : decode cX2_tellName 61 = .ok (.getfield 9, 3) := by decide +kernel
theorem dX2_tellName_64 : decode cX2_tellName 64 = .ok (.aload_n 0, 1) := by decide +kernel
theorem dX2_tellName_65 : decode cX2_tellName 65 = .ok (.getfield 33, 3) := by decide +kernel
theorem dX2_tellName_68 : decode cX2_tellName 68 = .ok (.aload_n 0, 1) := by decide +kernel
theorem dX2_tellName_69 : decode cX2_tellName 69 = .ok (.getfield 22, 3) := by decide +kernel
theorem dX2_tellName_72 : decode cX2_tellName 72 = .ok (.getfield 337, 3) := by decide +kernel
theorem dX2_tellName_75 : decode cX2_tellName 75 = .ok (.lastore, 1) := by decide +kernel
theorem dX2_tellName_76 : decode cX2_tellName 76 = .ok (.aload_n 0, 1) := by decide +kernel
theorem dX2_tellName_77 : decode cX2_tellName 77 = .ok (.getfield 15, 3) := by decide +kernel
theorem dX2_tellName_80 : decode cX2_tellName 80 = .ok (.aload_n 0, 1) := by decide +kernel
theorem dX2_tellName_81 : decode cX2_tellName 81 = .ok (.getfield 33, 3) := by decide +kernel
theorem dX2_tellName_84 : decode cX2_tellName 84 = .ok (.iload_n 1, 1) := by decide +kernel
theorem dX2_tellName_85 : decode cX2_tellName 85 = .ok (.iastore, 1) := by decide +kernel
theorem dX2_tellName_86 : decode cX2_tellName 86 = .ok (.aload_n 0, 1) := by decide +kernel
theorem dX2_tellName_87 : decode cX2_tellName 87 = .ok (.getfield 19, 3) := by decide +kernel
theorem dX2_tellName_90 : decode cX2_tellName 90 = .ok (.aload_n 0, 1) := by decide +kernel
theorem dX2_tellName_91 : decode cX2_tellName 91 = .ok (.getfield 33, 3) := by decide +kernel
theorem dX2_tellName_94 : decode cX2_tellName 94 = .ok (.iload_n 2, 1) := by decide +kernel
theorem dX2_tellName_95 : decode cX2_tellName 95 = .ok (.iastore, 1) := by decide +kernel
theorem dX2_tellName_96 : decode cX2_tellName 96 = .ok (.aload_n 0, 1) := by decide +kernel
theorem dX2_tellName_97 : decode cX2_tellName 97 = .ok (.dup, 1) := by decide +kernel
theorem dX2_tellName_98 : decode cX2_tellName 98 = .ok (.getfield 33, 3) := by decide +kernel
theorem dX2_tellName_101 : decode cX2_tellName 101 = .ok (.iconst 1, 1) := by decide +kernel
theorem dX2_tellName_102 : decode cX2_tellName 102 = .ok (.iadd, 1) := by decide +kernel
theorem dX2_tellName_103 : decode cX2_tellName 103 = .ok (.putfield 33, 3) := by decide +kernel
theorem dX2_tellName_106 : decode cX2_tellName 106 = .ok (.aload_n 0, 1) := by decide +kernel
theorem dX2_tellName_107 : decode cX2_tellName 107 = .ok (.getfield 22, 3) := by decide +kernel
theorem dX2_tellName_110 : decode cX2_tellName 110 = .ok (.invokevirtual 75, 3) := by decide +kernel
theorem dX2_tellName_113 : decode cX2_tellName 113 = .ok (.return_, 1) := by decide +kernel
set_option maxRecDepth 20000 in
theorem ggX2_toldName_X7_isWord : GoodIn wsX2_toldName wsX7_isWord := goodIn_r _ [8, 9, 91, 92, 93, 94, 95, 96, 97] rfl (by decide +kernel)
set_option maxRecDepth 20000 in
theorem gX2_toldName_X7_isWord : GoodIn wsX2_toldName (wsV RX2 341 RX7 yX7_isWord wsX7_isWord) := goodIn_app (goodIn_of _ (by decide +kernel)) ggX2_toldName_X7_isWord
set_option maxRecDepth 20000 in
theorem ggX2_toldName_X7_among : GoodIn wsX2_toldName wsX7_among := goodIn_r _ [13, 9, 14, 15, 16, 17, 18, 19, 20, 21, 22, 23, 24, 25, 26, 27, 28, 29, 30, 31, 32, 33, 34, 35, 36, 37, 38, 39, 40, 41, 42, 43, 44, 45, 46, 47, 48, 49, 50, 51, 52, 53, 54, 55, 56, 57, 58, 59, 60, 61, 62, 63, 64, 65, 91, 92, 93, 94, 95, 96, 97] rfl (by decide +kernel)
set_option maxRecDepth 20000 in
theorem gX2_toldName_X7_among : GoodIn wsX2_toldName (wsV RX2 67 RX7 yX7_among wsX7_among) := goodIn_app (goodIn_of _ (by decide +kernel)) ggX2_toldName_X7_among
set_option maxRecDepth 20000 in
theorem ggX2_toldName_X2_fail : GoodIn wsX2_toldName wsX2_fail := goodIn_r _ [70, 71, 1, 72, 73, 84, 85, 86, 87, 88, 89, 90, 91, 92, 93, 94, 95, 96, 97] rfl (by decide +kernel)
set_option maxRecDepth 20000 in
theorem gX2_toldName_X2_fail : GoodIn wsX2_toldName (wsV RX2 58 RX2 yX2_fail wsX2_fail) := goodIn_app (goodIn_of _ (by decide +kernel)) ggX2_toldName_X2_fail
set_option maxRecDepth 20000 in
theorem ggX2_toldName_X2_findName : GoodIn wsX2_toldName wsX2_findName := goodIn_r _ [77, 78, 79, 1, 80, 84, 85, 86, 87, 88, 89, 90, 91, 92, 93, 94, 95, 96, 97] rfl (by decide +kernel)
set_option maxRecDepth 20000 in
theorem gX2_toldName_X2_findName : GoodIn wsX2_toldName (wsV RX2 346 RX2 yX2_findName wsX2_findName) := goodIn_app (goodIn_of _ (by decide +kernel)) ggX2_toldName_X2_findName
set_option maxRecDepth 20000 in
theorem ggX2_toldName_X11_entry : GoodIn wsX2_toldName wsX11_entry := goodIn_r _ [83] rfl (by decide +kernel)
set_option maxRecDepth 20000 in
theorem gX2_toldName_X11_entry_n349 : GoodIn wsX2_toldName (wsX11_entry) := ggX2_toldName_X11_entry
theorem dX2_toldName_0 : decode cX2_toldName 0 = .ok (.aload_n 0, 1) := by decide +kernel
theorem dX2_toldName_1 : decode cX2_toldName 1 = .ok (.getfield 22, 3) := by decide +kernel
theorem dX2_toldName_4 : decode cX2_toldName 4 = .ok (.invokevirtual 341, 3) := by decide +kernel
theorem dX2_toldName_7 : decode cX2_toldName 7 = .ok (.ifCond .eq 17, 3) := by decide +kernel
theorem dX2_toldName_10 : decode cX2_toldName 10 = .ok (.aload_n 0, 1) := by decide +kernel
theorem dX2_toldName_11 : decode cX2_toldName 11 = .ok (.getfield 22, 3) := by decide +kernel
theorem dX2_toldName_14 : decode cX2_toldName 14 = .ok (.ldc_w 344, 3) := by decide +kernel
theorem dX2_toldName_17 : decode cX2_toldName 17 = .ok (.invokevirtual 67, 3) := by decide +kernel
theorem dX2_toldName_20 : decode cX2_toldName 20 = .ok (.iconst (-1), 1) := by decide +kernel
theorem dX2_toldName_21 : decode cX2_toldName 21 = .ok (.if_icmp .eq 10, 3) := by decide +kernel
theorem dX2_toldName_24 : decode cX2_toldName 24 = .ok (.aload_n 0, 1) := by decide +kernel
theorem dX2_toldName_25 : decode cX2_toldName 25 = .ok (.iconst 1, 1) := by decide +kernel
theorem dX2_toldName_26 : decode cX2_toldName 26 = .ok (.invokevirtual 58, 3) := by decide +kernel
theorem dX2_toldName_29 : decode cX2_toldName 29 = .ok (.iconst (-1), 1) := by decide +kernel
theorem dX2_toldName_30 : decode cX2_toldName 30 = .ok (.ireturn, 1) := by decide +kernel
theorem dX2_toldName_31 : decode cX2_toldName 31 = .ok (.aload_n 0, 1) := by decide +kernel
theorem dX2_toldName_32 : decode cX2_toldName 32 = .ok (.invokevirtual 346, 3) := by decide +kernel
theorem dX2_toldName_35 : decode cX2_toldName 35 = .ok (.istore_n 2, 1) := by decide +kernel
theorem dX2_toldName_36 : decode cX2_toldName 36 = .ok (.iload_n 2, 1) := by decide +kernel
theorem dX2_toldName_37 : decode cX2_toldName 37 = .ok (.iconst (-1), 1) := by decide +kernel
theorem dX2_toldName_38 : decode cX2_toldName 38 = .ok (.if_icmp .eq 15, 3) := by decide +kernel
theorem dX2_toldName_41 : decode cX2_toldName 41 = .ok (.aload_n 0, 1) := by decide +kernel
theorem dX2_toldName_42 : decode cX2_toldName 42 = .ok (.getfield 15, 3) := by decide +kernel
theorem dX2_toldName_45 : decode cX2_toldName 45 = .ok (.iload_n 2, 1) := by decide +kernel
theorem dX2_toldName_46 : decode cX2_toldName 46 = .ok (.invokestatic 349, 3) := by decide +kernel
theorem dX2_toldName_49 : decode cX2_toldName 49 = .ok (.iload_n 1, 1) := by decide +kernel
theorem dX2_toldName_50 : decode cX2_toldName 50 = .ok (.if_icmp .eq 10, 3) := by decide +kernel
theorem dX2_toldName_53 : decode cX2_toldName 53 = .ok (.aload_n 0, 1) := by decide +kernel
theorem dX2_toldName_54 : decode cX2_toldName 54 = .ok (.iconst 2, 1) := by decide +kernel
theorem dX2_toldName_55 : decode cX2_toldName 55 = .ok (.invokevirtual 58, 3) := by decide +kernel
theorem dX2_toldName_58 : decode cX2_toldName 58 = .ok (.iconst (-1), 1) := by decide +kernel
theorem dX2_toldName_59 : decode cX2_toldName 59 = .ok (.ireturn, 1) := by decide +kernel
theorem dX2_toldName_60 : decode cX2_toldName 60 = .ok (.aload_n 0, 1) := by decide +kernel
theorem dX2_toldName_61 : decode cX2_toldName 61 = .ok (.getfield 19, 3) := by decide +kernel
theorem dX2_toldName_64 : decode cX2_toldName 64 = .ok (.iload_n 2, 1) := by decide +kernel
theorem dX2_toldName_65 : decode cX2_toldName 65 = .ok (.invokestatic 349, 3) := by decide +kernel
theorem dX2_toldName_68 : decode cX2_toldName 68 = .ok (.ireturn, 1) := by decide +kernel
theorem dX2_findName_0 : decode cX2_findName 0 = .ok (.iconst 0, 1) := by decide +kernel
theorem dX2_findName_1 : decode cX2_findName 1 = .ok (.istore_n 1, 1) := by decide +kernel
theorem dX2_findName_2 : decode cX2_findName 2 = .ok (.iload_n 1, 1) := by decide +kernel
theorem dX2_findName_3 : decode cX2_findName 3 = .ok (.aload_n 0, 1) := by decide +kernel
theorem dX2_findName_4 : decode cX2_findName 4 = .ok (.getfield 33, 3) := by decide +kernel
theorem dX2_findName_7 : decode cX2_findName 7 = .ok (.if_icmp .ge 37, 3) := by decide +kernel
theorem dX2_findName_10 : decode cX2_findName 10 = .ok (.iload_n 1, 1) := by decide +kernel
theorem dX2_findName_11 : decode cX2_findName 11 = .ok (.aload_n 0, 1) := by decide +kernel
theorem dX2_findName_12 : decode cX2_findName 12 = .ok (.getfield 9, 3) := by decide +kernel
theorem dX2_findName_15 : decode cX2_findName 15 = .ok (.arraylength, 1) := by decide +kernel
theorem dX2_findName_16 : decode cX2_findName 16 = .ok (.if_icmp .ge 28, 3) := by decide +kernel
theorem dX2_findName_19 : decode cX2_findName 19 = .ok (.aload_n 0, 1) := by decide +kernel
theorem dX2_findName_20 : decode cX2_findName 20 = .ok (.getfield 9, 3) := by decide +kernel
theorem dX2_findName_23 : decode cX2_findName 23 = .ok (.iload_n 1, 1) := by decide +kernel
theorem dX2_findName_24 : decode cX2_findName 24 = .ok (.laload, 1) := by decide +kernel
theorem dX2_findName_25 : decode cX2_findName 25 = .ok (.aload_n 0, 1) := by decide +kernel
theorem dX2_findName_26 : decode cX2_findName 26 = .ok (.getfield 22, 3) := by decide +kernel
theorem dX2_findName_29 : decode cX2_findName 29 = .ok (.getfield 337, 3) := by decide +kernel
theorem dX2_findName_32 : decode cX2_findName 32 = .ok (.lcmp, 1) := by decide +kernel
theorem dX2_findName_33 : decode cX2_findName 33 = .ok (.ifCond .ne 5, 3) := by decide +kernel
theorem dX2_findName_36 : decode cX2_findName 36 = .ok (.iload_n 1, 1) := by decide +kernel
theorem dX2_findName_37 : decode cX2_findName 37 = .ok (.ireturn, 1) := by decide +kernel
theorem dX2_findName_38 : decode cX2_findName 38 = .ok (.iinc 1 1, 3) := by decide +kernel
theorem dX2_findName_41 : decode cX2_findName 41 = .ok (.goto (-39), 3) := by decide +kernel
theorem dX2_findName_44 : decode cX2_findName 44 = .ok (.iconst (-1), 1) := by decide +kernel
theorem dX2_findName_45 : decode cX2_findName 45 = .ok (.ireturn, 1) := by decide +kernel
theorem dX3_init_0 : decode cX3_init 0 = .ok (.aload_n 0, 1) := by decide +kernel
theorem dX3_init_1 : decode cX3_init 1 = .ok (.invokespecial 3, 3) := by decide +kernel
theorem dX3_init_4 : decode cX3_init 4 = .ok (.aload_n 0, 1) := by decide +kernel
theorem dX3_init_5 : decode cX3_init 5 = .ok (.bipush 6, 2) := by decide +kernel
theorem dX3_init_7 : decode cX3_init 7 = .ok (.newarray .int, 2) := by decide +kernel
theorem dX3_init_9 : decode cX3_init 9 = .ok (.putfield 9, 3) := by decide +kernel
theorem dX3_init_12 : decode cX3_init 12 = .ok (.return_, 1) := by decide +kernel
theorem dX3_add_0 : decode cX3_add 0 = .ok (.aload_n 0, 1) := by decide +kernel
theorem dX3_add_1 : decode cX3_add 1 = .ok (.getfield 15, 3) := by decide +kernel
theorem dX3_add_4 : decode cX3_add 4 = .ok (.aload_n 0, 1) := by decide +kernel
theorem dX3_add_5 : decode cX3_add 5 = .ok (.getfield 9, 3) := by decide +kernel
theorem dX3_add_8 : decode cX3_add 8 = .ok (.arraylength, 1) := by decide +kernel
theorem dX3_add_9 : decode cX3_add 9 = .ok (.if_icmp .ge 23, 3) := by decide +kernel
theorem dX3_add_12 : decode cX3_add 12 = .ok (.aload_n 0, 1) := by decide +kernel
theorem dX3_add_13 : decode cX3_add 13 = .ok (.getfield 9, 3) := by decide +kernel
theorem dX3_add_16 : decode cX3_add 16 = .ok (.aload_n 0, 1) := by decide +kernel
theorem dX3_add_17 : decode cX3_add 17 = .ok (.getfield 15, 3) := by decide +kernel
theorem dX3_add_20 : decode cX3_add 20 = .ok (.iload_n 1, 1) := by decide +kernel
theorem dX3_add_21 : decode cX3_add 21 = .ok (.iastore, 1) := by decide +kernel
theorem dX3_add_22 : decode cX3_add 22 = .ok (.aload_n 0, 1) := by decide +kernel
theorem dX3_add_23 : decode cX3_add 23 = .ok (.dup, 1) := by decide +kernel
theorem dX3_add_24 : decode cX3_add 24 = .ok (.getfield 15, 3) := by decide +kernel
theorem dX3_add_27 : decode cX3_add 27 = .ok (.iconst 1, 1) := by decide +kernel
theorem dX3_add_28 : decode cX3_add 28 = .ok (.iadd, 1) := by decide +kernel
theorem dX3_add_29 : decode cX3_add 29 = .ok (.putfield 15, 3) := by decide +kernel
theorem dX3_add_32 : decode cX3_add 32 = .ok (.return_, 1) := by decide +kernel
set_option maxRecDepth 20000 in
theorem ggX3_slopeAt_X11_entry : GoodIn wsX3_slopeAt wsX11_entry := goodIn_r _ [4] rfl (by decide +kernel)
set_option maxRecDepth 20000 in
theorem gX3_slopeAt_X11_entry_n19 : GoodIn wsX3_slopeAt (wsX11_entry) := ggX3_slopeAt_X11_entry
theorem dX3_slopeAt_0 : decode cX3_slopeAt 0 = .ok (.aload_n 0, 1) := by decide +kernel
theorem dX3_slopeAt_1 : decode cX3_slopeAt 1 = .ok (.getfield 9, 3) := by decide +kernel
theorem dX3_slopeAt_4 : decode cX3_slopeAt 4 = .ok (.iload_n 1, 1) := by decide +kernel
theorem dX3_slopeAt_5 : decode cX3_slopeAt 5 = .ok (.invokestatic 19, 3) := by decide +kernel
theorem dX3_slopeAt_8 : decode cX3_slopeAt 8 = .ok (.ireturn, 1) := by decide +kernel
theorem dX4_init_0 : decode cX4_init 0 = .ok (.aload_n 0, 1) := by decide +kernel
theorem dX4_init_1 : decode cX4_init 1 = .ok (.invokespecial 3, 3) := by decide +kernel
theorem dX4_init_4 : decode cX4_init 4 = .ok (.aload_n 0, 1) := by decide +kernel
theorem dX4_init_5 : decode cX4_init 5 = .ok (.bipush 12, 2) := by decide +kernel
theorem dX4_init_7 : decode cX4_init 7 = .ok (.newarray .int, 2) := by decide +kernel
theorem dX4_init_9 : decode cX4_init 9 = .ok (.putfield 9, 3) := by decide +kernel
theorem dX4_init_12 : decode cX4_init 12 = .ok (.aload_n 0, 1) := by decide +kernel
theorem dX4_init_13 : decode cX4_init 13 = .ok (.bipush 12, 2) := by decide +kernel
theorem dX4_init_15 : decode cX4_init 15 = .ok (.newarray .int, 2) := by decide +kernel
theorem dX4_init_17 : decode cX4_init 17 = .ok (.putfield 15, 3) := by decide +kernel
theorem dX4_init_20 : decode cX4_init 20 = .ok (.aload_n 0, 1) := by decide +kernel
theorem dX4_init_21 : decode cX4_init 21 = .ok (.bipush 12, 2) := by decide +kernel
theorem dX4_init_23 : decode cX4_init 23 = .ok (.newarray .int, 2) := by decide +kernel
theorem dX4_init_25 : decode cX4_init 25 = .ok (.putfield 18, 3) := by decide +kernel
theorem dX4_init_28 : decode cX4_init 28 = .ok (.return_, 1) := by decide +kernel
theorem dX4_clear_0 : decode cX4_clear 0 = .ok (.aload_n 0, 1) := by decide +kernel
theorem dX4_clear_1 : decode cX4_clear 1 = .ok (.iconst 0, 1) := by decide +kernel
theorem dX4_clear_2 : decode cX4_clear 2 = .ok (.putfield 21, 3) := by decide +kernel
theorem dX4_clear_5 : decode cX4_clear 5 = .ok (.return_, 1) := by decide +kernel
theorem dX4_add_0 : decode cX4_add 0 = .ok (.aload_n 0, 1) := by decide +kernel
theorem dX4_add_1 : decode cX4_add 1 = .ok (.getfield 21, 3) := by decide +kernel
theorem dX4_add_4 : decode cX4_add 4 = .ok (.aload_n 0, 1) := by decide +kernel
theorem dX4_add_5 : decode cX4_add 5 = .ok (.getfield 9, 3) := by decide +kernel
theorem dX4_add_8 : decode cX4_add 8 = .ok (.arraylength, 1) := by decide +kernel
theorem dX4_add_9 : decode cX4_add 9 = .ok (.if_icmp .lt 5, 3) := by decide +kernel
theorem dX4_add_12 : decode cX4_add 12 = .ok (.iconst 0, 1) := by decide +kernel
theorem dX4_add_13 : decode cX4_add 13 = .ok (.ireturn, 1) := by decide +kernel
theorem dX4_add_14 : decode cX4_add 14 = .ok (.aload_n 0, 1) := by decide +kernel
theorem dX4_add_15 : decode cX4_add 15 = .ok (.getfield 9, 3) := by decide +kernel
theorem dX4_add_18 : decode cX4_add 18 = .ok (.aload_n 0, 1) := by decide +kernel
theorem dX4_add_19 : decode cX4_add 19 = .ok (.getfield 21, 3) := by decide +kernel
theorem dX4_add_22 : decode cX4_add 22 = .ok (.iload_n 1, 1) := by decide +kernel
theorem dX4_add_23 : decode cX4_add 23 = .ok (.iastore, 1) := by decide +kernel
theorem dX4_add_24 : decode cX4_add 24 = .ok (.aload_n 0, 1) := by decide +kernel
theorem dX4_add_25 : decode cX4_add 25 = .ok (.getfield 15, 3) := by decide +kernel
theorem dX4_add_28 : decode cX4_add 28 = .ok (.aload_n 0, 1) := by decide +kernel
theorem dX4_add_29 : decode cX4_add 29 = .ok (.getfield 21, 3) := by decide +kernel
theorem dX4_add_32 : decode cX4_add 32 = .ok (.iload_n 2, 1) := by decide +kernel
theorem dX4_add_33 : decode cX4_add 33 = .ok (.iastore, 1) := by decide +kernel
theorem dX4_add_34 : decode cX4_add 34 = .ok (.aload_n 0, 1) := by decide +kernel
theorem dX4_add_35 : decode cX4_add 35 = .ok (.getfield 18, 3) := by decide +kernel
theorem dX4_add_38 : decode cX4_add 38 = .ok (.aload_n 0, 1) := by decide +kernel
theorem dX4_add_39 : decode cX4_add 39 = .ok (.getfield 21, 3) := by decide +kernel
theorem dX4_add_42 : decode cX4_add 42 = .ok (.iload_n 3, 1) := by decide +kernel
theorem dX4_add_43 : decode cX4_add 43 = .ok (.iastore, 1) := by decide +kernel
theorem dX4_add_44 : decode cX4_add 44 = .ok (.aload_n 0, 1) := by decide +kernel
theorem dX4_add_45 : decode cX4_add 45 = .ok (.dup, 1) := by decide +kernel
theorem dX4_add_46 : decode cX4_add 46 = .ok (.getfield 21, 3) := by decide +kernel
theorem dX4_add_49 : decode cX4_add 49 = .ok (.iconst 1, 1) := by decide +kernel
theorem dX4_add_50 : decode cX4_add 50 = .ok (.iadd, 1) := by decide +kernel
theorem dX4_add_51 : decode cX4_add 51 = .ok (.putfield 21, 3) := by decide +kernel
theorem dX4_add_54 : decode cX4_add 54 = .ok (.iconst 1, 1) := by decide +kernel
theorem dX4_add_55 : decode cX4_add 55 = .ok (.ireturn, 1) := by decide +kernel
set_option maxRecDepth 20000 in
theorem ggX4_agreeing_X0_count : GoodIn wsX4_agreeing wsX0_count := goodIn_r _ [5, 6, 7, 8, 9, 34, 35, 36, 37, 38, 39, 40, 41, 42, 43, 44, 45, 46, 47, 48, 49, 50] rfl (by decide +kernel)
set_option maxRecDepth 20000 in
theorem gX4_agreeing_X0_count : GoodIn wsX4_agreeing (wsV RX4 25 RX0 yX0_count wsX0_count) := goodIn_app (goodIn_of _ (by decide +kernel)) ggX4_agreeing_X0_count
set_option maxRecDepth 20000 in
theorem ggX4_agreeing_X0_storyAt : GoodIn wsX4_agreeing wsX0_storyAt := goodIn_r _ [13, 6, 14, 34, 35, 36, 37, 38, 39, 40, 41, 42, 43, 44, 45, 46, 47, 48, 49, 50] rfl (by decide +kernel)
set_option maxRecDepth 20000 in
theorem gX4_agreeing_X0_storyAt : GoodIn wsX4_agreeing (wsV RX4 31 RX0 yX0_storyAt wsX0_storyAt) := goodIn_app (goodIn_of _ (by decide +kernel)) ggX4_agreeing_X0_storyAt
set_option maxRecDepth 20000 in
theorem ggX4_agreeing_X4_agrees : GoodIn wsX4_agreeing wsX4_agrees := goodIn_r _ [19, 20, 21, 22, 23, 24, 25, 26, 27, 7, 8, 9, 28, 29, 30, 31, 32, 33, 51, 52, 53, 54, 55, 56, 57, 58, 59] rfl (by decide +kernel)
set_option maxRecDepth 20000 in
theorem gX4_agreeing_X4_agrees : GoodIn wsX4_agreeing (wsV RX4 35 RX4 yX4_agrees wsX4_agrees) := goodIn_app (goodIn_of _ (by decide +kernel)) ggX4_agreeing_X4_agrees
theorem dX4_agreeing_0 : decode cX4_agreeing 0 = .ok (.iconst 0, 1) := by decide +kernel
theorem dX4_agreeing_1 : decode cX4_agreeing 1 = .ok (.istore_n 2, 1) := by decide +kernel
theorem dX4_agreeing_2 : decode cX4_agreeing 2 = .ok (.iconst 0, 1) := by decide +kernel
theorem dX4_agreeing_3 : decode cX4_agreeing 3 = .ok (.istore_n 3, 1) := by decide +kernel
theorem dX4_agreeing_4 : decode cX4_agreeing 4 = .ok (.iload_n 3, 1) := by decide +kernel
theorem dX4_agreeing_5 : decode cX4_agreeing 5 = .ok (.aload_n 1, 1) := by decide +kernel
theorem dX4_agreeing_6 : decode cX4_agreeing 6 = .ok (.iconst 4, 1) := by decide +kernel
theorem dX4_agreeing_7 : decode cX4_agreeing 7 = .ok (.invokevirtual 25, 3) := by decide +kernel
theorem dX4_agreeing_10 : decode cX4_agreeing 10 = .ok (.if_icmp .ge 36, 3) := by decide +kernel
theorem dX4_agreeing_13 : decode cX4_agreeing 13 = .ok (.aload_n 1, 1) := by decide +kernel
theorem dX4_agreeing_14 : decode cX4_agreeing 14 = .ok (.iload_n 3, 1) := by decide +kernel
theorem dX4_agreeing_15 : decode cX4_agreeing 15 = .ok (.invokevirtual 31, 3) := by decide +kernel
theorem dX4_agreeing_18 : decode cX4_agreeing 18 = .ok (.astore 4, 2) := by decide +kernel
theorem dX4_agreeing_20 : decode cX4_agreeing 20 = .ok (.aload 4, 2) := by decide +kernel
theorem dX4_agreeing_22 : decode cX4_agreeing 22 = .ok (.ifnull 18, 3) := by decide +kernel
theorem dX4_agreeing_25 : decode cX4_agreeing 25 = .ok (.aload_n 0, 1) := by decide +kernel
theorem dX4_agreeing_26 : decode cX4_agreeing 26 = .ok (.aload 4, 2) := by decide +kernel
theorem dX4_agreeing_28 : decode cX4_agreeing 28 = .ok (.invokevirtual 35, 3) := by decide +kernel
theorem dX4_agreeing_31 : decode cX4_agreeing 31 = .ok (.ifCond .eq 9, 3) := by decide +kernel
theorem dX4_agreeing_34 : decode cX4_agreeing 34 = .ok (.iload_n 2, 1) := by decide +kernel
theorem dX4_agreeing_35 : decode cX4_agreeing 35 = .ok (.iconst 1, 1) := by decide +kernel
theorem dX4_agreeing_36 : decode cX4_agreeing 36 = .ok (.iload_n 3, 1) := by decide +kernel
theorem dX4_agreeing_37 : decode cX4_agreeing 37 = .ok (.ishl, 1) := by decide +kernel
theorem dX4_agreeing_38 : decode cX4_agreeing 38 = .ok (.ior, 1) := by decide +kernel
theorem dX4_agreeing_39 : decode cX4_agreeing 39 = .ok (.istore_n 2, 1) := by decide +kernel
theorem dX4_agreeing_40 : decode cX4_agreeing 40 = .ok (.iinc 3 1, 3) := by decide +kernel
theorem dX4_agreeing_43 : decode cX4_agreeing 43 = .ok (.goto (-39), 3) := by decide +kernel
theorem dX4_agreeing_46 : decode cX4_agreeing 46 = .ok (.iload_n 2, 1) := by decide +kernel
theorem dX4_agreeing_47 : decode cX4_agreeing 47 = .ok (.ireturn, 1) := by decide +kernel
set_option maxRecDepth 20000 in
theorem ggX4_agrees_X11_entry : GoodIn wsX4_agrees wsX11_entry := goodIn_r _ [11] rfl (by decide +kernel)
set_option maxRecDepth 20000 in
theorem gX4_agrees_X11_entry_n39 : GoodIn wsX4_agrees (wsX11_entry) := ggX4_agrees_X11_entry
set_option maxRecDepth 20000 in
theorem ggX4_agrees_X6_treesIn : GoodIn wsX4_agrees wsX6_treesIn := goodIn_r _ [16, 17, 9, 10, 11, 22, 23, 24, 25, 26] rfl (by decide +kernel)
set_option maxRecDepth 20000 in
theorem gX4_agrees_X6_treesIn : GoodIn wsX4_agrees (wsV RX4 43 RX6 yX6_treesIn wsX6_treesIn) := goodIn_app (goodIn_of _ (by decide +kernel)) ggX4_agrees_X6_treesIn
theorem dX4_agrees_0 : decode cX4_agrees 0 = .ok (.iconst 0, 1) := by decide +kernel
theorem dX4_agrees_1 : decode cX4_agrees 1 = .ok (.istore_n 2, 1) := by decide +kernel
theorem dX4_agrees_2 : decode cX4_agrees 2 = .ok (.iload_n 2, 1) := by decide +kernel
theorem dX4_agrees_3 : decode cX4_agrees 3 = .ok (.aload_n 0, 1) := by decide +kernel
theorem dX4_agrees_4 : decode cX4_agrees 4 = .ok (.getfield 21, 3) := by decide +kernel
theorem dX4_agrees_7 : decode cX4_agrees 7 = .ok (.if_icmp .ge 46, 3) := by decide +kernel
theorem dX4_agrees_10 : decode cX4_agrees 10 = .ok (.aload_n 1, 1) := by decide +kernel
theorem dX4_agrees_11 : decode cX4_agrees 11 = .ok (.aload_n 0, 1) := by decide +kernel
theorem dX4_agrees_12 : decode cX4_agrees 12 = .ok (.getfield 9, 3) := by decide +kernel
theorem dX4_agrees_15 : decode cX4_agrees 15 = .ok (.iload_n 2, 1) := by decide +kernel
theorem dX4_agrees_16 : decode cX4_agrees 16 = .ok (.invokestatic 39, 3) := by decide +kernel
theorem dX4_agrees_19 : decode cX4_agrees 19 = .ok (.invokevirtual 43, 3) := by decide +kernel
theorem dX4_agrees_22 : decode cX4_agrees 22 = .ok (.aload_n 0, 1) := by decide +kernel
theorem dX4_agrees_23 : decode cX4_agrees 23 = .ok (.getfield 15, 3) := by decide +kernel
theorem dX4_agrees_26 : decode cX4_agrees 26 = .ok (.iload_n 2, 1) := by decide +kernel
theorem dX4_agrees_27 : decode cX4_agrees 27 = .ok (.invokestatic 39, 3) := by decide +kernel
theorem dX4_agrees_30 : decode cX4_agrees 30 = .ok (.isub, 1) := by decide +kernel
theorem dX4_agrees_31 : decode cX4_agrees 31 = .ok (.invokestatic 48, 3) := by decide +kernel
theorem dX4_agrees_34 : decode cX4_agrees 34 = .ok (.aload_n 0, 1) := by decide +kernel
theorem dX4_agrees_35 : decode cX4_agrees 35 = .ok (.getfield 18, 3) := by decide +kernel
theorem dX4_agrees_38 : decode cX4_agrees 38 = .ok (.iload_n 2, 1) := by decide +kernel
theorem dX4_agrees_39 : decode cX4_agrees 39 = .ok (.invokestatic 39, 3) := by decide +kernel
theorem dX4_agrees_42 : decode cX4_agrees 42 = .ok (.if_icmp .le 5, 3) := by decide +kernel
theorem dX4_agrees_45 : decode cX4_agrees 45 = .ok (.iconst 0, 1) := by decide +kernel
theorem dX4_agrees_46 : decode cX4_agrees 46 = .ok (.ireturn, 1) := by decide +kernel
theorem dX4_agrees_47 : decode cX4_agrees 47 = .ok (.iinc 2 1, 3) := by decide +kernel
theorem dX4_agrees_50 : decode cX4_agrees 50 = .ok (.goto (-48), 3) := by decide +kernel
theorem dX4_agrees_53 : decode cX4_agrees 53 = .ok (.iconst 1, 1) := by decide +kernel
theorem dX4_agrees_54 : decode cX4_agrees 54 = .ok (.ireturn, 1) := by decide +kernel
theorem dX5_init_0 : decode cX5_init 0 = .ok (.aload_n 0, 1) := by decide +kernel
theorem dX5_init_1 : decode cX5_init 1 = .ok (.invokespecial 3, 3) := by decide +kernel
theorem dX5_init_4 : decode cX5_init 4 = .ok (.return_, 1) := by decide +kernel
theorem dX5_isLying_0 : decode cX5_isLying 0 = .ok (.aload_n 0, 1) := by decide +kernel
theorem dX5_isLying_1 : decode cX5_isLying 1 = .ok (.getfield 9, 3) := by decide +kernel
theorem dX5_isLying_4 : decode cX5_isLying 4 = .ok (.iconst 5, 1) := by decide +kernel
theorem dX5_isLying_5 : decode cX5_isLying 5 = .ok (.if_icmp .ne 7, 3) := by decide +kernel
theorem dX5_isLying_8 : decode cX5_isLying 8 = .ok (.iconst 1, 1) := by decide +kernel
theorem dX5_isLying_9 : decode cX5_isLying 9 = .ok (.goto 4, 3) := by decide +kernel
theorem dX5_isLying_12 : decode cX5_isLying 12 = .ok (.iconst 0, 1) := by decide +kernel
theorem dX5_isLying_13 : decode cX5_isLying 13 = .ok (.ireturn, 1) := by decide +kernel
theorem dX5_report_0 : decode cX5_report 0 = .ok (.iload_n 1, 1) := by decide +kernel
theorem dX5_report_1 : decode cX5_report 1 = .ok (.tableswitch 78 0 6 #[43, 48, 53, 58, 63, 68, 73], 43) := by decide +kernel
theorem dX5_report_44 : decode cX5_report 44 = .ok (.aload_n 0, 1) := by decide +kernel
theorem dX5_report_45 : decode cX5_report 45 = .ok (.getfield 15, 3) := by decide +kernel
theorem dX5_report_48 : decode cX5_report 48 = .ok (.ireturn, 1) := by decide +kernel
theorem dX5_report_49 : decode cX5_report 49 = .ok (.aload_n 0, 1) := by decide +kernel
theorem dX5_report_50 : decode cX5_report 50 = .ok (.getfield 18, 3) := by decide +kernel
theorem dX5_report_53 : decode cX5_report 53 = .ok (.ireturn, 1) := by decide +kernel
theorem dX5_report_54 : decode cX5_report 54 = .ok (.aload_n 0, 1) := by decide +kernel
theorem dX5_report_55 : decode cX5_report 55 = .ok (.getfield 21, 3) := by decide +kernel
theorem dX5_report_58 : decode cX5_report 58 = .ok (.ireturn, 1) := by decide +kernel
theorem dX5_report_59 : decode cX5_report 59 = .ok (.aload_n 0, 1) := by decide +kernel
theorem dX5_report_60 : decode cX5_report 60 = .ok (.getfield 9, 3) := by decide +kernel
theorem dX5_report_63 : decode cX5_report 63 = .ok (.ireturn, 1) := by decide +kernel
theorem dX5_report_64 : decode cX5_report 64 = .ok (.aload_n 0, 1) := by decide +kernel
theorem dX5_report_65 : decode cX5_report 65 = .ok (.getfield 24, 3) := by decide +kernel
theorem dX5_report_68 : decode cX5_report 68 = .ok (.ireturn, 1) := by decide +kernel
theorem dX5_report_69 : decode cX5_report 69 = .ok (.aload_n 0, 1) := by decide +kernel
theorem dX5_report_70 : decode cX5_report 70 = .ok (.getfield 27, 3) := by decide +kernel
theorem dX5_report_73 : decode cX5_report 73 = .ok (.ireturn, 1) := by decide +kernel
theorem dX5_report_74 : decode cX5_report 74 = .ok (.aload_n 0, 1) := by decide +kernel
theorem dX5_report_75 : decode cX5_report 75 = .ok (.getfield 30, 3) := by decide +kernel
theorem dX5_report_78 : decode cX5_report 78 = .ok (.ireturn, 1) := by decide +kernel
theorem dX5_report_79 : decode cX5_report 79 = .ok (.iconst (-1), 1) := by decide +kernel
theorem dX5_report_80 : decode cX5_report 80 = .ok (.ireturn, 1) := by decide +kernel
theorem dX6_init_0 : decode cX6_init 0 = .ok (.aload_n 0, 1) := by decide +kernel
theorem dX6_init_1 : decode cX6_init 1 = .ok (.invokespecial 3, 3) := by decide +kernel
theorem dX6_init_4 : decode cX6_init 4 = .ok (.aload_n 0, 1) := by decide +kernel
theorem dX6_init_5 : decode cX6_init 5 = .ok (.bipush 100, 2) := by decide +kernel
theorem dX6_init_7 : decode cX6_init 7 = .ok (.newarray .int, 2) := by decide +kernel
theorem dX6_init_9 : decode cX6_init 9 = .ok (.putfield 9, 3) := by decide +kernel
theorem dX6_init_12 : decode cX6_init 12 = .ok (.return_, 1) := by decide +kernel
set_option maxRecDepth 20000 in
theorem ggX6_grow_X6_gain : GoodIn wsX6_grow wsX6_gain := goodIn_r _ [13, 14, 15, 21, 22, 23, 24, 25] rfl (by decide +kernel)
set_option maxRecDepth 20000 in
theorem gX6_grow_X6_gain : GoodIn wsX6_grow (wsV RX6 15 RX6 yX6_gain wsX6_gain) := goodIn_app (goodIn_of _ (by decide +kernel)) ggX6_grow_X6_gain
set_option maxRecDepth 20000 in
theorem ggX6_grow_X6_loss : GoodIn wsX6_grow wsX6_loss := goodIn_r _ [19, 14, 15, 20, 21, 22, 23, 24, 25] rfl (by decide +kernel)
set_option maxRecDepth 20000 in
theorem gX6_grow_X6_loss : GoodIn wsX6_grow (wsV RX6 19 RX6 yX6_loss wsX6_loss) := goodIn_app (goodIn_of _ (by decide +kernel)) ggX6_grow_X6_loss
theorem dX6_grow_0 : decode cX6_grow 0 = .ok (.aload_n 0, 1) := by decide +kernel
theorem dX6_grow_1 : decode cX6_grow 1 = .ok (.getfield 9, 3) := by decide +kernel
theorem dX6_grow_4 : decode cX6_grow 4 = .ok (.iconst 0, 1) := by decide +kernel
theorem dX6_grow_5 : decode cX6_grow 5 = .ok (.iload_n 1, 1) := by decide +kernel
theorem dX6_grow_6 : decode cX6_grow 6 = .ok (.iastore, 1) := by decide +kernel
theorem dX6_grow_7 : decode cX6_grow 7 = .ok (.iconst 1, 1) := by decide +kernel
theorem dX6_grow_8 : decode cX6_grow 8 = .ok (.istore 4, 2) := by decide +kernel
theorem dX6_grow_10 : decode cX6_grow 10 = .ok (.iload 4, 2) := by decide +kernel
theorem dX6_grow_12 : decode cX6_grow 12 = .ok (.aload_n 0, 1) := by decide +kernel
theorem dX6_grow_13 : decode cX6_grow 13 = .ok (.getfield 9, 3) := by decide +kernel
theorem dX6_grow_16 : decode cX6_grow 16 = .ok (.arraylength, 1) := by decide +kernel
theorem dX6_grow_17 : decode cX6_grow 17 = .ok (.if_icmp .ge 69, 3) := by decide +kernel
theorem dX6_grow_20 : decode cX6_grow 20 = .ok (.aload_n 0, 1) := by decide +kernel
theorem dX6_grow_21 : decode cX6_grow 21 = .ok (.getfield 9, 3) := by decide +kernel
theorem dX6_grow_24 : decode cX6_grow 24 = .ok (.iload 4, 2) := by decide +kernel
theorem dX6_grow_26 : decode cX6_grow 26 = .ok (.iconst 1, 1) := by decide +kernel
theorem dX6_grow_27 : decode cX6_grow 27 = .ok (.isub, 1) := by decide +kernel
theorem dX6_grow_28 : decode cX6_grow 28 = .ok (.iaload, 1) := by decide +kernel
theorem dX6_grow_29 : decode cX6_grow 29 = .ok (.istore 5, 2) := by decide +kernel
theorem dX6_grow_31 : decode cX6_grow 31 = .ok (.iload 5, 2) := by decide +kernel
theorem dX6_grow_33 : decode cX6_grow 33 = .ok (.aload_n 0, 1) := by decide +kernel
theorem dX6_grow_34 : decode cX6_grow 34 = .ok (.iload 5, 2) := by decide +kernel
theorem dX6_grow_36 : decode cX6_grow 36 = .ok (.iload_n 2, 1) := by decide +kernel
theorem dX6_grow_37 : decode cX6_grow 37 = .ok (.invokevirtual 15, 3) := by decide +kernel
theorem dX6_grow_40 : decode cX6_grow 40 = .ok (.iadd, 1) := by decide +kernel
theorem dX6_grow_41 : decode cX6_grow 41 = .ok (.iload 5, 2) := by decide +kernel
theorem dX6_grow_43 : decode cX6_grow 43 = .ok (.iconst 2, 1) := by decide +kernel
theorem dX6_grow_44 : decode cX6_grow 44 = .ok (.imul, 1) := by decide +kernel
theorem dX6_grow_45 : decode cX6_grow 45 = .ok (.bipush 100, 2) := by decide +kernel
theorem dX6_grow_47 : decode cX6_grow 47 = .ok (.idiv, 1) := by decide +kernel
theorem dX6_grow_48 : decode cX6_grow 48 = .ok (.isub, 1) := by decide +kernel
theorem dX6_grow_49 : decode cX6_grow 49 = .ok (.aload_n 0, 1) := by decide +kernel
theorem dX6_grow_50 : decode cX6_grow 50 = .ok (.iload 5, 2) := by decide +kernel
theorem dX6_grow_52 : decode cX6_grow 52 = .ok (.iload_n 3, 1) := by decide +kernel
theorem dX6_grow_53 : decode cX6_grow 53 = .ok (.iload 4, 2) := by decide +kernel
theorem dX6_grow_55 : decode cX6_grow 55 = .ok (.invokevirtual 19, 3) := by decide +kernel
theorem dX6_grow_58 : decode cX6_grow 58 = .ok (.isub, 1) := by decide +kernel
theorem dX6_grow_59 : decode cX6_grow 59 = .ok (.istore 6, 2) := by decide +kernel
theorem dX6_grow_61 : decode cX6_grow 61 = .ok (.aload_n 0, 1) := by decide +kernel
theorem dX6_grow_62 : decode cX6_grow 62 = .ok (.getfield 9, 3) := by decide +kernel
theorem dX6_grow_65 : decode cX6_grow 65 = .ok (.iload 4, 2) := by decide +kernel
theorem dX6_grow_67 : decode cX6_grow 67 = .ok (.iconst 0, 1) := by decide +kernel
theorem dX6_grow_68 : decode cX6_grow 68 = .ok (.iload 6, 2) := by decide +kernel
theorem dX6_grow_70 : decode cX6_grow 70 = .ok (.sipush 9999, 3) := by decide +kernel
theorem dX6_grow_73 : decode cX6_grow 73 = .ok (.invokestatic 23, 3) := by decide +kernel
theorem dX6_grow_76 : decode cX6_grow 76 = .ok (.invokestatic 28, 3) := by decide +kernel
theorem dX6_grow_79 : decode cX6_grow 79 = .ok (.iastore, 1) := by decide +kernel
theorem dX6_grow_80 : decode cX6_grow 80 = .ok (.iinc 4 1, 3) := by decide +kernel
theorem dX6_grow_83 : decode cX6_grow 83 = .ok (.goto (-73), 3) := by decide +kernel
theorem dX6_grow_86 : decode cX6_grow 86 = .ok (.return_, 1) := by decide +kernel
theorem dX6_gain_0 : decode cX6_gain 0 = .ok (.iload_n 1, 1) := by decide +kernel
theorem dX6_gain_1 : decode cX6_gain 1 = .ok (.iload_n 2, 1) := by decide +kernel
theorem dX6_gain_2 : decode cX6_gain 2 = .ok (.imul, 1) := by decide +kernel
theorem dX6_gain_3 : decode cX6_gain 3 = .ok (.bipush 100, 2) := by decide +kernel
theorem dX6_gain_5 : decode cX6_gain 5 = .ok (.idiv, 1) := by decide +kernel
theorem dX6_gain_6 : decode cX6_gain 6 = .ok (.istore_n 3, 1) := by decide +kernel
theorem dX6_gain_7 : decode cX6_gain 7 = .ok (.aload_n 0, 1) := by decide +kernel
theorem dX6_gain_8 : decode cX6_gain 8 = .ok (.getfield 31, 3) := by decide +kernel
theorem dX6_gain_11 : decode cX6_gain 11 = .ok (.iconst 1, 1) := by decide +kernel
theorem dX6_gain_12 : decode cX6_gain 12 = .ok (.if_icmp .ne 18, 3) := by decide +kernel
theorem dX6_gain_15 : decode cX6_gain 15 = .ok (.iload_n 3, 1) := by decide +kernel
theorem dX6_gain_16 : decode cX6_gain 16 = .ok (.bipush 100, 2) := by decide +kernel
theorem dX6_gain_18 : decode cX6_gain 18 = .ok (.aload_n 0, 1) := by decide +kernel
theorem dX6_gain_19 : decode cX6_gain 19 = .ok (.getfield 35, 3) := by decide +kernel
theorem dX6_gain_22 : decode cX6_gain 22 = .ok (.isub, 1) := by decide +kernel
theorem dX6_gain_23 : decode cX6_gain 23 = .ok (.imul, 1) := by decide +kernel
theorem dX6_gain_24 : decode cX6_gain 24 = .ok (.bipush 100, 2) := by decide +kernel
theorem dX6_gain_26 : decode cX6_gain 26 = .ok (.idiv, 1) := by decide +kernel
theorem dX6_gain_27 : decode cX6_gain 27 = .ok (.goto 4, 3) := by decide +kernel
theorem dX6_gain_30 : decode cX6_gain 30 = .ok (.iload_n 3, 1) := by decide +kernel
theorem dX6_gain_31 : decode cX6_gain 31 = .ok (.ireturn, 1) := by decide +kernel
theorem dX6_loss_0 : decode cX6_loss 0 = .ok (.aload_n 0, 1) := by decide +kernel
theorem dX6_loss_1 : decode cX6_loss 1 = .ok (.getfield 31, 3) := by decide +kernel
theorem dX6_loss_4 : decode cX6_loss 4 = .ok (.ifCond .ne 13, 3) := by decide +kernel
theorem dX6_loss_7 : decode cX6_loss 7 = .ok (.aload_n 0, 1) := by decide +kernel
theorem dX6_loss_8 : decode cX6_loss 8 = .ok (.getfield 35, 3) := by decide +kernel
theorem dX6_loss_11 : decode cX6_loss 11 = .ok (.iload_n 2, 1) := by decide +kernel
theorem dX6_loss_12 : decode cX6_loss 12 = .ok (.imul, 1) := by decide +kernel
theorem dX6_loss_13 : decode cX6_loss 13 = .ok (.bipush 100, 2) := by decide +kernel
theorem dX6_loss_15 : decode cX6_loss 15 = .ok (.idiv, 1) := by decide +kernel
theorem dX6_loss_16 : decode cX6_loss 16 = .ok (.ireturn, 1) := by decide +kernel
theorem dX6_loss_17 : decode cX6_loss 17 = .ok (.aload_n 0, 1) := by decide +kernel
theorem dX6_loss_18 : decode cX6_loss 18 = .ok (.getfield 31, 3) := by decide +kernel
theorem dX6_loss_21 : decode cX6_loss 21 = .ok (.iconst 2, 1) := by decide +kernel
theorem dX6_loss_22 : decode cX6_loss 22 = .ok (.if_icmp .ne 29, 3) := by decide +kernel
theorem dX6_loss_25 : decode cX6_loss 25 = .ok (.aload_n 0, 1) := by decide +kernel
theorem dX6_loss_26 : decode cX6_loss 26 = .ok (.getfield 38, 3) := by decide +kernel
theorem dX6_loss_29 : decode cX6_loss 29 = .ok (.ifCond .le 22, 3) := by decide +kernel
theorem dX6_loss_32 : decode cX6_loss 32 = .ok (.iload_n 3, 1) := by decide +kernel
theorem dX6_loss_33 : decode cX6_loss 33 = .ok (.aload_n 0, 1) := by decide +kernel
theorem dX6_loss_34 : decode cX6_loss 34 = .ok (.getfield 38, 3) := by decide +kernel
theorem dX6_loss_37 : decode cX6_loss 37 = .ok (.irem, 1) := by decide +kernel
theorem dX6_loss_38 : decode cX6_loss 38 = .ok (.ifCond .ne 13, 3) := by decide +kernel
theorem dX6_loss_41 : decode cX6_loss 41 = .ok (.iload_n 1, 1) := by decide +kernel
theorem dX6_loss_42 : decode cX6_loss 42 = .ok (.aload_n 0, 1) := by decide +kernel
theorem dX6_loss_43 : decode cX6_loss 43 = .ok (.getfield 35, 3) := by decide +kernel
theorem dX6_loss_46 : decode cX6_loss 46 = .ok (.imul, 1) := by decide +kernel
theorem dX6_loss_47 : decode cX6_loss 47 = .ok (.bipush 100, 2) := by decide +kernel
theorem dX6_loss_49 : decode cX6_loss 49 = .ok (.idiv, 1) := by decide +kernel
theorem dX6_loss_50 : decode cX6_loss 50 = .ok (.ireturn, 1) := by decide +kernel
theorem dX6_loss_51 : decode cX6_loss 51 = .ok (.iconst 0, 1) := by decide +kernel
theorem dX6_loss_52 : decode cX6_loss 52 = .ok (.ireturn, 1) := by decide +kernel
set_option maxRecDepth 20000 in
theorem ggX6_treesIn_X11_entry : GoodIn wsX6_treesIn wsX11_entry := goodIn_r _ [4] rfl (by decide +kernel)
set_option maxRecDepth 20000 in
theorem gX6_treesIn_X11_entry_n41 : GoodIn wsX6_treesIn (wsX11_entry) := ggX6_treesIn_X11_entry
theorem dX6_treesIn_0 : decode cX6_treesIn 0 = .ok (.aload_n 0, 1) := by decide +kernel
theorem dX6_treesIn_1 : decode cX6_treesIn 1 = .ok (.getfield 9, 3) := by decide +kernel
theorem dX6_treesIn_4 : decode cX6_treesIn 4 = .ok (.iload_n 1, 1) := by decide +kernel
theorem dX6_treesIn_5 : decode cX6_treesIn 5 = .ok (.invokestatic 41, 3) := by decide +kernel
theorem dX6_treesIn_8 : decode cX6_treesIn 8 = .ok (.ireturn, 1) := by decide +kernel
theorem dX6_yearGone_0 : decode cX6_yearGone 0 = .ok (.iconst 0, 1) := by decide +kernel
theorem dX6_yearGone_1 : decode cX6_yearGone 1 = .ok (.istore_n 1, 1) := by decide +kernel
theorem dX6_yearGone_2 : decode cX6_yearGone 2 = .ok (.iload_n 1, 1) := by decide +kernel
theorem dX6_yearGone_3 : decode cX6_yearGone 3 = .ok (.aload_n 0, 1) := by decide +kernel
theorem dX6_yearGone_4 : decode cX6_yearGone 4 = .ok (.getfield 9, 3) := by decide +kernel
theorem dX6_yearGone_7 : decode cX6_yearGone 7 = .ok (.arraylength, 1) := by decide +kernel
theorem dX6_yearGone_8 : decode cX6_yearGone 8 = .ok (.if_icmp .ge 22, 3) := by decide +kernel
theorem dX6_yearGone_11 : decode cX6_yearGone 11 = .ok (.aload_n 0, 1) := by decide +kernel
theorem dX6_yearGone_12 : decode cX6_yearGone 12 = .ok (.getfield 9, 3) := by decide +kernel
theorem dX6_yearGone_15 : decode cX6_yearGone 15 = .ok (.iload_n 1, 1) := by decide +kernel
theorem dX6_yearGone_16 : decode cX6_yearGone 16 = .ok (.iaload, 1) := by decide +kernel
theorem dX6_yearGone_17 : decode cX6_yearGone 17 = .ok (.bipush 10, 2) := by decide +kernel
theorem dX6_yearGone_19 : decode cX6_yearGone 19 = .ok (.if_icmp .ge 5, 3) := by decide +kernel
theorem dX6_yearGone_22 : decode cX6_yearGone 22 = .ok (.iload_n 1, 1) := by decide +kernel
theorem dX6_yearGone_23 : decode cX6_yearGone 23 = .ok (.ireturn, 1) := by decide +kernel
theorem dX6_yearGone_24 : decode cX6_yearGone 24 = .ok (.iinc 1 1, 3) := by decide +kernel
theorem dX6_yearGone_27 : decode cX6_yearGone 27 = .ok (.goto (-25), 3) := by decide +kernel
theorem dX6_yearGone_30 : decode cX6_yearGone 30 = .ok (.bipush (-2), 2) := by decide +kernel
theorem dX6_yearGone_32 : decode cX6_yearGone 32 = .ok (.ireturn, 1) := by decide +kernel
theorem dX7_init_0 : decode cX7_init 0 = .ok (.aload_n 0, 1) := by decide +kernel
theorem dX7_init_1 : decode cX7_init 1 = .ok (.invokespecial 3, 3) := by decide +kernel
theorem dX7_init_4 : decode cX7_init 4 = .ok (.aload_n 0, 1) := by decide +kernel
theorem dX7_init_5 : decode cX7_init 5 = .ok (.sipush 900, 3) := by decide +kernel
theorem dX7_init_8 : decode cX7_init 8 = .ok (.newarray .byte, 2) := by decide +kernel
theorem dX7_init_10 : decode cX7_init 10 = .ok (.putfield 9, 3) := by decide +kernel
theorem dX7_init_13 : decode cX7_init 13 = .ok (.return_, 1) := by decide +kernel
theorem dX7_hasRoomFor_0 : decode cX7_hasRoomFor 0 = .ok (.aload_n 0, 1) := by decide +kernel
theorem dX7_hasRoomFor_1 : decode cX7_hasRoomFor 1 = .ok (.getfield 15, 3) := by decide +kernel
theorem dX7_hasRoomFor_4 : decode cX7_hasRoomFor 4 = .ok (.iload_n 1, 1) := by decide +kernel
theorem dX7_hasRoomFor_5 : decode cX7_hasRoomFor 5 = .ok (.iadd, 1) := by decide +kernel
theorem dX7_hasRoomFor_6 : decode cX7_hasRoomFor 6 = .ok (.aload_n 0, 1) := by decide +kernel
theorem dX7_hasRoomFor_7 : decode cX7_hasRoomFor 7 = .ok (.getfield 9, 3) := by decide +kernel
theorem dX7_hasRoomFor_10 : decode cX7_hasRoomFor 10 = .ok (.arraylength, 1) := by decide +kernel
theorem dX7_hasRoomFor_11 : decode cX7_hasRoomFor 11 = .ok (.if_icmp .gt 7, 3) := by decide +kernel
theorem dX7_hasRoomFor_14 : decode cX7_hasRoomFor 14 = .ok (.iconst 1, 1) := by decide +kernel
theorem dX7_hasRoomFor_15 : decode cX7_hasRoomFor 15 = .ok (.goto 4, 3) := by decide +kernel
theorem dX7_hasRoomFor_18 : decode cX7_hasRoomFor 18 = .ok (.iconst 0, 1) := by decide +kernel
theorem dX7_hasRoomFor_19 : decode cX7_hasRoomFor 19 = .ok (.ireturn, 1) := by decide +kernel
theorem dX7_put_0 : decode cX7_put 0 = .ok (.bipush 24, 2) := by decide +kernel
theorem dX7_put_2 : decode cX7_put 2 = .ok (.istore_n 2, 1) := by decide +kernel
theorem dX7_put_3 : decode cX7_put 3 = .ok (.iload_n 2, 1) := by decide +kernel
theorem dX7_put_4 : decode cX7_put 4 = .ok (.ifCond .lt 44, 3) := by decide +kernel
theorem dX7_put_7 : decode cX7_put 7 = .ok (.aload_n 0, 1) := by decide +kernel
theorem dX7_put_8 : decode cX7_put 8 = .ok (.getfield 15, 3) := by decide +kernel
theorem dX7_put_11 : decode cX7_put 11 = .ok (.aload_n 0, 1) := by decide +kernel
theorem dX7_put_12 : decode cX7_put 12 = .ok (.getfield 9, 3) := by decide +kernel
theorem dX7_put_15 : decode cX7_put 15 = .ok (.arraylength, 1) := by decide +kernel
theorem dX7_put_16 : decode cX7_put 16 = .ok (.if_icmp .ge 26, 3) := by decide +kernel
theorem dX7_put_19 : decode cX7_put 19 = .ok (.aload_n 0, 1) := by decide +kernel
theorem dX7_put_20 : decode cX7_put 20 = .ok (.getfield 9, 3) := by decide +kernel
theorem dX7_put_23 : decode cX7_put 23 = .ok (.aload_n 0, 1) := by decide +kernel
theorem dX7_put_24 : decode cX7_put 24 = .ok (.getfield 15, 3) := by decide +kernel
theorem dX7_put_27 : decode cX7_put 27 = .ok (.iload_n 1, 1) := by decide +kernel
theorem dX7_put_28 : decode cX7_put 28 = .ok (.iload_n 2, 1) := by decide +kernel
theorem dX7_put_29 : decode cX7_put 29 = .ok (.ishr, 1) := by decide +kernel
theorem dX7_put_30 : decode cX7_put 30 = .ok (.i2b, 1) := by decide +kernel
theorem dX7_put_31 : decode cX7_put 31 = .ok (.bastore, 1) := by decide +kernel
theorem dX7_put_32 : decode cX7_put 32 = .ok (.aload_n 0, 1) := by decide +kernel
theorem dX7_put_33 : decode cX7_put 33 = .ok (.dup, 1) := by decide +kernel
theorem dX7_put_34 : decode cX7_put 34 = .ok (.getfield 15, 3) := by decide +kernel
theorem dX7_put_37 : decode cX7_put 37 = .ok (.iconst 1, 1) := by decide +kernel
theorem dX7_put_38 : decode cX7_put 38 = .ok (.iadd, 1) := by decide +kernel
theorem dX7_put_39 : decode cX7_put 39 = .ok (.putfield 15, 3) := by decide +kernel
theorem dX7_put_42 : decode cX7_put 42 = .ok (.iinc 2 (-8), 3) := by decide +kernel
theorem dX7_put_45 : decode cX7_put 45 = .ok (.goto (-42), 3) := by decide +kernel
theorem dX7_put_48 : decode cX7_put 48 = .ok (.return_, 1) := by decide +kernel
theorem dX7_empty_0 : decode cX7_empty 0 = .ok (.aload_n 0, 1) := by decide +kernel
theorem dX7_empty_1 : decode cX7_empty 1 = .ok (.iconst 0, 1) := by decide +kernel
theorem dX7_empty_2 : decode cX7_empty 2 = .ok (.putfield 15, 3) := by decide +kernel
theorem dX7_empty_5 : decode cX7_empty 5 = .ok (.return_, 1) := by decide +kernel
set_option maxRecDepth 20000 in
theorem ggX7_begin_X7_advance : GoodIn wsX7_begin wsX7_advance := goodIn_r _ [12, 7, 6, 1, 13, 14, 15, 16, 17, 11, 18, 19, 20, 21, 22, 23, 24, 25] rfl (by decide +kernel)
set_option maxRecDepth 20000 in
theorem gX7_begin_X7_advance : GoodIn wsX7_begin (wsV RX7 31 RX7 yX7_advance wsX7_advance) := goodIn_app (goodIn_of _ (by decide +kernel)) ggX7_begin_X7_advance
theorem dX7_begin_0 : decode cX7_begin 0 = .ok (.aload_n 0, 1) := by decide +kernel
theorem dX7_begin_1 : decode cX7_begin 1 = .ok (.iload_n 1, 1) := by decide +kernel
theorem dX7_begin_2 : decode cX7_begin 2 = .ok (.aload_n 0, 1) := by decide +kernel
theorem dX7_begin_3 : decode cX7_begin 3 = .ok (.getfield 9, 3) := by decide +kernel
theorem dX7_begin_6 : decode cX7_begin 6 = .ok (.arraylength, 1) := by decide +kernel
theorem dX7_begin_7 : decode cX7_begin 7 = .ok (.invokestatic 19, 3) := by decide +kernel
theorem dX7_begin_10 : decode cX7_begin 10 = .ok (.putfield 25, 3) := by decide +kernel
theorem dX7_begin_13 : decode cX7_begin 13 = .ok (.aload_n 0, 1) := by decide +kernel
theorem dX7_begin_14 : decode cX7_begin 14 = .ok (.iconst 0, 1) := by decide +kernel
theorem dX7_begin_15 : decode cX7_begin 15 = .ok (.putfield 28, 3) := by decide +kernel
theorem dX7_begin_18 : decode cX7_begin 18 = .ok (.aload_n 0, 1) := by decide +kernel
theorem dX7_begin_19 : decode cX7_begin 19 = .ok (.invokevirtual 31, 3) := by decide +kernel
theorem dX7_begin_22 : decode cX7_begin 22 = .ok (.return_, 1) := by decide +kernel
set_option maxRecDepth 20000 in
theorem ggX7_advance_X7_typeOf : GoodIn wsX7_advance wsX7_typeOf := goodIn_r _ [10] rfl (by decide +kernel)
set_option maxRecDepth 20000 in
theorem gX7_advance_X7_typeOf : GoodIn wsX7_advance (va_wsS RX7 41 yX7_typeOf wsX7_typeOf) := goodIn_app (goodIn_of _ (by decide +kernel)) ggX7_advance_X7_typeOf
theorem dX7_advance_0 : decode cX7_advance 0 = .ok (.aload_n 0, 1) := by decide +kernel
theorem dX7_advance_1 : decode cX7_advance 1 = .ok (.getfield 28, 3) := by decide +kernel
theorem dX7_advance_4 : decode cX7_advance 4 = .ok (.aload_n 0, 1) := by decide +kernel
theorem dX7_advance_5 : decode cX7_advance 5 = .ok (.getfield 25, 3) := by decide +kernel
theorem dX7_advance_8 : decode cX7_advance 8 = .ok (.if_icmp .ge 30, 3) := by decide +kernel
theorem dX7_advance_11 : decode cX7_advance 11 = .ok (.aload_n 0, 1) := by decide +kernel
theorem dX7_advance_12 : decode cX7_advance 12 = .ok (.getfield 9, 3) := by decide +kernel
theorem dX7_advance_15 : decode cX7_advance 15 = .ok (.aload_n 0, 1) := by decide +kernel
theorem dX7_advance_16 : decode cX7_advance 16 = .ok (.getfield 28, 3) := by decide +kernel
theorem dX7_advance_19 : decode cX7_advance 19 = .ok (.baload, 1) := by decide +kernel
theorem dX7_advance_20 : decode cX7_advance 20 = .ok (.bipush 32, 2) := by decide +kernel
theorem dX7_advance_22 : decode cX7_advance 22 = .ok (.if_icmp .ne 16, 3) := by decide +kernel
theorem dX7_advance_25 : decode cX7_advance 25 = .ok (.aload_n 0, 1) := by decide +kernel
theorem dX7_advance_26 : decode cX7_advance 26 = .ok (.dup, 1) := by decide +kernel
theorem dX7_advance_27 : decode cX7_advance 27 = .ok (.getfield 28, 3) := by decide +kernel
theorem dX7_advance_30 : decode cX7_advance 30 = .ok (.iconst 1, 1) := by decide +kernel
theorem dX7_advance_31 : decode cX7_advance 31 = .ok (.iadd, 1) := by decide +kernel
theorem dX7_advance_32 : decode cX7_advance 32 = .ok (.putfield 28, 3) := by decide +kernel
theorem dX7_advance_35 : decode cX7_advance 35 = .ok (.goto (-35), 3) := by decide +kernel
theorem dX7_advance_38 : decode cX7_advance 38 = .ok (.aload_n 0, 1) := by decide +kernel
theorem dX7_advance_39 : decode cX7_advance 39 = .ok (.aload_n 0, 1) := by decide +kernel
theorem dX7_advance_40 : decode cX7_advance 40 = .ok (.getfield 28, 3) := by decide +kernel
theorem dX7_advance_43 : decode cX7_advance 43 = .ok (.putfield 34, 3) := by decide +kernel
theorem dX7_advance_46 : decode cX7_advance 46 = .ok (.aload_n 0, 1) := by decide +kernel
theorem dX7_advance_47 : decode cX7_advance 47 = .ok (.lconst 0, 1) := by decide +kernel
theorem dX7_advance_48 : decode cX7_advance 48 = .ok (.putfield 37, 3) := by decide +kernel
theorem dX7_advance_51 : decode cX7_advance 51 = .ok (.aload_n 0, 1) := by decide +kernel
theorem dX7_advance_52 : decode cX7_advance 52 = .ok (.aload_n 0, 1) := by decide +kernel
theorem dX7_advance_53 : decode cX7_advance 53 = .ok (.getfield 34, 3) := by decide +kernel
theorem dX7_advance_56 : decode cX7_advance 56 = .ok (.aload_n 0, 1) := by decide +kernel
theorem dX7_advance_57 : decode cX7_advance 57 = .ok (.getfield 25, 3) := by decide +kernel
theorem dX7_advance_60 : decode cX7_advance 60 = .ok (.if_icmp .ge 18, 3) := by decide +kernel
theorem dX7_advance_63 : decode cX7_advance 63 = .ok (.aload_n 0, 1) := by decide +kernel
theorem dX7_advance_64 : decode cX7_advance 64 = .ok (.getfield 9, 3) := by decide +kernel
theorem dX7_advance_67 : decode cX7_advance 67 = .ok (.aload_n 0, 1) := by decide +kernel
theorem dX7_advance_68 : decode cX7_advance 68 = .ok (.getfield 34, 3) := by decide +kernel
theorem dX7_advance_71 : decode cX7_advance 71 = .ok (.baload, 1) := by decide +kernel
theorem dX7_advance_72 : decode cX7_advance 72 = .ok (.invokestatic 41, 3) := by decide +kernel
theorem dX7_advance_75 : decode cX7_advance 75 = .ok (.goto 4, 3) := by decide +kernel
theorem dX7_advance_78 : decode cX7_advance 78 = .ok (.iconst 4, 1) := by decide +kernel
theorem dX7_advance_79 : decode cX7_advance 79 = .ok (.putfield 45, 3) := by decide +kernel
theorem dX7_advance_82 : decode cX7_advance 82 = .ok (.aload_n 0, 1) := by decide +kernel
theorem dX7_advance_83 : decode cX7_advance 83 = .ok (.getfield 45, 3) := by decide +kernel
theorem dX7_advance_86 : decode cX7_advance 86 = .ok (.iconst 1, 1) := by decide +kernel
theorem dX7_advance_87 : decode cX7_advance 87 = .ok (.if_icmp .eq 11, 3) := by decide +kernel
theorem dX7_advance_90 : decode cX7_advance 90 = .ok (.aload_n 0, 1) := by decide +kernel
theorem dX7_advance_91 : decode cX7_advance 91 = .ok (.getfield 45, 3) := by decide +kernel
theorem dX7_advance_94 : decode cX7_advance 94 = .ok (.iconst 2, 1) := by decide +kernel
theorem dX7_advance_95 : decode cX7_advance 95 = .ok (.if_icmp .ne 146, 3) := by decide +kernel
theorem dX7_advance_98 : decode cX7_advance 98 = .ok (.aload_n 0, 1) := by decide +kernel
theorem dX7_advance_99 : decode cX7_advance 99 = .ok (.getfield 45, 3) := by decide +kernel
theorem dX7_advance_102 : decode cX7_advance 102 = .ok (.iconst 1, 1) := by decide +kernel
theorem dX7_advance_103 : decode cX7_advance 103 = .ok (.if_icmp .ne 8, 3) := by decide +kernel
theorem dX7_advance_106 : decode cX7_advance 106 = .ok (.bipush 32, 2) := by decide +kernel
theorem dX7_advance_108 : decode cX7_advance 108 = .ok (.goto 5, 3) := by decide +kernel
theorem dX7_advance_111 : decode cX7_advance 111 = .ok (.bipush 10, 2) := by decide +kernel
theorem dX7_advance_113 : decode cX7_advance 113 = .ok (.istore_n 1, 1) := by decide +kernel
theorem dX7_advance_114 : decode cX7_advance 114 = .ok (.aload_n 0, 1) := by decide +kernel
theorem dX7_advance_115 : decode cX7_advance 115 = .ok (.getfield 45, 3) := by decide +kernel
theorem dX7_advance_118 : decode cX7_advance 118 = .ok (.iconst 1, 1) := by decide +kernel
theorem dX7_advance_119 : decode cX7_advance 119 = .ok (.if_icmp .ne 8, 3) := by decide +kernel
theorem dX7_advance_122 : decode cX7_advance 122 = .ok (.bipush 96, 2) := by decide +kernel
theorem dX7_advance_124 : decode cX7_advance 124 = .ok (.goto 5, 3) := by decide +kernel
theorem dX7_advance_127 : decode cX7_advance 127 = .ok (.bipush 48, 2) := by decide +kernel
theorem dX7_advance_129 : decode cX7_advance 129 = .ok (.istore_n 2, 1) := by decide +kernel
theorem dX7_advance_130 : decode cX7_advance 130 = .ok (.aload_n 0, 1) := by decide +kernel
theorem dX7_advance_131 : decode cX7_advance 131 = .ok (.getfield 45, 3) := by decide +kernel
theorem dX7_advance_134 : decode cX7_advance 134 = .ok (.iconst 1, 1) := by decide +kernel
theorem dX7_advance_135 : decode cX7_advance 135 = .ok (.if_icmp .ne 8, 3) := by decide +kernel
theorem dX7_advance_138 : decode cX7_advance 138 = .ok (.bipush 8, 2) := by decide +kernel
theorem dX7_advance_140 : decode cX7_advance 140 = .ok (.goto 4, 3) := by decide +kernel
theorem dX7_advance_143 : decode cX7_advance 143 = .ok (.iconst 3, 1) := by decide +kernel
theorem dX7_advance_144 : decode cX7_advance 144 = .ok (.istore_n 3, 1) := by decide +kernel
theorem dX7_advance_145 : decode cX7_advance 145 = .ok (.aload_n 0, 1) := by decide +kernel
theorem dX7_advance_146 : decode cX7_advance 146 = .ok (.getfield 28, 3) := by decide +kernel
theorem dX7_advance_149 : decode cX7_advance 149 = .ok (.aload_n 0, 1) := by decide +kernel
theorem dX7_advance_150 : decode cX7_advance 150 = .ok (.getfield 25, 3) := by decide +kernel
theorem dX7_advance_153 : decode cX7_advance 153 = .ok (.if_icmp .ge 60, 3) := by decide +kernel
theorem dX7_advance_156 : decode cX7_advance 156 = .ok (.aload_n 0, 1) := by decide +kernel
theorem dX7_advance_157 : decode cX7_advance 157 = .ok (.getfield 9, 3) := by decide +kernel
theorem dX7_advance_160 : decode cX7_advance 160 = .ok (.aload_n 0, 1) := by decide +kernel
theorem dX7_advance_161 : decode cX7_advance 161 = .ok (.getfield 28, 3) := by decide +kernel
theorem dX7_advance_164 : decode cX7_advance 164 = .ok (.baload, 1) := by decide +kernel
theorem dX7_advance_165 : decode cX7_advance 165 = .ok (.invokestatic 41, 3) := by decide +kernel
theorem dX7_advance_168 : decode cX7_advance 168 = .ok (.aload_n 0, 1) := by decide +kernel
theorem dX7_advance_169 : decode cX7_advance 169 = .ok (.getfield 45, 3) := by decide +kernel
theorem dX7_advance_172 : decode cX7_advance 172 = .ok (.if_icmp .ne 41, 3) := by decide +kernel
theorem dX7_advance_175 : decode cX7_advance 175 = .ok (.aload_n 0, 1) := by decide +kernel
theorem dX7_advance_176 : decode cX7_advance 176 = .ok (.aload_n 0, 1) := by decide +kernel
theorem dX7_advance_177 : decode cX7_advance 177 = .ok (.getfield 37, 3) := by decide +kernel
theorem dX7_advance_180 : decode cX7_advance 180 = .ok (.iload_n 1, 1) := by decide +kernel
theorem dX7_advance_181 : decode cX7_advance 181 = .ok (.i2l, 1) := by decide +kernel
theorem dX7_advance_182 : decode cX7_advance 182 = .ok (.lmul, 1) := by decide +kernel
theorem dX7_advance_183 : decode cX7_advance 183 = .ok (.aload_n 0, 1) := by decide +kernel
theorem dX7_advance_184 : decode cX7_advance 184 = .ok (.getfield 9, 3) := by decide +kernel
theorem dX7_advance_187 : decode cX7_advance 187 = .ok (.aload_n 0, 1) := by decide +kernel
theorem dX7_advance_188 : decode cX7_advance 188 = .ok (.getfield 28, 3) := by decide +kernel
theorem dX7_advance_191 : decode cX7_advance 191 = .ok (.baload, 1) := by decide +kernel
theorem dX7_advance_192 : decode cX7_advance 192 = .ok (.i2l, 1) := by decide +kernel
theorem dX7_advance_193 : decode cX7_advance 193 = .ok (.ladd, 1) := by decide +kernel
theorem dX7_advance_194 : decode cX7_advance 194 = .ok (.iload_n 2, 1) := by decide +kernel
theorem dX7_advance_195 : decode cX7_advance 195 = .ok (.i2l, 1) := by decide +kernel
theorem dX7_advance_196 : decode cX7_advance 196 = .ok (.lsub, 1) := by decide +kernel
theorem dX7_advance_197 : decode cX7_advance 197 = .ok (.putfield 37, 3) := by decide +kernel
theorem dX7_advance_200 : decode cX7_advance 200 = .ok (.aload_n 0, 1) := by decide +kernel
theorem dX7_advance_201 : decode cX7_advance 201 = .ok (.dup, 1) := by decide +kernel
theorem dX7_advance_202 : decode cX7_advance 202 = .ok (.getfield 28, 3) := by decide +kernel
theorem dX7_advance_205 : decode cX7_advance 205 = .ok (.iconst 1, 1) := by decide +kernel
theorem dX7_advance_206 : decode cX7_advance 206 = .ok (.iadd, 1) := by decide +kernel
theorem dX7_advance_207 : decode cX7_advance 207 = .ok (.putfield 28, 3) := by decide +kernel
theorem dX7_advance_210 : decode cX7_advance 210 = .ok (.goto (-65), 3) := by decide +kernel
theorem dX7_advance_213 : decode cX7_advance 213 = .ok (.aload_n 0, 1) := by decide +kernel
theorem dX7_advance_214 : decode cX7_advance 214 = .ok (.aload_n 0, 1) := by decide +kernel
theorem dX7_advance_215 : decode cX7_advance 215 = .ok (.getfield 28, 3) := by decide +kernel
theorem dX7_advance_218 : decode cX7_advance 218 = .ok (.aload_n 0, 1) := by decide +kernel
theorem dX7_advance_219 : decode cX7_advance 219 = .ok (.getfield 34, 3) := by decide +kernel
theorem dX7_advance_222 : decode cX7_advance 222 = .ok (.isub, 1) := by decide +kernel
theorem dX7_advance_223 : decode cX7_advance 223 = .ok (.iload_n 3, 1) := by decide +kernel
theorem dX7_advance_224 : decode cX7_advance 224 = .ok (.if_icmp .le 7, 3) := by decide +kernel
theorem dX7_advance_227 : decode cX7_advance 227 = .ok (.iconst 0, 1) := by decide +kernel
theorem dX7_advance_228 : decode cX7_advance 228 = .ok (.goto 7, 3) := by decide +kernel
theorem dX7_advance_231 : decode cX7_advance 231 = .ok (.aload_n 0, 1) := by decide +kernel
theorem dX7_advance_232 : decode cX7_advance 232 = .ok (.getfield 45, 3) := by decide +kernel
theorem dX7_advance_235 : decode cX7_advance 235 = .ok (.putfield 45, 3) := by decide +kernel
theorem dX7_advance_238 : decode cX7_advance 238 = .ok (.goto 35, 3) := by decide +kernel
theorem dX7_advance_241 : decode cX7_advance 241 = .ok (.aload_n 0, 1) := by decide +kernel
theorem dX7_advance_242 : decode cX7_advance 242 = .ok (.getfield 45, 3) := by decide +kernel
theorem dX7_advance_245 : decode cX7_advance 245 = .ok (.iconst 4, 1) := by decide +kernel
theorem dX7_advance_246 : decode cX7_advance 246 = .ok (.if_icmp .eq 27, 3) := by decide +kernel
theorem dX7_advance_249 : decode cX7_advance 249 = .ok (.aload_n 0, 1) := by decide +kernel
theorem dX7_advance_250 : decode cX7_advance 250 = .ok (.aload_n 0, 1) := by decide +kernel
theorem dX7_advance_251 : decode cX7_advance 251 = .ok (.getfield 9, 3) := by decide +kernel
theorem dX7_advance_254 : decode cX7_advance 254 = .ok (.aload_n 0, 1) := by decide +kernel
theorem dX7_advance_255 : decode cX7_advance 255 = .ok (.getfield 34, 3) := by decide +kernel
theorem dX7_advance_258 : decode cX7_advance 258 = .ok (.baload, 1) := by decide +kernel
theorem dX7_advance_259 : decode cX7_advance 259 = .ok (.i2l, 1) := by decide +kernel
theorem dX7_advance_260 : decode cX7_advance 260 = .ok (.putfield 37, 3) := by decide +kernel
theorem dX7_advance_263 : decode cX7_advance 263 = .ok (.aload_n 0, 1) := by decide +kernel
theorem dX7_advance_264 : decode cX7_advance 264 = .ok (.dup, 1) := by decide +kernel
theorem dX7_advance_265 : decode cX7_advance 265 = .ok (.getfield 28, 3) := by decide +kernel
theorem dX7_advance_268 : decode cX7_advance 268 = .ok (.iconst 1, 1) := by decide +kernel
theorem dX7_advance_269 : decode cX7_advance 269 = .ok (.iadd, 1) := by decide +kernel
theorem dX7_advance_270 : decode cX7_advance 270 = .ok (.putfield 28, 3) := by decide +kernel
theorem dX7_advance_273 : decode cX7_advance 273 = .ok (.return_, 1) := by decide +kernel
theorem dX7_typeOf_0 : decode cX7_typeOf 0 = .ok (.iload_n 0, 1) := by decide +kernel
theorem dX7_typeOf_1 : decode cX7_typeOf 1 = .ok (.bipush 97, 2) := by decide +kernel
theorem dX7_typeOf_3 : decode cX7_typeOf 3 = .ok (.if_icmp .lt 11, 3) := by decide +kernel
theorem dX7_typeOf_6 : decode cX7_typeOf 6 = .ok (.iload_n 0, 1) := by decide +kernel
theorem dX7_typeOf_7 : decode cX7_typeOf 7 = .ok (.bipush 122, 2) := by decide +kernel
theorem dX7_typeOf_9 : decode cX7_typeOf 9 = .ok (.if_icmp .gt 5, 3) := by decide +kernel
theorem dX7_typeOf_12 : decode cX7_typeOf 12 = .ok (.iconst 1, 1) := by decide +kernel
theorem dX7_typeOf_13 : decode cX7_typeOf 13 = .ok (.ireturn, 1) := by decide +kernel
theorem dX7_typeOf_14 : decode cX7_typeOf 14 = .ok (.iload_n 0, 1) := by decide +kernel
theorem dX7_typeOf_15 : decode cX7_typeOf 15 = .ok (.bipush 48, 2) := by decide +kernel
theorem dX7_typeOf_17 : decode cX7_typeOf 17 = .ok (.if_icmp .lt 11, 3) := by decide +kernel
theorem dX7_typeOf_20 : decode cX7_typeOf 20 = .ok (.iload_n 0, 1) := by decide +kernel
theorem dX7_typeOf_21 : decode cX7_typeOf 21 = .ok (.bipush 57, 2) := by decide +kernel
theorem dX7_typeOf_23 : decode cX7_typeOf 23 = .ok (.if_icmp .gt 5, 3) := by decide +kernel
theorem dX7_typeOf_26 : decode cX7_typeOf 26 = .ok (.iconst 2, 1) := by decide +kernel
theorem dX7_typeOf_27 : decode cX7_typeOf 27 = .ok (.ireturn, 1) := by decide +kernel
theorem dX7_typeOf_28 : decode cX7_typeOf 28 = .ok (.iload_n 0, 1) := by decide +kernel
theorem dX7_typeOf_29 : decode cX7_typeOf 29 = .ok (.bipush 59, 2) := by decide +kernel
theorem dX7_typeOf_31 : decode cX7_typeOf 31 = .ok (.if_icmp .eq 9, 3) := by decide +kernel
theorem dX7_typeOf_34 : decode cX7_typeOf 34 = .ok (.iload_n 0, 1) := by decide +kernel
theorem dX7_typeOf_35 : decode cX7_typeOf 35 = .ok (.bipush 44, 2) := by decide +kernel
theorem dX7_typeOf_37 : decode cX7_typeOf 37 = .ok (.if_icmp .ne 7, 3) := by decide +kernel
theorem dX7_typeOf_40 : decode cX7_typeOf 40 = .ok (.iconst 3, 1) := by decide +kernel
theorem dX7_typeOf_41 : decode cX7_typeOf 41 = .ok (.goto 4, 3) := by decide +kernel
theorem dX7_typeOf_44 : decode cX7_typeOf 44 = .ok (.iconst 0, 1) := by decide +kernel
theorem dX7_typeOf_45 : decode cX7_typeOf 45 = .ok (.ireturn, 1) := by decide +kernel
theorem dX7_isSign_0 : decode cX7_isSign 0 = .ok (.aload_n 0, 1) := by decide +kernel
theorem dX7_isSign_1 : decode cX7_isSign 1 = .ok (.getfield 45, 3) := by decide +kernel
theorem dX7_isSign_4 : decode cX7_isSign 4 = .ok (.iconst 3, 1) := by decide +kernel
theorem dX7_isSign_5 : decode cX7_isSign 5 = .ok (.if_icmp .ne 17, 3) := by decide +kernel
theorem dX7_isSign_8 : decode cX7_isSign 8 = .ok (.aload_n 0, 1) := by decide +kernel
theorem dX7_isSign_9 : decode cX7_isSign 9 = .ok (.getfield 37, 3) := by decide +kernel
theorem dX7_isSign_12 : decode cX7_isSign 12 = .ok (.iload_n 1, 1) := by decide +kernel
theorem dX7_isSign_13 : decode cX7_isSign 13 = .ok (.i2l, 1) := by decide +kernel
theorem dX7_isSign_14 : decode cX7_isSign 14 = .ok (.lcmp, 1) := by decide +kernel
theorem dX7_isSign_15 : decode cX7_isSign 15 = .ok (.ifCond .ne 7, 3) := by decide +kernel
theorem dX7_isSign_18 : decode cX7_isSign 18 = .ok (.iconst 1, 1) := by decide +kernel
theorem dX7_isSign_19 : decode cX7_isSign 19 = .ok (.goto 4, 3) := by decide +kernel
theorem dX7_isSign_22 : decode cX7_isSign 22 = .ok (.iconst 0, 1) := by decide +kernel
theorem dX7_isSign_23 : decode cX7_isSign 23 = .ok (.ireturn, 1) := by decide +kernel
theorem dX7_isWord_0 : decode cX7_isWord 0 = .ok (.aload_n 0, 1) := by decide +kernel
theorem dX7_isWord_1 : decode cX7_isWord 1 = .ok (.getfield 45, 3) := by decide +kernel
theorem dX7_isWord_4 : decode cX7_isWord 4 = .ok (.iconst 1, 1) := by decide +kernel
theorem dX7_isWord_5 : decode cX7_isWord 5 = .ok (.if_icmp .ne 7, 3) := by decide +kernel
theorem dX7_isWord_8 : decode cX7_isWord 8 = .ok (.iconst 1, 1) := by decide +kernel
theorem dX7_isWord_9 : decode cX7_isWord 9 = .ok (.goto 4, 3) := by decide +kernel
theorem dX7_isWord_12 : decode cX7_isWord 12 = .ok (.iconst 0, 1) := by decide +kernel
theorem dX7_isWord_13 : decode cX7_isWord 13 = .ok (.ireturn, 1) := by decide +kernel
set_option maxRecDepth 20000 in
theorem ggX7_among_J0_length_8abf5 : GoodIn wsX7_among wsJ0_length_8abf5 := goodIn_r _ [9, 10, 11, 12, 13, 8, 14, 15, 16] rfl (by decide +kernel)
set_option maxRecDepth 20000 in
theorem gX7_among_J0_length_8abf5 : GoodIn wsX7_among (wsV RX7 48 RJ0 yJ0_length_8abf5 wsJ0_length_8abf5) := goodIn_app (goodIn_of _ (by decide +kernel)) ggX7_among_J0_length_8abf5
set_option maxRecDepth 20000 in
theorem ggX7_among_J0_charAt_5068e : GoodIn wsX7_among wsJ0_charAt_5068e := goodIn_r _ [20, 10, 21, 22, 23, 8, 24, 15, 16, 25, 26, 27, 28, 29, 30, 31, 32, 33, 34, 35, 36, 37, 38, 39, 40, 41, 42, 43, 44, 45, 46, 47, 48, 49, 50, 51, 52, 53] rfl (by decide +kernel)
set_option maxRecDepth 20000 in
theorem gX7_among_J0_charAt_5068e : GoodIn wsX7_among (wsV RX7 54 RJ0 yJ0_charAt_5068e wsJ0_charAt_5068e) := goodIn_app (goodIn_of _ (by decide +kernel)) ggX7_among_J0_charAt_5068e
theorem dX7_among_0 : decode cX7_among 0 = .ok (.aload_n 0, 1) := by decide +kernel
theorem dX7_among_1 : decode cX7_among 1 = .ok (.getfield 45, 3) := by decide +kernel
theorem dX7_among_4 : decode cX7_among 4 = .ok (.iconst 1, 1) := by decide +kernel
theorem dX7_among_5 : decode cX7_among 5 = .ok (.if_icmp .eq 5, 3) := by decide +kernel
theorem dX7_among_8 : decode cX7_among 8 = .ok (.iconst (-1), 1) := by decide +kernel
theorem dX7_among_9 : decode cX7_among 9 = .ok (.ireturn, 1) := by decide +kernel
theorem dX7_among_10 : decode cX7_among 10 = .ok (.iconst 0, 1) := by decide +kernel
theorem dX7_among_11 : decode cX7_among 11 = .ok (.istore_n 2, 1) := by decide +kernel
theorem dX7_among_12 : decode cX7_among 12 = .ok (.lconst 0, 1) := by decide +kernel
theorem dX7_among_13 : decode cX7_among 13 = .ok (.lstore_n 3, 1) := by decide +kernel
theorem dX7_among_14 : decode cX7_among 14 = .ok (.iconst 0, 1) := by decide +kernel
theorem dX7_among_15 : decode cX7_among 15 = .ok (.istore 5, 2) := by decide +kernel
theorem dX7_among_17 : decode cX7_among 17 = .ok (.iload 5, 2) := by decide +kernel
theorem dX7_among_19 : decode cX7_among 19 = .ok (.aload_n 1, 1) := by decide +kernel
theorem dX7_among_20 : decode cX7_among 20 = .ok (.invokevirtual 48, 3) := by decide +kernel
theorem dX7_among_23 : decode cX7_among 23 = .ok (.if_icmp .ge 57, 3) := by decide +kernel
theorem dX7_among_26 : decode cX7_among 26 = .ok (.aload_n 1, 1) := by decide +kernel
theorem dX7_among_27 : decode cX7_among 27 = .ok (.iload 5, 2) := by decide +kernel
theorem dX7_among_29 : decode cX7_among 29 = .ok (.invokevirtual 54, 3) := by decide +kernel
theorem dX7_among_32 : decode cX7_among 32 = .ok (.istore 6, 2) := by decide +kernel
theorem dX7_among_34 : decode cX7_among 34 = .ok (.iload 6, 2) := by decide +kernel
theorem dX7_among_36 : decode cX7_among 36 = .ok (.bipush 32, 2) := by decide +kernel
theorem dX7_among_38 : decode cX7_among 38 = .ok (.if_icmp .eq 20, 3) := by decide +kernel
theorem dX7_among_41 : decode cX7_among 41 = .ok (.lload_n 3, 1) := by decide +kernel
theorem dX7_among_42 : decode cX7_among 42 = .ok (.ldc2_w 58, 3) := by decide +kernel
theorem dX7_among_45 : decode cX7_among 45 = .ok (.lmul, 1) := by decide +kernel
theorem dX7_among_46 : decode cX7_among 46 = .ok (.iload 6, 2) := by decide +kernel
theorem dX7_among_48 : decode cX7_among 48 = .ok (.i2l, 1) := by decide +kernel
theorem dX7_among_49 : decode cX7_among 49 = .ok (.ladd, 1) := by decide +kernel
theorem dX7_among_50 : decode cX7_among 50 = .ok (.ldc2_w 60, 3) := by decide +kernel
theorem dX7_among_53 : decode cX7_among 53 = .ok (.lsub, 1) := by decide +kernel
theorem dX7_among_54 : decode cX7_among 54 = .ok (.lstore_n 3, 1) := by decide +kernel
theorem dX7_among_55 : decode cX7_among 55 = .ok (.goto 19, 3) := by decide +kernel
theorem dX7_among_58 : decode cX7_among 58 = .ok (.lload_n 3, 1) := by decide +kernel
theorem dX7_among_59 : decode cX7_among 59 = .ok (.aload_n 0, 1) := by decide +kernel
theorem dX7_among_60 : decode cX7_among 60 = .ok (.getfield 37, 3) := by decide +kernel
theorem dX7_among_63 : decode cX7_among 63 = .ok (.lcmp, 1) := by decide +kernel
theorem dX7_among_64 : decode cX7_among 64 = .ok (.ifCond .ne 5, 3) := by decide +kernel
theorem dX7_among_67 : decode cX7_among 67 = .ok (.iload_n 2, 1) := by decide +kernel
theorem dX7_among_68 : decode cX7_among 68 = .ok (.ireturn, 1) := by decide +kernel
theorem dX7_among_69 : decode cX7_among 69 = .ok (.iinc 2 1, 3) := by decide +kernel
theorem dX7_among_72 : decode cX7_among 72 = .ok (.lconst 0, 1) := by decide +kernel
theorem dX7_among_73 : decode cX7_among 73 = .ok (.lstore_n 3, 1) := by decide +kernel
theorem dX7_among_74 : decode cX7_among 74 = .ok (.iinc 5 1, 3) := by decide +kernel
theorem dX7_among_77 : decode cX7_among 77 = .ok (.goto (-60), 3) := by decide +kernel
theorem dX7_among_80 : decode cX7_among 80 = .ok (.lload_n 3, 1) := by decide +kernel
theorem dX7_among_81 : decode cX7_among 81 = .ok (.aload_n 0, 1) := by decide +kernel
theorem dX7_among_82 : decode cX7_among 82 = .ok (.getfield 37, 3) := by decide +kernel
theorem dX7_among_85 : decode cX7_among 85 = .ok (.lcmp, 1) := by decide +kernel
theorem dX7_among_86 : decode cX7_among 86 = .ok (.ifCond .ne 7, 3) := by decide +kernel
theorem dX7_among_89 : decode cX7_among 89 = .ok (.iload_n 2, 1) := by decide +kernel
theorem dX7_among_90 : decode cX7_among 90 = .ok (.goto 4, 3) := by decide +kernel
theorem dX7_among_93 : decode cX7_among 93 = .ok (.iconst (-1), 1) := by decide +kernel
theorem dX7_among_94 : decode cX7_among 94 = .ok (.ireturn, 1) := by decide +kernel
theorem dX8_init_0 : decode cX8_init 0 = .ok (.aload_n 0, 1) := by decide +kernel
theorem dX8_init_1 : decode cX8_init 1 = .ok (.invokespecial 1, 3) := by decide +kernel
theorem dX8_init_4 : decode cX8_init 4 = .ok (.return_, 1) := by decide +kernel
theorem dX8_means_0 : decode cX8_means 0 = .ok (.iload_n 1, 1) := by decide +kernel
theorem dX8_means_1 : decode cX8_means 1 = .ok (.ifCond .lt 19, 3) := by decide +kernel
theorem dX8_means_4 : decode cX8_means 4 = .ok (.aload_n 0, 1) := by decide +kernel
theorem dX8_means_5 : decode cX8_means 5 = .ok (.getfield 7, 3) := by decide +kernel
theorem dX8_means_8 : decode cX8_means 8 = .ok (.iload_n 1, 1) := by decide +kernel
theorem dX8_means_9 : decode cX8_means 9 = .ok (.ishr, 1) := by decide +kernel
theorem dX8_means_10 : decode cX8_means 10 = .ok (.iconst 1, 1) := by decide +kernel
theorem dX8_means_11 : decode cX8_means 11 = .ok (.iand, 1) := by decide +kernel
theorem dX8_means_12 : decode cX8_means 12 = .ok (.iconst 1, 1) := by decide +kernel
theorem dX8_means_13 : decode cX8_means 13 = .ok (.if_icmp .ne 7, 3) := by decide +kernel
theorem dX8_means_16 : decode cX8_means 16 = .ok (.iconst 1, 1) := by decide +kernel
theorem dX8_means_17 : decode cX8_means 17 = .ok (.goto 4, 3) := by decide +kernel
theorem dX8_means_20 : decode cX8_means 20 = .ok (.iconst 0, 1) := by decide +kernel
theorem dX8_means_21 : decode cX8_means 21 = .ok (.ireturn, 1) := by decide +kernel
theorem dX8_add_0 : decode cX8_add 0 = .ok (.iload_n 1, 1) := by decide +kernel
theorem dX8_add_1 : decode cX8_add 1 = .ok (.ifCond .lt 15, 3) := by decide +kernel
theorem dX8_add_4 : decode cX8_add 4 = .ok (.aload_n 0, 1) := by decide +kernel
theorem dX8_add_5 : decode cX8_add 5 = .ok (.dup, 1) := by decide +kernel
theorem dX8_add_6 : decode cX8_add 6 = .ok (.getfield 7, 3) := by decide +kernel
theorem dX8_add_9 : decode cX8_add 9 = .ok (.iconst 1, 1) := by decide +kernel
theorem dX8_add_10 : decode cX8_add 10 = .ok (.iload_n 1, 1) := by decide +kernel
theorem dX8_add_11 : decode cX8_add 11 = .ok (.ishl, 1) := by decide +kernel
theorem dX8_add_12 : decode cX8_add 12 = .ok (.ior, 1) := by decide +kernel
theorem dX8_add_13 : decode cX8_add 13 = .ok (.putfield 7, 3) := by decide +kernel
theorem dX8_add_16 : decode cX8_add 16 = .ok (.return_, 1) := by decide +kernel
set_option maxRecDepth 20000 in
theorem ggX8_favour_X8_means : GoodIn wsX8_favour wsX8_means := goodIn_r _ [6, 7, 8, 9] rfl (by decide +kernel)
set_option maxRecDepth 20000 in
theorem gX8_favour_X8_means : GoodIn wsX8_favour (wsV RX8 17 RX8 yX8_means wsX8_means) := goodIn_app (goodIn_of _ (by decide +kernel)) ggX8_favour_X8_means
theorem dX8_favour_0 : decode cX8_favour 0 = .ok (.aload_n 0, 1) := by decide +kernel
theorem dX8_favour_1 : decode cX8_favour 1 = .ok (.getfield 13, 3) := by decide +kernel
theorem dX8_favour_4 : decode cX8_favour 4 = .ok (.ifCond .eq 5, 3) := by decide +kernel
theorem dX8_favour_7 : decode cX8_favour 7 = .ok (.iconst 5, 1) := by decide +kernel
theorem dX8_favour_8 : decode cX8_favour 8 = .ok (.ireturn, 1) := by decide +kernel
theorem dX8_favour_9 : decode cX8_favour 9 = .ok (.aload_n 0, 1) := by decide +kernel
theorem dX8_favour_10 : decode cX8_favour 10 = .ok (.iload_n 1, 1) := by decide +kernel
theorem dX8_favour_11 : decode cX8_favour 11 = .ok (.invokevirtual 17, 3) := by decide +kernel
theorem dX8_favour_14 : decode cX8_favour 14 = .ok (.ifCond .eq 8, 3) := by decide +kernel
theorem dX8_favour_17 : decode cX8_favour 17 = .ok (.bipush 6, 2) := by decide +kernel
theorem dX8_favour_19 : decode cX8_favour 19 = .ok (.goto 4, 3) := by decide +kernel
theorem dX8_favour_22 : decode cX8_favour 22 = .ok (.iconst 4, 1) := by decide +kernel
theorem dX8_favour_23 : decode cX8_favour 23 = .ok (.ireturn, 1) := by decide +kernel
theorem dX9_init_0 : decode cX9_init 0 = .ok (.aload_n 0, 1) := by decide +kernel
theorem dX9_init_1 : decode cX9_init 1 = .ok (.invokespecial 1, 3) := by decide +kernel
theorem dX9_init_4 : decode cX9_init 4 = .ok (.return_, 1) := by decide +kernel
theorem dX10_init_0 : decode cX10_init 0 = .ok (.aload_n 0, 1) := by decide +kernel
theorem dX10_init_1 : decode cX10_init 1 = .ok (.invokespecial 3, 3) := by decide +kernel
theorem dX10_init_4 : decode cX10_init 4 = .ok (.return_, 1) := by decide +kernel
theorem dX10_carries_0 : decode cX10_carries 0 = .ok (.aload_n 0, 1) := by decide +kernel
theorem dX10_carries_1 : decode cX10_carries 1 = .ok (.getfield 9, 3) := by decide +kernel
theorem dX10_carries_4 : decode cX10_carries 4 = .ok (.ifCond .ne 55, 3) := by decide +kernel
theorem dX10_carries_7 : decode cX10_carries 7 = .ok (.aload_n 1, 1) := by decide +kernel
theorem dX10_carries_8 : decode cX10_carries 8 = .ok (.getfield 15, 3) := by decide +kernel
theorem dX10_carries_11 : decode cX10_carries 11 = .ok (.iconst 5, 1) := by decide +kernel
theorem dX10_carries_12 : decode cX10_carries 12 = .ok (.if_icmp .lt 45, 3) := by decide +kernel
theorem dX10_carries_15 : decode cX10_carries 15 = .ok (.aload_n 1, 1) := by decide +kernel
theorem dX10_carries_16 : decode cX10_carries 16 = .ok (.getfield 15, 3) := by decide +kernel
theorem dX10_carries_19 : decode cX10_carries 19 = .ok (.bipush 25, 2) := by decide +kernel
theorem dX10_carries_21 : decode cX10_carries 21 = .ok (.if_icmp .gt 36, 3) := by decide +kernel
theorem dX10_carries_24 : decode cX10_carries 24 = .ok (.aload_n 1, 1) := by decide +kernel
theorem dX10_carries_25 : decode cX10_carries 25 = .ok (.getfield 20, 3) := by decide +kernel
theorem dX10_carries_28 : decode cX10_carries 28 = .ok (.iconst 3, 1) := by decide +kernel
theorem dX10_carries_29 : decode cX10_carries 29 = .ok (.if_icmp .lt 28, 3) := by decide +kernel
theorem dX10_carries_32 : decode cX10_carries 32 = .ok (.iload_n 2, 1) := by decide +kernel
theorem dX10_carries_33 : decode cX10_carries 33 = .ok (.aload_n 1, 1) := by decide +kernel
theorem dX10_carries_34 : decode cX10_carries 34 = .ok (.getfield 15, 3) := by decide +kernel
theorem dX10_carries_37 : decode cX10_carries 37 = .ok (.iconst 2, 1) := by decide +kernel
theorem dX10_carries_38 : decode cX10_carries 38 = .ok (.idiv, 1) := by decide +kernel
theorem dX10_carries_39 : decode cX10_carries 39 = .ok (.if_icmp .gt 18, 3) := by decide +kernel
theorem dX10_carries_42 : decode cX10_carries 42 = .ok (.iload_n 2, 1) := by decide +kernel
theorem dX10_carries_43 : decode cX10_carries 43 = .ok (.aload_n 1, 1) := by decide +kernel
theorem dX10_carries_44 : decode cX10_carries 44 = .ok (.getfield 15, 3) := by decide +kernel
theorem dX10_carries_47 : decode cX10_carries 47 = .ok (.iconst 4, 1) := by decide +kernel
theorem dX10_carries_48 : decode cX10_carries 48 = .ok (.idiv, 1) := by decide +kernel
theorem dX10_carries_49 : decode cX10_carries 49 = .ok (.ineg, 1) := by decide +kernel
theorem dX10_carries_50 : decode cX10_carries 50 = .ok (.if_icmp .lt 7, 3) := by decide +kernel
theorem dX10_carries_53 : decode cX10_carries 53 = .ok (.iconst 1, 1) := by decide +kernel
theorem dX10_carries_54 : decode cX10_carries 54 = .ok (.goto 4, 3) := by decide +kernel
theorem dX10_carries_57 : decode cX10_carries 57 = .ok (.iconst 0, 1) := by decide +kernel
theorem dX10_carries_58 : decode cX10_carries 58 = .ok (.ireturn, 1) := by decide +kernel
theorem dX10_carries_59 : decode cX10_carries 59 = .ok (.aload_n 0, 1) := by decide +kernel
theorem dX10_carries_60 : decode cX10_carries 60 = .ok (.getfield 9, 3) := by decide +kernel
theorem dX10_carries_63 : decode cX10_carries 63 = .ok (.iconst 1, 1) := by decide +kernel
theorem dX10_carries_64 : decode cX10_carries 64 = .ok (.if_icmp .ne 21, 3) := by decide +kernel
theorem dX10_carries_67 : decode cX10_carries 67 = .ok (.iload_n 2, 1) := by decide +kernel
theorem dX10_carries_68 : decode cX10_carries 68 = .ok (.bipush (-6), 2) := by decide +kernel
theorem dX10_carries_70 : decode cX10_carries 70 = .ok (.if_icmp .lt 13, 3) := by decide +kernel
theorem dX10_carries_73 : decode cX10_carries 73 = .ok (.iload_n 2, 1) := by decide +kernel
theorem dX10_carries_74 : decode cX10_carries 74 = .ok (.bipush 8, 2) := by decide +kernel
theorem dX10_carries_76 : decode cX10_carries 76 = .ok (.if_icmp .gt 7, 3) := by decide +kernel
theorem dX10_carries_79 : decode cX10_carries 79 = .ok (.iconst 1, 1) := by decide +kernel
theorem dX10_carries_80 : decode cX10_carries 80 = .ok (.goto 4, 3) := by decide +kernel
theorem dX10_carries_83 : decode cX10_carries 83 = .ok (.iconst 0, 1) := by decide +kernel
theorem dX10_carries_84 : decode cX10_carries 84 = .ok (.ireturn, 1) := by decide +kernel
theorem dX10_carries_85 : decode cX10_carries 85 = .ok (.aload_n 0, 1) := by decide +kernel
theorem dX10_carries_86 : decode cX10_carries 86 = .ok (.getfield 9, 3) := by decide +kernel
theorem dX10_carries_89 : decode cX10_carries 89 = .ok (.iconst 2, 1) := by decide +kernel
theorem dX10_carries_90 : decode cX10_carries 90 = .ok (.if_icmp .ne 29, 3) := by decide +kernel
theorem dX10_carries_93 : decode cX10_carries 93 = .ok (.aload_n 1, 1) := by decide +kernel
theorem dX10_carries_94 : decode cX10_carries 94 = .ok (.getfield 23, 3) := by decide +kernel
theorem dX10_carries_97 : decode cX10_carries 97 = .ok (.bipush 30, 2) := by decide +kernel
theorem dX10_carries_99 : decode cX10_carries 99 = .ok (.if_icmp .gt 18, 3) := by decide +kernel
theorem dX10_carries_102 : decode cX10_carries 102 = .ok (.iload_n 2, 1) := by decide +kernel
theorem dX10_carries_103 : decode cX10_carries 103 = .ok (.bipush (-3), 2) := by decide +kernel
theorem dX10_carries_105 : decode cX10_carries 105 = .ok (.if_icmp .lt 12, 3) := by decide +kernel
theorem dX10_carries_108 : decode cX10_carries 108 = .ok (.iload_n 2, 1) := by decide +kernel
theorem dX10_carries_109 : decode cX10_carries 109 = .ok (.iconst 5, 1) := by decide +kernel
theorem dX10_carries_110 : decode cX10_carries 110 = .ok (.if_icmp .gt 7, 3) := by decide +kernel
theorem dX10_carries_113 : decode cX10_carries 113 = .ok (.iconst 1, 1) := by decide +kernel
theorem dX10_carries_114 : decode cX10_carries 114 = .ok (.goto 4, 3) := by decide +kernel
theorem dX10_carries_117 : decode cX10_carries 117 = .ok (.iconst 0, 1) := by decide +kernel
theorem dX10_carries_118 : decode cX10_carries 118 = .ok (.ireturn, 1) := by decide +kernel
theorem dX10_carries_119 : decode cX10_carries 119 = .ok (.aload_n 1, 1) := by decide +kernel
theorem dX10_carries_120 : decode cX10_carries 120 = .ok (.getfield 23, 3) := by decide +kernel
theorem dX10_carries_123 : decode cX10_carries 123 = .ok (.bipush 20, 2) := by decide +kernel
theorem dX10_carries_125 : decode cX10_carries 125 = .ok (.if_icmp .gt 13, 3) := by decide +kernel
theorem dX10_carries_128 : decode cX10_carries 128 = .ok (.iload_n 2, 1) := by decide +kernel
theorem dX10_carries_129 : decode cX10_carries 129 = .ok (.bipush 12, 2) := by decide +kernel
theorem dX10_carries_131 : decode cX10_carries 131 = .ok (.if_icmp .gt 7, 3) := by decide +kernel
theorem dX10_carries_134 : decode cX10_carries 134 = .ok (.iconst 1, 1) := by decide +kernel
theorem dX10_carries_135 : decode cX10_carries 135 = .ok (.goto 4, 3) := by decide +kernel
theorem dX10_carries_138 : decode cX10_carries 138 = .ok (.iconst 0, 1) := by decide +kernel
theorem dX10_carries_139 : decode cX10_carries 139 = .ok (.ireturn, 1) := by decide +kernel
set_option maxRecDepth 20000 in
theorem ggX10_passable_X3_slopeAt : GoodIn wsX10_passable wsX3_slopeAt := goodIn_r _ [6, 7, 8, 9, 10, 20, 21, 22] rfl (by decide +kernel)
set_option maxRecDepth 20000 in
theorem gX10_passable_X3_slopeAt : GoodIn wsX10_passable (wsV RX10 31 RX3 yX3_slopeAt wsX3_slopeAt) := goodIn_app (goodIn_of _ (by decide +kernel)) ggX10_passable_X3_slopeAt
set_option maxRecDepth 20000 in
theorem ggX10_passable_X10_carries : GoodIn wsX10_passable wsX10_carries := goodIn_r _ [15, 16, 17, 18, 19, 23, 24, 25, 26, 27, 28, 29, 30, 31, 32, 33] rfl (by decide +kernel)
set_option maxRecDepth 20000 in
theorem gX10_passable_X10_carries : GoodIn wsX10_passable (wsV RX10 35 RX10 yX10_carries wsX10_carries) := goodIn_app (goodIn_of _ (by decide +kernel)) ggX10_passable_X10_carries
theorem dX10_passable_0 : decode cX10_passable 0 = .ok (.iconst 0, 1) := by decide +kernel
theorem dX10_passable_1 : decode cX10_passable 1 = .ok (.istore_n 3, 1) := by decide +kernel
theorem dX10_passable_2 : decode cX10_passable 2 = .ok (.iconst 0, 1) := by decide +kernel
theorem dX10_passable_3 : decode cX10_passable 3 = .ok (.istore 4, 2) := by decide +kernel
theorem dX10_passable_5 : decode cX10_passable 5 = .ok (.iload 4, 2) := by decide +kernel
theorem dX10_passable_7 : decode cX10_passable 7 = .ok (.aload_n 2, 1) := by decide +kernel
theorem dX10_passable_8 : decode cX10_passable 8 = .ok (.getfield 26, 3) := by decide +kernel
theorem dX10_passable_11 : decode cX10_passable 11 = .ok (.if_icmp .ge 30, 3) := by decide +kernel
theorem dX10_passable_14 : decode cX10_passable 14 = .ok (.aload_n 0, 1) := by decide +kernel
theorem dX10_passable_15 : decode cX10_passable 15 = .ok (.aload_n 1, 1) := by decide +kernel
theorem dX10_passable_16 : decode cX10_passable 16 = .ok (.aload_n 2, 1) := by decide +kernel
theorem dX10_passable_17 : decode cX10_passable 17 = .ok (.iload 4, 2) := by decide +kernel
theorem dX10_passable_19 : decode cX10_passable 19 = .ok (.invokevirtual 31, 3) := by decide +kernel
theorem dX10_passable_22 : decode cX10_passable 22 = .ok (.invokevirtual 35, 3) := by decide +kernel
theorem dX10_passable_25 : decode cX10_passable 25 = .ok (.ifCond .eq 10, 3) := by decide +kernel
theorem dX10_passable_28 : decode cX10_passable 28 = .ok (.iload_n 3, 1) := by decide +kernel
theorem dX10_passable_29 : decode cX10_passable 29 = .ok (.iconst 1, 1) := by decide +kernel
theorem dX10_passable_30 : decode cX10_passable 30 = .ok (.iload 4, 2) := by decide +kernel
theorem dX10_passable_32 : decode cX10_passable 32 = .ok (.ishl, 1) := by decide +kernel
theorem dX10_passable_33 : decode cX10_passable 33 = .ok (.ior, 1) := by decide +kernel
theorem dX10_passable_34 : decode cX10_passable 34 = .ok (.istore_n 3, 1) := by decide +kernel
theorem dX10_passable_35 : decode cX10_passable 35 = .ok (.iinc 4 1, 3) := by decide +kernel
theorem dX10_passable_38 : decode cX10_passable 38 = .ok (.goto (-33), 3) := by decide +kernel
theorem dX10_passable_41 : decode cX10_passable 41 = .ok (.iload_n 3, 1) := by decide +kernel
theorem dX10_passable_42 : decode cX10_passable 42 = .ok (.ireturn, 1) := by decide +kernel
set_option maxRecDepth 20000 in
theorem ggX10_limit_X10_carries : GoodIn wsX10_limit wsX10_carries := goodIn_r _ [5, 6, 7, 8, 9, 10, 11, 12, 13, 14, 15, 16, 17, 18, 19, 20] rfl (by decide +kernel)
set_option maxRecDepth 20000 in
theorem gX10_limit_X10_carries : GoodIn wsX10_limit (wsV RX10 35 RX10 yX10_carries wsX10_carries) := goodIn_app (goodIn_of _ (by decide +kernel)) ggX10_limit_X10_carries
theorem dX10_limit_0 : decode cX10_limit 0 = .ok (.iload_n 2, 1) := by decide +kernel
theorem dX10_limit_1 : decode cX10_limit 1 = .ok (.ifCond .eq 7, 3) := by decide +kernel
theorem dX10_limit_4 : decode cX10_limit 4 = .ok (.iconst 1, 1) := by decide +kernel
theorem dX10_limit_5 : decode cX10_limit 5 = .ok (.goto 4, 3) := by decide +kernel
theorem dX10_limit_8 : decode cX10_limit 8 = .ok (.iconst (-1), 1) := by decide +kernel
theorem dX10_limit_9 : decode cX10_limit 9 = .ok (.istore_n 3, 1) := by decide +kernel
theorem dX10_limit_10 : decode cX10_limit 10 = .ok (.iconst 0, 1) := by decide +kernel
theorem dX10_limit_11 : decode cX10_limit 11 = .ok (.istore 4, 2) := by decide +kernel
theorem dX10_limit_13 : decode cX10_limit 13 = .ok (.iload 4, 2) := by decide +kernel
theorem dX10_limit_15 : decode cX10_limit 15 = .ok (.bipush 40, 2) := by decide +kernel
theorem dX10_limit_17 : decode cX10_limit 17 = .ok (.if_icmp .gt 31, 3) := by decide +kernel
theorem dX10_limit_20 : decode cX10_limit 20 = .ok (.iload_n 3, 1) := by decide +kernel
theorem dX10_limit_21 : decode cX10_limit 21 = .ok (.iload 4, 2) := by decide +kernel
theorem dX10_limit_23 : decode cX10_limit 23 = .ok (.bipush 20, 2) := by decide +kernel
theorem dX10_limit_25 : decode cX10_limit 25 = .ok (.isub, 1) := by decide +kernel
theorem dX10_limit_26 : decode cX10_limit 26 = .ok (.imul, 1) := by decide +kernel
theorem dX10_limit_27 : decode cX10_limit 27 = .ok (.istore 5, 2) := by decide +kernel
theorem dX10_limit_29 : decode cX10_limit 29 = .ok (.aload_n 0, 1) := by decide +kernel
theorem dX10_limit_30 : decode cX10_limit 30 = .ok (.aload_n 1, 1) := by decide +kernel
theorem dX10_limit_31 : decode cX10_limit 31 = .ok (.iload 5, 2) := by decide +kernel
theorem dX10_limit_33 : decode cX10_limit 33 = .ok (.invokevirtual 35, 3) := by decide +kernel
theorem dX10_limit_36 : decode cX10_limit 36 = .ok (.ifCond .eq 6, 3) := by decide +kernel
theorem dX10_limit_39 : decode cX10_limit 39 = .ok (.iload 5, 2) := by decide +kernel
theorem dX10_limit_41 : decode cX10_limit 41 = .ok (.ireturn, 1) := by decide +kernel
theorem dX10_limit_42 : decode cX10_limit 42 = .ok (.iinc 4 1, 3) := by decide +kernel
theorem dX10_limit_45 : decode cX10_limit 45 = .ok (.goto (-32), 3) := by decide +kernel
theorem dX10_limit_48 : decode cX10_limit 48 = .ok (.bipush (-100), 2) := by decide +kernel
theorem dX10_limit_50 : decode cX10_limit 50 = .ok (.ireturn, 1) := by decide +kernel
set_option maxRecDepth 20000 in
theorem ggX10_hands_X11_entry : GoodIn wsX10_hands wsX11_entry := goodIn_r _ [10] rfl (by decide +kernel)
set_option maxRecDepth 20000 in
theorem gX10_hands_X11_entry_n49 : GoodIn wsX10_hands (wsX11_entry) := ggX10_hands_X11_entry
set_option maxRecDepth 20000 in
theorem ggX10_hands_X11_upwards : GoodIn wsX10_hands wsX11_upwards := goodIn_r _ [12] rfl (by decide +kernel)
set_option maxRecDepth 20000 in
theorem gX10_hands_X11_upwards_n56 : GoodIn wsX10_hands (wsX11_upwards) := ggX10_hands_X11_upwards
theorem dX10_hands_0 : decode cX10_hands 0 = .ok (.bipush 100, 2) := by decide +kernel
theorem dX10_hands_2 : decode cX10_hands 2 = .ok (.iconst 5, 1) := by decide +kernel
theorem dX10_hands_3 : decode cX10_hands 3 = .ok (.iload_n 2, 1) := by decide +kernel
theorem dX10_hands_4 : decode cX10_hands 4 = .ok (.iconst 0, 1) := by decide +kernel
theorem dX10_hands_5 : decode cX10_hands 5 = .ok (.invokestatic 39, 3) := by decide +kernel
theorem dX10_hands_8 : decode cX10_hands 8 = .ok (.imul, 1) := by decide +kernel
theorem dX10_hands_9 : decode cX10_hands 9 = .ok (.iadd, 1) := by decide +kernel
theorem dX10_hands_10 : decode cX10_hands 10 = .ok (.istore_n 3, 1) := by decide +kernel
theorem dX10_hands_11 : decode cX10_hands 11 = .ok (.iload_n 1, 1) := by decide +kernel
theorem dX10_hands_12 : decode cX10_hands 12 = .ok (.bipush 10, 2) := by decide +kernel
theorem dX10_hands_14 : decode cX10_hands 14 = .ok (.imul, 1) := by decide +kernel
theorem dX10_hands_15 : decode cX10_hands 15 = .ok (.getstatic 45, 3) := by decide +kernel
theorem dX10_hands_18 : decode cX10_hands 18 = .ok (.aload_n 0, 1) := by decide +kernel
theorem dX10_hands_19 : decode cX10_hands 19 = .ok (.getfield 9, 3) := by decide +kernel
theorem dX10_hands_22 : decode cX10_hands 22 = .ok (.invokestatic 49, 3) := by decide +kernel
theorem dX10_hands_25 : decode cX10_hands 25 = .ok (.imul, 1) := by decide +kernel
theorem dX10_hands_26 : decode cX10_hands 26 = .ok (.iload_n 3, 1) := by decide +kernel
theorem dX10_hands_27 : decode cX10_hands 27 = .ok (.imul, 1) := by decide +kernel
theorem dX10_hands_28 : decode cX10_hands 28 = .ok (.bipush 100, 2) := by decide +kernel
theorem dX10_hands_30 : decode cX10_hands 30 = .ok (.aload_n 0, 1) := by decide +kernel
theorem dX10_hands_31 : decode cX10_hands 31 = .ok (.getfield 53, 3) := by decide +kernel
theorem dX10_hands_34 : decode cX10_hands 34 = .ok (.imul, 1) := by decide +kernel
theorem dX10_hands_35 : decode cX10_hands 35 = .ok (.invokestatic 56, 3) := by decide +kernel
theorem dX10_hands_38 : decode cX10_hands 38 = .ok (.ireturn, 1) := by decide +kernel
set_option maxRecDepth 20000 in
theorem ggX10_handsAlong_X3_slopeAt : GoodIn wsX10_handsAlong wsX3_slopeAt := goodIn_r _ [10, 11, 12, 13, 14, 25, 26, 27] rfl (by decide +kernel)
set_option maxRecDepth 20000 in
theorem gX10_handsAlong_X3_slopeAt : GoodIn wsX10_handsAlong (wsV RX10 31 RX3 yX3_slopeAt wsX3_slopeAt) := goodIn_app (goodIn_of _ (by decide +kernel)) ggX10_handsAlong_X3_slopeAt
set_option maxRecDepth 20000 in
theorem ggX10_handsAlong_X10_hands : GoodIn wsX10_handsAlong wsX10_hands := goodIn_r _ [19, 2, 3, 4, 5, 20, 21, 22, 12, 13, 14, 23, 24, 28, 29, 30] rfl (by decide +kernel)
set_option maxRecDepth 20000 in
theorem gX10_handsAlong_X10_hands : GoodIn wsX10_handsAlong (wsV RX10 59 RX10 yX10_hands wsX10_hands) := goodIn_app (goodIn_of _ (by decide +kernel)) ggX10_handsAlong_X10_hands
theorem dX10_handsAlong_0 : decode cX10_handsAlong 0 = .ok (.iconst 0, 1) := by decide +kernel
theorem dX10_handsAlong_1 : decode cX10_handsAlong 1 = .ok (.istore_n 3, 1) := by decide +kernel
theorem dX10_handsAlong_2 : decode cX10_handsAlong 2 = .ok (.iconst 0, 1) := by decide +kernel
theorem dX10_handsAlong_3 : decode cX10_handsAlong 3 = .ok (.istore 4, 2) := by decide +kernel
theorem dX10_handsAlong_5 : decode cX10_handsAlong 5 = .ok (.iload 4, 2) := by decide +kernel
theorem dX10_handsAlong_7 : decode cX10_handsAlong 7 = .ok (.aload_n 2, 1) := by decide +kernel
theorem dX10_handsAlong_8 : decode cX10_handsAlong 8 = .ok (.getfield 26, 3) := by decide +kernel
theorem dX10_handsAlong_11 : decode cX10_handsAlong 11 = .ok (.if_icmp .ge 25, 3) := by decide +kernel
theorem dX10_handsAlong_14 : decode cX10_handsAlong 14 = .ok (.iload_n 3, 1) := by decide +kernel
theorem dX10_handsAlong_15 : decode cX10_handsAlong 15 = .ok (.aload_n 0, 1) := by decide +kernel
theorem dX10_handsAlong_16 : decode cX10_handsAlong 16 = .ok (.iload_n 1, 1) := by decide +kernel
theorem dX10_handsAlong_17 : decode cX10_handsAlong 17 = .ok (.aload_n 2, 1) := by decide +kernel
theorem dX10_handsAlong_18 : decode cX10_handsAlong 18 = .ok (.iload 4, 2) := by decide +kernel
theorem dX10_handsAlong_20 : decode cX10_handsAlong 20 = .ok (.invokevirtual 31, 3) := by decide +kernel
theorem dX10_handsAlong_23 : decode cX10_handsAlong 23 = .ok (.invokevirtual 59, 3) := by decide +kernel
theorem dX10_handsAlong_26 : decode cX10_handsAlong 26 = .ok (.invokestatic 39, 3) := by decide +kernel
theorem dX10_handsAlong_29 : decode cX10_handsAlong 29 = .ok (.istore_n 3, 1) := by decide +kernel
theorem dX10_handsAlong_30 : decode cX10_handsAlong 30 = .ok (.iinc 4 1, 3) := by decide +kernel
theorem dX10_handsAlong_33 : decode cX10_handsAlong 33 = .ok (.goto (-28), 3) := by decide +kernel
theorem dX10_handsAlong_36 : decode cX10_handsAlong 36 = .ok (.iload_n 3, 1) := by decide +kernel
theorem dX10_handsAlong_37 : decode cX10_handsAlong 37 = .ok (.ireturn, 1) := by decide +kernel
set_option maxRecDepth 20000 in
theorem ggX10_duration_X11_entry : GoodIn wsX10_duration wsX11_entry := goodIn_r _ [9] rfl (by decide +kernel)
set_option maxRecDepth 20000 in
theorem gX10_duration_X11_entry_n49 : GoodIn wsX10_duration (wsX11_entry) := ggX10_duration_X11_entry
set_option maxRecDepth 20000 in
theorem ggX10_duration_X10_hands : GoodIn wsX10_duration wsX10_hands := goodIn_r _ [14, 3, 4, 5, 6, 15, 2, 16, 7, 8, 9, 17, 18, 19, 20, 21] rfl (by decide +kernel)
set_option maxRecDepth 20000 in
theorem gX10_duration_X10_hands : GoodIn wsX10_duration (wsV RX10 59 RX10 yX10_hands wsX10_hands) := goodIn_app (goodIn_of _ (by decide +kernel)) ggX10_duration_X10_hands
set_option maxRecDepth 20000 in
theorem ggX10_duration_X11_upwards : GoodIn wsX10_duration wsX11_upwards := goodIn_r _ [18] rfl (by decide +kernel)
set_option maxRecDepth 20000 in
theorem gX10_duration_X11_upwards_n56 : GoodIn wsX10_duration (wsX11_upwards) := ggX10_duration_X11_upwards
theorem dX10_duration_0 : decode cX10_duration 0 = .ok (.getstatic 62, 3) := by decide +kernel
theorem dX10_duration_3 : decode cX10_duration 3 = .ok (.aload_n 0, 1) := by decide +kernel
theorem dX10_duration_4 : decode cX10_duration 4 = .ok (.getfield 9, 3) := by decide +kernel
theorem dX10_duration_7 : decode cX10_duration 7 = .ok (.invokestatic 49, 3) := by decide +kernel
theorem dX10_duration_10 : decode cX10_duration 10 = .ok (.istore 4, 2) := by decide +kernel
theorem dX10_duration_12 : decode cX10_duration 12 = .ok (.iload 4, 2) := by decide +kernel
theorem dX10_duration_14 : decode cX10_duration 14 = .ok (.aload_n 0, 1) := by decide +kernel
theorem dX10_duration_15 : decode cX10_duration 15 = .ok (.iload_n 1, 1) := by decide +kernel
theorem dX10_duration_16 : decode cX10_duration 16 = .ok (.iload_n 2, 1) := by decide +kernel
theorem dX10_duration_17 : decode cX10_duration 17 = .ok (.invokevirtual 59, 3) := by decide +kernel
theorem dX10_duration_20 : decode cX10_duration 20 = .ok (.imul, 1) := by decide +kernel
theorem dX10_duration_21 : decode cX10_duration 21 = .ok (.iload_n 3, 1) := by decide +kernel
theorem dX10_duration_22 : decode cX10_duration 22 = .ok (.invokestatic 56, 3) := by decide +kernel
theorem dX10_duration_25 : decode cX10_duration 25 = .ok (.iload 4, 2) := by decide +kernel
theorem dX10_duration_27 : decode cX10_duration 27 = .ok (.iconst 2, 1) := by decide +kernel
theorem dX10_duration_28 : decode cX10_duration 28 = .ok (.idiv, 1) := by decide +kernel
theorem dX10_duration_29 : decode cX10_duration 29 = .ok (.invokestatic 39, 3) := by decide +kernel
theorem dX10_duration_32 : decode cX10_duration 32 = .ok (.ireturn, 1) := by decide +kernel
set_option maxRecDepth 20000 in
theorem ggX10_risk_X11_entry : GoodIn wsX10_risk wsX11_entry := goodIn_r _ [15] rfl (by decide +kernel)
set_option maxRecDepth 20000 in
theorem gX10_risk_X11_entry_n49 : GoodIn wsX10_risk (wsX11_entry) := ggX10_risk_X11_entry
theorem dX10_risk_0 : decode cX10_risk 0 = .ok (.getstatic 65, 3) := by decide +kernel
theorem dX10_risk_3 : decode cX10_risk 3 = .ok (.aload_n 0, 1) := by decide +kernel
theorem dX10_risk_4 : decode cX10_risk 4 = .ok (.getfield 9, 3) := by decide +kernel
theorem dX10_risk_7 : decode cX10_risk 7 = .ok (.invokestatic 49, 3) := by decide +kernel
theorem dX10_risk_10 : decode cX10_risk 10 = .ok (.iload_n 2, 1) := by decide +kernel
theorem dX10_risk_11 : decode cX10_risk 11 = .ok (.invokestatic 68, 3) := by decide +kernel
theorem dX10_risk_14 : decode cX10_risk 14 = .ok (.imul, 1) := by decide +kernel
theorem dX10_risk_15 : decode cX10_risk 15 = .ok (.istore_n 3, 1) := by decide +kernel
theorem dX10_risk_16 : decode cX10_risk 16 = .ok (.aload_n 0, 1) := by decide +kernel
theorem dX10_risk_17 : decode cX10_risk 17 = .ok (.getfield 9, 3) := by decide +kernel
theorem dX10_risk_20 : decode cX10_risk 20 = .ok (.ifCond .ne 14, 3) := by decide +kernel
theorem dX10_risk_23 : decode cX10_risk 23 = .ok (.iload_n 3, 1) := by decide +kernel
theorem dX10_risk_24 : decode cX10_risk 24 = .ok (.bipush 10, 2) := by decide +kernel
theorem dX10_risk_26 : decode cX10_risk 26 = .ok (.iload_n 1, 1) := by decide +kernel
theorem dX10_risk_27 : decode cX10_risk 27 = .ok (.isub, 1) := by decide +kernel
theorem dX10_risk_28 : decode cX10_risk 28 = .ok (.iconst 0, 1) := by decide +kernel
theorem dX10_risk_29 : decode cX10_risk 29 = .ok (.invokestatic 39, 3) := by decide +kernel
theorem dX10_risk_32 : decode cX10_risk 32 = .ok (.iadd, 1) := by decide +kernel
theorem dX10_risk_33 : decode cX10_risk 33 = .ok (.istore_n 3, 1) := by decide +kernel
theorem dX10_risk_34 : decode cX10_risk 34 = .ok (.iload_n 3, 1) := by decide +kernel
theorem dX10_risk_35 : decode cX10_risk 35 = .ok (.bipush 100, 2) := by decide +kernel
theorem dX10_risk_37 : decode cX10_risk 37 = .ok (.invokestatic 71, 3) := by decide +kernel
theorem dX10_risk_40 : decode cX10_risk 40 = .ok (.ireturn, 1) := by decide +kernel
set_option maxRecDepth 20000 in
theorem ggX10_tenths_J6_compare_7cf53 : GoodIn wsX10_tenths wsJ6_compare_7cf53 := goodIn_r _ [6] rfl (by decide +kernel)
set_option maxRecDepth 20000 in
theorem gX10_tenths_J6_compare_7cf53 : GoodIn wsX10_tenths (va_wsS RX10 74 yJ6_compare_7cf53 wsJ6_compare_7cf53) := goodIn_app (goodIn_of _ (by decide +kernel)) ggX10_tenths_J6_compare_7cf53
set_option maxRecDepth 20000 in
theorem ggX10_tenths_X11_entry : GoodIn wsX10_tenths wsX11_entry := goodIn_r _ [9] rfl (by decide +kernel)
set_option maxRecDepth 20000 in
theorem gX10_tenths_X11_entry_n49 : GoodIn wsX10_tenths (wsX11_entry) := ggX10_tenths_X11_entry
theorem dX10_tenths_0 : decode cX10_tenths 0 = .ok (.iload_n 1, 1) := by decide +kernel
theorem dX10_tenths_1 : decode cX10_tenths 1 = .ok (.iconst 0, 1) := by decide +kernel
theorem dX10_tenths_2 : decode cX10_tenths 2 = .ok (.invokestatic 74, 3) := by decide +kernel
theorem dX10_tenths_5 : decode cX10_tenths 5 = .ok (.iconst 1, 1) := by decide +kernel
theorem dX10_tenths_6 : decode cX10_tenths 6 = .ok (.iadd, 1) := by decide +kernel
theorem dX10_tenths_7 : decode cX10_tenths 7 = .ok (.istore_n 3, 1) := by decide +kernel
theorem dX10_tenths_8 : decode cX10_tenths 8 = .ok (.getstatic 79, 3) := by decide +kernel
theorem dX10_tenths_11 : decode cX10_tenths 11 = .ok (.aload_n 0, 1) := by decide +kernel
theorem dX10_tenths_12 : decode cX10_tenths 12 = .ok (.getfield 9, 3) := by decide +kernel
theorem dX10_tenths_15 : decode cX10_tenths 15 = .ok (.iconst 3, 1) := by decide +kernel
theorem dX10_tenths_16 : decode cX10_tenths 16 = .ok (.imul, 1) := by decide +kernel
theorem dX10_tenths_17 : decode cX10_tenths 17 = .ok (.iload_n 3, 1) := by decide +kernel
theorem dX10_tenths_18 : decode cX10_tenths 18 = .ok (.iadd, 1) := by decide +kernel
theorem dX10_tenths_19 : decode cX10_tenths 19 = .ok (.iconst 3, 1) := by decide +kernel
theorem dX10_tenths_20 : decode cX10_tenths 20 = .ok (.imul, 1) := by decide +kernel
theorem dX10_tenths_21 : decode cX10_tenths 21 = .ok (.iload_n 2, 1) := by decide +kernel
theorem dX10_tenths_22 : decode cX10_tenths 22 = .ok (.iadd, 1) := by decide +kernel
theorem dX10_tenths_23 : decode cX10_tenths 23 = .ok (.invokestatic 49, 3) := by decide +kernel
theorem dX10_tenths_26 : decode cX10_tenths 26 = .ok (.ireturn, 1) := by decide +kernel
set_option maxRecDepth 20000 in
theorem ggX10_woodFor_X11_entry : GoodIn wsX10_woodFor wsX11_entry := goodIn_r _ [5] rfl (by decide +kernel)
set_option maxRecDepth 20000 in
theorem gX10_woodFor_X11_entry_n49 : GoodIn wsX10_woodFor (wsX11_entry) := ggX10_woodFor_X11_entry
theorem dX10_woodFor_0 : decode cX10_woodFor 0 = .ok (.getstatic 82, 3) := by decide +kernel
theorem dX10_woodFor_3 : decode cX10_woodFor 3 = .ok (.aload_n 0, 1) := by decide +kernel
theorem dX10_woodFor_4 : decode cX10_woodFor 4 = .ok (.getfield 9, 3) := by decide +kernel
theorem dX10_woodFor_7 : decode cX10_woodFor 7 = .ok (.invokestatic 49, 3) := by decide +kernel
theorem dX10_woodFor_10 : decode cX10_woodFor 10 = .ok (.iload_n 1, 1) := by decide +kernel
theorem dX10_woodFor_11 : decode cX10_woodFor 11 = .ok (.imul, 1) := by decide +kernel
theorem dX10_woodFor_12 : decode cX10_woodFor 12 = .ok (.ireturn, 1) := by decide +kernel
set_option maxRecDepth 20000 in
theorem ggX10_hollowed_X11_entry : GoodIn wsX10_hollowed wsX11_entry := goodIn_r _ [5] rfl (by decide +kernel)
set_option maxRecDepth 20000 in
theorem gX10_hollowed_X11_entry_n49 : GoodIn wsX10_hollowed (wsX11_entry) := ggX10_hollowed_X11_entry
theorem dX10_hollowed_0 : decode cX10_hollowed 0 = .ok (.getstatic 85, 3) := by decide +kernel
theorem dX10_hollowed_3 : decode cX10_hollowed 3 = .ok (.aload_n 0, 1) := by decide +kernel
theorem dX10_hollowed_4 : decode cX10_hollowed 4 = .ok (.getfield 9, 3) := by decide +kernel
theorem dX10_hollowed_7 : decode cX10_hollowed 7 = .ok (.invokestatic 49, 3) := by decide +kernel
theorem dX10_hollowed_10 : decode cX10_hollowed 10 = .ok (.istore_n 2, 1) := by decide +kernel
theorem dX10_hollowed_11 : decode cX10_hollowed 11 = .ok (.iload_n 1, 1) := by decide +kernel
theorem dX10_hollowed_12 : decode cX10_hollowed 12 = .ok (.iconst 3, 1) := by decide +kernel
theorem dX10_hollowed_13 : decode cX10_hollowed 13 = .ok (.if_icmp .lt 7, 3) := by decide +kernel
theorem dX10_hollowed_16 : decode cX10_hollowed 16 = .ok (.iload_n 2, 1) := by decide +kernel
theorem dX10_hollowed_17 : decode cX10_hollowed 17 = .ok (.goto 7, 3) := by decide +kernel
theorem dX10_hollowed_20 : decode cX10_hollowed 20 = .ok (.bipush 10, 2) := by decide +kernel
theorem dX10_hollowed_22 : decode cX10_hollowed 22 = .ok (.iload_n 2, 1) := by decide +kernel
theorem dX10_hollowed_23 : decode cX10_hollowed 23 = .ok (.isub, 1) := by decide +kernel
theorem dX10_hollowed_24 : decode cX10_hollowed 24 = .ok (.ireturn, 1) := by decide +kernel
theorem dX10_shaped_0 : decode cX10_shaped 0 = .ok (.iload_n 1, 1) := by decide +kernel
theorem dX10_shaped_1 : decode cX10_shaped 1 = .ok (.sipush (-1000), 3) := by decide +kernel
theorem dX10_shaped_4 : decode cX10_shaped 4 = .ok (.if_icmp .ne 5, 3) := by decide +kernel
theorem dX10_shaped_7 : decode cX10_shaped 7 = .ok (.iconst 1, 1) := by decide +kernel
theorem dX10_shaped_8 : decode cX10_shaped 8 = .ok (.ireturn, 1) := by decide +kernel
theorem dX10_shaped_9 : decode cX10_shaped 9 = .ok (.iload_n 1, 1) := by decide +kernel
theorem dX10_shaped_10 : decode cX10_shaped 10 = .ok (.iconst 5, 1) := by decide +kernel
theorem dX10_shaped_11 : decode cX10_shaped 11 = .ok (.if_icmp .lt 17, 3) := by decide +kernel
theorem dX10_shaped_14 : decode cX10_shaped 14 = .ok (.aload_n 0, 1) := by decide +kernel
theorem dX10_shaped_15 : decode cX10_shaped 15 = .ok (.getfield 9, 3) := by decide +kernel
theorem dX10_shaped_18 : decode cX10_shaped 18 = .ok (.ifCond .ne 8, 3) := by decide +kernel
theorem dX10_shaped_21 : decode cX10_shaped 21 = .ok (.bipush 9, 2) := by decide +kernel
theorem dX10_shaped_23 : decode cX10_shaped 23 = .ok (.goto 4, 3) := by decide +kernel
theorem dX10_shaped_26 : decode cX10_shaped 26 = .ok (.iconst 3, 1) := by decide +kernel
theorem dX10_shaped_27 : decode cX10_shaped 27 = .ok (.ireturn, 1) := by decide +kernel
theorem dX10_shaped_28 : decode cX10_shaped 28 = .ok (.aload_n 0, 1) := by decide +kernel
theorem dX10_shaped_29 : decode cX10_shaped 29 = .ok (.getfield 9, 3) := by decide +kernel
theorem dX10_shaped_32 : decode cX10_shaped 32 = .ok (.ifCond .ne 7, 3) := by decide +kernel
theorem dX10_shaped_35 : decode cX10_shaped 35 = .ok (.iconst 2, 1) := by decide +kernel
theorem dX10_shaped_36 : decode cX10_shaped 36 = .ok (.goto 5, 3) := by decide +kernel
theorem dX10_shaped_39 : decode cX10_shaped 39 = .ok (.bipush 6, 2) := by decide +kernel
theorem dX10_shaped_41 : decode cX10_shaped 41 = .ok (.ireturn, 1) := by decide +kernel
set_option maxRecDepth 20000 in
theorem ggX11_init_X7_init : GoodIn wsX11_init wsX7_init := goodIn_r _ [28, 29, 2, 3, 30, 31, 101, 102, 103, 104, 105, 106, 107] rfl (by decide +kernel)
set_option maxRecDepth 20000 in
theorem gX11_init_X7_init_n9 : GoodIn wsX11_init (wsX7_init) := ggX11_init_X7_init
set_option maxRecDepth 20000 in
theorem ggX11_init_X2_init : GoodIn wsX11_init wsX2_init := goodIn_r _ [34, 35, 2, 3, 36, 37, 38, 39, 40, 41, 116, 117, 118, 119, 120, 121, 122] rfl (by decide +kernel)
set_option maxRecDepth 20000 in
theorem gX11_init_X2_init : GoodIn wsX11_init (wsX2_init) := ggX11_init_X2_init
set_option maxRecDepth 20000 in
theorem ggX11_init_X4_init : GoodIn wsX11_init wsX4_init := goodIn_r _ [43, 44, 2, 3, 38, 45, 46, 47, 123, 124, 125, 126] rfl (by decide +kernel)
set_option maxRecDepth 20000 in
theorem gX11_init_X4_init_n27 : GoodIn wsX11_init (wsX4_init) := ggX11_init_X4_init
set_option maxRecDepth 20000 in
theorem ggX11_init_X1_init : GoodIn wsX11_init wsX1_init := goodIn_r _ [49, 50, 2, 3] rfl (by decide +kernel)
set_option maxRecDepth 20000 in
theorem gX11_init_X1_init_n34 : GoodIn wsX11_init (wsX1_init) := ggX11_init_X1_init
set_option maxRecDepth 20000 in
theorem ggX11_init_X0_init : GoodIn wsX11_init wsX0_init := goodIn_r _ [53, 54, 2, 3, 55, 56, 57, 58, 59, 60, 61, 62, 63, 64, 65, 66, 67, 38, 68, 69, 70, 71, 72, 73, 74, 75, 76, 77, 78, 79, 80, 81, 82, 83, 84, 85, 86, 87, 88, 89, 90, 91, 92, 93, 94, 95, 96, 97, 98, 99, 100, 138, 139, 140, 141, 142, 143, 144, 145, 146, 147, 148, 149, 150, 151, 152, 153, 154, 155, 156, 157, 158, 159, 160, 161, 162, 163, 164, 165, 166, 167, 168, 169, 170, 171, 172, 173, 174, 175, 176, 177, 178, 179, 180] rfl (by decide +kernel)
set_option maxRecDepth 20000 in
theorem gX11_init_X0_init : GoodIn wsX11_init (wsX0_init) := ggX11_init_X0_init
theorem dX11_init_0 : decode cX11_init 0 = .ok (.aload_n 0, 1) := by decide +kernel
theorem dX11_init_1 : decode cX11_init 1 = .ok (.invokespecial 1, 3) := by decide +kernel
theorem dX11_init_4 : decode cX11_init 4 = .ok (.aload_n 0, 1) := by decide +kernel
theorem dX11_init_5 : decode cX11_init 5 = .ok (.new 7, 3) := by decide +kernel
theorem dX11_init_8 : decode cX11_init 8 = .ok (.dup, 1) := by decide +kernel
theorem dX11_init_9 : decode cX11_init 9 = .ok (.invokespecial 9, 3) := by decide +kernel
theorem dX11_init_12 : decode cX11_init 12 = .ok (.putfield 10, 3) := by decide +kernel
theorem dX11_init_15 : decode cX11_init 15 = .ok (.aload_n 0, 1) := by decide +kernel
theorem dX11_init_16 : decode cX11_init 16 = .ok (.new 16, 3) := by decide +kernel
theorem dX11_init_19 : decode cX11_init 19 = .ok (.dup, 1) := by decide +kernel
theorem dX11_init_20 : decode cX11_init 20 = .ok (.aload_n 0, 1) := by decide +kernel
theorem dX11_init_21 : decode cX11_init 21 = .ok (.getfield 10, 3) := by decide +kernel
theorem dX11_init_24 : decode cX11_init 24 = .ok (.invokespecial 18, 3) := by decide +kernel
theorem dX11_init_27 : decode cX11_init 27 = .ok (.putfield 21, 3) := by decide +kernel
theorem dX11_init_30 : decode cX11_init 30 = .ok (.aload_n 0, 1) := by decide +kernel
theorem dX11_init_31 : decode cX11_init 31 = .ok (.new 25, 3) := by decide +kernel
theorem dX11_init_34 : decode cX11_init 34 = .ok (.dup, 1) := by decide +kernel
theorem dX11_init_35 : decode cX11_init 35 = .ok (.invokespecial 27, 3) := by decide +kernel
theorem dX11_init_38 : decode cX11_init 38 = .ok (.putfield 28, 3) := by decide +kernel
theorem dX11_init_41 : decode cX11_init 41 = .ok (.aload_n 0, 1) := by decide +kernel
theorem dX11_init_42 : decode cX11_init 42 = .ok (.new 32, 3) := by decide +kernel
theorem dX11_init_45 : decode cX11_init 45 = .ok (.dup, 1) := by decide +kernel
theorem dX11_init_46 : decode cX11_init 46 = .ok (.invokespecial 34, 3) := by decide +kernel
theorem dX11_init_49 : decode cX11_init 49 = .ok (.putfield 35, 3) := by decide +kernel
theorem dX11_init_52 : decode cX11_init 52 = .ok (.aload_n 0, 1) := by decide +kernel
theorem dX11_init_53 : decode cX11_init 53 = .ok (.new 32, 3) := by decide +kernel
theorem dX11_init_56 : decode cX11_init 56 = .ok (.dup, 1) := by decide +kernel
theorem dX11_init_57 : decode cX11_init 57 = .ok (.invokespecial 34, 3) := by decide +kernel
theorem dX11_init_60 : decode cX11_init 60 = .ok (.putfield 39, 3) := by decide +kernel
theorem dX11_init_63 : decode cX11_init 63 = .ok (.aload_n 0, 1) := by decide +kernel
theorem dX11_init_64 : decode cX11_init 64 = .ok (.new 42, 3) := by decide +kernel
theorem dX11_init_67 : decode cX11_init 67 = .ok (.dup, 1) := by decide +kernel
theorem dX11_init_68 : decode cX11_init 68 = .ok (.invokespecial 44, 3) := by decide +kernel
theorem dX11_init_71 : decode cX11_init 71 = .ok (.putfield 45, 3) := by decide +kernel
theorem dX11_init_74 : decode cX11_init 74 = .ok (.aload_n 0, 1) := by decide +kernel
theorem dX11_init_75 : decode cX11_init 75 = .ok (.new 42, 3) := by decide +kernel
theorem dX11_init_78 : decode cX11_init 78 = .ok (.dup, 1) := by decide +kernel
theorem dX11_init_79 : decode cX11_init 79 = .ok (.invokespecial 44, 3) := by decide +kernel
theorem dX11_init_82 : decode cX11_init 82 = .ok (.putfield 49, 3) := by decide +kernel
theorem dX11_init_85 : decode cX11_init 85 = .ok (.aload_n 0, 1) := by decide +kernel
theorem dX11_init_86 : decode cX11_init 86 = .ok (.iconst 0, 1) := by decide +kernel
theorem dX11_init_87 : decode cX11_init 87 = .ok (.putfield 52, 3) := by decide +kernel
theorem dX11_init_90 : decode cX11_init 90 = .ok (.return_, 1) := by decide +kernel
set_option maxRecDepth 20000 in
theorem ggX11_feed_X7_hasRoomFor : GoodIn wsX11_feed wsX7_hasRoomFor := goodIn_r _ [7, 8, 9, 22, 23, 24, 25, 26, 27, 28] rfl (by decide +kernel)
set_option maxRecDepth 20000 in
theorem gX11_feed_X7_hasRoomFor : GoodIn wsX11_feed (wsV RX11 56 RX7 yX7_hasRoomFor wsX7_hasRoomFor) := goodIn_app (goodIn_of _ (by decide +kernel)) ggX11_feed_X7_hasRoomFor
set_option maxRecDepth 20000 in
theorem ggX11_feed_X7_put : GoodIn wsX11_feed wsX7_put := goodIn_r _ [13, 8, 9, 22, 23, 24, 25, 26, 27, 28] rfl (by decide +kernel)
set_option maxRecDepth 20000 in
theorem gX11_feed_X7_put : GoodIn wsX11_feed (wsV RX11 60 RX7 yX7_put wsX7_put) := goodIn_app (goodIn_of _ (by decide +kernel)) ggX11_feed_X7_put
theorem dX11_feed_0 : decode cX11_feed 0 = .ok (.aload_n 0, 1) := by decide +kernel
theorem dX11_feed_1 : decode cX11_feed 1 = .ok (.getfield 10, 3) := by decide +kernel
theorem dX11_feed_4 : decode cX11_feed 4 = .ok (.bipush 20, 2) := by decide +kernel
theorem dX11_feed_6 : decode cX11_feed 6 = .ok (.invokevirtual 56, 3) := by decide +kernel
theorem dX11_feed_9 : decode cX11_feed 9 = .ok (.ifCond .ne 5, 3) := by decide +kernel
theorem dX11_feed_12 : decode cX11_feed 12 = .ok (.iconst (-1), 1) := by decide +kernel
theorem dX11_feed_13 : decode cX11_feed 13 = .ok (.ireturn, 1) := by decide +kernel
theorem dX11_feed_14 : decode cX11_feed 14 = .ok (.aload_n 0, 1) := by decide +kernel
theorem dX11_feed_15 : decode cX11_feed 15 = .ok (.getfield 10, 3) := by decide +kernel
theorem dX11_feed_18 : decode cX11_feed 18 = .ok (.iload_n 1, 1) := by decide +kernel
theorem dX11_feed_19 : decode cX11_feed 19 = .ok (.invokevirtual 60, 3) := by decide +kernel
theorem dX11_feed_22 : decode cX11_feed 22 = .ok (.aload_n 0, 1) := by decide +kernel
theorem dX11_feed_23 : decode cX11_feed 23 = .ok (.getfield 10, 3) := by decide +kernel
theorem dX11_feed_26 : decode cX11_feed 26 = .ok (.iload_n 2, 1) := by decide +kernel
theorem dX11_feed_27 : decode cX11_feed 27 = .ok (.invokevirtual 60, 3) := by decide +kernel
theorem dX11_feed_30 : decode cX11_feed 30 = .ok (.aload_n 0, 1) := by decide +kernel
theorem dX11_feed_31 : decode cX11_feed 31 = .ok (.getfield 10, 3) := by decide +kernel
theorem dX11_feed_34 : decode cX11_feed 34 = .ok (.iload_n 3, 1) := by decide +kernel
theorem dX11_feed_35 : decode cX11_feed 35 = .ok (.invokevirtual 60, 3) := by decide +kernel
theorem dX11_feed_38 : decode cX11_feed 38 = .ok (.aload_n 0, 1) := by decide +kernel
theorem dX11_feed_39 : decode cX11_feed 39 = .ok (.getfield 10, 3) := by decide +kernel
theorem dX11_feed_42 : decode cX11_feed 42 = .ok (.iload 4, 2) := by decide +kernel
theorem dX11_feed_44 : decode cX11_feed 44 = .ok (.invokevirtual 60, 3) := by decide +kernel
theorem dX11_feed_47 : decode cX11_feed 47 = .ok (.aload_n 0, 1) := by decide +kernel
theorem dX11_feed_48 : decode cX11_feed 48 = .ok (.getfield 10, 3) := by decide +kernel
theorem dX11_feed_51 : decode cX11_feed 51 = .ok (.iload 5, 2) := by decide +kernel
theorem dX11_feed_53 : decode cX11_feed 53 = .ok (.invokevirtual 60, 3) := by decide +kernel
theorem dX11_feed_56 : decode cX11_feed 56 = .ok (.aload_n 0, 1) := by decide +kernel
theorem dX11_feed_57 : decode cX11_feed 57 = .ok (.getfield 10, 3) := by decide +kernel
theorem dX11_feed_60 : decode cX11_feed 60 = .ok (.getfield 64, 3) := by decide +kernel
theorem dX11_feed_63 : decode cX11_feed 63 = .ok (.ireturn, 1) := by decide +kernel
set_option maxRecDepth 20000 in
theorem ggX11_island_X11_refused : GoodIn wsX11_island wsX11_refused := goodIn_r _ [12, 13, 379, 380, 381, 382, 383, 384, 385, 386] rfl (by decide +kernel)
set_option maxRecDepth 20000 in
theorem gX11_island_X11_refused : GoodIn wsX11_island (wsV RX11 67 RX11 yX11_refused wsX11_refused) := goodIn_app (goodIn_of _ (by decide +kernel)) ggX11_island_X11_refused
set_option maxRecDepth 20000 in
theorem ggX11_island_X2_readIsland : GoodIn wsX11_island wsX2_readIsland := goodIn_r _ [18, 19, 20, 21, 22, 23, 24, 25, 26, 27, 28, 29, 30, 31, 32, 33, 34, 35, 36, 37, 38, 39, 40, 41, 42, 43, 44, 45, 46, 47, 48, 49, 50, 51, 52, 53, 54, 55, 17, 56, 57, 58, 59, 60, 61, 62, 63, 64, 65, 66, 67, 68, 69, 70, 71, 72, 73, 74, 75, 76, 77, 78, 79, 80, 81, 82, 83, 84, 85, 86, 87, 88, 89, 90, 91, 92, 93, 94, 95, 96, 97, 98, 99, 100, 101, 102, 103, 104, 105, 106, 107, 108, 109, 110, 111, 112, 113, 114, 115, 116, 117, 118, 119, 120, 121, 122, 123, 124, 125, 11, 126, 127, 128, 129, 130, 131, 132, 133, 134, 135, 136, 137, 138, 139, 140, 141, 142, 143, 144, 145, 146, 147, 148, 149, 150, 151, 152, 153, 154, 155, 156, 157, 158, 159, 160, 161, 162, 163, 164, 165, 166, 167, 168, 169, 170, 171, 172, 173, 174, 175, 176, 177, 178, 179, 180, 181, 182, 183, 184, 185, 186, 187, 188, 189, 190, 191, 192, 193, 194, 195, 196, 197, 198, 199, 200, 201, 202, 203, 204, 205, 206, 207, 208, 209, 210, 211, 212, 213, 214, 215, 216, 217, 218, 219, 220, 221, 222, 223, 224, 225, 226, 227, 228, 229, 230, 231, 232, 233, 234, 235, 236, 237, 238, 239, 240, 241, 242, 243, 244, 245, 246, 247, 248, 249, 250, 251, 252, 253, 254, 255, 256, 257, 258, 259, 260, 261, 262, 263, 264, 265, 266, 267, 268, 269, 270, 271, 272, 273, 274, 275, 276, 277, 278, 279, 280, 281, 282, 283, 284, 285, 286, 287, 288, 289, 290, 291, 292, 293, 294, 295, 296, 297, 298, 299, 300, 301, 302, 303, 304, 305, 306, 307, 308, 309, 310, 311, 312, 313, 314, 315, 316, 317, 318, 319, 320, 321, 322, 394, 395, 396, 397, 398, 399, 400, 387, 388, 389, 390, 391, 392, 393, 401, 402, 403, 404, 405, 406, 407, 408, 409, 410, 411, 412, 413, 414, 415, 416, 417, 418, 419, 420, 421, 422, 423, 424, 425, 426, 427, 428, 429, 430, 431, 432, 433, 434, 435, 436, 437, 438, 439, 440, 441, 442, 443] rfl (by decide +kernel)
set_option maxRecDepth 20000 in
theorem gX11_island_X2_readIsland : GoodIn wsX11_island (wsV RX11 71 RX2 yX2_readIsland wsX2_readIsland) := goodIn_app (goodIn_of _ (by decide +kernel)) ggX11_island_X2_readIsland
set_option maxRecDepth 20000 in
theorem ggX11_island_X7_empty : GoodIn wsX11_island wsX7_empty := goodIn_r _ [326, 327, 387, 388, 389, 390, 391, 392, 393] rfl (by decide +kernel)
set_option maxRecDepth 20000 in
theorem gX11_island_X7_empty : GoodIn wsX11_island (wsV RX11 75 RX7 yX7_empty wsX7_empty) := goodIn_app (goodIn_of _ (by decide +kernel)) ggX11_island_X7_empty
set_option maxRecDepth 20000 in
theorem ggX11_island_X0_growTrees : GoodIn wsX11_island wsX0_growTrees := goodIn_r _ [331, 332, 333, 334, 121, 122, 123, 27, 124, 29, 125, 11, 126, 335, 253, 254, 255, 256, 336, 337, 338, 339, 340, 341, 342, 343, 344, 345, 346, 38, 39, 40, 347, 348, 349, 350, 351, 352, 353, 354, 355, 356, 357, 358, 359, 360, 401, 402, 403, 404, 405, 406, 407, 408, 409, 410, 411, 412, 413, 414, 415, 416, 417, 437, 438, 439, 440, 441] rfl (by decide +kernel)
set_option maxRecDepth 20000 in
theorem gX11_island_X0_growTrees : GoodIn wsX11_island (wsV RX11 78 RX0 yX0_growTrees wsX0_growTrees) := goodIn_app (goodIn_of _ (by decide +kernel)) ggX11_island_X0_growTrees
set_option maxRecDepth 20000 in
theorem ggX11_island_X1_clear : GoodIn wsX11_island wsX1_clear := goodIn_r _ [365, 366, 367, 444, 445, 446, 447, 448, 449, 450, 451, 452, 453, 454] rfl (by decide +kernel)
set_option maxRecDepth 20000 in
theorem gX11_island_X1_clear : GoodIn wsX11_island (wsV RX11 81 RX1 yX1_clear wsX1_clear) := goodIn_app (goodIn_of _ (by decide +kernel)) ggX11_island_X1_clear
set_option maxRecDepth 20000 in
theorem ggX11_island_X4_clear : GoodIn wsX11_island wsX4_clear := goodIn_r _ [372, 373, 455, 456, 457, 458] rfl (by decide +kernel)
set_option maxRecDepth 20000 in
theorem gX11_island_X4_clear : GoodIn wsX11_island (wsV RX11 84 RX4 yX4_clear wsX4_clear) := goodIn_app (goodIn_of _ (by decide +kernel)) ggX11_island_X4_clear
set_option maxRecDepth 20000 in
theorem ggX11_island_X0_count : GoodIn wsX11_island wsX0_count := goodIn_r _ [124, 29, 125, 11, 126, 401, 402, 403, 404, 405, 406, 407, 408, 409, 410, 411, 412, 413, 414, 415, 416, 417] rfl (by decide +kernel)
set_option maxRecDepth 20000 in
theorem gX11_island_X0_count : GoodIn wsX11_island (wsV RX11 85 RX0 yX0_count wsX0_count) := goodIn_app (goodIn_of _ (by decide +kernel)) ggX11_island_X0_count
set_option maxRecDepth 20000 in
theorem ggX11_island_X11_granted : GoodIn wsX11_island wsX11_granted := goodIn_r _ [378, 13, 379, 380, 381, 382, 383, 384, 385, 386] rfl (by decide +kernel)
set_option maxRecDepth 20000 in
theorem gX11_island_X11_granted : GoodIn wsX11_island (wsV RX11 88 RX11 yX11_granted wsX11_granted) := goodIn_app (goodIn_of _ (by decide +kernel)) ggX11_island_X11_granted
theorem dX11_island_0 : decode cX11_island 0 = .ok (.iload_n 1, 1) := by decide +kernel
theorem dX11_island_1 : decode cX11_island 1 = .ok (.ifCond .lt 14, 3) := by decide +kernel
theorem dX11_island_4 : decode cX11_island 4 = .ok (.iload_n 1, 1) := by decide +kernel
theorem dX11_island_5 : decode cX11_island 5 = .ok (.aload_n 0, 1) := by decide +kernel
theorem dX11_island_6 : decode cX11_island 6 = .ok (.getfield 10, 3) := by decide +kernel
theorem dX11_island_9 : decode cX11_island 9 = .ok (.getfield 64, 3) := by decide +kernel
theorem dX11_island_12 : decode cX11_island 12 = .ok (.if_icmp .le 9, 3) := by decide +kernel
theorem dX11_island_15 : decode cX11_island 15 = .ok (.aload_n 0, 1) := by decide +kernel
theorem dX11_island_16 : decode cX11_island 16 = .ok (.iconst 2, 1) := by decide +kernel
theorem dX11_island_17 : decode cX11_island 17 = .ok (.invokevirtual 67, 3) := by decide +kernel
theorem dX11_island_20 : decode cX11_island 20 = .ok (.ireturn, 1) := by decide +kernel
theorem dX11_island_21 : decode cX11_island 21 = .ok (.aload_n 0, 1) := by decide +kernel
theorem dX11_island_22 : decode cX11_island 22 = .ok (.getfield 21, 3) := by decide +kernel
theorem dX11_island_25 : decode cX11_island 25 = .ok (.iload_n 1, 1) := by decide +kernel
theorem dX11_island_26 : decode cX11_island 26 = .ok (.aload_n 0, 1) := by decide +kernel
theorem dX11_island_27 : decode cX11_island 27 = .ok (.getfield 49, 3) := by decide +kernel
theorem dX11_island_30 : decode cX11_island 30 = .ok (.invokevirtual 71, 3) := by decide +kernel
theorem dX11_island_33 : decode cX11_island 33 = .ok (.istore_n 2, 1) := by decide +kernel
theorem dX11_island_34 : decode cX11_island 34 = .ok (.aload_n 0, 1) := by decide +kernel
theorem dX11_island_35 : decode cX11_island 35 = .ok (.getfield 10, 3) := by decide +kernel
theorem dX11_island_38 : decode cX11_island 38 = .ok (.invokevirtual 75, 3) := by decide +kernel
theorem dX11_island_41 : decode cX11_island 41 = .ok (.iload_n 2, 1) := by decide +kernel
theorem dX11_island_42 : decode cX11_island 42 = .ok (.ifCond .ne 9, 3) := by decide +kernel
theorem dX11_island_45 : decode cX11_island 45 = .ok (.aload_n 0, 1) := by decide +kernel
theorem dX11_island_46 : decode cX11_island 46 = .ok (.iconst 4, 1) := by decide +kernel
theorem dX11_island_47 : decode cX11_island 47 = .ok (.invokevirtual 67, 3) := by decide +kernel
theorem dX11_island_50 : decode cX11_island 50 = .ok (.ireturn, 1) := by decide +kernel
theorem dX11_island_51 : decode cX11_island 51 = .ok (.aload_n 0, 1) := by decide +kernel
theorem dX11_island_52 : decode cX11_island 52 = .ok (.getfield 45, 3) := by decide +kernel
theorem dX11_island_55 : decode cX11_island 55 = .ok (.astore_n 3, 1) := by decide +kernel
theorem dX11_island_56 : decode cX11_island 56 = .ok (.aload_n 0, 1) := by decide +kernel
theorem dX11_island_57 : decode cX11_island 57 = .ok (.aload_n 0, 1) := by decide +kernel
theorem dX11_island_58 : decode cX11_island 58 = .ok (.getfield 49, 3) := by decide +kernel
theorem dX11_island_61 : decode cX11_island 61 = .ok (.putfield 45, 3) := by decide +kernel
theorem dX11_island_64 : decode cX11_island 64 = .ok (.aload_n 0, 1) := by decide +kernel
theorem dX11_island_65 : decode cX11_island 65 = .ok (.aload_n 3, 1) := by decide +kernel
theorem dX11_island_66 : decode cX11_island 66 = .ok (.putfield 49, 3) := by decide +kernel
theorem dX11_island_69 : decode cX11_island 69 = .ok (.aload_n 0, 1) := by decide +kernel
theorem dX11_island_70 : decode cX11_island 70 = .ok (.getfield 45, 3) := by decide +kernel
theorem dX11_island_73 : decode cX11_island 73 = .ok (.invokevirtual 78, 3) := by decide +kernel
theorem dX11_island_76 : decode cX11_island 76 = .ok (.aload_n 0, 1) := by decide +kernel
theorem dX11_island_77 : decode cX11_island 77 = .ok (.getfield 35, 3) := by decide +kernel
theorem dX11_island_80 : decode cX11_island 80 = .ok (.invokevirtual 81, 3) := by decide +kernel
theorem dX11_island_83 : decode cX11_island 83 = .ok (.aload_n 0, 1) := by decide +kernel
theorem dX11_island_84 : decode cX11_island 84 = .ok (.getfield 28, 3) := by decide +kernel
theorem dX11_island_87 : decode cX11_island 87 = .ok (.invokevirtual 84, 3) := by decide +kernel
theorem dX11_island_90 : decode cX11_island 90 = .ok (.aload_n 0, 1) := by decide +kernel
theorem dX11_island_91 : decode cX11_island 91 = .ok (.aload_n 0, 1) := by decide +kernel
theorem dX11_island_92 : decode cX11_island 92 = .ok (.getfield 45, 3) := by decide +kernel
theorem dX11_island_95 : decode cX11_island 95 = .ok (.iconst 2, 1) := by decide +kernel
theorem dX11_island_96 : decode cX11_island 96 = .ok (.invokevirtual 85, 3) := by decide +kernel
theorem dX11_island_99 : decode cX11_island 99 = .ok (.invokevirtual 88, 3) := by decide +kernel
theorem dX11_island_102 : decode cX11_island 102 = .ok (.ireturn, 1) := by decide +kernel
theorem dX11_fault_0 : decode cX11_fault 0 = .ok (.aload_n 0, 1) := by decide +kernel
theorem dX11_fault_1 : decode cX11_fault 1 = .ok (.getfield 21, 3) := by decide +kernel
theorem dX11_fault_4 : decode cX11_fault 4 = .ok (.getfield 91, 3) := by decide +kernel
theorem dX11_fault_7 : decode cX11_fault 7 = .ok (.ireturn, 1) := by decide +kernel
theorem dX11_where_0 : decode cX11_where 0 = .ok (.aload_n 0, 1) := by decide +kernel
theorem dX11_where_1 : decode cX11_where 1 = .ok (.getfield 52, 3) := by decide +kernel
theorem dX11_where_4 : decode cX11_where 4 = .ok (.iconst 4, 1) := by decide +kernel
theorem dX11_where_5 : decode cX11_where 5 = .ok (.if_icmp .ne 13, 3) := by decide +kernel
theorem dX11_where_8 : decode cX11_where 8 = .ok (.aload_n 0, 1) := by decide +kernel
theorem dX11_where_9 : decode cX11_where 9 = .ok (.getfield 21, 3) := by decide +kernel
theorem dX11_where_12 : decode cX11_where 12 = .ok (.getfield 94, 3) := by decide +kernel
theorem dX11_where_15 : decode cX11_where 15 = .ok (.goto 4, 3) := by decide +kernel
theorem dX11_where_18 : decode cX11_where 18 = .ok (.iconst (-1), 1) := by decide +kernel
theorem dX11_where_19 : decode cX11_where 19 = .ok (.ireturn, 1) := by decide +kernel
set_option maxRecDepth 20000 in
theorem ggX11_can_X0_wayAt : GoodIn wsX11_can wsX0_wayAt := goodIn_r _ [6, 7, 8, 44, 45, 46, 47, 48, 49, 50, 51, 52, 53, 54, 55, 56, 57, 58, 59, 60] rfl (by decide +kernel)
set_option maxRecDepth 20000 in
theorem gX11_can_X0_wayAt : GoodIn wsX11_can (wsV RX11 97 RX0 yX0_wayAt wsX0_wayAt) := goodIn_app (goodIn_of _ (by decide +kernel)) ggX11_can_X0_wayAt
set_option maxRecDepth 20000 in
theorem ggX11_can_X0_statueAt : GoodIn wsX11_can wsX0_statueAt := goodIn_r _ [12, 7, 13, 44, 45, 46, 47, 48, 49, 50, 51, 52, 53, 54, 55, 56, 57, 58, 59, 60] rfl (by decide +kernel)
set_option maxRecDepth 20000 in
theorem gX11_can_X0_statueAt : GoodIn wsX11_can (wsV RX11 101 RX0 yX0_statueAt wsX0_statueAt) := goodIn_app (goodIn_of _ (by decide +kernel)) ggX11_can_X0_statueAt
set_option maxRecDepth 20000 in
theorem ggX11_can_X11_refused : GoodIn wsX11_can wsX11_refused := goodIn_r _ [18, 19, 36, 37, 38, 39, 40, 41, 42, 43] rfl (by decide +kernel)
set_option maxRecDepth 20000 in
theorem gX11_can_X11_refused : GoodIn wsX11_can (wsV RX11 67 RX11 yX11_refused wsX11_refused) := goodIn_app (goodIn_of _ (by decide +kernel)) ggX11_can_X11_refused
set_option maxRecDepth 20000 in
theorem ggX11_can_X11_isSlope : GoodIn wsX11_can wsX11_isSlope := goodIn_r _ [22] rfl (by decide +kernel)
set_option maxRecDepth 20000 in
theorem gX11_can_X11_isSlope : GoodIn wsX11_can (va_wsS RX11 105 yX11_isSlope wsX11_isSlope) := goodIn_app (goodIn_of _ (by decide +kernel)) ggX11_can_X11_isSlope
set_option maxRecDepth 20000 in
theorem ggX11_can_X10_carries : GoodIn wsX11_can wsX10_carries := goodIn_r _ [27, 28, 29, 30, 31, 61, 62, 63, 64, 65, 66, 67, 68, 69, 70, 71] rfl (by decide +kernel)
set_option maxRecDepth 20000 in
theorem gX11_can_X10_carries : GoodIn wsX11_can (wsV RX11 108 RX10 yX10_carries wsX10_carries) := goodIn_app (goodIn_of _ (by decide +kernel)) ggX11_can_X10_carries
set_option maxRecDepth 20000 in
theorem ggX11_can_X11_granted : GoodIn wsX11_can wsX11_granted := goodIn_r _ [35, 19, 36, 37, 38, 39, 40, 41, 42, 43] rfl (by decide +kernel)
set_option maxRecDepth 20000 in
theorem gX11_can_X11_granted : GoodIn wsX11_can (wsV RX11 88 RX11 yX11_granted wsX11_granted) := goodIn_app (goodIn_of _ (by decide +kernel)) ggX11_can_X11_granted
theorem dX11_can_0 : decode cX11_can 0 = .ok (.aload_n 0, 1) := by decide +kernel
theorem dX11_can_1 : decode cX11_can 1 = .ok (.getfield 45, 3) := by decide +kernel
theorem dX11_can_4 : decode cX11_can 4 = .ok (.iload_n 1, 1) := by decide +kernel
theorem dX11_can_5 : decode cX11_can 5 = .ok (.invokevirtual 97, 3) := by decide +kernel
theorem dX11_can_8 : decode cX11_can 8 = .ok (.astore 4, 2) := by decide +kernel
theorem dX11_can_10 : decode cX11_can 10 = .ok (.aload_n 0, 1) := by decide +kernel
theorem dX11_can_11 : decode cX11_can 11 = .ok (.getfield 45, 3) := by decide +kernel
theorem dX11_can_14 : decode cX11_can 14 = .ok (.iload_n 2, 1) := by decide +kernel
theorem dX11_can_15 : decode cX11_can 15 = .ok (.invokevirtual 101, 3) := by decide +kernel
theorem dX11_can_18 : decode cX11_can 18 = .ok (.astore 5, 2) := by decide +kernel
theorem dX11_can_20 : decode cX11_can 20 = .ok (.aload 4, 2) := by decide +kernel
theorem dX11_can_22 : decode cX11_can 22 = .ok (.ifnull 8, 3) := by decide +kernel
theorem dX11_can_25 : decode cX11_can 25 = .ok (.aload 5, 2) := by decide +kernel
theorem dX11_can_27 : decode cX11_can 27 = .ok (.ifnonnull 9, 3) := by decide +kernel
theorem dX11_can_30 : decode cX11_can 30 = .ok (.aload_n 0, 1) := by decide +kernel
theorem dX11_can_31 : decode cX11_can 31 = .ok (.iconst 1, 1) := by decide +kernel
theorem dX11_can_32 : decode cX11_can 32 = .ok (.invokevirtual 67, 3) := by decide +kernel
theorem dX11_can_35 : decode cX11_can 35 = .ok (.ireturn, 1) := by decide +kernel
theorem dX11_can_36 : decode cX11_can 36 = .ok (.iload_n 3, 1) := by decide +kernel
theorem dX11_can_37 : decode cX11_can 37 = .ok (.invokestatic 105, 3) := by decide +kernel
theorem dX11_can_40 : decode cX11_can 40 = .ok (.ifCond .ne 9, 3) := by decide +kernel
theorem dX11_can_43 : decode cX11_can 43 = .ok (.aload_n 0, 1) := by decide +kernel
theorem dX11_can_44 : decode cX11_can 44 = .ok (.iconst 2, 1) := by decide +kernel
theorem dX11_can_45 : decode cX11_can 45 = .ok (.invokevirtual 67, 3) := by decide +kernel
theorem dX11_can_48 : decode cX11_can 48 = .ok (.ireturn, 1) := by decide +kernel
theorem dX11_can_49 : decode cX11_can 49 = .ok (.aload_n 0, 1) := by decide +kernel
theorem dX11_can_50 : decode cX11_can 50 = .ok (.aload 4, 2) := by decide +kernel
theorem dX11_can_52 : decode cX11_can 52 = .ok (.aload 5, 2) := by decide +kernel
theorem dX11_can_54 : decode cX11_can 54 = .ok (.iload_n 3, 1) := by decide +kernel
theorem dX11_can_55 : decode cX11_can 55 = .ok (.invokevirtual 108, 3) := by decide +kernel
theorem dX11_can_58 : decode cX11_can 58 = .ok (.ifCond .eq 7, 3) := by decide +kernel
theorem dX11_can_61 : decode cX11_can 61 = .ok (.iconst 1, 1) := by decide +kernel
theorem dX11_can_62 : decode cX11_can 62 = .ok (.goto 4, 3) := by decide +kernel
theorem dX11_can_65 : decode cX11_can 65 = .ok (.iconst 0, 1) := by decide +kernel
theorem dX11_can_66 : decode cX11_can 66 = .ok (.invokevirtual 88, 3) := by decide +kernel
theorem dX11_can_69 : decode cX11_can 69 = .ok (.ireturn, 1) := by decide +kernel
set_option maxRecDepth 20000 in
theorem ggX11_canOn_X0_wayAt : GoodIn wsX11_canOn wsX0_wayAt := goodIn_r _ [6, 7, 8, 59, 60, 61, 62, 63, 64, 65, 66, 67, 68, 69, 70, 71, 72, 73, 74, 75] rfl (by decide +kernel)
set_option maxRecDepth 20000 in
theorem gX11_canOn_X0_wayAt : GoodIn wsX11_canOn (wsV RX11 97 RX0 yX0_wayAt wsX0_wayAt) := goodIn_app (goodIn_of _ (by decide +kernel)) ggX11_canOn_X0_wayAt
set_option maxRecDepth 20000 in
theorem ggX11_canOn_X0_statueAt : GoodIn wsX11_canOn wsX0_statueAt := goodIn_r _ [12, 7, 13, 59, 60, 61, 62, 63, 64, 65, 66, 67, 68, 69, 70, 71, 72, 73, 74, 75] rfl (by decide +kernel)
set_option maxRecDepth 20000 in
theorem gX11_canOn_X0_statueAt : GoodIn wsX11_canOn (wsV RX11 101 RX0 yX0_statueAt wsX0_statueAt) := goodIn_app (goodIn_of _ (by decide +kernel)) ggX11_canOn_X0_statueAt
set_option maxRecDepth 20000 in
theorem ggX11_canOn_X0_roadAt : GoodIn wsX11_canOn wsX0_roadAt := goodIn_r _ [17, 7, 18, 59, 60, 61, 62, 63, 64, 65, 66, 67, 68, 69, 70, 71, 72, 73, 74, 75] rfl (by decide +kernel)
set_option maxRecDepth 20000 in
theorem gX11_canOn_X0_roadAt : GoodIn wsX11_canOn (wsV RX11 114 RX0 yX0_roadAt wsX0_roadAt) := goodIn_app (goodIn_of _ (by decide +kernel)) ggX11_canOn_X0_roadAt
set_option maxRecDepth 20000 in
theorem ggX11_canOn_X11_refused : GoodIn wsX11_canOn wsX11_refused := goodIn_r _ [23, 24, 51, 52, 53, 54, 55, 56, 57, 58] rfl (by decide +kernel)
set_option maxRecDepth 20000 in
theorem gX11_canOn_X11_refused : GoodIn wsX11_canOn (wsV RX11 67 RX11 yX11_refused wsX11_refused) := goodIn_app (goodIn_of _ (by decide +kernel)) ggX11_canOn_X11_refused
set_option maxRecDepth 20000 in
theorem ggX11_canOn_X10_passable : GoodIn wsX11_canOn wsX10_passable := goodIn_r _ [29, 30, 31, 32, 33, 34, 35, 36, 37, 22, 38, 39, 40, 41, 28, 42, 43, 44, 45, 46, 76, 77, 78, 79, 80, 81, 82, 83, 84, 85, 86, 87, 88, 89] rfl (by decide +kernel)
set_option maxRecDepth 20000 in
theorem gX11_canOn_X10_passable : GoodIn wsX11_canOn (wsV RX11 118 RX10 yX10_passable wsX10_passable) := goodIn_app (goodIn_of _ (by decide +kernel)) ggX11_canOn_X10_passable
set_option maxRecDepth 20000 in
theorem ggX11_canOn_X11_granted : GoodIn wsX11_canOn wsX11_granted := goodIn_r _ [50, 24, 51, 52, 53, 54, 55, 56, 57, 58] rfl (by decide +kernel)
set_option maxRecDepth 20000 in
theorem gX11_canOn_X11_granted : GoodIn wsX11_canOn (wsV RX11 88 RX11 yX11_granted wsX11_granted) := goodIn_app (goodIn_of _ (by decide +kernel)) ggX11_canOn_X11_granted
theorem dX11_canOn_0 : decode cX11_canOn 0 = .ok (.aload_n 0, 1) := by decide +kernel
theorem dX11_canOn_1 : decode cX11_canOn 1 = .ok (.getfield 45, 3) := by decide +kernel
theorem dX11_canOn_4 : decode cX11_canOn 4 = .ok (.iload_n 1, 1) := by decide +kernel
theorem dX11_canOn_5 : decode cX11_canOn 5 = .ok (.invokevirtual 97, 3) := by decide +kernel
theorem dX11_canOn_8 : decode cX11_canOn 8 = .ok (.astore 4, 2) := by decide +kernel
theorem dX11_canOn_10 : decode cX11_canOn 10 = .ok (.aload_n 0, 1) := by decide +kernel
theorem dX11_canOn_11 : decode cX11_canOn 11 = .ok (.getfield 45, 3) := by decide +kernel
theorem dX11_canOn_14 : decode cX11_canOn 14 = .ok (.iload_n 2, 1) := by decide +kernel
theorem dX11_canOn_15 : decode cX11_canOn 15 = .ok (.invokevirtual 101, 3) := by decide +kernel
theorem dX11_canOn_18 : decode cX11_canOn 18 = .ok (.astore 5, 2) := by decide +kernel
theorem dX11_canOn_20 : decode cX11_canOn 20 = .ok (.aload_n 0, 1) := by decide +kernel
theorem dX11_canOn_21 : decode cX11_canOn 21 = .ok (.getfield 45, 3) := by decide +kernel
theorem dX11_canOn_24 : decode cX11_canOn 24 = .ok (.iload_n 3, 1) := by decide +kernel
theorem dX11_canOn_25 : decode cX11_canOn 25 = .ok (.invokevirtual 114, 3) := by decide +kernel
theorem dX11_canOn_28 : decode cX11_canOn 28 = .ok (.astore 6, 2) := by decide +kernel
theorem dX11_canOn_30 : decode cX11_canOn 30 = .ok (.aload 4, 2) := by decide +kernel
theorem dX11_canOn_32 : decode cX11_canOn 32 = .ok (.ifnull 13, 3) := by decide +kernel
theorem dX11_canOn_35 : decode cX11_canOn 35 = .ok (.aload 5, 2) := by decide +kernel
theorem dX11_canOn_37 : decode cX11_canOn 37 = .ok (.ifnull 8, 3) := by decide +kernel
theorem dX11_canOn_40 : decode cX11_canOn 40 = .ok (.aload 6, 2) := by decide +kernel
theorem dX11_canOn_42 : decode cX11_canOn 42 = .ok (.ifnonnull 9, 3) := by decide +kernel
theorem dX11_canOn_45 : decode cX11_canOn 45 = .ok (.aload_n 0, 1) := by decide +kernel
theorem dX11_canOn_46 : decode cX11_canOn 46 = .ok (.iconst 1, 1) := by decide +kernel
theorem dX11_canOn_47 : decode cX11_canOn 47 = .ok (.invokevirtual 67, 3) := by decide +kernel
theorem dX11_canOn_50 : decode cX11_canOn 50 = .ok (.ireturn, 1) := by decide +kernel
theorem dX11_canOn_51 : decode cX11_canOn 51 = .ok (.aload_n 0, 1) := by decide +kernel
theorem dX11_canOn_52 : decode cX11_canOn 52 = .ok (.aload 4, 2) := by decide +kernel
theorem dX11_canOn_54 : decode cX11_canOn 54 = .ok (.aload 5, 2) := by decide +kernel
theorem dX11_canOn_56 : decode cX11_canOn 56 = .ok (.aload 6, 2) := by decide +kernel
theorem dX11_canOn_58 : decode cX11_canOn 58 = .ok (.invokevirtual 118, 3) := by decide +kernel
theorem dX11_canOn_61 : decode cX11_canOn 61 = .ok (.invokevirtual 88, 3) := by decide +kernel
theorem dX11_canOn_64 : decode cX11_canOn 64 = .ok (.ireturn, 1) := by decide +kernel
set_option maxRecDepth 20000 in
theorem ggX11_steepest_X0_wayAt : GoodIn wsX11_steepest wsX0_wayAt := goodIn_r _ [6, 7, 8, 45, 46, 47, 48, 49, 50, 51, 52, 53, 54, 55, 56, 57, 58, 59, 60, 61] rfl (by decide +kernel)
set_option maxRecDepth 20000 in
theorem gX11_steepest_X0_wayAt : GoodIn wsX11_steepest (wsV RX11 97 RX0 yX0_wayAt wsX0_wayAt) := goodIn_app (goodIn_of _ (by decide +kernel)) ggX11_steepest_X0_wayAt
set_option maxRecDepth 20000 in
theorem ggX11_steepest_X0_statueAt : GoodIn wsX11_steepest wsX0_statueAt := goodIn_r _ [12, 7, 13, 45, 46, 47, 48, 49, 50, 51, 52, 53, 54, 55, 56, 57, 58, 59, 60, 61] rfl (by decide +kernel)
set_option maxRecDepth 20000 in
theorem gX11_steepest_X0_statueAt : GoodIn wsX11_steepest (wsV RX11 101 RX0 yX0_statueAt wsX0_statueAt) := goodIn_app (goodIn_of _ (by decide +kernel)) ggX11_steepest_X0_statueAt
set_option maxRecDepth 20000 in
theorem ggX11_steepest_X11_unknown : GoodIn wsX11_steepest wsX11_unknown := goodIn_r _ [18, 19, 37, 38, 39, 40, 41, 42, 43, 44] rfl (by decide +kernel)
set_option maxRecDepth 20000 in
theorem gX11_steepest_X11_unknown : GoodIn wsX11_steepest (wsV RX11 122 RX11 yX11_unknown wsX11_unknown) := goodIn_app (goodIn_of _ (by decide +kernel)) ggX11_steepest_X11_unknown
set_option maxRecDepth 20000 in
theorem ggX11_steepest_X10_limit : GoodIn wsX11_steepest wsX10_limit := goodIn_r _ [24, 25, 26, 27, 23, 28, 29, 30, 31, 32, 62, 63, 64, 65, 66, 67, 68, 69, 70, 71, 72] rfl (by decide +kernel)
set_option maxRecDepth 20000 in
theorem gX11_steepest_X10_limit : GoodIn wsX11_steepest (wsV RX11 125 RX10 yX10_limit wsX10_limit) := goodIn_app (goodIn_of _ (by decide +kernel)) ggX11_steepest_X10_limit
set_option maxRecDepth 20000 in
theorem ggX11_steepest_X11_granted : GoodIn wsX11_steepest wsX11_granted := goodIn_r _ [36, 19, 37, 38, 39, 40, 41, 42, 43, 44] rfl (by decide +kernel)
set_option maxRecDepth 20000 in
theorem gX11_steepest_X11_granted : GoodIn wsX11_steepest (wsV RX11 88 RX11 yX11_granted wsX11_granted) := goodIn_app (goodIn_of _ (by decide +kernel)) ggX11_steepest_X11_granted
theorem dX11_steepest_0 : decode cX11_steepest 0 = .ok (.aload_n 0, 1) := by decide +kernel
theorem dX11_steepest_1 : decode cX11_steepest 1 = .ok (.getfield 45, 3) := by decide +kernel
theorem dX11_steepest_4 : decode cX11_steepest 4 = .ok (.iload_n 1, 1) := by decide +kernel
theorem dX11_steepest_5 : decode cX11_steepest 5 = .ok (.invokevirtual 97, 3) := by decide +kernel
theorem dX11_steepest_8 : decode cX11_steepest 8 = .ok (.astore 4, 2) := by decide +kernel
theorem dX11_steepest_10 : decode cX11_steepest 10 = .ok (.aload_n 0, 1) := by decide +kernel
theorem dX11_steepest_11 : decode cX11_steepest 11 = .ok (.getfield 45, 3) := by decide +kernel
theorem dX11_steepest_14 : decode cX11_steepest 14 = .ok (.iload_n 2, 1) := by decide +kernel
theorem dX11_steepest_15 : decode cX11_steepest 15 = .ok (.invokevirtual 101, 3) := by decide +kernel
theorem dX11_steepest_18 : decode cX11_steepest 18 = .ok (.astore 5, 2) := by decide +kernel
theorem dX11_steepest_20 : decode cX11_steepest 20 = .ok (.aload 4, 2) := by decide +kernel
theorem dX11_steepest_22 : decode cX11_steepest 22 = .ok (.ifnull 8, 3) := by decide +kernel
theorem dX11_steepest_25 : decode cX11_steepest 25 = .ok (.aload 5, 2) := by decide +kernel
theorem dX11_steepest_27 : decode cX11_steepest 27 = .ok (.ifnonnull 9, 3) := by decide +kernel
theorem dX11_steepest_30 : decode cX11_steepest 30 = .ok (.aload_n 0, 1) := by decide +kernel
theorem dX11_steepest_31 : decode cX11_steepest 31 = .ok (.iconst 1, 1) := by decide +kernel
theorem dX11_steepest_32 : decode cX11_steepest 32 = .ok (.invokevirtual 122, 3) := by decide +kernel
theorem dX11_steepest_35 : decode cX11_steepest 35 = .ok (.ireturn, 1) := by decide +kernel
theorem dX11_steepest_36 : decode cX11_steepest 36 = .ok (.aload_n 0, 1) := by decide +kernel
theorem dX11_steepest_37 : decode cX11_steepest 37 = .ok (.aload 4, 2) := by decide +kernel
theorem dX11_steepest_39 : decode cX11_steepest 39 = .ok (.aload 5, 2) := by decide +kernel
theorem dX11_steepest_41 : decode cX11_steepest 41 = .ok (.iload_n 3, 1) := by decide +kernel
theorem dX11_steepest_42 : decode cX11_steepest 42 = .ok (.invokevirtual 125, 3) := by decide +kernel
theorem dX11_steepest_45 : decode cX11_steepest 45 = .ok (.invokevirtual 88, 3) := by decide +kernel
theorem dX11_steepest_48 : decode cX11_steepest 48 = .ok (.ireturn, 1) := by decide +kernel
set_option maxRecDepth 20000 in
theorem ggX11_need_X0_wayAt : GoodIn wsX11_need wsX0_wayAt := goodIn_r _ [7, 8, 9, 60, 61, 62, 63, 64, 65, 66, 67, 68, 69, 70, 71, 72, 73, 74, 75, 76] rfl (by decide +kernel)
set_option maxRecDepth 20000 in
theorem gX11_need_X0_wayAt : GoodIn wsX11_need (wsV RX11 97 RX0 yX0_wayAt wsX0_wayAt) := goodIn_app (goodIn_of _ (by decide +kernel)) ggX11_need_X0_wayAt
set_option maxRecDepth 20000 in
theorem ggX11_need_X0_statueAt : GoodIn wsX11_need wsX0_statueAt := goodIn_r _ [13, 8, 14, 60, 61, 62, 63, 64, 65, 66, 67, 68, 69, 70, 71, 72, 73, 74, 75, 76] rfl (by decide +kernel)
set_option maxRecDepth 20000 in
theorem gX11_need_X0_statueAt : GoodIn wsX11_need (wsV RX11 101 RX0 yX0_statueAt wsX0_statueAt) := goodIn_app (goodIn_of _ (by decide +kernel)) ggX11_need_X0_statueAt
set_option maxRecDepth 20000 in
theorem ggX11_need_X11_refused : GoodIn wsX11_need wsX11_refused := goodIn_r _ [19, 20, 44, 45, 46, 47, 48, 49, 50, 51] rfl (by decide +kernel)
set_option maxRecDepth 20000 in
theorem gX11_need_X11_refused : GoodIn wsX11_need (wsV RX11 67 RX11 yX11_refused wsX11_refused) := goodIn_app (goodIn_of _ (by decide +kernel)) ggX11_need_X11_refused
set_option maxRecDepth 20000 in
theorem ggX11_need_X11_isSlope : GoodIn wsX11_need wsX11_isSlope := goodIn_r _ [23] rfl (by decide +kernel)
set_option maxRecDepth 20000 in
theorem gX11_need_X11_isSlope : GoodIn wsX11_need (va_wsS RX11 105 yX11_isSlope wsX11_isSlope) := goodIn_app (goodIn_of _ (by decide +kernel)) ggX11_need_X11_isSlope
set_option maxRecDepth 20000 in
theorem ggX11_need_X10_hands : GoodIn wsX11_need wsX10_hands := goodIn_r _ [28, 29, 30, 31, 32, 33, 34, 35, 36, 18, 37, 38, 39, 77, 78, 79] rfl (by decide +kernel)
set_option maxRecDepth 20000 in
theorem gX11_need_X10_hands : GoodIn wsX11_need (wsV RX11 134 RX10 yX10_hands wsX10_hands) := goodIn_app (goodIn_of _ (by decide +kernel)) ggX11_need_X10_hands
set_option maxRecDepth 20000 in
theorem ggX11_need_X11_granted : GoodIn wsX11_need wsX11_granted := goodIn_r _ [43, 20, 44, 45, 46, 47, 48, 49, 50, 51] rfl (by decide +kernel)
set_option maxRecDepth 20000 in
theorem gX11_need_X11_granted : GoodIn wsX11_need (wsV RX11 88 RX11 yX11_granted wsX11_granted) := goodIn_app (goodIn_of _ (by decide +kernel)) ggX11_need_X11_granted
theorem dX11_need_0 : decode cX11_need 0 = .ok (.aload_n 0, 1) := by decide +kernel
theorem dX11_need_1 : decode cX11_need 1 = .ok (.getfield 45, 3) := by decide +kernel
theorem dX11_need_4 : decode cX11_need 4 = .ok (.iload_n 1, 1) := by decide +kernel
theorem dX11_need_5 : decode cX11_need 5 = .ok (.invokevirtual 97, 3) := by decide +kernel
theorem dX11_need_8 : decode cX11_need 8 = .ok (.astore 4, 2) := by decide +kernel
theorem dX11_need_10 : decode cX11_need 10 = .ok (.aload_n 0, 1) := by decide +kernel
theorem dX11_need_11 : decode cX11_need 11 = .ok (.getfield 45, 3) := by decide +kernel
theorem dX11_need_14 : decode cX11_need 14 = .ok (.iload_n 2, 1) := by decide +kernel
theorem dX11_need_15 : decode cX11_need 15 = .ok (.invokevirtual 101, 3) := by decide +kernel
theorem dX11_need_18 : decode cX11_need 18 = .ok (.astore 5, 2) := by decide +kernel
theorem dX11_need_20 : decode cX11_need 20 = .ok (.aload 4, 2) := by decide +kernel
theorem dX11_need_22 : decode cX11_need 22 = .ok (.ifnull 8, 3) := by decide +kernel
theorem dX11_need_25 : decode cX11_need 25 = .ok (.aload 5, 2) := by decide +kernel
theorem dX11_need_27 : decode cX11_need 27 = .ok (.ifnonnull 9, 3) := by decide +kernel
theorem dX11_need_30 : decode cX11_need 30 = .ok (.aload_n 0, 1) := by decide +kernel
theorem dX11_need_31 : decode cX11_need 31 = .ok (.iconst 1, 1) := by decide +kernel
theorem dX11_need_32 : decode cX11_need 32 = .ok (.invokevirtual 67, 3) := by decide +kernel
theorem dX11_need_35 : decode cX11_need 35 = .ok (.ireturn, 1) := by decide +kernel
theorem dX11_need_36 : decode cX11_need 36 = .ok (.iload_n 3, 1) := by decide +kernel
theorem dX11_need_37 : decode cX11_need 37 = .ok (.invokestatic 105, 3) := by decide +kernel
theorem dX11_need_40 : decode cX11_need 40 = .ok (.ifCond .ne 9, 3) := by decide +kernel
theorem dX11_need_43 : decode cX11_need 43 = .ok (.aload_n 0, 1) := by decide +kernel
theorem dX11_need_44 : decode cX11_need 44 = .ok (.iconst 2, 1) := by decide +kernel
theorem dX11_need_45 : decode cX11_need 45 = .ok (.invokevirtual 67, 3) := by decide +kernel
theorem dX11_need_48 : decode cX11_need 48 = .ok (.ireturn, 1) := by decide +kernel
theorem dX11_need_49 : decode cX11_need 49 = .ok (.aload_n 0, 1) := by decide +kernel
theorem dX11_need_50 : decode cX11_need 50 = .ok (.aload 4, 2) := by decide +kernel
theorem dX11_need_52 : decode cX11_need 52 = .ok (.aload 5, 2) := by decide +kernel
theorem dX11_need_54 : decode cX11_need 54 = .ok (.getfield 129, 3) := by decide +kernel
theorem dX11_need_57 : decode cX11_need 57 = .ok (.iload_n 3, 1) := by decide +kernel
theorem dX11_need_58 : decode cX11_need 58 = .ok (.invokevirtual 134, 3) := by decide +kernel
theorem dX11_need_61 : decode cX11_need 61 = .ok (.invokevirtual 88, 3) := by decide +kernel
theorem dX11_need_64 : decode cX11_need 64 = .ok (.ireturn, 1) := by decide +kernel
set_option maxRecDepth 20000 in
theorem ggX11_minutes_X0_wayAt : GoodIn wsX11_minutes wsX0_wayAt := goodIn_r _ [7, 8, 9, 68, 69, 70, 71, 72, 73, 74, 75, 76, 77, 78, 79, 80, 81, 82, 83, 84] rfl (by decide +kernel)
set_option maxRecDepth 20000 in
theorem gX11_minutes_X0_wayAt : GoodIn wsX11_minutes (wsV RX11 97 RX0 yX0_wayAt wsX0_wayAt) := goodIn_app (goodIn_of _ (by decide +kernel)) ggX11_minutes_X0_wayAt
set_option maxRecDepth 20000 in
theorem ggX11_minutes_X0_statueAt : GoodIn wsX11_minutes wsX0_statueAt := goodIn_r _ [13, 8, 14, 68, 69, 70, 71, 72, 73, 74, 75, 76, 77, 78, 79, 80, 81, 82, 83, 84] rfl (by decide +kernel)
set_option maxRecDepth 20000 in
theorem gX11_minutes_X0_statueAt : GoodIn wsX11_minutes (wsV RX11 101 RX0 yX0_statueAt wsX0_statueAt) := goodIn_app (goodIn_of _ (by decide +kernel)) ggX11_minutes_X0_statueAt
set_option maxRecDepth 20000 in
theorem ggX11_minutes_X11_refused : GoodIn wsX11_minutes wsX11_refused := goodIn_r _ [19, 20, 52, 53, 54, 55, 56, 57, 58, 59] rfl (by decide +kernel)
set_option maxRecDepth 20000 in
theorem gX11_minutes_X11_refused : GoodIn wsX11_minutes (wsV RX11 67 RX11 yX11_refused wsX11_refused) := goodIn_app (goodIn_of _ (by decide +kernel)) ggX11_minutes_X11_refused
set_option maxRecDepth 20000 in
theorem ggX11_minutes_X11_isSlope : GoodIn wsX11_minutes wsX11_isSlope := goodIn_r _ [23] rfl (by decide +kernel)
set_option maxRecDepth 20000 in
theorem gX11_minutes_X11_isSlope : GoodIn wsX11_minutes (va_wsS RX11 105 yX11_isSlope wsX11_isSlope) := goodIn_app (goodIn_of _ (by decide +kernel)) ggX11_minutes_X11_isSlope
set_option maxRecDepth 20000 in
theorem ggX11_minutes_X11_isCrowd : GoodIn wsX11_minutes wsX11_isCrowd := goodIn_r _ [26] rfl (by decide +kernel)
set_option maxRecDepth 20000 in
theorem gX11_minutes_X11_isCrowd : GoodIn wsX11_minutes (va_wsS RX11 138 yX11_isCrowd wsX11_isCrowd) := goodIn_app (goodIn_of _ (by decide +kernel)) ggX11_minutes_X11_isCrowd
set_option maxRecDepth 20000 in
theorem ggX11_minutes_X10_duration : GoodIn wsX11_minutes wsX10_duration := goodIn_r _ [31, 32, 33, 34, 35, 36, 37, 38, 18, 39, 40, 41, 42, 30, 43, 44, 45, 46, 47, 85, 86, 87] rfl (by decide +kernel)
set_option maxRecDepth 20000 in
theorem gX11_minutes_X10_duration : GoodIn wsX11_minutes (wsV RX11 141 RX10 yX10_duration wsX10_duration) := goodIn_app (goodIn_of _ (by decide +kernel)) ggX11_minutes_X10_duration
set_option maxRecDepth 20000 in
theorem ggX11_minutes_X11_granted : GoodIn wsX11_minutes wsX11_granted := goodIn_r _ [51, 20, 52, 53, 54, 55, 56, 57, 58, 59] rfl (by decide +kernel)
set_option maxRecDepth 20000 in
theorem gX11_minutes_X11_granted : GoodIn wsX11_minutes (wsV RX11 88 RX11 yX11_granted wsX11_granted) := goodIn_app (goodIn_of _ (by decide +kernel)) ggX11_minutes_X11_granted
theorem dX11_minutes_0 : decode cX11_minutes 0 = .ok (.aload_n 0, 1) := by decide +kernel
theorem dX11_minutes_1 : decode cX11_minutes 1 = .ok (.getfield 45, 3) := by decide +kernel
theorem dX11_minutes_4 : decode cX11_minutes 4 = .ok (.iload_n 1, 1) := by decide +kernel
theorem dX11_minutes_5 : decode cX11_minutes 5 = .ok (.invokevirtual 97, 3) := by decide +kernel
theorem dX11_minutes_8 : decode cX11_minutes 8 = .ok (.astore 5, 2) := by decide +kernel
theorem dX11_minutes_10 : decode cX11_minutes 10 = .ok (.aload_n 0, 1) := by decide +kernel
theorem dX11_minutes_11 : decode cX11_minutes 11 = .ok (.getfield 45, 3) := by decide +kernel
theorem dX11_minutes_14 : decode cX11_minutes 14 = .ok (.iload_n 2, 1) := by decide +kernel
theorem dX11_minutes_15 : decode cX11_minutes 15 = .ok (.invokevirtual 101, 3) := by decide +kernel
theorem dX11_minutes_18 : decode cX11_minutes 18 = .ok (.astore 6, 2) := by decide +kernel
theorem dX11_minutes_20 : decode cX11_minutes 20 = .ok (.aload 5, 2) := by decide +kernel
theorem dX11_minutes_22 : decode cX11_minutes 22 = .ok (.ifnull 8, 3) := by decide +kernel
theorem dX11_minutes_25 : decode cX11_minutes 25 = .ok (.aload 6, 2) := by decide +kernel
theorem dX11_minutes_27 : decode cX11_minutes 27 = .ok (.ifnonnull 9, 3) := by decide +kernel
theorem dX11_minutes_30 : decode cX11_minutes 30 = .ok (.aload_n 0, 1) := by decide +kernel
theorem dX11_minutes_31 : decode cX11_minutes 31 = .ok (.iconst 1, 1) := by decide +kernel
theorem dX11_minutes_32 : decode cX11_minutes 32 = .ok (.invokevirtual 67, 3) := by decide +kernel
theorem dX11_minutes_35 : decode cX11_minutes 35 = .ok (.ireturn, 1) := by decide +kernel
theorem dX11_minutes_36 : decode cX11_minutes 36 = .ok (.iload_n 3, 1) := by decide +kernel
theorem dX11_minutes_37 : decode cX11_minutes 37 = .ok (.invokestatic 105, 3) := by decide +kernel
theorem dX11_minutes_40 : decode cX11_minutes 40 = .ok (.ifCond .eq 11, 3) := by decide +kernel
theorem dX11_minutes_43 : decode cX11_minutes 43 = .ok (.iload 4, 2) := by decide +kernel
theorem dX11_minutes_45 : decode cX11_minutes 45 = .ok (.invokestatic 138, 3) := by decide +kernel
theorem dX11_minutes_48 : decode cX11_minutes 48 = .ok (.ifCond .ne 9, 3) := by decide +kernel
theorem dX11_minutes_51 : decode cX11_minutes 51 = .ok (.aload_n 0, 1) := by decide +kernel
theorem dX11_minutes_52 : decode cX11_minutes 52 = .ok (.iconst 2, 1) := by decide +kernel
theorem dX11_minutes_53 : decode cX11_minutes 53 = .ok (.invokevirtual 67, 3) := by decide +kernel
theorem dX11_minutes_56 : decode cX11_minutes 56 = .ok (.ireturn, 1) := by decide +kernel
theorem dX11_minutes_57 : decode cX11_minutes 57 = .ok (.aload_n 0, 1) := by decide +kernel
theorem dX11_minutes_58 : decode cX11_minutes 58 = .ok (.aload 5, 2) := by decide +kernel
theorem dX11_minutes_60 : decode cX11_minutes 60 = .ok (.aload 6, 2) := by decide +kernel
theorem dX11_minutes_62 : decode cX11_minutes 62 = .ok (.getfield 129, 3) := by decide +kernel
theorem dX11_minutes_65 : decode cX11_minutes 65 = .ok (.iload_n 3, 1) := by decide +kernel
theorem dX11_minutes_66 : decode cX11_minutes 66 = .ok (.iload 4, 2) := by decide +kernel
theorem dX11_minutes_68 : decode cX11_minutes 68 = .ok (.invokevirtual 141, 3) := by decide +kernel
theorem dX11_minutes_71 : decode cX11_minutes 71 = .ok (.invokevirtual 88, 3) := by decide +kernel
theorem dX11_minutes_74 : decode cX11_minutes 74 = .ok (.ireturn, 1) := by decide +kernel
set_option maxRecDepth 20000 in
theorem ggX11_chance_X0_wayAt : GoodIn wsX11_chance wsX0_wayAt := goodIn_r _ [7, 8, 9, 63, 64, 65, 66, 67, 68, 69, 70, 71, 72, 73, 74, 75, 76, 77, 78, 79] rfl (by decide +kernel)
set_option maxRecDepth 20000 in
theorem gX11_chance_X0_wayAt : GoodIn wsX11_chance (wsV RX11 97 RX0 yX0_wayAt wsX0_wayAt) := goodIn_app (goodIn_of _ (by decide +kernel)) ggX11_chance_X0_wayAt
set_option maxRecDepth 20000 in
theorem ggX11_chance_X0_statueAt : GoodIn wsX11_chance wsX0_statueAt := goodIn_r _ [13, 8, 14, 63, 64, 65, 66, 67, 68, 69, 70, 71, 72, 73, 74, 75, 76, 77, 78, 79] rfl (by decide +kernel)
set_option maxRecDepth 20000 in
theorem gX11_chance_X0_statueAt : GoodIn wsX11_chance (wsV RX11 101 RX0 yX0_statueAt wsX0_statueAt) := goodIn_app (goodIn_of _ (by decide +kernel)) ggX11_chance_X0_statueAt
set_option maxRecDepth 20000 in
theorem ggX11_chance_X11_refused : GoodIn wsX11_chance wsX11_refused := goodIn_r _ [19, 20, 47, 48, 49, 50, 51, 52, 53, 54] rfl (by decide +kernel)
set_option maxRecDepth 20000 in
theorem gX11_chance_X11_refused : GoodIn wsX11_chance (wsV RX11 67 RX11 yX11_refused wsX11_refused) := goodIn_app (goodIn_of _ (by decide +kernel)) ggX11_chance_X11_refused
set_option maxRecDepth 20000 in
theorem ggX11_chance_X11_isSlope : GoodIn wsX11_chance wsX11_isSlope := goodIn_r _ [23] rfl (by decide +kernel)
set_option maxRecDepth 20000 in
theorem gX11_chance_X11_isSlope : GoodIn wsX11_chance (va_wsS RX11 105 yX11_isSlope wsX11_isSlope) := goodIn_app (goodIn_of _ (by decide +kernel)) ggX11_chance_X11_isSlope
set_option maxRecDepth 20000 in
theorem ggX11_chance_X10_risk : GoodIn wsX11_chance wsX10_risk := goodIn_r _ [28, 29, 30, 31, 32, 33, 34, 35, 36, 37, 38, 39, 40, 41, 18, 42, 80, 81, 82] rfl (by decide +kernel)
set_option maxRecDepth 20000 in
theorem gX11_chance_X10_risk : GoodIn wsX11_chance (wsV RX11 148 RX10 yX10_risk wsX10_risk) := goodIn_app (goodIn_of _ (by decide +kernel)) ggX11_chance_X10_risk
set_option maxRecDepth 20000 in
theorem ggX11_chance_X11_granted : GoodIn wsX11_chance wsX11_granted := goodIn_r _ [46, 20, 47, 48, 49, 50, 51, 52, 53, 54] rfl (by decide +kernel)
set_option maxRecDepth 20000 in
theorem gX11_chance_X11_granted : GoodIn wsX11_chance (wsV RX11 88 RX11 yX11_granted wsX11_granted) := goodIn_app (goodIn_of _ (by decide +kernel)) ggX11_chance_X11_granted
theorem dX11_chance_0 : decode cX11_chance 0 = .ok (.aload_n 0, 1) := by decide +kernel
theorem dX11_chance_1 : decode cX11_chance 1 = .ok (.getfield 45, 3) := by decide +kernel
theorem dX11_chance_4 : decode cX11_chance 4 = .ok (.iload_n 1, 1) := by decide +kernel
theorem dX11_chance_5 : decode cX11_chance 5 = .ok (.invokevirtual 97, 3) := by decide +kernel
theorem dX11_chance_8 : decode cX11_chance 8 = .ok (.astore 4, 2) := by decide +kernel
theorem dX11_chance_10 : decode cX11_chance 10 = .ok (.aload_n 0, 1) := by decide +kernel
theorem dX11_chance_11 : decode cX11_chance 11 = .ok (.getfield 45, 3) := by decide +kernel
theorem dX11_chance_14 : decode cX11_chance 14 = .ok (.iload_n 2, 1) := by decide +kernel
theorem dX11_chance_15 : decode cX11_chance 15 = .ok (.invokevirtual 101, 3) := by decide +kernel
theorem dX11_chance_18 : decode cX11_chance 18 = .ok (.astore 5, 2) := by decide +kernel
theorem dX11_chance_20 : decode cX11_chance 20 = .ok (.aload 4, 2) := by decide +kernel
theorem dX11_chance_22 : decode cX11_chance 22 = .ok (.ifnull 8, 3) := by decide +kernel
theorem dX11_chance_25 : decode cX11_chance 25 = .ok (.aload 5, 2) := by decide +kernel
theorem dX11_chance_27 : decode cX11_chance 27 = .ok (.ifnonnull 9, 3) := by decide +kernel
theorem dX11_chance_30 : decode cX11_chance 30 = .ok (.aload_n 0, 1) := by decide +kernel
theorem dX11_chance_31 : decode cX11_chance 31 = .ok (.iconst 1, 1) := by decide +kernel
theorem dX11_chance_32 : decode cX11_chance 32 = .ok (.invokevirtual 67, 3) := by decide +kernel
theorem dX11_chance_35 : decode cX11_chance 35 = .ok (.ireturn, 1) := by decide +kernel
theorem dX11_chance_36 : decode cX11_chance 36 = .ok (.iload_n 3, 1) := by decide +kernel
theorem dX11_chance_37 : decode cX11_chance 37 = .ok (.invokestatic 105, 3) := by decide +kernel
theorem dX11_chance_40 : decode cX11_chance 40 = .ok (.ifCond .ne 9, 3) := by decide +kernel
theorem dX11_chance_43 : decode cX11_chance 43 = .ok (.aload_n 0, 1) := by decide +kernel
theorem dX11_chance_44 : decode cX11_chance 44 = .ok (.iconst 2, 1) := by decide +kernel
theorem dX11_chance_45 : decode cX11_chance 45 = .ok (.invokevirtual 67, 3) := by decide +kernel
theorem dX11_chance_48 : decode cX11_chance 48 = .ok (.ireturn, 1) := by decide +kernel
theorem dX11_chance_49 : decode cX11_chance 49 = .ok (.aload_n 0, 1) := by decide +kernel
theorem dX11_chance_50 : decode cX11_chance 50 = .ok (.aload 4, 2) := by decide +kernel
theorem dX11_chance_52 : decode cX11_chance 52 = .ok (.aload 5, 2) := by decide +kernel
theorem dX11_chance_54 : decode cX11_chance 54 = .ok (.getfield 145, 3) := by decide +kernel
theorem dX11_chance_57 : decode cX11_chance 57 = .ok (.iload_n 3, 1) := by decide +kernel
theorem dX11_chance_58 : decode cX11_chance 58 = .ok (.invokevirtual 148, 3) := by decide +kernel
theorem dX11_chance_61 : decode cX11_chance 61 = .ok (.invokevirtual 88, 3) := by decide +kernel
theorem dX11_chance_64 : decode cX11_chance 64 = .ok (.ireturn, 1) := by decide +kernel
set_option maxRecDepth 20000 in
theorem ggX11_lying_X0_wayAt : GoodIn wsX11_lying wsX0_wayAt := goodIn_r _ [6, 7, 8, 46, 47, 48, 49, 50, 51, 52, 53, 54, 55, 56, 57, 58, 59, 60, 61, 62] rfl (by decide +kernel)
set_option maxRecDepth 20000 in
theorem gX11_lying_X0_wayAt : GoodIn wsX11_lying (wsV RX11 97 RX0 yX0_wayAt wsX0_wayAt) := goodIn_app (goodIn_of _ (by decide +kernel)) ggX11_lying_X0_wayAt
set_option maxRecDepth 20000 in
theorem ggX11_lying_X11_isLie : GoodIn wsX11_lying wsX11_isLie := goodIn_r _ [12] rfl (by decide +kernel)
set_option maxRecDepth 20000 in
theorem gX11_lying_X11_isLie : GoodIn wsX11_lying (va_wsS RX11 151 yX11_isLie wsX11_isLie) := goodIn_app (goodIn_of _ (by decide +kernel)) ggX11_lying_X11_isLie
set_option maxRecDepth 20000 in
theorem ggX11_lying_X11_refused : GoodIn wsX11_lying wsX11_refused := goodIn_r _ [16, 17, 38, 39, 40, 41, 42, 43, 44, 45] rfl (by decide +kernel)
set_option maxRecDepth 20000 in
theorem gX11_lying_X11_refused : GoodIn wsX11_lying (wsV RX11 67 RX11 yX11_refused wsX11_refused) := goodIn_app (goodIn_of _ (by decide +kernel)) ggX11_lying_X11_refused
set_option maxRecDepth 20000 in
theorem ggX11_lying_X11_isSlope : GoodIn wsX11_lying wsX11_isSlope := goodIn_r _ [20] rfl (by decide +kernel)
set_option maxRecDepth 20000 in
theorem gX11_lying_X11_isSlope : GoodIn wsX11_lying (va_wsS RX11 105 yX11_isSlope wsX11_isSlope) := goodIn_app (goodIn_of _ (by decide +kernel)) ggX11_lying_X11_isSlope
set_option maxRecDepth 20000 in
theorem ggX11_lying_X10_tenths : GoodIn wsX11_lying wsX10_tenths := goodIn_r _ [25, 26, 27, 28, 29, 30, 31, 32, 11, 33, 63, 64, 65] rfl (by decide +kernel)
set_option maxRecDepth 20000 in
theorem gX11_lying_X10_tenths : GoodIn wsX11_lying (wsV RX11 154 RX10 yX10_tenths wsX10_tenths) := goodIn_app (goodIn_of _ (by decide +kernel)) ggX11_lying_X10_tenths
set_option maxRecDepth 20000 in
theorem ggX11_lying_X11_granted : GoodIn wsX11_lying wsX11_granted := goodIn_r _ [37, 17, 38, 39, 40, 41, 42, 43, 44, 45] rfl (by decide +kernel)
set_option maxRecDepth 20000 in
theorem gX11_lying_X11_granted : GoodIn wsX11_lying (wsV RX11 88 RX11 yX11_granted wsX11_granted) := goodIn_app (goodIn_of _ (by decide +kernel)) ggX11_lying_X11_granted
theorem dX11_lying_0 : decode cX11_lying 0 = .ok (.aload_n 0, 1) := by decide +kernel
theorem dX11_lying_1 : decode cX11_lying 1 = .ok (.getfield 45, 3) := by decide +kernel
theorem dX11_lying_4 : decode cX11_lying 4 = .ok (.iload_n 1, 1) := by decide +kernel
theorem dX11_lying_5 : decode cX11_lying 5 = .ok (.invokevirtual 97, 3) := by decide +kernel
theorem dX11_lying_8 : decode cX11_lying 8 = .ok (.astore 4, 2) := by decide +kernel
theorem dX11_lying_10 : decode cX11_lying 10 = .ok (.aload 4, 2) := by decide +kernel
theorem dX11_lying_12 : decode cX11_lying 12 = .ok (.ifnull 10, 3) := by decide +kernel
theorem dX11_lying_15 : decode cX11_lying 15 = .ok (.iload_n 3, 1) := by decide +kernel
theorem dX11_lying_16 : decode cX11_lying 16 = .ok (.invokestatic 151, 3) := by decide +kernel
theorem dX11_lying_19 : decode cX11_lying 19 = .ok (.ifCond .ne 9, 3) := by decide +kernel
theorem dX11_lying_22 : decode cX11_lying 22 = .ok (.aload_n 0, 1) := by decide +kernel
theorem dX11_lying_23 : decode cX11_lying 23 = .ok (.iconst 1, 1) := by decide +kernel
theorem dX11_lying_24 : decode cX11_lying 24 = .ok (.invokevirtual 67, 3) := by decide +kernel
theorem dX11_lying_27 : decode cX11_lying 27 = .ok (.ireturn, 1) := by decide +kernel
theorem dX11_lying_28 : decode cX11_lying 28 = .ok (.iload_n 2, 1) := by decide +kernel
theorem dX11_lying_29 : decode cX11_lying 29 = .ok (.invokestatic 105, 3) := by decide +kernel
theorem dX11_lying_32 : decode cX11_lying 32 = .ok (.ifCond .ne 9, 3) := by decide +kernel
theorem dX11_lying_35 : decode cX11_lying 35 = .ok (.aload_n 0, 1) := by decide +kernel
theorem dX11_lying_36 : decode cX11_lying 36 = .ok (.iconst 2, 1) := by decide +kernel
theorem dX11_lying_37 : decode cX11_lying 37 = .ok (.invokevirtual 67, 3) := by decide +kernel
theorem dX11_lying_40 : decode cX11_lying 40 = .ok (.ireturn, 1) := by decide +kernel
theorem dX11_lying_41 : decode cX11_lying 41 = .ok (.aload_n 0, 1) := by decide +kernel
theorem dX11_lying_42 : decode cX11_lying 42 = .ok (.aload 4, 2) := by decide +kernel
theorem dX11_lying_44 : decode cX11_lying 44 = .ok (.iload_n 2, 1) := by decide +kernel
theorem dX11_lying_45 : decode cX11_lying 45 = .ok (.iload_n 3, 1) := by decide +kernel
theorem dX11_lying_46 : decode cX11_lying 46 = .ok (.invokevirtual 154, 3) := by decide +kernel
theorem dX11_lying_49 : decode cX11_lying 49 = .ok (.invokevirtual 88, 3) := by decide +kernel
theorem dX11_lying_52 : decode cX11_lying 52 = .ok (.ireturn, 1) := by decide +kernel
set_option maxRecDepth 20000 in
theorem ggX11_easiest_X0_statueAt : GoodIn wsX11_easiest wsX0_statueAt := goodIn_r _ [6, 7, 8, 85, 86, 87, 88, 89, 90, 91, 92, 93, 94, 95, 96, 97, 98, 99, 100, 101] rfl (by decide +kernel)
set_option maxRecDepth 20000 in
theorem gX11_easiest_X0_statueAt : GoodIn wsX11_easiest (wsV RX11 101 RX0 yX0_statueAt wsX0_statueAt) := goodIn_app (goodIn_of _ (by decide +kernel)) ggX11_easiest_X0_statueAt
set_option maxRecDepth 20000 in
theorem ggX11_easiest_X0_roadAt : GoodIn wsX11_easiest wsX0_roadAt := goodIn_r _ [12, 7, 13, 85, 86, 87, 88, 89, 90, 91, 92, 93, 94, 95, 96, 97, 98, 99, 100, 101] rfl (by decide +kernel)
set_option maxRecDepth 20000 in
theorem gX11_easiest_X0_roadAt : GoodIn wsX11_easiest (wsV RX11 114 RX0 yX0_roadAt wsX0_roadAt) := goodIn_app (goodIn_of _ (by decide +kernel)) ggX11_easiest_X0_roadAt
set_option maxRecDepth 20000 in
theorem ggX11_easiest_X11_refused : GoodIn wsX11_easiest wsX11_refused := goodIn_r _ [18, 19, 77, 78, 79, 80, 81, 82, 83, 84] rfl (by decide +kernel)
set_option maxRecDepth 20000 in
theorem gX11_easiest_X11_refused : GoodIn wsX11_easiest (wsV RX11 67 RX11 yX11_refused wsX11_refused) := goodIn_app (goodIn_of _ (by decide +kernel)) ggX11_easiest_X11_refused
set_option maxRecDepth 20000 in
theorem ggX11_easiest_X0_easiestWay : GoodIn wsX11_easiest wsX0_easiestWay := goodIn_r _ [23, 24, 25, 26, 27, 28, 5, 29, 7, 30, 17, 31, 32, 33, 34, 35, 36, 37, 38, 39, 40, 41, 42, 43, 44, 45, 46, 47, 48, 49, 50, 51, 52, 53, 54, 55, 56, 57, 58, 59, 60, 61, 62, 63, 64, 65, 66, 67, 68, 69, 70, 71, 72, 102, 103, 104, 105, 106, 107, 108, 109, 110, 111, 112, 85, 86, 87, 88, 89, 90, 91, 92, 93, 94, 95, 96, 97, 98, 99, 100, 101, 113, 114, 115] rfl (by decide +kernel)
set_option maxRecDepth 20000 in
theorem gX11_easiest_X0_easiestWay : GoodIn wsX11_easiest (wsV RX11 157 RX0 yX0_easiestWay wsX0_easiestWay) := goodIn_app (goodIn_of _ (by decide +kernel)) ggX11_easiest_X0_easiestWay
set_option maxRecDepth 20000 in
theorem ggX11_easiest_X11_granted : GoodIn wsX11_easiest wsX11_granted := goodIn_r _ [76, 19, 77, 78, 79, 80, 81, 82, 83, 84] rfl (by decide +kernel)
set_option maxRecDepth 20000 in
theorem gX11_easiest_X11_granted : GoodIn wsX11_easiest (wsV RX11 88 RX11 yX11_granted wsX11_granted) := goodIn_app (goodIn_of _ (by decide +kernel)) ggX11_easiest_X11_granted
theorem dX11_easiest_0 : decode cX11_easiest 0 = .ok (.aload_n 0, 1) := by decide +kernel
theorem dX11_easiest_1 : decode cX11_easiest 1 = .ok (.getfield 45, 3) := by decide +kernel
theorem dX11_easiest_4 : decode cX11_easiest 4 = .ok (.iload_n 1, 1) := by decide +kernel
theorem dX11_easiest_5 : decode cX11_easiest 5 = .ok (.invokevirtual 101, 3) := by decide +kernel
theorem dX11_easiest_8 : decode cX11_easiest 8 = .ok (.astore_n 3, 1) := by decide +kernel
theorem dX11_easiest_9 : decode cX11_easiest 9 = .ok (.aload_n 0, 1) := by decide +kernel
theorem dX11_easiest_10 : decode cX11_easiest 10 = .ok (.getfield 45, 3) := by decide +kernel
theorem dX11_easiest_13 : decode cX11_easiest 13 = .ok (.iload_n 2, 1) := by decide +kernel
theorem dX11_easiest_14 : decode cX11_easiest 14 = .ok (.invokevirtual 114, 3) := by decide +kernel
theorem dX11_easiest_17 : decode cX11_easiest 17 = .ok (.astore 4, 2) := by decide +kernel
theorem dX11_easiest_19 : decode cX11_easiest 19 = .ok (.aload_n 3, 1) := by decide +kernel
theorem dX11_easiest_20 : decode cX11_easiest 20 = .ok (.ifnull 8, 3) := by decide +kernel
theorem dX11_easiest_23 : decode cX11_easiest 23 = .ok (.aload 4, 2) := by decide +kernel
theorem dX11_easiest_25 : decode cX11_easiest 25 = .ok (.ifnonnull 9, 3) := by decide +kernel
theorem dX11_easiest_28 : decode cX11_easiest 28 = .ok (.aload_n 0, 1) := by decide +kernel
theorem dX11_easiest_29 : decode cX11_easiest 29 = .ok (.iconst 1, 1) := by decide +kernel
theorem dX11_easiest_30 : decode cX11_easiest 30 = .ok (.invokevirtual 67, 3) := by decide +kernel
theorem dX11_easiest_33 : decode cX11_easiest 33 = .ok (.ireturn, 1) := by decide +kernel
theorem dX11_easiest_34 : decode cX11_easiest 34 = .ok (.aload_n 0, 1) := by decide +kernel
theorem dX11_easiest_35 : decode cX11_easiest 35 = .ok (.aload_n 0, 1) := by decide +kernel
theorem dX11_easiest_36 : decode cX11_easiest 36 = .ok (.getfield 45, 3) := by decide +kernel
theorem dX11_easiest_39 : decode cX11_easiest 39 = .ok (.aload_n 3, 1) := by decide +kernel
theorem dX11_easiest_40 : decode cX11_easiest 40 = .ok (.aload 4, 2) := by decide +kernel
theorem dX11_easiest_42 : decode cX11_easiest 42 = .ok (.invokevirtual 157, 3) := by decide +kernel
theorem dX11_easiest_45 : decode cX11_easiest 45 = .ok (.invokevirtual 88, 3) := by decide +kernel
theorem dX11_easiest_48 : decode cX11_easiest 48 = .ok (.ireturn, 1) := by decide +kernel
set_option maxRecDepth 20000 in
theorem ggX11_seed_X0_isBare : GoodIn wsX11_seed wsX0_isBare := goodIn_r _ [9, 10, 11, 12, 8, 13, 14, 15, 16, 17, 46, 47, 48, 49, 50, 51, 52, 53, 54, 55, 56, 57, 58, 59, 60, 61, 62] rfl (by decide +kernel)
set_option maxRecDepth 20000 in
theorem gX11_seed_X0_isBare : GoodIn wsX11_seed (wsV RX11 160 RX0 yX0_isBare wsX0_isBare) := goodIn_app (goodIn_of _ (by decide +kernel)) ggX11_seed_X0_isBare
set_option maxRecDepth 20000 in
theorem ggX11_seed_X11_denied : GoodIn wsX11_seed wsX11_denied := goodIn_r _ [21, 22, 27, 28, 29, 30, 31, 32, 33, 34] rfl (by decide +kernel)
set_option maxRecDepth 20000 in
theorem gX11_seed_X11_denied : GoodIn wsX11_seed (wsV RX11 164 RX11 yX11_denied wsX11_denied) := goodIn_app (goodIn_of _ (by decide +kernel)) ggX11_seed_X11_denied
set_option maxRecDepth 20000 in
theorem ggX11_seed_X11_allowed : GoodIn wsX11_seed wsX11_allowed := goodIn_r _ [26, 22, 27, 28, 29, 30, 31, 32, 33, 34] rfl (by decide +kernel)
set_option maxRecDepth 20000 in
theorem gX11_seed_X11_allowed : GoodIn wsX11_seed (wsV RX11 171 RX11 yX11_allowed wsX11_allowed) := goodIn_app (goodIn_of _ (by decide +kernel)) ggX11_seed_X11_allowed
theorem dX11_seed_0 : decode cX11_seed 0 = .ok (.aload_n 0, 1) := by decide +kernel
theorem dX11_seed_1 : decode cX11_seed 1 = .ok (.getfield 45, 3) := by decide +kernel
theorem dX11_seed_4 : decode cX11_seed 4 = .ok (.invokevirtual 160, 3) := by decide +kernel
theorem dX11_seed_7 : decode cX11_seed 7 = .ok (.ifCond .eq 9, 3) := by decide +kernel
theorem dX11_seed_10 : decode cX11_seed 10 = .ok (.aload_n 0, 1) := by decide +kernel
theorem dX11_seed_11 : decode cX11_seed 11 = .ok (.iconst 1, 1) := by decide +kernel
theorem dX11_seed_12 : decode cX11_seed 12 = .ok (.invokevirtual 164, 3) := by decide +kernel
theorem dX11_seed_15 : decode cX11_seed 15 = .ok (.ireturn, 1) := by decide +kernel
theorem dX11_seed_16 : decode cX11_seed 16 = .ok (.iload_n 1, 1) := by decide +kernel
theorem dX11_seed_17 : decode cX11_seed 17 = .ok (.ifCond .lt 9, 3) := by decide +kernel
theorem dX11_seed_20 : decode cX11_seed 20 = .ok (.iload_n 1, 1) := by decide +kernel
theorem dX11_seed_21 : decode cX11_seed 21 = .ok (.ldc 167, 2) := by decide +kernel
theorem dX11_seed_23 : decode cX11_seed 23 = .ok (.if_icmp .le 9, 3) := by decide +kernel
theorem dX11_seed_26 : decode cX11_seed 26 = .ok (.aload_n 0, 1) := by decide +kernel
theorem dX11_seed_27 : decode cX11_seed 27 = .ok (.iconst 2, 1) := by decide +kernel
theorem dX11_seed_28 : decode cX11_seed 28 = .ok (.invokevirtual 164, 3) := by decide +kernel
theorem dX11_seed_31 : decode cX11_seed 31 = .ok (.ireturn, 1) := by decide +kernel
theorem dX11_seed_32 : decode cX11_seed 32 = .ok (.aload_n 0, 1) := by decide +kernel
theorem dX11_seed_33 : decode cX11_seed 33 = .ok (.getfield 35, 3) := by decide +kernel
theorem dX11_seed_36 : decode cX11_seed 36 = .ok (.iload_n 1, 1) := by decide +kernel
theorem dX11_seed_37 : decode cX11_seed 37 = .ok (.putfield 168, 3) := by decide +kernel
theorem dX11_seed_40 : decode cX11_seed 40 = .ok (.aload_n 0, 1) := by decide +kernel
theorem dX11_seed_41 : decode cX11_seed 41 = .ok (.invokevirtual 171, 3) := by decide +kernel
theorem dX11_seed_44 : decode cX11_seed 44 = .ok (.ireturn, 1) := by decide +kernel
set_option maxRecDepth 20000 in
theorem ggX11_move_X0_has : GoodIn wsX11_move wsX0_has := goodIn_r _ [7, 8, 9, 10, 6, 11, 12, 13, 14, 15, 51, 52, 53, 54, 55, 56, 57, 58, 59, 60, 61, 62, 63, 64, 65, 66, 67] rfl (by decide +kernel)
set_option maxRecDepth 20000 in
theorem gX11_move_X0_has : GoodIn wsX11_move (wsV RX11 174 RX0 yX0_has wsX0_has) := goodIn_app (goodIn_of _ (by decide +kernel)) ggX11_move_X0_has
set_option maxRecDepth 20000 in
theorem ggX11_move_X11_denied : GoodIn wsX11_move wsX11_denied := goodIn_r _ [19, 20, 43, 44, 45, 46, 47, 48, 49, 50] rfl (by decide +kernel)
set_option maxRecDepth 20000 in
theorem gX11_move_X11_denied : GoodIn wsX11_move (wsV RX11 164 RX11 yX11_denied wsX11_denied) := goodIn_app (goodIn_of _ (by decide +kernel)) ggX11_move_X11_denied
set_option maxRecDepth 20000 in
theorem ggX11_move_X11_isCrowd : GoodIn wsX11_move wsX11_isCrowd := goodIn_r _ [23] rfl (by decide +kernel)
set_option maxRecDepth 20000 in
theorem gX11_move_X11_isCrowd : GoodIn wsX11_move (va_wsS RX11 138 yX11_isCrowd wsX11_isCrowd) := goodIn_app (goodIn_of _ (by decide +kernel)) ggX11_move_X11_isCrowd
set_option maxRecDepth 20000 in
theorem ggX11_move_X1_begin : GoodIn wsX11_move wsX1_begin := goodIn_r _ [28, 29, 30, 31, 32, 33, 34, 35, 36, 37, 38, 68, 69, 70, 71, 72, 73, 74, 75, 76, 77, 78] rfl (by decide +kernel)
set_option maxRecDepth 20000 in
theorem gX11_move_X1_begin : GoodIn wsX11_move (wsV RX11 178 RX1 yX1_begin wsX1_begin) := goodIn_app (goodIn_of _ (by decide +kernel)) ggX11_move_X1_begin
set_option maxRecDepth 20000 in
theorem ggX11_move_X11_allowed : GoodIn wsX11_move wsX11_allowed := goodIn_r _ [42, 20, 43, 44, 45, 46, 47, 48, 49, 50] rfl (by decide +kernel)
set_option maxRecDepth 20000 in
theorem gX11_move_X11_allowed : GoodIn wsX11_move (wsV RX11 171 RX11 yX11_allowed wsX11_allowed) := goodIn_app (goodIn_of _ (by decide +kernel)) ggX11_move_X11_allowed
theorem dX11_move_0 : decode cX11_move 0 = .ok (.aload_n 0, 1) := by decide +kernel
theorem dX11_move_1 : decode cX11_move 1 = .ok (.getfield 45, 3) := by decide +kernel
theorem dX11_move_4 : decode cX11_move 4 = .ok (.iconst 2, 1) := by decide +kernel
theorem dX11_move_5 : decode cX11_move 5 = .ok (.iload_n 1, 1) := by decide +kernel
theorem dX11_move_6 : decode cX11_move 6 = .ok (.invokevirtual 174, 3) := by decide +kernel
theorem dX11_move_9 : decode cX11_move 9 = .ok (.ifCond .eq 27, 3) := by decide +kernel
theorem dX11_move_12 : decode cX11_move 12 = .ok (.aload_n 0, 1) := by decide +kernel
theorem dX11_move_13 : decode cX11_move 13 = .ok (.getfield 45, 3) := by decide +kernel
theorem dX11_move_16 : decode cX11_move 16 = .ok (.iconst 0, 1) := by decide +kernel
theorem dX11_move_17 : decode cX11_move 17 = .ok (.iload_n 2, 1) := by decide +kernel
theorem dX11_move_18 : decode cX11_move 18 = .ok (.invokevirtual 174, 3) := by decide +kernel
theorem dX11_move_21 : decode cX11_move 21 = .ok (.ifCond .eq 15, 3) := by decide +kernel
theorem dX11_move_24 : decode cX11_move 24 = .ok (.aload_n 0, 1) := by decide +kernel
theorem dX11_move_25 : decode cX11_move 25 = .ok (.getfield 45, 3) := by decide +kernel
theorem dX11_move_28 : decode cX11_move 28 = .ok (.iconst 1, 1) := by decide +kernel
theorem dX11_move_29 : decode cX11_move 29 = .ok (.iload_n 3, 1) := by decide +kernel
theorem dX11_move_30 : decode cX11_move 30 = .ok (.invokevirtual 174, 3) := by decide +kernel
theorem dX11_move_33 : decode cX11_move 33 = .ok (.ifCond .ne 9, 3) := by decide +kernel
theorem dX11_move_36 : decode cX11_move 36 = .ok (.aload_n 0, 1) := by decide +kernel
theorem dX11_move_37 : decode cX11_move 37 = .ok (.iconst 1, 1) := by decide +kernel
theorem dX11_move_38 : decode cX11_move 38 = .ok (.invokevirtual 164, 3) := by decide +kernel
theorem dX11_move_41 : decode cX11_move 41 = .ok (.ireturn, 1) := by decide +kernel
theorem dX11_move_42 : decode cX11_move 42 = .ok (.iload 4, 2) := by decide +kernel
theorem dX11_move_44 : decode cX11_move 44 = .ok (.invokestatic 138, 3) := by decide +kernel
theorem dX11_move_47 : decode cX11_move 47 = .ok (.ifCond .ne 9, 3) := by decide +kernel
theorem dX11_move_50 : decode cX11_move 50 = .ok (.aload_n 0, 1) := by decide +kernel
theorem dX11_move_51 : decode cX11_move 51 = .ok (.iconst 2, 1) := by decide +kernel
theorem dX11_move_52 : decode cX11_move 52 = .ok (.invokevirtual 164, 3) := by decide +kernel
theorem dX11_move_55 : decode cX11_move 55 = .ok (.ireturn, 1) := by decide +kernel
theorem dX11_move_56 : decode cX11_move 56 = .ok (.aload_n 0, 1) := by decide +kernel
theorem dX11_move_57 : decode cX11_move 57 = .ok (.getfield 35, 3) := by decide +kernel
theorem dX11_move_60 : decode cX11_move 60 = .ok (.iload_n 1, 1) := by decide +kernel
theorem dX11_move_61 : decode cX11_move 61 = .ok (.iload_n 2, 1) := by decide +kernel
theorem dX11_move_62 : decode cX11_move 62 = .ok (.iload_n 3, 1) := by decide +kernel
theorem dX11_move_63 : decode cX11_move 63 = .ok (.iload 4, 2) := by decide +kernel
theorem dX11_move_65 : decode cX11_move 65 = .ok (.invokevirtual 178, 3) := by decide +kernel
theorem dX11_move_68 : decode cX11_move 68 = .ok (.aload_n 0, 1) := by decide +kernel
theorem dX11_move_69 : decode cX11_move 69 = .ok (.invokevirtual 171, 3) := by decide +kernel
theorem dX11_move_72 : decode cX11_move 72 = .ok (.ireturn, 1) := by decide +kernel
set_option maxRecDepth 20000 in
theorem ggX11_step_X11_refused : GoodIn wsX11_step wsX11_refused := goodIn_r _ [9, 10, 123, 124, 125, 126, 127, 128, 129, 130] rfl (by decide +kernel)
set_option maxRecDepth 20000 in
theorem gX11_step_X11_refused : GoodIn wsX11_step (wsV RX11 67 RX11 yX11_refused wsX11_refused) := goodIn_app (goodIn_of _ (by decide +kernel)) ggX11_step_X11_refused
set_option maxRecDepth 20000 in
theorem ggX11_step_X1_advance : GoodIn wsX11_step wsX1_advance := goodIn_r _ [15, 16, 17, 18, 19, 20, 21, 22, 23, 24, 25, 26, 27, 28, 29, 30, 31, 32, 33, 34, 35, 36, 37, 38, 39, 40, 41, 42, 43, 44, 45, 46, 47, 48, 49, 50, 51, 8, 52, 53, 54, 55, 56, 57, 58, 59, 60, 61, 62, 63, 64, 65, 66, 67, 68, 69, 70, 71, 72, 73, 74, 75, 76, 77, 78, 79, 80, 81, 82, 83, 84, 85, 86, 87, 88, 89, 90, 91, 92, 93, 94, 95, 96, 97, 98, 14, 99, 100, 101, 102, 103, 104, 105, 106, 107, 108, 109, 110, 111, 112, 113, 114, 115, 116, 117, 118, 131, 132, 133, 134, 135, 136, 137, 138, 139, 140, 141, 142, 143, 144, 145, 146, 147, 148, 149, 150, 151, 152, 153, 154, 155, 156, 157, 158, 159, 160, 161, 162, 163, 164, 165, 166, 167, 168, 169, 170, 171, 172] rfl (by decide +kernel)
set_option maxRecDepth 20000 in
theorem gX11_step_X1_advance : GoodIn wsX11_step (wsV RX11 189 RX1 yX1_advance wsX1_advance) := goodIn_app (goodIn_of _ (by decide +kernel)) ggX11_step_X1_advance
set_option maxRecDepth 20000 in
theorem ggX11_step_X11_granted : GoodIn wsX11_step wsX11_granted := goodIn_r _ [122, 10, 123, 124, 125, 126, 127, 128, 129, 130] rfl (by decide +kernel)
set_option maxRecDepth 20000 in
theorem gX11_step_X11_granted : GoodIn wsX11_step (wsV RX11 88 RX11 yX11_granted wsX11_granted) := goodIn_app (goodIn_of _ (by decide +kernel)) ggX11_step_X11_granted
theorem dX11_step_0 : decode cX11_step 0 = .ok (.aload_n 0, 1) := by decide +kernel
theorem dX11_step_1 : decode cX11_step 1 = .ok (.getfield 35, 3) := by decide +kernel
theorem dX11_step_4 : decode cX11_step 4 = .ok (.getfield 182, 3) := by decide +kernel
theorem dX11_step_7 : decode cX11_step 7 = .ok (.ifCond .ne 10, 3) := by decide +kernel
theorem dX11_step_10 : decode cX11_step 10 = .ok (.aload_n 0, 1) := by decide +kernel
theorem dX11_step_11 : decode cX11_step 11 = .ok (.bipush 6, 2) := by decide +kernel
theorem dX11_step_13 : decode cX11_step 13 = .ok (.invokevirtual 67, 3) := by decide +kernel
theorem dX11_step_16 : decode cX11_step 16 = .ok (.ireturn, 1) := by decide +kernel
theorem dX11_step_17 : decode cX11_step 17 = .ok (.aload_n 0, 1) := by decide +kernel
theorem dX11_step_18 : decode cX11_step 18 = .ok (.getfield 35, 3) := by decide +kernel
theorem dX11_step_21 : decode cX11_step 21 = .ok (.getfield 186, 3) := by decide +kernel
theorem dX11_step_24 : decode cX11_step 24 = .ok (.iconst 1, 1) := by decide +kernel
theorem dX11_step_25 : decode cX11_step 25 = .ok (.if_icmp .eq 9, 3) := by decide +kernel
theorem dX11_step_28 : decode cX11_step 28 = .ok (.aload_n 0, 1) := by decide +kernel
theorem dX11_step_29 : decode cX11_step 29 = .ok (.iconst 5, 1) := by decide +kernel
theorem dX11_step_30 : decode cX11_step 30 = .ok (.invokevirtual 67, 3) := by decide +kernel
theorem dX11_step_33 : decode cX11_step 33 = .ok (.ireturn, 1) := by decide +kernel
theorem dX11_step_34 : decode cX11_step 34 = .ok (.aload_n 0, 1) := by decide +kernel
theorem dX11_step_35 : decode cX11_step 35 = .ok (.aload_n 0, 1) := by decide +kernel
theorem dX11_step_36 : decode cX11_step 36 = .ok (.getfield 35, 3) := by decide +kernel
theorem dX11_step_39 : decode cX11_step 39 = .ok (.aload_n 0, 1) := by decide +kernel
theorem dX11_step_40 : decode cX11_step 40 = .ok (.getfield 45, 3) := by decide +kernel
theorem dX11_step_43 : decode cX11_step 43 = .ok (.invokevirtual 189, 3) := by decide +kernel
theorem dX11_step_46 : decode cX11_step 46 = .ok (.invokevirtual 88, 3) := by decide +kernel
theorem dX11_step_49 : decode cX11_step 49 = .ok (.ireturn, 1) := by decide +kernel
set_option maxRecDepth 20000 in
theorem ggX11_call_X11_denied : GoodIn wsX11_call wsX11_denied := goodIn_r _ [9, 10, 18, 19, 20, 21, 22, 23, 24, 25] rfl (by decide +kernel)
set_option maxRecDepth 20000 in
theorem gX11_call_X11_denied : GoodIn wsX11_call (wsV RX11 164 RX11 yX11_denied wsX11_denied) := goodIn_app (goodIn_of _ (by decide +kernel)) ggX11_call_X11_denied
set_option maxRecDepth 20000 in
theorem ggX11_call_X11_isCrowd : GoodIn wsX11_call wsX11_isCrowd := goodIn_r _ [13] rfl (by decide +kernel)
set_option maxRecDepth 20000 in
theorem gX11_call_X11_isCrowd : GoodIn wsX11_call (va_wsS RX11 138 yX11_isCrowd wsX11_isCrowd) := goodIn_app (goodIn_of _ (by decide +kernel)) ggX11_call_X11_isCrowd
set_option maxRecDepth 20000 in
theorem ggX11_call_X11_allowed : GoodIn wsX11_call wsX11_allowed := goodIn_r _ [17, 10, 18, 19, 20, 21, 22, 23, 24, 25] rfl (by decide +kernel)
set_option maxRecDepth 20000 in
theorem gX11_call_X11_allowed : GoodIn wsX11_call (wsV RX11 171 RX11 yX11_allowed wsX11_allowed) := goodIn_app (goodIn_of _ (by decide +kernel)) ggX11_call_X11_allowed
theorem dX11_call_0 : decode cX11_call 0 = .ok (.aload_n 0, 1) := by decide +kernel
theorem dX11_call_1 : decode cX11_call 1 = .ok (.getfield 35, 3) := by decide +kernel
theorem dX11_call_4 : decode cX11_call 4 = .ok (.getfield 182, 3) := by decide +kernel
theorem dX11_call_7 : decode cX11_call 7 = .ok (.ifCond .ne 10, 3) := by decide +kernel
theorem dX11_call_10 : decode cX11_call 10 = .ok (.aload_n 0, 1) := by decide +kernel
theorem dX11_call_11 : decode cX11_call 11 = .ok (.bipush 6, 2) := by decide +kernel
theorem dX11_call_13 : decode cX11_call 13 = .ok (.invokevirtual 164, 3) := by decide +kernel
theorem dX11_call_16 : decode cX11_call 16 = .ok (.ireturn, 1) := by decide +kernel
theorem dX11_call_17 : decode cX11_call 17 = .ok (.iload_n 1, 1) := by decide +kernel
theorem dX11_call_18 : decode cX11_call 18 = .ok (.invokestatic 138, 3) := by decide +kernel
theorem dX11_call_21 : decode cX11_call 21 = .ok (.ifCond .ne 9, 3) := by decide +kernel
theorem dX11_call_24 : decode cX11_call 24 = .ok (.aload_n 0, 1) := by decide +kernel
theorem dX11_call_25 : decode cX11_call 25 = .ok (.iconst 2, 1) := by decide +kernel
theorem dX11_call_26 : decode cX11_call 26 = .ok (.invokevirtual 164, 3) := by decide +kernel
theorem dX11_call_29 : decode cX11_call 29 = .ok (.ireturn, 1) := by decide +kernel
theorem dX11_call_30 : decode cX11_call 30 = .ok (.aload_n 0, 1) := by decide +kernel
theorem dX11_call_31 : decode cX11_call 31 = .ok (.getfield 35, 3) := by decide +kernel
theorem dX11_call_34 : decode cX11_call 34 = .ok (.getfield 186, 3) := by decide +kernel
theorem dX11_call_37 : decode cX11_call 37 = .ok (.iconst 1, 1) := by decide +kernel
theorem dX11_call_38 : decode cX11_call 38 = .ok (.if_icmp .eq 20, 3) := by decide +kernel
theorem dX11_call_41 : decode cX11_call 41 = .ok (.aload_n 0, 1) := by decide +kernel
theorem dX11_call_42 : decode cX11_call 42 = .ok (.getfield 35, 3) := by decide +kernel
theorem dX11_call_45 : decode cX11_call 45 = .ok (.getfield 186, 3) := by decide +kernel
theorem dX11_call_48 : decode cX11_call 48 = .ok (.iconst 5, 1) := by decide +kernel
theorem dX11_call_49 : decode cX11_call 49 = .ok (.if_icmp .eq 9, 3) := by decide +kernel
theorem dX11_call_52 : decode cX11_call 52 = .ok (.aload_n 0, 1) := by decide +kernel
theorem dX11_call_53 : decode cX11_call 53 = .ok (.iconst 5, 1) := by decide +kernel
theorem dX11_call_54 : decode cX11_call 54 = .ok (.invokevirtual 164, 3) := by decide +kernel
theorem dX11_call_57 : decode cX11_call 57 = .ok (.ireturn, 1) := by decide +kernel
theorem dX11_call_58 : decode cX11_call 58 = .ok (.aload_n 0, 1) := by decide +kernel
theorem dX11_call_59 : decode cX11_call 59 = .ok (.getfield 35, 3) := by decide +kernel
theorem dX11_call_62 : decode cX11_call 62 = .ok (.iload_n 1, 1) := by decide +kernel
theorem dX11_call_63 : decode cX11_call 63 = .ok (.putfield 193, 3) := by decide +kernel
theorem dX11_call_66 : decode cX11_call 66 = .ok (.aload_n 0, 1) := by decide +kernel
theorem dX11_call_67 : decode cX11_call 67 = .ok (.getfield 35, 3) := by decide +kernel
theorem dX11_call_70 : decode cX11_call 70 = .ok (.iconst 1, 1) := by decide +kernel
theorem dX11_call_71 : decode cX11_call 71 = .ok (.putfield 186, 3) := by decide +kernel
theorem dX11_call_74 : decode cX11_call 74 = .ok (.aload_n 0, 1) := by decide +kernel
theorem dX11_call_75 : decode cX11_call 75 = .ok (.invokevirtual 171, 3) := by decide +kernel
theorem dX11_call_78 : decode cX11_call 78 = .ok (.ireturn, 1) := by decide +kernel
set_option maxRecDepth 20000 in
theorem ggX11_at_X11_refused : GoodIn wsX11_at wsX11_refused := goodIn_r _ [7, 8, 27, 28, 29, 30, 31, 32, 33, 34] rfl (by decide +kernel)
set_option maxRecDepth 20000 in
theorem gX11_at_X11_refused : GoodIn wsX11_at (wsV RX11 67 RX11 yX11_refused wsX11_refused) := goodIn_app (goodIn_of _ (by decide +kernel)) ggX11_at_X11_refused
set_option maxRecDepth 20000 in
theorem ggX11_at_X1_report : GoodIn wsX11_at wsX1_report := goodIn_r _ [13, 14, 15, 16, 17, 18, 19, 20, 21, 22, 35, 36, 37, 38, 39, 40, 41, 42, 43, 44, 45] rfl (by decide +kernel)
set_option maxRecDepth 20000 in
theorem gX11_at_X1_report : GoodIn wsX11_at (wsV RX11 196 RX1 yX1_report wsX1_report) := goodIn_app (goodIn_of _ (by decide +kernel)) ggX11_at_X1_report
set_option maxRecDepth 20000 in
theorem ggX11_at_X11_granted : GoodIn wsX11_at wsX11_granted := goodIn_r _ [26, 8, 27, 28, 29, 30, 31, 32, 33, 34] rfl (by decide +kernel)
set_option maxRecDepth 20000 in
theorem gX11_at_X11_granted : GoodIn wsX11_at (wsV RX11 88 RX11 yX11_granted wsX11_granted) := goodIn_app (goodIn_of _ (by decide +kernel)) ggX11_at_X11_granted
theorem dX11_at_0 : decode cX11_at 0 = .ok (.iload_n 1, 1) := by decide +kernel
theorem dX11_at_1 : decode cX11_at 1 = .ok (.ifCond .lt 9, 3) := by decide +kernel
theorem dX11_at_4 : decode cX11_at 4 = .ok (.iload_n 1, 1) := by decide +kernel
theorem dX11_at_5 : decode cX11_at 5 = .ok (.bipush 8, 2) := by decide +kernel
theorem dX11_at_7 : decode cX11_at 7 = .ok (.if_icmp .le 9, 3) := by decide +kernel
theorem dX11_at_10 : decode cX11_at 10 = .ok (.aload_n 0, 1) := by decide +kernel
theorem dX11_at_11 : decode cX11_at 11 = .ok (.iconst 1, 1) := by decide +kernel
theorem dX11_at_12 : decode cX11_at 12 = .ok (.invokevirtual 67, 3) := by decide +kernel
theorem dX11_at_15 : decode cX11_at 15 = .ok (.ireturn, 1) := by decide +kernel
theorem dX11_at_16 : decode cX11_at 16 = .ok (.aload_n 0, 1) := by decide +kernel
theorem dX11_at_17 : decode cX11_at 17 = .ok (.getfield 35, 3) := by decide +kernel
theorem dX11_at_20 : decode cX11_at 20 = .ok (.getfield 182, 3) := by decide +kernel
theorem dX11_at_23 : decode cX11_at 23 = .ok (.ifCond .ne 10, 3) := by decide +kernel
theorem dX11_at_26 : decode cX11_at 26 = .ok (.aload_n 0, 1) := by decide +kernel
theorem dX11_at_27 : decode cX11_at 27 = .ok (.bipush 6, 2) := by decide +kernel
theorem dX11_at_29 : decode cX11_at 29 = .ok (.invokevirtual 67, 3) := by decide +kernel
theorem dX11_at_32 : decode cX11_at 32 = .ok (.ireturn, 1) := by decide +kernel
theorem dX11_at_33 : decode cX11_at 33 = .ok (.aload_n 0, 1) := by decide +kernel
theorem dX11_at_34 : decode cX11_at 34 = .ok (.aload_n 0, 1) := by decide +kernel
theorem dX11_at_35 : decode cX11_at 35 = .ok (.getfield 35, 3) := by decide +kernel
theorem dX11_at_38 : decode cX11_at 38 = .ok (.iload_n 1, 1) := by decide +kernel
theorem dX11_at_39 : decode cX11_at 39 = .ok (.invokevirtual 196, 3) := by decide +kernel
theorem dX11_at_42 : decode cX11_at 42 = .ok (.invokevirtual 88, 3) := by decide +kernel
theorem dX11_at_45 : decode cX11_at 45 = .ok (.ireturn, 1) := by decide +kernel
set_option maxRecDepth 20000 in
theorem ggX11_tries_X11_refused : GoodIn wsX11_tries wsX11_refused := goodIn_r _ [14, 15, 137, 138, 139, 140, 141, 142, 143, 144] rfl (by decide +kernel)
set_option maxRecDepth 20000 in
theorem gX11_tries_X11_refused : GoodIn wsX11_tries (wsV RX11 67 RX11 yX11_refused wsX11_refused) := goodIn_app (goodIn_of _ (by decide +kernel)) ggX11_tries_X11_refused
set_option maxRecDepth 20000 in
theorem ggX11_tries_X1_begin : GoodIn wsX11_tries wsX1_begin := goodIn_r _ [20, 21, 22, 23, 24, 25, 26, 27, 28, 29, 30, 145, 146, 147, 148, 149, 150, 151, 152, 153, 154, 155] rfl (by decide +kernel)
set_option maxRecDepth 20000 in
theorem gX11_tries_X1_begin : GoodIn wsX11_tries (wsV RX11 178 RX1 yX1_begin wsX1_begin) := goodIn_app (goodIn_of _ (by decide +kernel)) ggX11_tries_X1_begin
set_option maxRecDepth 20000 in
theorem ggX11_tries_X1_arrives : GoodIn wsX11_tries wsX1_arrives := goodIn_r _ [34, 22, 35, 36, 37, 19, 38, 23, 24, 25, 27, 26, 39, 28, 29, 40, 30, 41, 42, 43, 44, 45, 46, 47, 48, 49, 50, 51, 52, 53, 54, 55, 56, 57, 58, 59, 60, 61, 62, 63, 64, 65, 13, 66, 67, 68, 69, 70, 71, 72, 73, 74, 75, 76, 77, 78, 79, 80, 81, 82, 83, 84, 85, 86, 87, 88, 89, 90, 91, 92, 93, 94, 95, 96, 97, 98, 99, 100, 101, 102, 103, 104, 105, 106, 107, 108, 109, 110, 111, 112, 113, 114, 115, 116, 117, 118, 119, 120, 121, 122, 123, 124, 125, 126, 127, 128, 129, 130, 131, 132, 145, 146, 147, 148, 149, 150, 151, 152, 153, 154, 155, 156, 157, 158, 159, 160, 161, 162, 163, 164, 165, 166, 167, 168, 169, 170, 171, 172, 173, 174, 175, 176, 177, 178, 179, 180, 181, 182, 183, 184, 185, 186] rfl (by decide +kernel)
set_option maxRecDepth 20000 in
theorem gX11_tries_X1_arrives : GoodIn wsX11_tries (wsV RX11 208 RX1 yX1_arrives wsX1_arrives) := goodIn_app (goodIn_of _ (by decide +kernel)) ggX11_tries_X1_arrives
set_option maxRecDepth 20000 in
theorem ggX11_tries_X11_granted : GoodIn wsX11_tries wsX11_granted := goodIn_r _ [136, 15, 137, 138, 139, 140, 141, 142, 143, 144] rfl (by decide +kernel)
set_option maxRecDepth 20000 in
theorem gX11_tries_X11_granted : GoodIn wsX11_tries (wsV RX11 88 RX11 yX11_granted wsX11_granted) := goodIn_app (goodIn_of _ (by decide +kernel)) ggX11_tries_X11_granted
theorem dX11_tries_0 : decode cX11_tries 0 = .ok (.aload_n 0, 1) := by decide +kernel
theorem dX11_tries_1 : decode cX11_tries 1 = .ok (.getfield 35, 3) := by decide +kernel
theorem dX11_tries_4 : decode cX11_tries 4 = .ok (.getfield 182, 3) := by decide +kernel
theorem dX11_tries_7 : decode cX11_tries 7 = .ok (.ifCond .ne 10, 3) := by decide +kernel
theorem dX11_tries_10 : decode cX11_tries 10 = .ok (.aload_n 0, 1) := by decide +kernel
theorem dX11_tries_11 : decode cX11_tries 11 = .ok (.bipush 6, 2) := by decide +kernel
theorem dX11_tries_13 : decode cX11_tries 13 = .ok (.invokevirtual 67, 3) := by decide +kernel
theorem dX11_tries_16 : decode cX11_tries 16 = .ok (.ireturn, 1) := by decide +kernel
theorem dX11_tries_17 : decode cX11_tries 17 = .ok (.iload_n 1, 1) := by decide +kernel
theorem dX11_tries_18 : decode cX11_tries 18 = .ok (.iconst 1, 1) := by decide +kernel
theorem dX11_tries_19 : decode cX11_tries 19 = .ok (.if_icmp .lt 9, 3) := by decide +kernel
theorem dX11_tries_22 : decode cX11_tries 22 = .ok (.iload_n 1, 1) := by decide +kernel
theorem dX11_tries_23 : decode cX11_tries 23 = .ok (.bipush 100, 2) := by decide +kernel
theorem dX11_tries_25 : decode cX11_tries 25 = .ok (.if_icmp .le 9, 3) := by decide +kernel
theorem dX11_tries_28 : decode cX11_tries 28 = .ok (.aload_n 0, 1) := by decide +kernel
theorem dX11_tries_29 : decode cX11_tries 29 = .ok (.iconst 2, 1) := by decide +kernel
theorem dX11_tries_30 : decode cX11_tries 30 = .ok (.invokevirtual 67, 3) := by decide +kernel
theorem dX11_tries_33 : decode cX11_tries 33 = .ok (.ireturn, 1) := by decide +kernel
theorem dX11_tries_34 : decode cX11_tries 34 = .ok (.iconst 0, 1) := by decide +kernel
theorem dX11_tries_35 : decode cX11_tries 35 = .ok (.istore_n 2, 1) := by decide +kernel
theorem dX11_tries_36 : decode cX11_tries 36 = .ok (.aload_n 0, 1) := by decide +kernel
theorem dX11_tries_37 : decode cX11_tries 37 = .ok (.getfield 39, 3) := by decide +kernel
theorem dX11_tries_40 : decode cX11_tries 40 = .ok (.aload_n 0, 1) := by decide +kernel
theorem dX11_tries_41 : decode cX11_tries 41 = .ok (.getfield 35, 3) := by decide +kernel
theorem dX11_tries_44 : decode cX11_tries 44 = .ok (.getfield 168, 3) := by decide +kernel
theorem dX11_tries_47 : decode cX11_tries 47 = .ok (.putfield 168, 3) := by decide +kernel
theorem dX11_tries_50 : decode cX11_tries 50 = .ok (.iconst 0, 1) := by decide +kernel
theorem dX11_tries_51 : decode cX11_tries 51 = .ok (.istore_n 3, 1) := by decide +kernel
theorem dX11_tries_52 : decode cX11_tries 52 = .ok (.iload_n 3, 1) := by decide +kernel
theorem dX11_tries_53 : decode cX11_tries 53 = .ok (.iload_n 1, 1) := by decide +kernel
theorem dX11_tries_54 : decode cX11_tries 54 = .ok (.if_icmp .ge 61, 3) := by decide +kernel
theorem dX11_tries_57 : decode cX11_tries 57 = .ok (.aload_n 0, 1) := by decide +kernel
theorem dX11_tries_58 : decode cX11_tries 58 = .ok (.getfield 39, 3) := by decide +kernel
theorem dX11_tries_61 : decode cX11_tries 61 = .ok (.aload_n 0, 1) := by decide +kernel
theorem dX11_tries_62 : decode cX11_tries 62 = .ok (.getfield 35, 3) := by decide +kernel
theorem dX11_tries_65 : decode cX11_tries 65 = .ok (.getfield 199, 3) := by decide +kernel
theorem dX11_tries_68 : decode cX11_tries 68 = .ok (.aload_n 0, 1) := by decide +kernel
theorem dX11_tries_69 : decode cX11_tries 69 = .ok (.getfield 35, 3) := by decide +kernel
theorem dX11_tries_72 : decode cX11_tries 72 = .ok (.getfield 202, 3) := by decide +kernel
theorem dX11_tries_75 : decode cX11_tries 75 = .ok (.aload_n 0, 1) := by decide +kernel
theorem dX11_tries_76 : decode cX11_tries 76 = .ok (.getfield 35, 3) := by decide +kernel
theorem dX11_tries_79 : decode cX11_tries 79 = .ok (.getfield 205, 3) := by decide +kernel
theorem dX11_tries_82 : decode cX11_tries 82 = .ok (.aload_n 0, 1) := by decide +kernel
theorem dX11_tries_83 : decode cX11_tries 83 = .ok (.getfield 35, 3) := by decide +kernel
theorem dX11_tries_86 : decode cX11_tries 86 = .ok (.getfield 193, 3) := by decide +kernel
theorem dX11_tries_89 : decode cX11_tries 89 = .ok (.invokevirtual 178, 3) := by decide +kernel
theorem dX11_tries_92 : decode cX11_tries 92 = .ok (.aload_n 0, 1) := by decide +kernel
theorem dX11_tries_93 : decode cX11_tries 93 = .ok (.getfield 39, 3) := by decide +kernel
theorem dX11_tries_96 : decode cX11_tries 96 = .ok (.aload_n 0, 1) := by decide +kernel
theorem dX11_tries_97 : decode cX11_tries 97 = .ok (.getfield 45, 3) := by decide +kernel
theorem dX11_tries_100 : decode cX11_tries 100 = .ok (.invokevirtual 208, 3) := by decide +kernel
theorem dX11_tries_103 : decode cX11_tries 103 = .ok (.ifCond .eq 6, 3) := by decide +kernel
theorem dX11_tries_106 : decode cX11_tries 106 = .ok (.iinc 2 1, 3) := by decide +kernel
theorem dX11_tries_109 : decode cX11_tries 109 = .ok (.iinc 3 1, 3) := by decide +kernel
theorem dX11_tries_112 : decode cX11_tries 112 = .ok (.goto (-60), 3) := by decide +kernel
theorem dX11_tries_115 : decode cX11_tries 115 = .ok (.aload_n 0, 1) := by decide +kernel
theorem dX11_tries_116 : decode cX11_tries 116 = .ok (.getfield 35, 3) := by decide +kernel
theorem dX11_tries_119 : decode cX11_tries 119 = .ok (.aload_n 0, 1) := by decide +kernel
theorem dX11_tries_120 : decode cX11_tries 120 = .ok (.getfield 39, 3) := by decide +kernel
theorem dX11_tries_123 : decode cX11_tries 123 = .ok (.getfield 168, 3) := by decide +kernel
theorem dX11_tries_126 : decode cX11_tries 126 = .ok (.putfield 168, 3) := by decide +kernel
theorem dX11_tries_129 : decode cX11_tries 129 = .ok (.aload_n 0, 1) := by decide +kernel
theorem dX11_tries_130 : decode cX11_tries 130 = .ok (.iload_n 2, 1) := by decide +kernel
theorem dX11_tries_131 : decode cX11_tries 131 = .ok (.invokevirtual 88, 3) := by decide +kernel
theorem dX11_tries_134 : decode cX11_tries 134 = .ok (.ireturn, 1) := by decide +kernel
set_option maxRecDepth 20000 in
theorem ggX11_image_X11_refused : GoodIn wsX11_image wsX11_refused := goodIn_r _ [8, 3, 30, 31, 32, 33, 34, 35, 36, 37] rfl (by decide +kernel)
set_option maxRecDepth 20000 in
theorem gX11_image_X11_refused : GoodIn wsX11_image (wsV RX11 67 RX11 yX11_refused wsX11_refused) := goodIn_app (goodIn_of _ (by decide +kernel)) ggX11_image_X11_refused
set_option maxRecDepth 20000 in
theorem ggX11_image_X1_toImage : GoodIn wsX11_image wsX1_toImage := goodIn_r _ [13, 14, 15, 16, 17, 18, 19, 20, 21, 22, 23, 24, 25, 26, 27, 28, 29, 38, 39, 40, 41, 42, 43, 44, 45, 46, 47, 48] rfl (by decide +kernel)
set_option maxRecDepth 20000 in
theorem gX11_image_X1_toImage : GoodIn wsX11_image (wsV RX11 212 RX1 yX1_toImage wsX1_toImage) := goodIn_app (goodIn_of _ (by decide +kernel)) ggX11_image_X1_toImage
theorem dX11_image_0 : decode cX11_image 0 = .ok (.aload_n 0, 1) := by decide +kernel
theorem dX11_image_1 : decode cX11_image 1 = .ok (.getfield 35, 3) := by decide +kernel
theorem dX11_image_4 : decode cX11_image 4 = .ok (.getfield 182, 3) := by decide +kernel
theorem dX11_image_7 : decode cX11_image 7 = .ok (.ifCond .ne 11, 3) := by decide +kernel
theorem dX11_image_10 : decode cX11_image 10 = .ok (.aload_n 0, 1) := by decide +kernel
theorem dX11_image_11 : decode cX11_image 11 = .ok (.bipush 6, 2) := by decide +kernel
theorem dX11_image_13 : decode cX11_image 13 = .ok (.invokevirtual 67, 3) := by decide +kernel
theorem dX11_image_16 : decode cX11_image 16 = .ok (.i2l, 1) := by decide +kernel
theorem dX11_image_17 : decode cX11_image 17 = .ok (.lreturn, 1) := by decide +kernel
theorem dX11_image_18 : decode cX11_image 18 = .ok (.aload_n 0, 1) := by decide +kernel
theorem dX11_image_19 : decode cX11_image 19 = .ok (.iconst 0, 1) := by decide +kernel
theorem dX11_image_20 : decode cX11_image 20 = .ok (.putfield 52, 3) := by decide +kernel
theorem dX11_image_23 : decode cX11_image 23 = .ok (.aload_n 0, 1) := by decide +kernel
theorem dX11_image_24 : decode cX11_image 24 = .ok (.getfield 35, 3) := by decide +kernel
theorem dX11_image_27 : decode cX11_image 27 = .ok (.invokevirtual 212, 3) := by decide +kernel
theorem dX11_image_30 : decode cX11_image 30 = .ok (.lreturn, 1) := by decide +kernel
set_option maxRecDepth 20000 in
theorem ggX11_restore_X0_isBare : GoodIn wsX11_restore wsX0_isBare := goodIn_r _ [8, 9, 10, 11, 7, 12, 13, 14, 15, 16, 96, 97, 98, 99, 100, 101, 102, 103, 104, 105, 106, 107, 108, 109, 110, 111, 112] rfl (by decide +kernel)
set_option maxRecDepth 20000 in
theorem gX11_restore_X0_isBare : GoodIn wsX11_restore (wsV RX11 160 RX0 yX0_isBare wsX0_isBare) := goodIn_app (goodIn_of _ (by decide +kernel)) ggX11_restore_X0_isBare
set_option maxRecDepth 20000 in
theorem ggX11_restore_X11_denied : GoodIn wsX11_restore wsX11_denied := goodIn_r _ [20, 21, 88, 89, 90, 91, 92, 93, 94, 95] rfl (by decide +kernel)
set_option maxRecDepth 20000 in
theorem gX11_restore_X11_denied : GoodIn wsX11_restore (wsV RX11 164 RX11 yX11_denied wsX11_denied) := goodIn_app (goodIn_of _ (by decide +kernel)) ggX11_restore_X11_denied
set_option maxRecDepth 20000 in
theorem ggX11_restore_X1_fromImage : GoodIn wsX11_restore wsX1_fromImage := goodIn_r _ [26, 27, 28, 29, 30, 31, 32, 33, 34, 35, 36, 37, 38, 39, 40, 41, 42, 43, 44, 45, 46, 47, 48, 25, 49, 50, 51, 52, 53, 7, 54, 13, 55, 56, 57, 58, 59, 9, 10, 11, 12, 14, 15, 16, 60, 61, 62, 63, 64, 65, 66, 67, 68, 69, 70, 71, 72, 73, 74, 75, 76, 77, 78, 79, 80, 81, 82, 83, 113, 114, 115, 116, 117, 118, 119, 120, 121, 122, 123, 124, 125, 126, 96, 97, 98, 99, 100, 101, 102, 103, 104, 105, 106, 107, 108, 109, 110, 111, 112, 127, 128, 129, 130, 131, 132, 133, 134, 135, 136, 137] rfl (by decide +kernel)
set_option maxRecDepth 20000 in
theorem gX11_restore_X1_fromImage : GoodIn wsX11_restore (wsV RX11 216 RX1 yX1_fromImage wsX1_fromImage) := goodIn_app (goodIn_of _ (by decide +kernel)) ggX11_restore_X1_fromImage
set_option maxRecDepth 20000 in
theorem ggX11_restore_X11_allowed : GoodIn wsX11_restore wsX11_allowed := goodIn_r _ [87, 21, 88, 89, 90, 91, 92, 93, 94, 95] rfl (by decide +kernel)
set_option maxRecDepth 20000 in
theorem gX11_restore_X11_allowed : GoodIn wsX11_restore (wsV RX11 171 RX11 yX11_allowed wsX11_allowed) := goodIn_app (goodIn_of _ (by decide +kernel)) ggX11_restore_X11_allowed
theorem dX11_restore_0 : decode cX11_restore 0 = .ok (.aload_n 0, 1) := by decide +kernel
theorem dX11_restore_1 : decode cX11_restore 1 = .ok (.getfield 45, 3) := by decide +kernel
theorem dX11_restore_4 : decode cX11_restore 4 = .ok (.invokevirtual 160, 3) := by decide +kernel
theorem dX11_restore_7 : decode cX11_restore 7 = .ok (.ifCond .eq 9, 3) := by decide +kernel
theorem dX11_restore_10 : decode cX11_restore 10 = .ok (.aload_n 0, 1) := by decide +kernel
theorem dX11_restore_11 : decode cX11_restore 11 = .ok (.iconst 1, 1) := by decide +kernel
theorem dX11_restore_12 : decode cX11_restore 12 = .ok (.invokevirtual 164, 3) := by decide +kernel
theorem dX11_restore_15 : decode cX11_restore 15 = .ok (.ireturn, 1) := by decide +kernel
theorem dX11_restore_16 : decode cX11_restore 16 = .ok (.aload_n 0, 1) := by decide +kernel
theorem dX11_restore_17 : decode cX11_restore 17 = .ok (.getfield 39, 3) := by decide +kernel
theorem dX11_restore_20 : decode cX11_restore 20 = .ok (.lload_n 1, 1) := by decide +kernel
theorem dX11_restore_21 : decode cX11_restore 21 = .ok (.aload_n 0, 1) := by decide +kernel
theorem dX11_restore_22 : decode cX11_restore 22 = .ok (.getfield 45, 3) := by decide +kernel
theorem dX11_restore_25 : decode cX11_restore 25 = .ok (.invokevirtual 216, 3) := by decide +kernel
theorem dX11_restore_28 : decode cX11_restore 28 = .ok (.ifCond .ne 9, 3) := by decide +kernel
theorem dX11_restore_31 : decode cX11_restore 31 = .ok (.aload_n 0, 1) := by decide +kernel
theorem dX11_restore_32 : decode cX11_restore 32 = .ok (.iconst 2, 1) := by decide +kernel
theorem dX11_restore_33 : decode cX11_restore 33 = .ok (.invokevirtual 164, 3) := by decide +kernel
theorem dX11_restore_36 : decode cX11_restore 36 = .ok (.ireturn, 1) := by decide +kernel
theorem dX11_restore_37 : decode cX11_restore 37 = .ok (.aload_n 0, 1) := by decide +kernel
theorem dX11_restore_38 : decode cX11_restore 38 = .ok (.getfield 35, 3) := by decide +kernel
theorem dX11_restore_41 : decode cX11_restore 41 = .ok (.astore_n 3, 1) := by decide +kernel
theorem dX11_restore_42 : decode cX11_restore 42 = .ok (.aload_n 0, 1) := by decide +kernel
theorem dX11_restore_43 : decode cX11_restore 43 = .ok (.aload_n 0, 1) := by decide +kernel
theorem dX11_restore_44 : decode cX11_restore 44 = .ok (.getfield 39, 3) := by decide +kernel
theorem dX11_restore_47 : decode cX11_restore 47 = .ok (.putfield 35, 3) := by decide +kernel
theorem dX11_restore_50 : decode cX11_restore 50 = .ok (.aload_n 0, 1) := by decide +kernel
theorem dX11_restore_51 : decode cX11_restore 51 = .ok (.aload_n 3, 1) := by decide +kernel
theorem dX11_restore_52 : decode cX11_restore 52 = .ok (.putfield 39, 3) := by decide +kernel
theorem dX11_restore_55 : decode cX11_restore 55 = .ok (.aload_n 0, 1) := by decide +kernel
theorem dX11_restore_56 : decode cX11_restore 56 = .ok (.invokevirtual 171, 3) := by decide +kernel
theorem dX11_restore_59 : decode cX11_restore 59 = .ok (.ireturn, 1) := by decide +kernel
set_option maxRecDepth 20000 in
theorem ggX11_odds_X0_isBare : GoodIn wsX11_odds wsX0_isBare := goodIn_r _ [7, 8, 9, 10, 6, 11, 12, 13, 14, 15, 112, 113, 114, 115, 116, 117, 118, 119, 120, 121, 122, 123, 124, 125, 126, 127, 128] rfl (by decide +kernel)
set_option maxRecDepth 20000 in
theorem gX11_odds_X0_isBare : GoodIn wsX11_odds (wsV RX11 160 RX0 yX0_isBare wsX0_isBare) := goodIn_app (goodIn_of _ (by decide +kernel)) ggX11_odds_X0_isBare
set_option maxRecDepth 20000 in
theorem ggX11_odds_X0_has : GoodIn wsX11_odds wsX0_has := goodIn_r _ [19, 8, 9, 10, 6, 11, 12, 13, 14, 15, 112, 113, 114, 115, 116, 117, 118, 119, 120, 121, 122, 123, 124, 125, 126, 127, 128] rfl (by decide +kernel)
set_option maxRecDepth 20000 in
theorem gX11_odds_X0_has : GoodIn wsX11_odds (wsV RX11 174 RX0 yX0_has wsX0_has) := goodIn_app (goodIn_of _ (by decide +kernel)) ggX11_odds_X0_has
set_option maxRecDepth 20000 in
theorem ggX11_odds_X11_refused : GoodIn wsX11_odds wsX11_refused := goodIn_r _ [23, 2, 104, 105, 106, 107, 108, 109, 110, 111] rfl (by decide +kernel)
set_option maxRecDepth 20000 in
theorem gX11_odds_X11_refused : GoodIn wsX11_odds (wsV RX11 67 RX11 yX11_refused wsX11_refused) := goodIn_app (goodIn_of _ (by decide +kernel)) ggX11_odds_X11_refused
set_option maxRecDepth 20000 in
theorem ggX11_odds_X0_oddsOfAll : GoodIn wsX11_odds wsX0_oddsOfAll := goodIn_r _ [27, 8, 9, 10, 6, 11, 12, 13, 14, 15, 28, 29, 30, 31, 32, 33, 34, 35, 36, 37, 38, 39, 40, 41, 42, 43, 44, 45, 46, 47, 48, 49, 50, 51, 52, 53, 54, 55, 56, 57, 58, 59, 60, 61, 62, 63, 64, 65, 66, 67, 68, 69, 70, 71, 72, 73, 74, 75, 76, 77, 78, 79, 80, 81, 82, 83, 84, 85, 86, 87, 88, 89, 90, 91, 92, 93, 94, 95, 96, 97, 98, 99, 100, 101, 102, 112, 113, 114, 115, 116, 117, 118, 119, 120, 121, 122, 123, 124, 125, 126, 127, 128, 129, 130, 131, 132, 133, 134, 135, 136, 137, 138, 139, 140, 141, 142, 143, 144] rfl (by decide +kernel)
set_option maxRecDepth 20000 in
theorem gX11_odds_X0_oddsOfAll : GoodIn wsX11_odds (wsV RX11 220 RX0 yX0_oddsOfAll wsX0_oddsOfAll) := goodIn_app (goodIn_of _ (by decide +kernel)) ggX11_odds_X0_oddsOfAll
set_option maxRecDepth 20000 in
theorem ggX11_odds_X0_oddsOf : GoodIn wsX11_odds wsX0_oddsOf := goodIn_r _ [31, 32, 33, 34, 35, 36, 37, 38, 6, 39, 12, 40, 8, 9, 10, 11, 13, 14, 15, 41, 42, 43, 44, 45, 46, 47, 48, 49, 50, 51, 52, 53, 54, 55, 56, 57, 58, 59, 60, 61, 62, 63, 64, 65, 66, 67, 68, 69, 70, 71, 72, 73, 74, 75, 76, 77, 78, 79, 80, 81, 82, 83, 84, 85, 86, 87, 88, 89, 90, 91, 92, 93, 94, 95, 96, 97, 98, 99, 100, 101, 102, 129, 130, 131, 132, 133, 134, 135, 136, 137, 138, 139, 140, 141, 142, 112, 113, 114, 115, 116, 117, 118, 119, 120, 121, 122, 123, 124, 125, 126, 127, 128, 143, 144] rfl (by decide +kernel)
set_option maxRecDepth 20000 in
theorem gX11_odds_X0_oddsOf : GoodIn wsX11_odds (wsV RX11 223 RX0 yX0_oddsOf wsX0_oddsOf) := goodIn_app (goodIn_of _ (by decide +kernel)) ggX11_odds_X0_oddsOf
theorem dX11_odds_0 : decode cX11_odds 0 = .ok (.aload_n 0, 1) := by decide +kernel
theorem dX11_odds_1 : decode cX11_odds 1 = .ok (.getfield 45, 3) := by decide +kernel
theorem dX11_odds_4 : decode cX11_odds 4 = .ok (.invokevirtual 160, 3) := by decide +kernel
theorem dX11_odds_7 : decode cX11_odds 7 = .ok (.ifCond .ne 20, 3) := by decide +kernel
theorem dX11_odds_10 : decode cX11_odds 10 = .ok (.iload_n 1, 1) := by decide +kernel
theorem dX11_odds_11 : decode cX11_odds 11 = .ok (.iconst (-1), 1) := by decide +kernel
theorem dX11_odds_12 : decode cX11_odds 12 = .ok (.if_icmp .eq 22, 3) := by decide +kernel
theorem dX11_odds_15 : decode cX11_odds 15 = .ok (.aload_n 0, 1) := by decide +kernel
theorem dX11_odds_16 : decode cX11_odds 16 = .ok (.getfield 45, 3) := by decide +kernel
theorem dX11_odds_19 : decode cX11_odds 19 = .ok (.iconst 0, 1) := by decide +kernel
theorem dX11_odds_20 : decode cX11_odds 20 = .ok (.iload_n 1, 1) := by decide +kernel
theorem dX11_odds_21 : decode cX11_odds 21 = .ok (.invokevirtual 174, 3) := by decide +kernel
theorem dX11_odds_24 : decode cX11_odds 24 = .ok (.ifCond .ne 10, 3) := by decide +kernel
theorem dX11_odds_27 : decode cX11_odds 27 = .ok (.aload_n 0, 1) := by decide +kernel
theorem dX11_odds_28 : decode cX11_odds 28 = .ok (.iconst 1, 1) := by decide +kernel
theorem dX11_odds_29 : decode cX11_odds 29 = .ok (.invokevirtual 67, 3) := by decide +kernel
theorem dX11_odds_32 : decode cX11_odds 32 = .ok (.i2l, 1) := by decide +kernel
theorem dX11_odds_33 : decode cX11_odds 33 = .ok (.lreturn, 1) := by decide +kernel
theorem dX11_odds_34 : decode cX11_odds 34 = .ok (.aload_n 0, 1) := by decide +kernel
theorem dX11_odds_35 : decode cX11_odds 35 = .ok (.iconst 0, 1) := by decide +kernel
theorem dX11_odds_36 : decode cX11_odds 36 = .ok (.putfield 52, 3) := by decide +kernel
theorem dX11_odds_39 : decode cX11_odds 39 = .ok (.iload_n 1, 1) := by decide +kernel
theorem dX11_odds_40 : decode cX11_odds 40 = .ok (.iconst (-1), 1) := by decide +kernel
theorem dX11_odds_41 : decode cX11_odds 41 = .ok (.if_icmp .ne 13, 3) := by decide +kernel
theorem dX11_odds_44 : decode cX11_odds 44 = .ok (.aload_n 0, 1) := by decide +kernel
theorem dX11_odds_45 : decode cX11_odds 45 = .ok (.getfield 45, 3) := by decide +kernel
theorem dX11_odds_48 : decode cX11_odds 48 = .ok (.invokevirtual 220, 3) := by decide +kernel
theorem dX11_odds_51 : decode cX11_odds 51 = .ok (.goto 12, 3) := by decide +kernel
theorem dX11_odds_54 : decode cX11_odds 54 = .ok (.aload_n 0, 1) := by decide +kernel
theorem dX11_odds_55 : decode cX11_odds 55 = .ok (.getfield 45, 3) := by decide +kernel
theorem dX11_odds_58 : decode cX11_odds 58 = .ok (.iload_n 1, 1) := by decide +kernel
theorem dX11_odds_59 : decode cX11_odds 59 = .ok (.iconst (-1), 1) := by decide +kernel
theorem dX11_odds_60 : decode cX11_odds 60 = .ok (.invokevirtual 223, 3) := by decide +kernel
theorem dX11_odds_63 : decode cX11_odds 63 = .ok (.lreturn, 1) := by decide +kernel
set_option maxRecDepth 20000 in
theorem ggX11_likeliest_X0_isBare : GoodIn wsX11_likeliest wsX0_isBare := goodIn_r _ [6, 7, 8, 9, 5, 10, 11, 12, 13, 14, 111, 112, 113, 114, 115, 116, 117, 118, 119, 120, 121, 122, 123, 124, 125, 126, 127] rfl (by decide +kernel)
set_option maxRecDepth 20000 in
theorem gX11_likeliest_X0_isBare : GoodIn wsX11_likeliest (wsV RX11 160 RX0 yX0_isBare wsX0_isBare) := goodIn_app (goodIn_of _ (by decide +kernel)) ggX11_likeliest_X0_isBare
set_option maxRecDepth 20000 in
theorem ggX11_likeliest_X11_refused : GoodIn wsX11_likeliest wsX11_refused := goodIn_r _ [18, 19, 103, 104, 105, 106, 107, 108, 109, 110] rfl (by decide +kernel)
set_option maxRecDepth 20000 in
theorem gX11_likeliest_X11_refused : GoodIn wsX11_likeliest (wsV RX11 67 RX11 yX11_refused wsX11_refused) := goodIn_app (goodIn_of _ (by decide +kernel)) ggX11_likeliest_X11_refused
set_option maxRecDepth 20000 in
theorem ggX11_likeliest_X0_likeliestWay : GoodIn wsX11_likeliest wsX0_likeliestWay := goodIn_r _ [23, 7, 8, 9, 5, 10, 11, 12, 13, 14, 24, 25, 26, 27, 28, 29, 30, 31, 32, 33, 34, 35, 36, 37, 38, 39, 40, 41, 42, 43, 44, 45, 46, 47, 48, 49, 50, 51, 52, 53, 54, 55, 56, 57, 58, 59, 60, 61, 62, 63, 64, 65, 66, 67, 68, 69, 70, 71, 72, 73, 74, 75, 76, 77, 78, 79, 80, 81, 82, 83, 84, 85, 86, 87, 88, 89, 90, 91, 92, 93, 94, 95, 96, 97, 98, 111, 112, 113, 114, 115, 116, 117, 118, 119, 120, 121, 122, 123, 124, 125, 126, 127, 128, 129, 130, 131, 132, 133, 134, 135, 136, 137, 138, 139, 140, 141, 142, 143] rfl (by decide +kernel)
set_option maxRecDepth 20000 in
theorem gX11_likeliest_X0_likeliestWay : GoodIn wsX11_likeliest (wsV RX11 227 RX0 yX0_likeliestWay wsX0_likeliestWay) := goodIn_app (goodIn_of _ (by decide +kernel)) ggX11_likeliest_X0_likeliestWay
set_option maxRecDepth 20000 in
theorem ggX11_likeliest_X11_granted : GoodIn wsX11_likeliest wsX11_granted := goodIn_r _ [102, 19, 103, 104, 105, 106, 107, 108, 109, 110] rfl (by decide +kernel)
set_option maxRecDepth 20000 in
theorem gX11_likeliest_X11_granted : GoodIn wsX11_likeliest (wsV RX11 88 RX11 yX11_granted wsX11_granted) := goodIn_app (goodIn_of _ (by decide +kernel)) ggX11_likeliest_X11_granted
theorem dX11_likeliest_0 : decode cX11_likeliest 0 = .ok (.aload_n 0, 1) := by decide +kernel
theorem dX11_likeliest_1 : decode cX11_likeliest 1 = .ok (.getfield 45, 3) := by decide +kernel
theorem dX11_likeliest_4 : decode cX11_likeliest 4 = .ok (.invokevirtual 160, 3) := by decide +kernel
theorem dX11_likeliest_7 : decode cX11_likeliest 7 = .ok (.ifCond .eq 9, 3) := by decide +kernel
theorem dX11_likeliest_10 : decode cX11_likeliest 10 = .ok (.aload_n 0, 1) := by decide +kernel
theorem dX11_likeliest_11 : decode cX11_likeliest 11 = .ok (.iconst 1, 1) := by decide +kernel
theorem dX11_likeliest_12 : decode cX11_likeliest 12 = .ok (.invokevirtual 67, 3) := by decide +kernel
theorem dX11_likeliest_15 : decode cX11_likeliest 15 = .ok (.ireturn, 1) := by decide +kernel
theorem dX11_likeliest_16 : decode cX11_likeliest 16 = .ok (.aload_n 0, 1) := by decide +kernel
theorem dX11_likeliest_17 : decode cX11_likeliest 17 = .ok (.aload_n 0, 1) := by decide +kernel
theorem dX11_likeliest_18 : decode cX11_likeliest 18 = .ok (.getfield 45, 3) := by decide +kernel
theorem dX11_likeliest_21 : decode cX11_likeliest 21 = .ok (.iconst (-1), 1) := by decide +kernel
theorem dX11_likeliest_22 : decode cX11_likeliest 22 = .ok (.invokevirtual 227, 3) := by decide +kernel
theorem dX11_likeliest_25 : decode cX11_likeliest 25 = .ok (.invokevirtual 88, 3) := by decide +kernel
theorem dX11_likeliest_28 : decode cX11_likeliest 28 = .ok (.ireturn, 1) := by decide +kernel
set_option maxRecDepth 20000 in
theorem ggX11_lies_X0_wayAt : GoodIn wsX11_lies wsX0_wayAt := goodIn_r _ [8, 9, 10, 61, 62, 63, 64, 65, 66, 67, 68, 69, 70, 71, 72, 73, 74, 75, 76, 77] rfl (by decide +kernel)
set_option maxRecDepth 20000 in
theorem gX11_lies_X0_wayAt : GoodIn wsX11_lies (wsV RX11 97 RX0 yX0_wayAt wsX0_wayAt) := goodIn_app (goodIn_of _ (by decide +kernel)) ggX11_lies_X0_wayAt
set_option maxRecDepth 20000 in
theorem ggX11_lies_X0_statueAt : GoodIn wsX11_lies wsX0_statueAt := goodIn_r _ [14, 9, 15, 61, 62, 63, 64, 65, 66, 67, 68, 69, 70, 71, 72, 73, 74, 75, 76, 77] rfl (by decide +kernel)
set_option maxRecDepth 20000 in
theorem gX11_lies_X0_statueAt : GoodIn wsX11_lies (wsV RX11 101 RX0 yX0_statueAt wsX0_statueAt) := goodIn_app (goodIn_of _ (by decide +kernel)) ggX11_lies_X0_statueAt
set_option maxRecDepth 20000 in
theorem ggX11_lies_X5_isLying : GoodIn wsX11_lies wsX5_isLying := goodIn_r _ [20, 21, 53, 54, 55, 56, 57, 58, 59, 60] rfl (by decide +kernel)
set_option maxRecDepth 20000 in
theorem gX11_lies_X5_isLying : GoodIn wsX11_lies (wsV RX11 230 RX5 yX5_isLying wsX5_isLying) := goodIn_app (goodIn_of _ (by decide +kernel)) ggX11_lies_X5_isLying
set_option maxRecDepth 20000 in
theorem ggX11_lies_X11_refused : GoodIn wsX11_lies wsX11_refused := goodIn_r _ [26, 27, 45, 46, 47, 48, 49, 50, 51, 52] rfl (by decide +kernel)
set_option maxRecDepth 20000 in
theorem gX11_lies_X11_refused : GoodIn wsX11_lies (wsV RX11 67 RX11 yX11_refused wsX11_refused) := goodIn_app (goodIn_of _ (by decide +kernel)) ggX11_lies_X11_refused
set_option maxRecDepth 20000 in
theorem ggX11_lies_X10_tenths : GoodIn wsX11_lies wsX10_tenths := goodIn_r _ [32, 33, 34, 35, 36, 37, 38, 39, 25, 40, 78, 79, 80] rfl (by decide +kernel)
set_option maxRecDepth 20000 in
theorem gX11_lies_X10_tenths : GoodIn wsX11_lies (wsV RX11 154 RX10 yX10_tenths wsX10_tenths) := goodIn_app (goodIn_of _ (by decide +kernel)) ggX11_lies_X10_tenths
set_option maxRecDepth 20000 in
theorem ggX11_lies_X11_granted : GoodIn wsX11_lies wsX11_granted := goodIn_r _ [44, 27, 45, 46, 47, 48, 49, 50, 51, 52] rfl (by decide +kernel)
set_option maxRecDepth 20000 in
theorem gX11_lies_X11_granted : GoodIn wsX11_lies (wsV RX11 88 RX11 yX11_granted wsX11_granted) := goodIn_app (goodIn_of _ (by decide +kernel)) ggX11_lies_X11_granted
theorem dX11_lies_0 : decode cX11_lies 0 = .ok (.aload_n 0, 1) := by decide +kernel
theorem dX11_lies_1 : decode cX11_lies 1 = .ok (.getfield 45, 3) := by decide +kernel
theorem dX11_lies_4 : decode cX11_lies 4 = .ok (.iload_n 1, 1) := by decide +kernel
theorem dX11_lies_5 : decode cX11_lies 5 = .ok (.invokevirtual 97, 3) := by decide +kernel
theorem dX11_lies_8 : decode cX11_lies 8 = .ok (.astore_n 3, 1) := by decide +kernel
theorem dX11_lies_9 : decode cX11_lies 9 = .ok (.aload_n 0, 1) := by decide +kernel
theorem dX11_lies_10 : decode cX11_lies 10 = .ok (.getfield 45, 3) := by decide +kernel
theorem dX11_lies_13 : decode cX11_lies 13 = .ok (.iload_n 2, 1) := by decide +kernel
theorem dX11_lies_14 : decode cX11_lies 14 = .ok (.invokevirtual 101, 3) := by decide +kernel
theorem dX11_lies_17 : decode cX11_lies 17 = .ok (.astore 4, 2) := by decide +kernel
theorem dX11_lies_19 : decode cX11_lies 19 = .ok (.aload_n 3, 1) := by decide +kernel
theorem dX11_lies_20 : decode cX11_lies 20 = .ok (.ifnull 16, 3) := by decide +kernel
theorem dX11_lies_23 : decode cX11_lies 23 = .ok (.aload 4, 2) := by decide +kernel
theorem dX11_lies_25 : decode cX11_lies 25 = .ok (.ifnull 11, 3) := by decide +kernel
theorem dX11_lies_28 : decode cX11_lies 28 = .ok (.aload 4, 2) := by decide +kernel
theorem dX11_lies_30 : decode cX11_lies 30 = .ok (.invokevirtual 230, 3) := by decide +kernel
theorem dX11_lies_33 : decode cX11_lies 33 = .ok (.ifCond .ne 9, 3) := by decide +kernel
theorem dX11_lies_36 : decode cX11_lies 36 = .ok (.aload_n 0, 1) := by decide +kernel
theorem dX11_lies_37 : decode cX11_lies 37 = .ok (.iconst 1, 1) := by decide +kernel
theorem dX11_lies_38 : decode cX11_lies 38 = .ok (.invokevirtual 67, 3) := by decide +kernel
theorem dX11_lies_41 : decode cX11_lies 41 = .ok (.ireturn, 1) := by decide +kernel
theorem dX11_lies_42 : decode cX11_lies 42 = .ok (.aload_n 0, 1) := by decide +kernel
theorem dX11_lies_43 : decode cX11_lies 43 = .ok (.aload_n 3, 1) := by decide +kernel
theorem dX11_lies_44 : decode cX11_lies 44 = .ok (.aload 4, 2) := by decide +kernel
theorem dX11_lies_46 : decode cX11_lies 46 = .ok (.getfield 233, 3) := by decide +kernel
theorem dX11_lies_49 : decode cX11_lies 49 = .ok (.aload 4, 2) := by decide +kernel
theorem dX11_lies_51 : decode cX11_lies 51 = .ok (.getfield 236, 3) := by decide +kernel
theorem dX11_lies_54 : decode cX11_lies 54 = .ok (.invokevirtual 154, 3) := by decide +kernel
theorem dX11_lies_57 : decode cX11_lies 57 = .ok (.invokevirtual 88, 3) := by decide +kernel
theorem dX11_lies_60 : decode cX11_lies 60 = .ok (.ireturn, 1) := by decide +kernel
set_option maxRecDepth 20000 in
theorem ggX11_hollow_X0_wayAt : GoodIn wsX11_hollow wsX0_wayAt := goodIn_r _ [7, 8, 9, 45, 46, 47, 48, 49, 50, 51, 52, 53, 54, 55, 56, 57, 58, 59, 60, 61] rfl (by decide +kernel)
set_option maxRecDepth 20000 in
theorem gX11_hollow_X0_wayAt : GoodIn wsX11_hollow (wsV RX11 97 RX0 yX0_wayAt wsX0_wayAt) := goodIn_app (goodIn_of _ (by decide +kernel)) ggX11_hollow_X0_wayAt
set_option maxRecDepth 20000 in
theorem ggX11_hollow_X0_roadAt : GoodIn wsX11_hollow wsX0_roadAt := goodIn_r _ [13, 8, 14, 45, 46, 47, 48, 49, 50, 51, 52, 53, 54, 55, 56, 57, 58, 59, 60, 61] rfl (by decide +kernel)
set_option maxRecDepth 20000 in
theorem gX11_hollow_X0_roadAt : GoodIn wsX11_hollow (wsV RX11 114 RX0 yX0_roadAt wsX0_roadAt) := goodIn_app (goodIn_of _ (by decide +kernel)) ggX11_hollow_X0_roadAt
set_option maxRecDepth 20000 in
theorem ggX11_hollow_X11_refused : GoodIn wsX11_hollow wsX11_refused := goodIn_r _ [19, 20, 34, 35, 36, 37, 38, 39, 40, 41] rfl (by decide +kernel)
set_option maxRecDepth 20000 in
theorem gX11_hollow_X11_refused : GoodIn wsX11_hollow (wsV RX11 67 RX11 yX11_refused wsX11_refused) := goodIn_app (goodIn_of _ (by decide +kernel)) ggX11_hollow_X11_refused
set_option maxRecDepth 20000 in
theorem ggX11_hollow_X10_hollowed : GoodIn wsX11_hollow wsX10_hollowed := goodIn_r _ [25, 26, 27, 28, 18, 29, 62, 63, 64] rfl (by decide +kernel)
set_option maxRecDepth 20000 in
theorem gX11_hollow_X10_hollowed : GoodIn wsX11_hollow (wsV RX11 244 RX10 yX10_hollowed wsX10_hollowed) := goodIn_app (goodIn_of _ (by decide +kernel)) ggX11_hollow_X10_hollowed
set_option maxRecDepth 20000 in
theorem ggX11_hollow_X11_granted : GoodIn wsX11_hollow wsX11_granted := goodIn_r _ [33, 20, 34, 35, 36, 37, 38, 39, 40, 41] rfl (by decide +kernel)
set_option maxRecDepth 20000 in
theorem gX11_hollow_X11_granted : GoodIn wsX11_hollow (wsV RX11 88 RX11 yX11_granted wsX11_granted) := goodIn_app (goodIn_of _ (by decide +kernel)) ggX11_hollow_X11_granted
theorem dX11_hollow_0 : decode cX11_hollow 0 = .ok (.aload_n 0, 1) := by decide +kernel
theorem dX11_hollow_1 : decode cX11_hollow 1 = .ok (.getfield 45, 3) := by decide +kernel
theorem dX11_hollow_4 : decode cX11_hollow 4 = .ok (.iload_n 1, 1) := by decide +kernel
theorem dX11_hollow_5 : decode cX11_hollow 5 = .ok (.invokevirtual 97, 3) := by decide +kernel
theorem dX11_hollow_8 : decode cX11_hollow 8 = .ok (.astore_n 3, 1) := by decide +kernel
theorem dX11_hollow_9 : decode cX11_hollow 9 = .ok (.aload_n 0, 1) := by decide +kernel
theorem dX11_hollow_10 : decode cX11_hollow 10 = .ok (.getfield 45, 3) := by decide +kernel
theorem dX11_hollow_13 : decode cX11_hollow 13 = .ok (.iload_n 2, 1) := by decide +kernel
theorem dX11_hollow_14 : decode cX11_hollow 14 = .ok (.invokevirtual 114, 3) := by decide +kernel
theorem dX11_hollow_17 : decode cX11_hollow 17 = .ok (.astore 4, 2) := by decide +kernel
theorem dX11_hollow_19 : decode cX11_hollow 19 = .ok (.aload_n 3, 1) := by decide +kernel
theorem dX11_hollow_20 : decode cX11_hollow 20 = .ok (.ifnull 8, 3) := by decide +kernel
theorem dX11_hollow_23 : decode cX11_hollow 23 = .ok (.aload 4, 2) := by decide +kernel
theorem dX11_hollow_25 : decode cX11_hollow 25 = .ok (.ifnonnull 9, 3) := by decide +kernel
theorem dX11_hollow_28 : decode cX11_hollow 28 = .ok (.aload_n 0, 1) := by decide +kernel
theorem dX11_hollow_29 : decode cX11_hollow 29 = .ok (.iconst 1, 1) := by decide +kernel
theorem dX11_hollow_30 : decode cX11_hollow 30 = .ok (.invokevirtual 67, 3) := by decide +kernel
theorem dX11_hollow_33 : decode cX11_hollow 33 = .ok (.ireturn, 1) := by decide +kernel
theorem dX11_hollow_34 : decode cX11_hollow 34 = .ok (.aload_n 0, 1) := by decide +kernel
theorem dX11_hollow_35 : decode cX11_hollow 35 = .ok (.aload_n 3, 1) := by decide +kernel
theorem dX11_hollow_36 : decode cX11_hollow 36 = .ok (.aload 4, 2) := by decide +kernel
theorem dX11_hollow_38 : decode cX11_hollow 38 = .ok (.getfield 239, 3) := by decide +kernel
theorem dX11_hollow_41 : decode cX11_hollow 41 = .ok (.invokevirtual 244, 3) := by decide +kernel
theorem dX11_hollow_44 : decode cX11_hollow 44 = .ok (.invokevirtual 88, 3) := by decide +kernel
theorem dX11_hollow_47 : decode cX11_hollow 47 = .ok (.ireturn, 1) := by decide +kernel
set_option maxRecDepth 20000 in
theorem ggX11_shape_X0_wayAt : GoodIn wsX11_shape wsX0_wayAt := goodIn_r _ [6, 7, 8, 54, 55, 56, 57, 58, 59, 60, 61, 62, 63, 64, 65, 66, 67, 68, 69, 70] rfl (by decide +kernel)
set_option maxRecDepth 20000 in
theorem gX11_shape_X0_wayAt : GoodIn wsX11_shape (wsV RX11 97 RX0 yX0_wayAt wsX0_wayAt) := goodIn_app (goodIn_of _ (by decide +kernel)) ggX11_shape_X0_wayAt
set_option maxRecDepth 20000 in
theorem ggX11_shape_X11_refused : GoodIn wsX11_shape wsX11_refused := goodIn_r _ [13, 14, 46, 47, 48, 49, 50, 51, 52, 53] rfl (by decide +kernel)
set_option maxRecDepth 20000 in
theorem gX11_shape_X11_refused : GoodIn wsX11_shape (wsV RX11 67 RX11 yX11_refused wsX11_refused) := goodIn_app (goodIn_of _ (by decide +kernel)) ggX11_shape_X11_refused
set_option maxRecDepth 20000 in
theorem ggX11_shape_X0_leanChange : GoodIn wsX11_shape wsX0_leanChange := goodIn_r _ [18, 19, 20, 21, 5, 22, 23, 24, 25, 26, 27, 28, 7, 29, 12, 30, 31, 32, 33, 34, 35, 71, 72, 73, 74, 75, 76, 77, 78, 54, 55, 56, 57, 58, 59, 60, 61, 62, 63, 64, 65, 66, 67, 68, 69, 70] rfl (by decide +kernel)
set_option maxRecDepth 20000 in
theorem gX11_shape_X0_leanChange : GoodIn wsX11_shape (wsV RX11 247 RX0 yX0_leanChange wsX0_leanChange) := goodIn_app (goodIn_of _ (by decide +kernel)) ggX11_shape_X0_leanChange
set_option maxRecDepth 20000 in
theorem ggX11_shape_X10_shaped : GoodIn wsX11_shape wsX10_shaped := goodIn_r _ [40, 41, 79, 80, 81] rfl (by decide +kernel)
set_option maxRecDepth 20000 in
theorem gX11_shape_X10_shaped : GoodIn wsX11_shape (wsV RX11 250 RX10 yX10_shaped wsX10_shaped) := goodIn_app (goodIn_of _ (by decide +kernel)) ggX11_shape_X10_shaped
set_option maxRecDepth 20000 in
theorem ggX11_shape_X11_granted : GoodIn wsX11_shape wsX11_granted := goodIn_r _ [45, 14, 46, 47, 48, 49, 50, 51, 52, 53] rfl (by decide +kernel)
set_option maxRecDepth 20000 in
theorem gX11_shape_X11_granted : GoodIn wsX11_shape (wsV RX11 88 RX11 yX11_granted wsX11_granted) := goodIn_app (goodIn_of _ (by decide +kernel)) ggX11_shape_X11_granted
theorem dX11_shape_0 : decode cX11_shape 0 = .ok (.aload_n 0, 1) := by decide +kernel
theorem dX11_shape_1 : decode cX11_shape 1 = .ok (.getfield 45, 3) := by decide +kernel
theorem dX11_shape_4 : decode cX11_shape 4 = .ok (.iload_n 1, 1) := by decide +kernel
theorem dX11_shape_5 : decode cX11_shape 5 = .ok (.invokevirtual 97, 3) := by decide +kernel
theorem dX11_shape_8 : decode cX11_shape 8 = .ok (.astore_n 2, 1) := by decide +kernel
theorem dX11_shape_9 : decode cX11_shape 9 = .ok (.aload_n 2, 1) := by decide +kernel
theorem dX11_shape_10 : decode cX11_shape 10 = .ok (.ifnonnull 9, 3) := by decide +kernel
theorem dX11_shape_13 : decode cX11_shape 13 = .ok (.aload_n 0, 1) := by decide +kernel
theorem dX11_shape_14 : decode cX11_shape 14 = .ok (.iconst 1, 1) := by decide +kernel
theorem dX11_shape_15 : decode cX11_shape 15 = .ok (.invokevirtual 67, 3) := by decide +kernel
theorem dX11_shape_18 : decode cX11_shape 18 = .ok (.ireturn, 1) := by decide +kernel
theorem dX11_shape_19 : decode cX11_shape 19 = .ok (.aload_n 0, 1) := by decide +kernel
theorem dX11_shape_20 : decode cX11_shape 20 = .ok (.aload_n 2, 1) := by decide +kernel
theorem dX11_shape_21 : decode cX11_shape 21 = .ok (.aload_n 0, 1) := by decide +kernel
theorem dX11_shape_22 : decode cX11_shape 22 = .ok (.getfield 45, 3) := by decide +kernel
theorem dX11_shape_25 : decode cX11_shape 25 = .ok (.iconst (-1), 1) := by decide +kernel
theorem dX11_shape_26 : decode cX11_shape 26 = .ok (.invokevirtual 247, 3) := by decide +kernel
theorem dX11_shape_29 : decode cX11_shape 29 = .ok (.invokevirtual 250, 3) := by decide +kernel
theorem dX11_shape_32 : decode cX11_shape 32 = .ok (.invokevirtual 88, 3) := by decide +kernel
theorem dX11_shape_35 : decode cX11_shape 35 = .ok (.ireturn, 1) := by decide +kernel
set_option maxRecDepth 20000 in
theorem ggX11_changed_X0_isBare : GoodIn wsX11_changed wsX0_isBare := goodIn_r _ [6, 7, 8, 9, 5, 10, 11, 12, 13, 14, 47, 48, 49, 50, 51, 52, 53, 54, 55, 56, 57, 58, 59, 60, 61, 62, 63] rfl (by decide +kernel)
set_option maxRecDepth 20000 in
theorem gX11_changed_X0_isBare : GoodIn wsX11_changed (wsV RX11 160 RX0 yX0_isBare wsX0_isBare) := goodIn_app (goodIn_of _ (by decide +kernel)) ggX11_changed_X0_isBare
set_option maxRecDepth 20000 in
theorem ggX11_changed_X11_unknown : GoodIn wsX11_changed wsX11_unknown := goodIn_r _ [18, 19, 39, 40, 41, 42, 43, 44, 45, 46] rfl (by decide +kernel)
set_option maxRecDepth 20000 in
theorem gX11_changed_X11_unknown : GoodIn wsX11_changed (wsV RX11 122 RX11 yX11_unknown wsX11_unknown) := goodIn_app (goodIn_of _ (by decide +kernel)) ggX11_changed_X11_unknown
set_option maxRecDepth 20000 in
theorem ggX11_changed_X0_leanChange : GoodIn wsX11_changed wsX0_leanChange := goodIn_r _ [23, 24, 25, 26, 5, 27, 28, 29, 7, 8, 9, 10, 11, 12, 13, 14, 30, 31, 32, 33, 34, 64, 65, 66, 67, 68, 69, 70, 71, 47, 48, 49, 50, 51, 52, 53, 54, 55, 56, 57, 58, 59, 60, 61, 62, 63] rfl (by decide +kernel)
set_option maxRecDepth 20000 in
theorem gX11_changed_X0_leanChange : GoodIn wsX11_changed (wsV RX11 247 RX0 yX0_leanChange wsX0_leanChange) := goodIn_app (goodIn_of _ (by decide +kernel)) ggX11_changed_X0_leanChange
set_option maxRecDepth 20000 in
theorem ggX11_changed_X11_granted : GoodIn wsX11_changed wsX11_granted := goodIn_r _ [38, 19, 39, 40, 41, 42, 43, 44, 45, 46] rfl (by decide +kernel)
set_option maxRecDepth 20000 in
theorem gX11_changed_X11_granted : GoodIn wsX11_changed (wsV RX11 88 RX11 yX11_granted wsX11_granted) := goodIn_app (goodIn_of _ (by decide +kernel)) ggX11_changed_X11_granted
theorem dX11_changed_0 : decode cX11_changed 0 = .ok (.aload_n 0, 1) := by decide +kernel
theorem dX11_changed_1 : decode cX11_changed 1 = .ok (.getfield 45, 3) := by decide +kernel
theorem dX11_changed_4 : decode cX11_changed 4 = .ok (.invokevirtual 160, 3) := by decide +kernel
theorem dX11_changed_7 : decode cX11_changed 7 = .ok (.ifCond .eq 9, 3) := by decide +kernel
theorem dX11_changed_10 : decode cX11_changed 10 = .ok (.aload_n 0, 1) := by decide +kernel
theorem dX11_changed_11 : decode cX11_changed 11 = .ok (.iconst 1, 1) := by decide +kernel
theorem dX11_changed_12 : decode cX11_changed 12 = .ok (.invokevirtual 122, 3) := by decide +kernel
theorem dX11_changed_15 : decode cX11_changed 15 = .ok (.ireturn, 1) := by decide +kernel
theorem dX11_changed_16 : decode cX11_changed 16 = .ok (.aload_n 0, 1) := by decide +kernel
theorem dX11_changed_17 : decode cX11_changed 17 = .ok (.getfield 45, 3) := by decide +kernel
theorem dX11_changed_20 : decode cX11_changed 20 = .ok (.iconst (-1), 1) := by decide +kernel
theorem dX11_changed_21 : decode cX11_changed 21 = .ok (.invokevirtual 247, 3) := by decide +kernel
theorem dX11_changed_24 : decode cX11_changed 24 = .ok (.istore_n 1, 1) := by decide +kernel
theorem dX11_changed_25 : decode cX11_changed 25 = .ok (.iload_n 1, 1) := by decide +kernel
theorem dX11_changed_26 : decode cX11_changed 26 = .ok (.sipush (-1000), 3) := by decide +kernel
theorem dX11_changed_29 : decode cX11_changed 29 = .ok (.if_icmp .ne 12, 3) := by decide +kernel
theorem dX11_changed_32 : decode cX11_changed 32 = .ok (.aload_n 0, 1) := by decide +kernel
theorem dX11_changed_33 : decode cX11_changed 33 = .ok (.bipush 6, 2) := by decide +kernel
theorem dX11_changed_35 : decode cX11_changed 35 = .ok (.invokevirtual 122, 3) := by decide +kernel
theorem dX11_changed_38 : decode cX11_changed 38 = .ok (.goto 8, 3) := by decide +kernel
theorem dX11_changed_41 : decode cX11_changed 41 = .ok (.aload_n 0, 1) := by decide +kernel
theorem dX11_changed_42 : decode cX11_changed 42 = .ok (.iload_n 1, 1) := by decide +kernel
theorem dX11_changed_43 : decode cX11_changed 43 = .ok (.invokevirtual 88, 3) := by decide +kernel
theorem dX11_changed_46 : decode cX11_changed 46 = .ok (.ireturn, 1) := by decide +kernel
set_option maxRecDepth 20000 in
theorem ggX11_told_X0_tellerAt : GoodIn wsX11_told wsX0_tellerAt := goodIn_r _ [6, 7, 8, 48, 49, 50, 51, 52, 53, 54, 55, 56, 57, 58, 59, 60, 61, 62, 63, 64] rfl (by decide +kernel)
set_option maxRecDepth 20000 in
theorem gX11_told_X0_tellerAt : GoodIn wsX11_told (wsV RX11 253 RX0 yX0_tellerAt wsX0_tellerAt) := goodIn_app (goodIn_of _ (by decide +kernel)) ggX11_told_X0_tellerAt
set_option maxRecDepth 20000 in
theorem ggX11_told_X0_has : GoodIn wsX11_told wsX0_has := goodIn_r _ [12, 13, 14, 15, 5, 16, 7, 17, 18, 19, 48, 49, 50, 51, 52, 53, 54, 55, 56, 57, 58, 59, 60, 61, 62, 63, 64] rfl (by decide +kernel)
set_option maxRecDepth 20000 in
theorem gX11_told_X0_has : GoodIn wsX11_told (wsV RX11 174 RX0 yX0_has wsX0_has) := goodIn_app (goodIn_of _ (by decide +kernel)) ggX11_told_X0_has
set_option maxRecDepth 20000 in
theorem ggX11_told_X11_refused : GoodIn wsX11_told wsX11_refused := goodIn_r _ [23, 24, 40, 41, 42, 43, 44, 45, 46, 47] rfl (by decide +kernel)
set_option maxRecDepth 20000 in
theorem gX11_told_X11_refused : GoodIn wsX11_told (wsV RX11 67 RX11 yX11_refused wsX11_refused) := goodIn_app (goodIn_of _ (by decide +kernel)) ggX11_told_X11_refused
set_option maxRecDepth 20000 in
theorem ggX11_told_X8_favour : GoodIn wsX11_told wsX8_favour := goodIn_r _ [29, 30, 31, 32, 33, 28, 34, 35, 65, 66] rfl (by decide +kernel)
set_option maxRecDepth 20000 in
theorem gX11_told_X8_favour : GoodIn wsX11_told (wsV RX11 257 RX8 yX8_favour wsX8_favour) := goodIn_app (goodIn_of _ (by decide +kernel)) ggX11_told_X8_favour
set_option maxRecDepth 20000 in
theorem ggX11_told_X11_granted : GoodIn wsX11_told wsX11_granted := goodIn_r _ [39, 24, 40, 41, 42, 43, 44, 45, 46, 47] rfl (by decide +kernel)
set_option maxRecDepth 20000 in
theorem gX11_told_X11_granted : GoodIn wsX11_told (wsV RX11 88 RX11 yX11_granted wsX11_granted) := goodIn_app (goodIn_of _ (by decide +kernel)) ggX11_told_X11_granted
theorem dX11_told_0 : decode cX11_told 0 = .ok (.aload_n 0, 1) := by decide +kernel
theorem dX11_told_1 : decode cX11_told 1 = .ok (.getfield 45, 3) := by decide +kernel
theorem dX11_told_4 : decode cX11_told 4 = .ok (.iload_n 2, 1) := by decide +kernel
theorem dX11_told_5 : decode cX11_told 5 = .ok (.invokevirtual 253, 3) := by decide +kernel
theorem dX11_told_8 : decode cX11_told 8 = .ok (.astore_n 3, 1) := by decide +kernel
theorem dX11_told_9 : decode cX11_told 9 = .ok (.aload_n 0, 1) := by decide +kernel
theorem dX11_told_10 : decode cX11_told 10 = .ok (.getfield 45, 3) := by decide +kernel
theorem dX11_told_13 : decode cX11_told 13 = .ok (.iconst 0, 1) := by decide +kernel
theorem dX11_told_14 : decode cX11_told 14 = .ok (.iload_n 1, 1) := by decide +kernel
theorem dX11_told_15 : decode cX11_told 15 = .ok (.invokevirtual 174, 3) := by decide +kernel
theorem dX11_told_18 : decode cX11_told 18 = .ok (.ifCond .eq 7, 3) := by decide +kernel
theorem dX11_told_21 : decode cX11_told 21 = .ok (.aload_n 3, 1) := by decide +kernel
theorem dX11_told_22 : decode cX11_told 22 = .ok (.ifnonnull 9, 3) := by decide +kernel
theorem dX11_told_25 : decode cX11_told 25 = .ok (.aload_n 0, 1) := by decide +kernel
theorem dX11_told_26 : decode cX11_told 26 = .ok (.iconst 1, 1) := by decide +kernel
theorem dX11_told_27 : decode cX11_told 27 = .ok (.invokevirtual 67, 3) := by decide +kernel
theorem dX11_told_30 : decode cX11_told 30 = .ok (.ireturn, 1) := by decide +kernel
theorem dX11_told_31 : decode cX11_told 31 = .ok (.aload_n 0, 1) := by decide +kernel
theorem dX11_told_32 : decode cX11_told 32 = .ok (.aload_n 3, 1) := by decide +kernel
theorem dX11_told_33 : decode cX11_told 33 = .ok (.iload_n 1, 1) := by decide +kernel
theorem dX11_told_34 : decode cX11_told 34 = .ok (.invokevirtual 257, 3) := by decide +kernel
theorem dX11_told_37 : decode cX11_told 37 = .ok (.invokevirtual 88, 3) := by decide +kernel
theorem dX11_told_40 : decode cX11_told 40 = .ok (.ireturn, 1) := by decide +kernel
set_option maxRecDepth 20000 in
theorem ggX11_turn_X0_statueAt : GoodIn wsX11_turn wsX0_statueAt := goodIn_r _ [7, 8, 9, 45, 46, 47, 48, 49, 50, 51, 52, 53, 54, 55, 56, 57, 58, 59, 60, 61] rfl (by decide +kernel)
set_option maxRecDepth 20000 in
theorem gX11_turn_X0_statueAt : GoodIn wsX11_turn (wsV RX11 101 RX0 yX0_statueAt wsX0_statueAt) := goodIn_app (goodIn_of _ (by decide +kernel)) ggX11_turn_X0_statueAt
set_option maxRecDepth 20000 in
theorem ggX11_turn_X11_isLie : GoodIn wsX11_turn wsX11_isLie := goodIn_r _ [13] rfl (by decide +kernel)
set_option maxRecDepth 20000 in
theorem gX11_turn_X11_isLie : GoodIn wsX11_turn (va_wsS RX11 151 yX11_isLie wsX11_isLie) := goodIn_app (goodIn_of _ (by decide +kernel)) ggX11_turn_X11_isLie
set_option maxRecDepth 20000 in
theorem ggX11_turn_X11_denied : GoodIn wsX11_turn wsX11_denied := goodIn_r _ [17, 18, 29, 30, 31, 32, 33, 34, 35, 36] rfl (by decide +kernel)
set_option maxRecDepth 20000 in
theorem gX11_turn_X11_denied : GoodIn wsX11_turn (wsV RX11 164 RX11 yX11_denied wsX11_denied) := goodIn_app (goodIn_of _ (by decide +kernel)) ggX11_turn_X11_denied
set_option maxRecDepth 20000 in
theorem ggX11_turn_X5_isLying : GoodIn wsX11_turn wsX5_isLying := goodIn_r _ [23, 24, 37, 38, 39, 40, 41, 42, 43, 44] rfl (by decide +kernel)
set_option maxRecDepth 20000 in
theorem gX11_turn_X5_isLying : GoodIn wsX11_turn (wsV RX11 230 RX5 yX5_isLying wsX5_isLying) := goodIn_app (goodIn_of _ (by decide +kernel)) ggX11_turn_X5_isLying
set_option maxRecDepth 20000 in
theorem ggX11_turn_X11_allowed : GoodIn wsX11_turn wsX11_allowed := goodIn_r _ [28, 18, 29, 30, 31, 32, 33, 34, 35, 36] rfl (by decide +kernel)
set_option maxRecDepth 20000 in
theorem gX11_turn_X11_allowed : GoodIn wsX11_turn (wsV RX11 171 RX11 yX11_allowed wsX11_allowed) := goodIn_app (goodIn_of _ (by decide +kernel)) ggX11_turn_X11_allowed
theorem dX11_turn_0 : decode cX11_turn 0 = .ok (.aload_n 0, 1) := by decide +kernel
theorem dX11_turn_1 : decode cX11_turn 1 = .ok (.getfield 45, 3) := by decide +kernel
theorem dX11_turn_4 : decode cX11_turn 4 = .ok (.iload_n 1, 1) := by decide +kernel
theorem dX11_turn_5 : decode cX11_turn 5 = .ok (.invokevirtual 101, 3) := by decide +kernel
theorem dX11_turn_8 : decode cX11_turn 8 = .ok (.astore_n 3, 1) := by decide +kernel
theorem dX11_turn_9 : decode cX11_turn 9 = .ok (.aload_n 3, 1) := by decide +kernel
theorem dX11_turn_10 : decode cX11_turn 10 = .ok (.ifnull 10, 3) := by decide +kernel
theorem dX11_turn_13 : decode cX11_turn 13 = .ok (.iload_n 2, 1) := by decide +kernel
theorem dX11_turn_14 : decode cX11_turn 14 = .ok (.invokestatic 151, 3) := by decide +kernel
theorem dX11_turn_17 : decode cX11_turn 17 = .ok (.ifCond .ne 9, 3) := by decide +kernel
theorem dX11_turn_20 : decode cX11_turn 20 = .ok (.aload_n 0, 1) := by decide +kernel
theorem dX11_turn_21 : decode cX11_turn 21 = .ok (.iconst 1, 1) := by decide +kernel
theorem dX11_turn_22 : decode cX11_turn 22 = .ok (.invokevirtual 164, 3) := by decide +kernel
theorem dX11_turn_25 : decode cX11_turn 25 = .ok (.ireturn, 1) := by decide +kernel
theorem dX11_turn_26 : decode cX11_turn 26 = .ok (.aload_n 3, 1) := by decide +kernel
theorem dX11_turn_27 : decode cX11_turn 27 = .ok (.invokevirtual 230, 3) := by decide +kernel
theorem dX11_turn_30 : decode cX11_turn 30 = .ok (.ifCond .ne 9, 3) := by decide +kernel
theorem dX11_turn_33 : decode cX11_turn 33 = .ok (.aload_n 0, 1) := by decide +kernel
