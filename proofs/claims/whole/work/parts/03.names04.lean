theorem dX11_turn_34 : decode cX11_turn 34 = .ok (.iconst 5, 1) := by decide +kernel
theorem dX11_turn_35 : decode cX11_turn 35 = .ok (.invokevirtual 164, 3) := by decide +kernel
theorem dX11_turn_38 : decode cX11_turn 38 = .ok (.ireturn, 1) := by decide +kernel
theorem dX11_turn_39 : decode cX11_turn 39 = .ok (.aload_n 3, 1) := by decide +kernel
theorem dX11_turn_40 : decode cX11_turn 40 = .ok (.iload_n 2, 1) := by decide +kernel
theorem dX11_turn_41 : decode cX11_turn 41 = .ok (.putfield 236, 3) := by decide +kernel
theorem dX11_turn_44 : decode cX11_turn 44 = .ok (.aload_n 0, 1) := by decide +kernel
theorem dX11_turn_45 : decode cX11_turn 45 = .ok (.invokevirtual 171, 3) := by decide +kernel
theorem dX11_turn_48 : decode cX11_turn 48 = .ok (.ireturn, 1) := by decide +kernel
set_option maxRecDepth 20000 in
theorem ggX11_hangs_X0_isBare : GoodIn wsX11_hangs wsX0_isBare := goodIn_r _ [6, 7, 8, 9, 5, 10, 11, 12, 13, 14, 115, 116, 117, 118, 119, 120, 121, 122, 123, 124, 125, 126, 127, 128, 129, 130, 131] rfl (by decide +kernel)
set_option maxRecDepth 20000 in
theorem gX11_hangs_X0_isBare : GoodIn wsX11_hangs (wsV RX11 160 RX0 yX0_isBare wsX0_isBare) := goodIn_app (goodIn_of _ (by decide +kernel)) ggX11_hangs_X0_isBare
set_option maxRecDepth 20000 in
theorem ggX11_hangs_X11_refused : GoodIn wsX11_hangs wsX11_refused := goodIn_r _ [18, 19, 107, 108, 109, 110, 111, 112, 113, 114] rfl (by decide +kernel)
set_option maxRecDepth 20000 in
theorem gX11_hangs_X11_refused : GoodIn wsX11_hangs (wsV RX11 67 RX11 yX11_refused wsX11_refused) := goodIn_app (goodIn_of _ (by decide +kernel)) ggX11_hangs_X11_refused
set_option maxRecDepth 20000 in
theorem ggX11_hangs_X0_decidingStatue : GoodIn wsX11_hangs wsX0_decidingStatue := goodIn_r _ [23, 24, 25, 26, 5, 27, 7, 8, 9, 10, 11, 12, 13, 14, 28, 29, 30, 31, 32, 33, 34, 35, 36, 37, 38, 39, 40, 41, 42, 43, 44, 45, 46, 47, 48, 49, 50, 51, 52, 53, 54, 55, 56, 57, 58, 59, 60, 61, 62, 63, 64, 65, 66, 67, 68, 69, 70, 71, 72, 73, 74, 75, 76, 77, 78, 79, 80, 81, 82, 83, 84, 85, 86, 87, 88, 89, 90, 91, 92, 93, 94, 95, 96, 97, 98, 99, 100, 101, 102, 115, 116, 117, 118, 119, 120, 121, 122, 123, 124, 125, 126, 127, 128, 129, 130, 131, 132, 133, 134, 135, 136, 137, 138, 139, 140, 141, 142, 143, 144, 145, 146, 147] rfl (by decide +kernel)
set_option maxRecDepth 20000 in
theorem gX11_hangs_X0_decidingStatue : GoodIn wsX11_hangs (wsV RX11 262 RX0 yX0_decidingStatue wsX0_decidingStatue) := goodIn_app (goodIn_of _ (by decide +kernel)) ggX11_hangs_X0_decidingStatue
set_option maxRecDepth 20000 in
theorem ggX11_hangs_X11_granted : GoodIn wsX11_hangs wsX11_granted := goodIn_r _ [106, 19, 107, 108, 109, 110, 111, 112, 113, 114] rfl (by decide +kernel)
set_option maxRecDepth 20000 in
theorem gX11_hangs_X11_granted : GoodIn wsX11_hangs (wsV RX11 88 RX11 yX11_granted wsX11_granted) := goodIn_app (goodIn_of _ (by decide +kernel)) ggX11_hangs_X11_granted
theorem dX11_hangs_0 : decode cX11_hangs 0 = .ok (.aload_n 0, 1) := by decide +kernel
theorem dX11_hangs_1 : decode cX11_hangs 1 = .ok (.getfield 45, 3) := by decide +kernel
theorem dX11_hangs_4 : decode cX11_hangs 4 = .ok (.invokevirtual 160, 3) := by decide +kernel
theorem dX11_hangs_7 : decode cX11_hangs 7 = .ok (.ifCond .eq 9, 3) := by decide +kernel
theorem dX11_hangs_10 : decode cX11_hangs 10 = .ok (.aload_n 0, 1) := by decide +kernel
theorem dX11_hangs_11 : decode cX11_hangs 11 = .ok (.iconst 1, 1) := by decide +kernel
theorem dX11_hangs_12 : decode cX11_hangs 12 = .ok (.invokevirtual 67, 3) := by decide +kernel
theorem dX11_hangs_15 : decode cX11_hangs 15 = .ok (.ireturn, 1) := by decide +kernel
theorem dX11_hangs_16 : decode cX11_hangs 16 = .ok (.aload_n 0, 1) := by decide +kernel
theorem dX11_hangs_17 : decode cX11_hangs 17 = .ok (.aload_n 0, 1) := by decide +kernel
theorem dX11_hangs_18 : decode cX11_hangs 18 = .ok (.getfield 45, 3) := by decide +kernel
theorem dX11_hangs_21 : decode cX11_hangs 21 = .ok (.invokevirtual 262, 3) := by decide +kernel
theorem dX11_hangs_24 : decode cX11_hangs 24 = .ok (.invokevirtual 88, 3) := by decide +kernel
theorem dX11_hangs_27 : decode cX11_hangs 27 = .ok (.ireturn, 1) := by decide +kernel
set_option maxRecDepth 20000 in
theorem ggX11_tryout_X0_isBare : GoodIn wsX11_tryout wsX0_isBare := goodIn_r _ [6, 7, 8, 9, 5, 10, 11, 12, 13, 14, 135, 136, 137, 138, 139, 140, 141, 142, 143, 144, 145, 146, 147, 148, 149, 150, 151] rfl (by decide +kernel)
set_option maxRecDepth 20000 in
theorem gX11_tryout_X0_isBare : GoodIn wsX11_tryout (wsV RX11 160 RX0 yX0_isBare wsX0_isBare) := goodIn_app (goodIn_of _ (by decide +kernel)) ggX11_tryout_X0_isBare
set_option maxRecDepth 20000 in
theorem ggX11_tryout_X11_refused : GoodIn wsX11_tryout wsX11_refused := goodIn_r _ [18, 19, 127, 128, 129, 130, 131, 132, 133, 134] rfl (by decide +kernel)
set_option maxRecDepth 20000 in
theorem gX11_tryout_X11_refused : GoodIn wsX11_tryout (wsV RX11 67 RX11 yX11_refused wsX11_refused) := goodIn_app (goodIn_of _ (by decide +kernel)) ggX11_tryout_X11_refused
set_option maxRecDepth 20000 in
theorem ggX11_tryout_X0_bestThing : GoodIn wsX11_tryout wsX0_bestThing := goodIn_r _ [23, 24, 25, 26, 27, 28, 29, 30, 5, 31, 7, 8, 9, 10, 11, 12, 13, 14, 32, 33, 34, 35, 36, 37, 38, 39, 40, 41, 42, 43, 44, 45, 46, 47, 48, 49, 50, 51, 52, 53, 54, 55, 56, 57, 58, 59, 60, 61, 62, 63, 64, 65, 66, 67, 68, 69, 70, 71, 72, 73, 74, 75, 76, 77, 78, 79, 80, 81, 82, 83, 84, 85, 86, 87, 88, 89, 90, 91, 92, 93, 94, 95, 96, 97, 98, 99, 100, 101, 102, 103, 104, 105, 106, 107, 108, 109, 110, 111, 112, 113, 114, 115, 116, 117, 118, 119, 120, 121, 122, 135, 136, 137, 138, 139, 140, 141, 142, 143, 144, 145, 146, 147, 148, 149, 150, 151, 152, 153, 154, 155, 156, 157, 158, 159, 160, 161, 162, 163, 164, 165, 166, 167] rfl (by decide +kernel)
set_option maxRecDepth 20000 in
theorem gX11_tryout_X0_bestThing : GoodIn wsX11_tryout (wsV RX11 266 RX0 yX0_bestThing wsX0_bestThing) := goodIn_app (goodIn_of _ (by decide +kernel)) ggX11_tryout_X0_bestThing
set_option maxRecDepth 20000 in
theorem ggX11_tryout_X11_granted : GoodIn wsX11_tryout wsX11_granted := goodIn_r _ [126, 19, 127, 128, 129, 130, 131, 132, 133, 134] rfl (by decide +kernel)
set_option maxRecDepth 20000 in
theorem gX11_tryout_X11_granted : GoodIn wsX11_tryout (wsV RX11 88 RX11 yX11_granted wsX11_granted) := goodIn_app (goodIn_of _ (by decide +kernel)) ggX11_tryout_X11_granted
theorem dX11_tryout_0 : decode cX11_tryout 0 = .ok (.aload_n 0, 1) := by decide +kernel
theorem dX11_tryout_1 : decode cX11_tryout 1 = .ok (.getfield 45, 3) := by decide +kernel
theorem dX11_tryout_4 : decode cX11_tryout 4 = .ok (.invokevirtual 160, 3) := by decide +kernel
theorem dX11_tryout_7 : decode cX11_tryout 7 = .ok (.ifCond .eq 9, 3) := by decide +kernel
theorem dX11_tryout_10 : decode cX11_tryout 10 = .ok (.aload_n 0, 1) := by decide +kernel
theorem dX11_tryout_11 : decode cX11_tryout 11 = .ok (.iconst 1, 1) := by decide +kernel
theorem dX11_tryout_12 : decode cX11_tryout 12 = .ok (.invokevirtual 67, 3) := by decide +kernel
theorem dX11_tryout_15 : decode cX11_tryout 15 = .ok (.ireturn, 1) := by decide +kernel
theorem dX11_tryout_16 : decode cX11_tryout 16 = .ok (.aload_n 0, 1) := by decide +kernel
theorem dX11_tryout_17 : decode cX11_tryout 17 = .ok (.getfield 45, 3) := by decide +kernel
theorem dX11_tryout_20 : decode cX11_tryout 20 = .ok (.invokevirtual 266, 3) := by decide +kernel
theorem dX11_tryout_23 : decode cX11_tryout 23 = .ok (.istore_n 1, 1) := by decide +kernel
theorem dX11_tryout_24 : decode cX11_tryout 24 = .ok (.iload_n 1, 1) := by decide +kernel
theorem dX11_tryout_25 : decode cX11_tryout 25 = .ok (.iconst (-1), 1) := by decide +kernel
theorem dX11_tryout_26 : decode cX11_tryout 26 = .ok (.if_icmp .ne 12, 3) := by decide +kernel
theorem dX11_tryout_29 : decode cX11_tryout 29 = .ok (.aload_n 0, 1) := by decide +kernel
theorem dX11_tryout_30 : decode cX11_tryout 30 = .ok (.bipush 6, 2) := by decide +kernel
theorem dX11_tryout_32 : decode cX11_tryout 32 = .ok (.invokevirtual 67, 3) := by decide +kernel
theorem dX11_tryout_35 : decode cX11_tryout 35 = .ok (.goto 8, 3) := by decide +kernel
theorem dX11_tryout_38 : decode cX11_tryout 38 = .ok (.aload_n 0, 1) := by decide +kernel
theorem dX11_tryout_39 : decode cX11_tryout 39 = .ok (.iload_n 1, 1) := by decide +kernel
theorem dX11_tryout_40 : decode cX11_tryout 40 = .ok (.invokevirtual 88, 3) := by decide +kernel
theorem dX11_tryout_43 : decode cX11_tryout 43 = .ok (.ireturn, 1) := by decide +kernel
set_option maxRecDepth 20000 in
theorem ggX11_people_X0_has : GoodIn wsX11_people wsX0_has := goodIn_r _ [6, 7, 8, 9, 5, 10, 11, 12, 13, 14, 56, 57, 58, 59, 60, 61, 62, 63, 64, 65, 66, 67, 68, 69, 70, 71, 72] rfl (by decide +kernel)
set_option maxRecDepth 20000 in
theorem gX11_people_X0_has : GoodIn wsX11_people (wsV RX11 174 RX0 yX0_has wsX0_has) := goodIn_app (goodIn_of _ (by decide +kernel)) ggX11_people_X0_has
set_option maxRecDepth 20000 in
theorem ggX11_people_X11_refused : GoodIn wsX11_people wsX11_refused := goodIn_r _ [18, 19, 48, 49, 50, 51, 52, 53, 54, 55] rfl (by decide +kernel)
set_option maxRecDepth 20000 in
theorem gX11_people_X11_refused : GoodIn wsX11_people (wsV RX11 67 RX11 yX11_refused wsX11_refused) := goodIn_app (goodIn_of _ (by decide +kernel)) ggX11_people_X11_refused
set_option maxRecDepth 20000 in
theorem ggX11_people_X0_peopleByTrials : GoodIn wsX11_people wsX0_peopleByTrials := goodIn_r _ [23, 24, 25, 26, 27, 28, 29, 30, 7, 8, 9, 5, 10, 11, 12, 13, 14, 31, 32, 33, 34, 35, 36, 37, 38, 39, 40, 41, 42, 43, 73, 74, 75, 76, 77, 56, 57, 58, 59, 60, 61, 62, 63, 64, 65, 66, 67, 68, 69, 70, 71, 72] rfl (by decide +kernel)
set_option maxRecDepth 20000 in
theorem gX11_people_X0_peopleByTrials : GoodIn wsX11_people (wsV RX11 269 RX0 yX0_peopleByTrials wsX0_peopleByTrials) := goodIn_app (goodIn_of _ (by decide +kernel)) ggX11_people_X0_peopleByTrials
set_option maxRecDepth 20000 in
theorem ggX11_people_X11_granted : GoodIn wsX11_people wsX11_granted := goodIn_r _ [47, 19, 48, 49, 50, 51, 52, 53, 54, 55] rfl (by decide +kernel)
set_option maxRecDepth 20000 in
theorem gX11_people_X11_granted : GoodIn wsX11_people (wsV RX11 88 RX11 yX11_granted wsX11_granted) := goodIn_app (goodIn_of _ (by decide +kernel)) ggX11_people_X11_granted
theorem dX11_people_0 : decode cX11_people 0 = .ok (.aload_n 0, 1) := by decide +kernel
theorem dX11_people_1 : decode cX11_people 1 = .ok (.getfield 45, 3) := by decide +kernel
theorem dX11_people_4 : decode cX11_people 4 = .ok (.iconst 0, 1) := by decide +kernel
theorem dX11_people_5 : decode cX11_people 5 = .ok (.iload_n 1, 1) := by decide +kernel
theorem dX11_people_6 : decode cX11_people 6 = .ok (.invokevirtual 174, 3) := by decide +kernel
theorem dX11_people_9 : decode cX11_people 9 = .ok (.ifCond .ne 9, 3) := by decide +kernel
theorem dX11_people_12 : decode cX11_people 12 = .ok (.aload_n 0, 1) := by decide +kernel
theorem dX11_people_13 : decode cX11_people 13 = .ok (.iconst 1, 1) := by decide +kernel
theorem dX11_people_14 : decode cX11_people 14 = .ok (.invokevirtual 67, 3) := by decide +kernel
theorem dX11_people_17 : decode cX11_people 17 = .ok (.ireturn, 1) := by decide +kernel
theorem dX11_people_18 : decode cX11_people 18 = .ok (.iload_n 2, 1) := by decide +kernel
theorem dX11_people_19 : decode cX11_people 19 = .ok (.iconst 1, 1) := by decide +kernel
theorem dX11_people_20 : decode cX11_people 20 = .ok (.if_icmp .lt 10, 3) := by decide +kernel
theorem dX11_people_23 : decode cX11_people 23 = .ok (.iload_n 2, 1) := by decide +kernel
theorem dX11_people_24 : decode cX11_people 24 = .ok (.sipush 400, 3) := by decide +kernel
theorem dX11_people_27 : decode cX11_people 27 = .ok (.if_icmp .le 9, 3) := by decide +kernel
theorem dX11_people_30 : decode cX11_people 30 = .ok (.aload_n 0, 1) := by decide +kernel
theorem dX11_people_31 : decode cX11_people 31 = .ok (.iconst 2, 1) := by decide +kernel
theorem dX11_people_32 : decode cX11_people 32 = .ok (.invokevirtual 67, 3) := by decide +kernel
theorem dX11_people_35 : decode cX11_people 35 = .ok (.ireturn, 1) := by decide +kernel
theorem dX11_people_36 : decode cX11_people 36 = .ok (.aload_n 0, 1) := by decide +kernel
theorem dX11_people_37 : decode cX11_people 37 = .ok (.getfield 45, 3) := by decide +kernel
theorem dX11_people_40 : decode cX11_people 40 = .ok (.iload_n 1, 1) := by decide +kernel
theorem dX11_people_41 : decode cX11_people 41 = .ok (.iload_n 2, 1) := by decide +kernel
theorem dX11_people_42 : decode cX11_people 42 = .ok (.iload_n 3, 1) := by decide +kernel
theorem dX11_people_43 : decode cX11_people 43 = .ok (.invokevirtual 269, 3) := by decide +kernel
theorem dX11_people_46 : decode cX11_people 46 = .ok (.istore 4, 2) := by decide +kernel
theorem dX11_people_48 : decode cX11_people 48 = .ok (.iload 4, 2) := by decide +kernel
theorem dX11_people_50 : decode cX11_people 50 = .ok (.iconst (-1), 1) := by decide +kernel
theorem dX11_people_51 : decode cX11_people 51 = .ok (.if_icmp .ne 12, 3) := by decide +kernel
theorem dX11_people_54 : decode cX11_people 54 = .ok (.aload_n 0, 1) := by decide +kernel
theorem dX11_people_55 : decode cX11_people 55 = .ok (.bipush 6, 2) := by decide +kernel
theorem dX11_people_57 : decode cX11_people 57 = .ok (.invokevirtual 67, 3) := by decide +kernel
theorem dX11_people_60 : decode cX11_people 60 = .ok (.goto 9, 3) := by decide +kernel
theorem dX11_people_63 : decode cX11_people 63 = .ok (.aload_n 0, 1) := by decide +kernel
theorem dX11_people_64 : decode cX11_people 64 = .ok (.iload 4, 2) := by decide +kernel
theorem dX11_people_66 : decode cX11_people 66 = .ok (.invokevirtual 88, 3) := by decide +kernel
theorem dX11_people_69 : decode cX11_people 69 = .ok (.ireturn, 1) := by decide +kernel
set_option maxRecDepth 20000 in
theorem ggX11_takes_X0_has : GoodIn wsX11_takes wsX0_has := goodIn_r _ [6, 7, 8, 9, 5, 10, 11, 12, 13, 14, 56, 57, 58, 59, 60, 61, 62, 63, 64, 65, 66, 67, 68, 69, 70, 71, 72] rfl (by decide +kernel)
set_option maxRecDepth 20000 in
theorem gX11_takes_X0_has : GoodIn wsX11_takes (wsV RX11 174 RX0 yX0_has wsX0_has) := goodIn_app (goodIn_of _ (by decide +kernel)) ggX11_takes_X0_has
set_option maxRecDepth 20000 in
theorem ggX11_takes_X11_refused : GoodIn wsX11_takes wsX11_refused := goodIn_r _ [18, 19, 48, 49, 50, 51, 52, 53, 54, 55] rfl (by decide +kernel)
set_option maxRecDepth 20000 in
theorem gX11_takes_X11_refused : GoodIn wsX11_takes (wsV RX11 67 RX11 yX11_refused wsX11_refused) := goodIn_app (goodIn_of _ (by decide +kernel)) ggX11_takes_X11_refused
set_option maxRecDepth 20000 in
theorem ggX11_takes_X0_minutesByTrials : GoodIn wsX11_takes wsX0_minutesByTrials := goodIn_r _ [23, 24, 25, 26, 7, 8, 9, 5, 10, 11, 12, 13, 14, 27, 28, 29, 30, 31, 32, 33, 34, 35, 36, 37, 38, 39, 40, 41, 42, 43, 73, 74, 75, 76, 77, 56, 57, 58, 59, 60, 61, 62, 63, 64, 65, 66, 67, 68, 69, 70, 71, 72] rfl (by decide +kernel)
set_option maxRecDepth 20000 in
theorem gX11_takes_X0_minutesByTrials : GoodIn wsX11_takes (wsV RX11 273 RX0 yX0_minutesByTrials wsX0_minutesByTrials) := goodIn_app (goodIn_of _ (by decide +kernel)) ggX11_takes_X0_minutesByTrials
set_option maxRecDepth 20000 in
theorem ggX11_takes_X11_granted : GoodIn wsX11_takes wsX11_granted := goodIn_r _ [47, 19, 48, 49, 50, 51, 52, 53, 54, 55] rfl (by decide +kernel)
set_option maxRecDepth 20000 in
theorem gX11_takes_X11_granted : GoodIn wsX11_takes (wsV RX11 88 RX11 yX11_granted wsX11_granted) := goodIn_app (goodIn_of _ (by decide +kernel)) ggX11_takes_X11_granted
theorem dX11_takes_0 : decode cX11_takes 0 = .ok (.aload_n 0, 1) := by decide +kernel
theorem dX11_takes_1 : decode cX11_takes 1 = .ok (.getfield 45, 3) := by decide +kernel
theorem dX11_takes_4 : decode cX11_takes 4 = .ok (.iconst 0, 1) := by decide +kernel
theorem dX11_takes_5 : decode cX11_takes 5 = .ok (.iload_n 1, 1) := by decide +kernel
theorem dX11_takes_6 : decode cX11_takes 6 = .ok (.invokevirtual 174, 3) := by decide +kernel
theorem dX11_takes_9 : decode cX11_takes 9 = .ok (.ifCond .ne 9, 3) := by decide +kernel
theorem dX11_takes_12 : decode cX11_takes 12 = .ok (.aload_n 0, 1) := by decide +kernel
theorem dX11_takes_13 : decode cX11_takes 13 = .ok (.iconst 1, 1) := by decide +kernel
theorem dX11_takes_14 : decode cX11_takes 14 = .ok (.invokevirtual 67, 3) := by decide +kernel
theorem dX11_takes_17 : decode cX11_takes 17 = .ok (.ireturn, 1) := by decide +kernel
theorem dX11_takes_18 : decode cX11_takes 18 = .ok (.iload_n 2, 1) := by decide +kernel
theorem dX11_takes_19 : decode cX11_takes 19 = .ok (.iconst 1, 1) := by decide +kernel
theorem dX11_takes_20 : decode cX11_takes 20 = .ok (.if_icmp .lt 10, 3) := by decide +kernel
theorem dX11_takes_23 : decode cX11_takes 23 = .ok (.iload_n 2, 1) := by decide +kernel
theorem dX11_takes_24 : decode cX11_takes 24 = .ok (.sipush 9999, 3) := by decide +kernel
theorem dX11_takes_27 : decode cX11_takes 27 = .ok (.if_icmp .le 9, 3) := by decide +kernel
theorem dX11_takes_30 : decode cX11_takes 30 = .ok (.aload_n 0, 1) := by decide +kernel
theorem dX11_takes_31 : decode cX11_takes 31 = .ok (.iconst 2, 1) := by decide +kernel
theorem dX11_takes_32 : decode cX11_takes 32 = .ok (.invokevirtual 67, 3) := by decide +kernel
theorem dX11_takes_35 : decode cX11_takes 35 = .ok (.ireturn, 1) := by decide +kernel
theorem dX11_takes_36 : decode cX11_takes 36 = .ok (.aload_n 0, 1) := by decide +kernel
theorem dX11_takes_37 : decode cX11_takes 37 = .ok (.getfield 45, 3) := by decide +kernel
theorem dX11_takes_40 : decode cX11_takes 40 = .ok (.iload_n 1, 1) := by decide +kernel
theorem dX11_takes_41 : decode cX11_takes 41 = .ok (.iload_n 2, 1) := by decide +kernel
theorem dX11_takes_42 : decode cX11_takes 42 = .ok (.iload_n 3, 1) := by decide +kernel
theorem dX11_takes_43 : decode cX11_takes 43 = .ok (.invokevirtual 273, 3) := by decide +kernel
theorem dX11_takes_46 : decode cX11_takes 46 = .ok (.istore 4, 2) := by decide +kernel
theorem dX11_takes_48 : decode cX11_takes 48 = .ok (.iload 4, 2) := by decide +kernel
theorem dX11_takes_50 : decode cX11_takes 50 = .ok (.iconst (-1), 1) := by decide +kernel
theorem dX11_takes_51 : decode cX11_takes 51 = .ok (.if_icmp .ne 12, 3) := by decide +kernel
theorem dX11_takes_54 : decode cX11_takes 54 = .ok (.aload_n 0, 1) := by decide +kernel
theorem dX11_takes_55 : decode cX11_takes 55 = .ok (.bipush 6, 2) := by decide +kernel
theorem dX11_takes_57 : decode cX11_takes 57 = .ok (.invokevirtual 67, 3) := by decide +kernel
theorem dX11_takes_60 : decode cX11_takes 60 = .ok (.goto 9, 3) := by decide +kernel
theorem dX11_takes_63 : decode cX11_takes 63 = .ok (.aload_n 0, 1) := by decide +kernel
theorem dX11_takes_64 : decode cX11_takes 64 = .ok (.iload 4, 2) := by decide +kernel
theorem dX11_takes_66 : decode cX11_takes 66 = .ok (.invokevirtual 88, 3) := by decide +kernel
theorem dX11_takes_69 : decode cX11_takes 69 = .ok (.ireturn, 1) := by decide +kernel
set_option maxRecDepth 20000 in
theorem ggX11_off_X0_trialAt : GoodIn wsX11_off wsX0_trialAt := goodIn_r _ [9, 10, 11, 56, 57, 58, 59, 60, 61, 62, 63, 64, 65, 66, 67, 68, 69, 70, 71, 72] rfl (by decide +kernel)
set_option maxRecDepth 20000 in
theorem gX11_off_X0_trialAt : GoodIn wsX11_off (wsV RX11 276 RX0 yX0_trialAt wsX0_trialAt) := goodIn_app (goodIn_of _ (by decide +kernel)) ggX11_off_X0_trialAt
set_option maxRecDepth 20000 in
theorem ggX11_off_X0_wayAt : GoodIn wsX11_off wsX0_wayAt := goodIn_r _ [15, 10, 16, 56, 57, 58, 59, 60, 61, 62, 63, 64, 65, 66, 67, 68, 69, 70, 71, 72] rfl (by decide +kernel)
set_option maxRecDepth 20000 in
theorem gX11_off_X0_wayAt : GoodIn wsX11_off (wsV RX11 97 RX0 yX0_wayAt wsX0_wayAt) := goodIn_app (goodIn_of _ (by decide +kernel)) ggX11_off_X0_wayAt
set_option maxRecDepth 20000 in
theorem ggX11_off_X11_unknown : GoodIn wsX11_off wsX11_unknown := goodIn_r _ [21, 22, 43, 44, 45, 46, 47, 48, 49, 50] rfl (by decide +kernel)
set_option maxRecDepth 20000 in
theorem gX11_off_X11_unknown : GoodIn wsX11_off (wsV RX11 122 RX11 yX11_unknown wsX11_unknown) := goodIn_app (goodIn_of _ (by decide +kernel)) ggX11_off_X11_unknown
set_option maxRecDepth 20000 in
theorem ggX11_off_X10_hands : GoodIn wsX11_off wsX10_hands := goodIn_r _ [27, 28, 29, 30, 31, 32, 33, 34, 35, 20, 36, 37, 38, 73, 74, 75] rfl (by decide +kernel)
set_option maxRecDepth 20000 in
theorem gX11_off_X10_hands : GoodIn wsX11_off (wsV RX11 134 RX10 yX10_hands wsX10_hands) := goodIn_app (goodIn_of _ (by decide +kernel)) ggX11_off_X10_hands
set_option maxRecDepth 20000 in
theorem ggX11_off_X11_granted : GoodIn wsX11_off wsX11_granted := goodIn_r _ [42, 22, 43, 44, 45, 46, 47, 48, 49, 50] rfl (by decide +kernel)
set_option maxRecDepth 20000 in
theorem gX11_off_X11_granted : GoodIn wsX11_off (wsV RX11 88 RX11 yX11_granted wsX11_granted) := goodIn_app (goodIn_of _ (by decide +kernel)) ggX11_off_X11_granted
theorem dX11_off_0 : decode cX11_off 0 = .ok (.aload_n 0, 1) := by decide +kernel
theorem dX11_off_1 : decode cX11_off 1 = .ok (.getfield 45, 3) := by decide +kernel
theorem dX11_off_4 : decode cX11_off 4 = .ok (.iload_n 1, 1) := by decide +kernel
theorem dX11_off_5 : decode cX11_off 5 = .ok (.invokevirtual 276, 3) := by decide +kernel
theorem dX11_off_8 : decode cX11_off 8 = .ok (.astore_n 2, 1) := by decide +kernel
theorem dX11_off_9 : decode cX11_off 9 = .ok (.aload_n 2, 1) := by decide +kernel
theorem dX11_off_10 : decode cX11_off 10 = .ok (.ifnonnull 7, 3) := by decide +kernel
theorem dX11_off_13 : decode cX11_off 13 = .ok (.aconst_null, 1) := by decide +kernel
theorem dX11_off_14 : decode cX11_off 14 = .ok (.goto 14, 3) := by decide +kernel
theorem dX11_off_17 : decode cX11_off 17 = .ok (.aload_n 0, 1) := by decide +kernel
theorem dX11_off_18 : decode cX11_off 18 = .ok (.getfield 45, 3) := by decide +kernel
theorem dX11_off_21 : decode cX11_off 21 = .ok (.aload_n 2, 1) := by decide +kernel
theorem dX11_off_22 : decode cX11_off 22 = .ok (.getfield 280, 3) := by decide +kernel
theorem dX11_off_25 : decode cX11_off 25 = .ok (.invokevirtual 97, 3) := by decide +kernel
theorem dX11_off_28 : decode cX11_off 28 = .ok (.astore_n 3, 1) := by decide +kernel
theorem dX11_off_29 : decode cX11_off 29 = .ok (.aload_n 2, 1) := by decide +kernel
theorem dX11_off_30 : decode cX11_off 30 = .ok (.ifnull 7, 3) := by decide +kernel
theorem dX11_off_33 : decode cX11_off 33 = .ok (.aload_n 3, 1) := by decide +kernel
theorem dX11_off_34 : decode cX11_off 34 = .ok (.ifnonnull 9, 3) := by decide +kernel
theorem dX11_off_37 : decode cX11_off 37 = .ok (.aload_n 0, 1) := by decide +kernel
theorem dX11_off_38 : decode cX11_off 38 = .ok (.iconst 1, 1) := by decide +kernel
theorem dX11_off_39 : decode cX11_off 39 = .ok (.invokevirtual 122, 3) := by decide +kernel
theorem dX11_off_42 : decode cX11_off 42 = .ok (.ireturn, 1) := by decide +kernel
theorem dX11_off_43 : decode cX11_off 43 = .ok (.aload_n 0, 1) := by decide +kernel
theorem dX11_off_44 : decode cX11_off 44 = .ok (.aload_n 3, 1) := by decide +kernel
theorem dX11_off_45 : decode cX11_off 45 = .ok (.aload_n 2, 1) := by decide +kernel
theorem dX11_off_46 : decode cX11_off 46 = .ok (.getfield 283, 3) := by decide +kernel
theorem dX11_off_49 : decode cX11_off 49 = .ok (.iconst 0, 1) := by decide +kernel
theorem dX11_off_50 : decode cX11_off 50 = .ok (.invokevirtual 134, 3) := by decide +kernel
theorem dX11_off_53 : decode cX11_off 53 = .ok (.aload_n 2, 1) := by decide +kernel
theorem dX11_off_54 : decode cX11_off 54 = .ok (.getfield 284, 3) := by decide +kernel
theorem dX11_off_57 : decode cX11_off 57 = .ok (.isub, 1) := by decide +kernel
theorem dX11_off_58 : decode cX11_off 58 = .ok (.invokevirtual 88, 3) := by decide +kernel
theorem dX11_off_61 : decode cX11_off 61 = .ok (.ireturn, 1) := by decide +kernel
set_option maxRecDepth 20000 in
theorem ggX11_wood_X0_wayAt : GoodIn wsX11_wood wsX0_wayAt := goodIn_r _ [6, 7, 8, 64, 65, 66, 67, 68, 69, 70, 71, 72, 73, 74, 75, 76, 77, 78, 79, 80] rfl (by decide +kernel)
set_option maxRecDepth 20000 in
theorem gX11_wood_X0_wayAt : GoodIn wsX11_wood (wsV RX11 97 RX0 yX0_wayAt wsX0_wayAt) := goodIn_app (goodIn_of _ (by decide +kernel)) ggX11_wood_X0_wayAt
set_option maxRecDepth 20000 in
theorem ggX11_wood_X11_refused : GoodIn wsX11_wood wsX11_refused := goodIn_r _ [13, 14, 56, 57, 58, 59, 60, 61, 62, 63] rfl (by decide +kernel)
set_option maxRecDepth 20000 in
theorem gX11_wood_X11_refused : GoodIn wsX11_wood (wsV RX11 67 RX11 yX11_refused wsX11_refused) := goodIn_app (goodIn_of _ (by decide +kernel)) ggX11_wood_X11_refused
set_option maxRecDepth 20000 in
theorem ggX11_wood_X0_woodOf : GoodIn wsX11_wood wsX0_woodOf := goodIn_r _ [18, 19, 20, 21, 22, 23, 24, 25, 5, 26, 7, 27, 28, 29, 30, 31, 32, 12, 33, 34, 35, 36, 37, 38, 39, 40, 41, 42, 43, 44, 45, 46, 47, 48, 49, 50, 51, 81, 82, 83, 84, 85, 86, 87, 88, 89, 90, 91, 64, 65, 66, 67, 68, 69, 70, 71, 72, 73, 74, 75, 76, 77, 78, 79, 80, 92, 93, 94] rfl (by decide +kernel)
set_option maxRecDepth 20000 in
theorem gX11_wood_X0_woodOf : GoodIn wsX11_wood (wsV RX11 285 RX0 yX0_woodOf wsX0_woodOf) := goodIn_app (goodIn_of _ (by decide +kernel)) ggX11_wood_X0_woodOf
set_option maxRecDepth 20000 in
theorem ggX11_wood_X11_granted : GoodIn wsX11_wood wsX11_granted := goodIn_r _ [55, 14, 56, 57, 58, 59, 60, 61, 62, 63] rfl (by decide +kernel)
set_option maxRecDepth 20000 in
theorem gX11_wood_X11_granted : GoodIn wsX11_wood (wsV RX11 88 RX11 yX11_granted wsX11_granted) := goodIn_app (goodIn_of _ (by decide +kernel)) ggX11_wood_X11_granted
theorem dX11_wood_0 : decode cX11_wood 0 = .ok (.aload_n 0, 1) := by decide +kernel
theorem dX11_wood_1 : decode cX11_wood 1 = .ok (.getfield 45, 3) := by decide +kernel
theorem dX11_wood_4 : decode cX11_wood 4 = .ok (.iload_n 1, 1) := by decide +kernel
theorem dX11_wood_5 : decode cX11_wood 5 = .ok (.invokevirtual 97, 3) := by decide +kernel
theorem dX11_wood_8 : decode cX11_wood 8 = .ok (.astore_n 2, 1) := by decide +kernel
theorem dX11_wood_9 : decode cX11_wood 9 = .ok (.aload_n 2, 1) := by decide +kernel
theorem dX11_wood_10 : decode cX11_wood 10 = .ok (.ifnonnull 9, 3) := by decide +kernel
theorem dX11_wood_13 : decode cX11_wood 13 = .ok (.aload_n 0, 1) := by decide +kernel
theorem dX11_wood_14 : decode cX11_wood 14 = .ok (.iconst 1, 1) := by decide +kernel
theorem dX11_wood_15 : decode cX11_wood 15 = .ok (.invokevirtual 67, 3) := by decide +kernel
theorem dX11_wood_18 : decode cX11_wood 18 = .ok (.ireturn, 1) := by decide +kernel
theorem dX11_wood_19 : decode cX11_wood 19 = .ok (.aload_n 0, 1) := by decide +kernel
theorem dX11_wood_20 : decode cX11_wood 20 = .ok (.aload_n 0, 1) := by decide +kernel
theorem dX11_wood_21 : decode cX11_wood 21 = .ok (.getfield 45, 3) := by decide +kernel
theorem dX11_wood_24 : decode cX11_wood 24 = .ok (.aload_n 2, 1) := by decide +kernel
theorem dX11_wood_25 : decode cX11_wood 25 = .ok (.invokevirtual 285, 3) := by decide +kernel
theorem dX11_wood_28 : decode cX11_wood 28 = .ok (.invokevirtual 88, 3) := by decide +kernel
theorem dX11_wood_31 : decode cX11_wood 31 = .ok (.ireturn, 1) := by decide +kernel
set_option maxRecDepth 20000 in
theorem ggX11_enough_X0_wayAt : GoodIn wsX11_enough wsX0_wayAt := goodIn_r _ [7, 8, 9, 69, 70, 71, 72, 73, 74, 75, 76, 77, 78, 79, 80, 81, 82, 83, 84, 85] rfl (by decide +kernel)
set_option maxRecDepth 20000 in
theorem gX11_enough_X0_wayAt : GoodIn wsX11_enough (wsV RX11 97 RX0 yX0_wayAt wsX0_wayAt) := goodIn_app (goodIn_of _ (by decide +kernel)) ggX11_enough_X0_wayAt
set_option maxRecDepth 20000 in
theorem ggX11_enough_X11_refused : GoodIn wsX11_enough wsX11_refused := goodIn_r _ [14, 15, 61, 62, 63, 64, 65, 66, 67, 68] rfl (by decide +kernel)
set_option maxRecDepth 20000 in
theorem gX11_enough_X11_refused : GoodIn wsX11_enough (wsV RX11 67 RX11 yX11_refused wsX11_refused) := goodIn_app (goodIn_of _ (by decide +kernel)) ggX11_enough_X11_refused
set_option maxRecDepth 20000 in
theorem ggX11_enough_X0_has : GoodIn wsX11_enough wsX0_has := goodIn_r _ [19, 20, 21, 22, 6, 23, 8, 24, 13, 25, 69, 70, 71, 72, 73, 74, 75, 76, 77, 78, 79, 80, 81, 82, 83, 84, 85] rfl (by decide +kernel)
set_option maxRecDepth 20000 in
theorem gX11_enough_X0_has : GoodIn wsX11_enough (wsV RX11 174 RX0 yX0_has wsX0_has) := goodIn_app (goodIn_of _ (by decide +kernel)) ggX11_enough_X0_has
set_option maxRecDepth 20000 in
theorem ggX11_enough_X0_woodOf : GoodIn wsX11_enough wsX0_woodOf := goodIn_r _ [29, 30, 31, 32, 33, 34, 35, 36, 6, 37, 8, 38, 20, 21, 22, 23, 24, 13, 25, 39, 40, 41, 42, 43, 44, 45, 46, 47, 48, 49, 50, 51, 52, 53, 54, 55, 56, 86, 87, 88, 89, 90, 91, 92, 93, 94, 95, 96, 69, 70, 71, 72, 73, 74, 75, 76, 77, 78, 79, 80, 81, 82, 83, 84, 85, 97, 98, 99] rfl (by decide +kernel)
set_option maxRecDepth 20000 in
theorem gX11_enough_X0_woodOf : GoodIn wsX11_enough (wsV RX11 285 RX0 yX0_woodOf wsX0_woodOf) := goodIn_app (goodIn_of _ (by decide +kernel)) ggX11_enough_X0_woodOf
set_option maxRecDepth 20000 in
theorem ggX11_enough_X11_granted : GoodIn wsX11_enough wsX11_granted := goodIn_r _ [60, 15, 61, 62, 63, 64, 65, 66, 67, 68] rfl (by decide +kernel)
set_option maxRecDepth 20000 in
theorem gX11_enough_X11_granted : GoodIn wsX11_enough (wsV RX11 88 RX11 yX11_granted wsX11_granted) := goodIn_app (goodIn_of _ (by decide +kernel)) ggX11_enough_X11_granted
theorem dX11_enough_0 : decode cX11_enough 0 = .ok (.aload_n 0, 1) := by decide +kernel
theorem dX11_enough_1 : decode cX11_enough 1 = .ok (.getfield 45, 3) := by decide +kernel
theorem dX11_enough_4 : decode cX11_enough 4 = .ok (.iload_n 1, 1) := by decide +kernel
theorem dX11_enough_5 : decode cX11_enough 5 = .ok (.invokevirtual 97, 3) := by decide +kernel
theorem dX11_enough_8 : decode cX11_enough 8 = .ok (.astore_n 2, 1) := by decide +kernel
theorem dX11_enough_9 : decode cX11_enough 9 = .ok (.aload_n 2, 1) := by decide +kernel
theorem dX11_enough_10 : decode cX11_enough 10 = .ok (.ifnonnull 9, 3) := by decide +kernel
theorem dX11_enough_13 : decode cX11_enough 13 = .ok (.aload_n 0, 1) := by decide +kernel
theorem dX11_enough_14 : decode cX11_enough 14 = .ok (.iconst 1, 1) := by decide +kernel
theorem dX11_enough_15 : decode cX11_enough 15 = .ok (.invokevirtual 67, 3) := by decide +kernel
theorem dX11_enough_18 : decode cX11_enough 18 = .ok (.ireturn, 1) := by decide +kernel
theorem dX11_enough_19 : decode cX11_enough 19 = .ok (.aload_n 0, 1) := by decide +kernel
theorem dX11_enough_20 : decode cX11_enough 20 = .ok (.getfield 45, 3) := by decide +kernel
theorem dX11_enough_23 : decode cX11_enough 23 = .ok (.bipush 7, 2) := by decide +kernel
theorem dX11_enough_25 : decode cX11_enough 25 = .ok (.iconst 0, 1) := by decide +kernel
theorem dX11_enough_26 : decode cX11_enough 26 = .ok (.invokevirtual 174, 3) := by decide +kernel
theorem dX11_enough_29 : decode cX11_enough 29 = .ok (.ifCond .ne 10, 3) := by decide +kernel
theorem dX11_enough_32 : decode cX11_enough 32 = .ok (.aload_n 0, 1) := by decide +kernel
theorem dX11_enough_33 : decode cX11_enough 33 = .ok (.bipush 6, 2) := by decide +kernel
theorem dX11_enough_35 : decode cX11_enough 35 = .ok (.invokevirtual 67, 3) := by decide +kernel
theorem dX11_enough_38 : decode cX11_enough 38 = .ok (.ireturn, 1) := by decide +kernel
theorem dX11_enough_39 : decode cX11_enough 39 = .ok (.aload_n 0, 1) := by decide +kernel
theorem dX11_enough_40 : decode cX11_enough 40 = .ok (.aload_n 0, 1) := by decide +kernel
theorem dX11_enough_41 : decode cX11_enough 41 = .ok (.getfield 45, 3) := by decide +kernel
theorem dX11_enough_44 : decode cX11_enough 44 = .ok (.getfield 289, 3) := by decide +kernel
theorem dX11_enough_47 : decode cX11_enough 47 = .ok (.bipush 10, 2) := by decide +kernel
theorem dX11_enough_49 : decode cX11_enough 49 = .ok (.imul, 1) := by decide +kernel
theorem dX11_enough_50 : decode cX11_enough 50 = .ok (.aload_n 0, 1) := by decide +kernel
theorem dX11_enough_51 : decode cX11_enough 51 = .ok (.getfield 45, 3) := by decide +kernel
theorem dX11_enough_54 : decode cX11_enough 54 = .ok (.aload_n 2, 1) := by decide +kernel
theorem dX11_enough_55 : decode cX11_enough 55 = .ok (.invokevirtual 285, 3) := by decide +kernel
theorem dX11_enough_58 : decode cX11_enough 58 = .ok (.if_icmp .lt 7, 3) := by decide +kernel
theorem dX11_enough_61 : decode cX11_enough 61 = .ok (.iconst 1, 1) := by decide +kernel
theorem dX11_enough_62 : decode cX11_enough 62 = .ok (.goto 4, 3) := by decide +kernel
theorem dX11_enough_65 : decode cX11_enough 65 = .ok (.iconst 0, 1) := by decide +kernel
theorem dX11_enough_66 : decode cX11_enough 66 = .ok (.invokevirtual 88, 3) := by decide +kernel
theorem dX11_enough_69 : decode cX11_enough 69 = .ok (.ireturn, 1) := by decide +kernel
set_option maxRecDepth 20000 in
theorem ggX11_trees_X0_storyAt : GoodIn wsX11_trees wsX0_storyAt := goodIn_r _ [6, 7, 8, 46, 47, 48, 49, 50, 51, 52, 53, 54, 55, 56, 57, 58, 59, 60, 61, 62] rfl (by decide +kernel)
set_option maxRecDepth 20000 in
theorem gX11_trees_X0_storyAt : GoodIn wsX11_trees (wsV RX11 292 RX0 yX0_storyAt wsX0_storyAt) := goodIn_app (goodIn_of _ (by decide +kernel)) ggX11_trees_X0_storyAt
set_option maxRecDepth 20000 in
theorem ggX11_trees_X11_refused : GoodIn wsX11_trees wsX11_refused := goodIn_r _ [13, 14, 38, 39, 40, 41, 42, 43, 44, 45] rfl (by decide +kernel)
set_option maxRecDepth 20000 in
theorem gX11_trees_X11_refused : GoodIn wsX11_trees (wsV RX11 67 RX11 yX11_refused wsX11_refused) := goodIn_app (goodIn_of _ (by decide +kernel)) ggX11_trees_X11_refused
set_option maxRecDepth 20000 in
theorem ggX11_trees_X11_isYear : GoodIn wsX11_trees wsX11_isYear := goodIn_r _ [17] rfl (by decide +kernel)
set_option maxRecDepth 20000 in
theorem gX11_trees_X11_isYear : GoodIn wsX11_trees (va_wsS RX11 296 yX11_isYear wsX11_isYear) := goodIn_app (goodIn_of _ (by decide +kernel)) ggX11_trees_X11_isYear
set_option maxRecDepth 20000 in
theorem ggX11_trees_X0_has : GoodIn wsX11_trees wsX0_has := goodIn_r _ [21, 22, 23, 24, 5, 25, 7, 26, 12, 27, 46, 47, 48, 49, 50, 51, 52, 53, 54, 55, 56, 57, 58, 59, 60, 61, 62] rfl (by decide +kernel)
set_option maxRecDepth 20000 in
theorem gX11_trees_X0_has : GoodIn wsX11_trees (wsV RX11 174 RX0 yX0_has wsX0_has) := goodIn_app (goodIn_of _ (by decide +kernel)) ggX11_trees_X0_has
set_option maxRecDepth 20000 in
theorem ggX11_trees_X6_treesIn : GoodIn wsX11_trees wsX6_treesIn := goodIn_r _ [32, 33, 26, 12, 27, 63, 64, 65, 66, 67] rfl (by decide +kernel)
set_option maxRecDepth 20000 in
theorem gX11_trees_X6_treesIn : GoodIn wsX11_trees (wsV RX11 299 RX6 yX6_treesIn wsX6_treesIn) := goodIn_app (goodIn_of _ (by decide +kernel)) ggX11_trees_X6_treesIn
set_option maxRecDepth 20000 in
theorem ggX11_trees_X11_granted : GoodIn wsX11_trees wsX11_granted := goodIn_r _ [37, 14, 38, 39, 40, 41, 42, 43, 44, 45] rfl (by decide +kernel)
set_option maxRecDepth 20000 in
theorem gX11_trees_X11_granted : GoodIn wsX11_trees (wsV RX11 88 RX11 yX11_granted wsX11_granted) := goodIn_app (goodIn_of _ (by decide +kernel)) ggX11_trees_X11_granted
theorem dX11_trees_0 : decode cX11_trees 0 = .ok (.aload_n 0, 1) := by decide +kernel
theorem dX11_trees_1 : decode cX11_trees 1 = .ok (.getfield 45, 3) := by decide +kernel
theorem dX11_trees_4 : decode cX11_trees 4 = .ok (.iload_n 1, 1) := by decide +kernel
theorem dX11_trees_5 : decode cX11_trees 5 = .ok (.invokevirtual 292, 3) := by decide +kernel
theorem dX11_trees_8 : decode cX11_trees 8 = .ok (.astore_n 3, 1) := by decide +kernel
theorem dX11_trees_9 : decode cX11_trees 9 = .ok (.aload_n 3, 1) := by decide +kernel
theorem dX11_trees_10 : decode cX11_trees 10 = .ok (.ifnonnull 9, 3) := by decide +kernel
theorem dX11_trees_13 : decode cX11_trees 13 = .ok (.aload_n 0, 1) := by decide +kernel
theorem dX11_trees_14 : decode cX11_trees 14 = .ok (.iconst 1, 1) := by decide +kernel
theorem dX11_trees_15 : decode cX11_trees 15 = .ok (.invokevirtual 67, 3) := by decide +kernel
theorem dX11_trees_18 : decode cX11_trees 18 = .ok (.ireturn, 1) := by decide +kernel
theorem dX11_trees_19 : decode cX11_trees 19 = .ok (.iload_n 2, 1) := by decide +kernel
theorem dX11_trees_20 : decode cX11_trees 20 = .ok (.invokestatic 296, 3) := by decide +kernel
theorem dX11_trees_23 : decode cX11_trees 23 = .ok (.ifCond .ne 9, 3) := by decide +kernel
theorem dX11_trees_26 : decode cX11_trees 26 = .ok (.aload_n 0, 1) := by decide +kernel
theorem dX11_trees_27 : decode cX11_trees 27 = .ok (.iconst 2, 1) := by decide +kernel
theorem dX11_trees_28 : decode cX11_trees 28 = .ok (.invokevirtual 67, 3) := by decide +kernel
theorem dX11_trees_31 : decode cX11_trees 31 = .ok (.ireturn, 1) := by decide +kernel
theorem dX11_trees_32 : decode cX11_trees 32 = .ok (.aload_n 0, 1) := by decide +kernel
theorem dX11_trees_33 : decode cX11_trees 33 = .ok (.getfield 45, 3) := by decide +kernel
theorem dX11_trees_36 : decode cX11_trees 36 = .ok (.bipush 7, 2) := by decide +kernel
theorem dX11_trees_38 : decode cX11_trees 38 = .ok (.iconst 0, 1) := by decide +kernel
theorem dX11_trees_39 : decode cX11_trees 39 = .ok (.invokevirtual 174, 3) := by decide +kernel
theorem dX11_trees_42 : decode cX11_trees 42 = .ok (.ifCond .ne 10, 3) := by decide +kernel
theorem dX11_trees_45 : decode cX11_trees 45 = .ok (.aload_n 0, 1) := by decide +kernel
theorem dX11_trees_46 : decode cX11_trees 46 = .ok (.bipush 6, 2) := by decide +kernel
theorem dX11_trees_48 : decode cX11_trees 48 = .ok (.invokevirtual 67, 3) := by decide +kernel
theorem dX11_trees_51 : decode cX11_trees 51 = .ok (.ireturn, 1) := by decide +kernel
theorem dX11_trees_52 : decode cX11_trees 52 = .ok (.aload_n 0, 1) := by decide +kernel
theorem dX11_trees_53 : decode cX11_trees 53 = .ok (.aload_n 3, 1) := by decide +kernel
theorem dX11_trees_54 : decode cX11_trees 54 = .ok (.iload_n 2, 1) := by decide +kernel
theorem dX11_trees_55 : decode cX11_trees 55 = .ok (.invokevirtual 299, 3) := by decide +kernel
theorem dX11_trees_58 : decode cX11_trees 58 = .ok (.invokevirtual 88, 3) := by decide +kernel
theorem dX11_trees_61 : decode cX11_trees 61 = .ok (.ireturn, 1) := by decide +kernel
set_option maxRecDepth 20000 in
theorem ggX11_see_X0_isBare : GoodIn wsX11_see wsX0_isBare := goodIn_r _ [8, 9, 10, 11, 7, 12, 13, 14, 15, 16, 50, 51, 52, 53, 54, 55, 56, 57, 58, 59, 60, 61, 62, 63, 64, 65, 66] rfl (by decide +kernel)
set_option maxRecDepth 20000 in
theorem gX11_see_X0_isBare : GoodIn wsX11_see (wsV RX11 160 RX0 yX0_isBare wsX0_isBare) := goodIn_app (goodIn_of _ (by decide +kernel)) ggX11_see_X0_isBare
set_option maxRecDepth 20000 in
theorem ggX11_see_X11_refused : GoodIn wsX11_see wsX11_refused := goodIn_r _ [20, 21, 38, 39, 40, 41, 42, 43, 44, 45] rfl (by decide +kernel)
set_option maxRecDepth 20000 in
theorem gX11_see_X11_refused : GoodIn wsX11_see (wsV RX11 67 RX11 yX11_refused wsX11_refused) := goodIn_app (goodIn_of _ (by decide +kernel)) ggX11_see_X11_refused
set_option maxRecDepth 20000 in
theorem ggX11_see_X11_isYear : GoodIn wsX11_see wsX11_isYear := goodIn_r _ [24] rfl (by decide +kernel)
set_option maxRecDepth 20000 in
theorem gX11_see_X11_isYear : GoodIn wsX11_see (va_wsS RX11 296 yX11_isYear wsX11_isYear) := goodIn_app (goodIn_of _ (by decide +kernel)) ggX11_see_X11_isYear
set_option maxRecDepth 20000 in
theorem ggX11_see_X4_add : GoodIn wsX11_see wsX4_add := goodIn_r _ [29, 30, 31, 32, 33, 46, 47, 48, 49] rfl (by decide +kernel)
set_option maxRecDepth 20000 in
theorem gX11_see_X4_add : GoodIn wsX11_see (wsV RX11 304 RX4 yX4_add wsX4_add) := goodIn_app (goodIn_of _ (by decide +kernel)) ggX11_see_X4_add
set_option maxRecDepth 20000 in
theorem ggX11_see_X11_granted : GoodIn wsX11_see wsX11_granted := goodIn_r _ [37, 21, 38, 39, 40, 41, 42, 43, 44, 45] rfl (by decide +kernel)
set_option maxRecDepth 20000 in
theorem gX11_see_X11_granted : GoodIn wsX11_see (wsV RX11 88 RX11 yX11_granted wsX11_granted) := goodIn_app (goodIn_of _ (by decide +kernel)) ggX11_see_X11_granted
theorem dX11_see_0 : decode cX11_see 0 = .ok (.aload_n 0, 1) := by decide +kernel
theorem dX11_see_1 : decode cX11_see 1 = .ok (.getfield 45, 3) := by decide +kernel
theorem dX11_see_4 : decode cX11_see 4 = .ok (.invokevirtual 160, 3) := by decide +kernel
theorem dX11_see_7 : decode cX11_see 7 = .ok (.ifCond .eq 9, 3) := by decide +kernel
theorem dX11_see_10 : decode cX11_see 10 = .ok (.aload_n 0, 1) := by decide +kernel
theorem dX11_see_11 : decode cX11_see 11 = .ok (.iconst 1, 1) := by decide +kernel
theorem dX11_see_12 : decode cX11_see 12 = .ok (.invokevirtual 67, 3) := by decide +kernel
theorem dX11_see_15 : decode cX11_see 15 = .ok (.ireturn, 1) := by decide +kernel
theorem dX11_see_16 : decode cX11_see 16 = .ok (.iload_n 1, 1) := by decide +kernel
theorem dX11_see_17 : decode cX11_see 17 = .ok (.invokestatic 296, 3) := by decide +kernel
theorem dX11_see_20 : decode cX11_see 20 = .ok (.ifCond .eq 25, 3) := by decide +kernel
theorem dX11_see_23 : decode cX11_see 23 = .ok (.iload_n 2, 1) := by decide +kernel
theorem dX11_see_24 : decode cX11_see 24 = .ok (.ifCond .lt 21, 3) := by decide +kernel
theorem dX11_see_27 : decode cX11_see 27 = .ok (.iload_n 2, 1) := by decide +kernel
theorem dX11_see_28 : decode cX11_see 28 = .ok (.sipush 9999, 3) := by decide +kernel
theorem dX11_see_31 : decode cX11_see 31 = .ok (.if_icmp .gt 14, 3) := by decide +kernel
theorem dX11_see_34 : decode cX11_see 34 = .ok (.iload_n 3, 1) := by decide +kernel
theorem dX11_see_35 : decode cX11_see 35 = .ok (.ifCond .lt 10, 3) := by decide +kernel
theorem dX11_see_38 : decode cX11_see 38 = .ok (.iload_n 3, 1) := by decide +kernel
theorem dX11_see_39 : decode cX11_see 39 = .ok (.sipush 999, 3) := by decide +kernel
theorem dX11_see_42 : decode cX11_see 42 = .ok (.if_icmp .le 9, 3) := by decide +kernel
theorem dX11_see_45 : decode cX11_see 45 = .ok (.aload_n 0, 1) := by decide +kernel
theorem dX11_see_46 : decode cX11_see 46 = .ok (.iconst 2, 1) := by decide +kernel
theorem dX11_see_47 : decode cX11_see 47 = .ok (.invokevirtual 67, 3) := by decide +kernel
theorem dX11_see_50 : decode cX11_see 50 = .ok (.ireturn, 1) := by decide +kernel
theorem dX11_see_51 : decode cX11_see 51 = .ok (.aload_n 0, 1) := by decide +kernel
theorem dX11_see_52 : decode cX11_see 52 = .ok (.getfield 28, 3) := by decide +kernel
theorem dX11_see_55 : decode cX11_see 55 = .ok (.iload_n 1, 1) := by decide +kernel
theorem dX11_see_56 : decode cX11_see 56 = .ok (.iload_n 2, 1) := by decide +kernel
theorem dX11_see_57 : decode cX11_see 57 = .ok (.iload_n 3, 1) := by decide +kernel
theorem dX11_see_58 : decode cX11_see 58 = .ok (.invokevirtual 304, 3) := by decide +kernel
theorem dX11_see_61 : decode cX11_see 61 = .ok (.ifCond .ne 9, 3) := by decide +kernel
theorem dX11_see_64 : decode cX11_see 64 = .ok (.aload_n 0, 1) := by decide +kernel
theorem dX11_see_65 : decode cX11_see 65 = .ok (.iconst 3, 1) := by decide +kernel
theorem dX11_see_66 : decode cX11_see 66 = .ok (.invokevirtual 67, 3) := by decide +kernel
theorem dX11_see_69 : decode cX11_see 69 = .ok (.ireturn, 1) := by decide +kernel
theorem dX11_see_70 : decode cX11_see 70 = .ok (.aload_n 0, 1) := by decide +kernel
theorem dX11_see_71 : decode cX11_see 71 = .ok (.aload_n 0, 1) := by decide +kernel
theorem dX11_see_72 : decode cX11_see 72 = .ok (.getfield 28, 3) := by decide +kernel
theorem dX11_see_75 : decode cX11_see 75 = .ok (.getfield 308, 3) := by decide +kernel
theorem dX11_see_78 : decode cX11_see 78 = .ok (.invokevirtual 88, 3) := by decide +kernel
theorem dX11_see_81 : decode cX11_see 81 = .ok (.ireturn, 1) := by decide +kernel
set_option maxRecDepth 20000 in
theorem ggX11_forget_X4_clear : GoodIn wsX11_forget wsX4_clear := goodIn_r _ [7, 8, 17, 18, 19, 20] rfl (by decide +kernel)
set_option maxRecDepth 20000 in
theorem gX11_forget_X4_clear : GoodIn wsX11_forget (wsV RX11 84 RX4 yX4_clear wsX4_clear) := goodIn_app (goodIn_of _ (by decide +kernel)) ggX11_forget_X4_clear
theorem dX11_forget_0 : decode cX11_forget 0 = .ok (.aload_n 0, 1) := by decide +kernel
theorem dX11_forget_1 : decode cX11_forget 1 = .ok (.getfield 28, 3) := by decide +kernel
theorem dX11_forget_4 : decode cX11_forget 4 = .ok (.getfield 308, 3) := by decide +kernel
theorem dX11_forget_7 : decode cX11_forget 7 = .ok (.istore_n 1, 1) := by decide +kernel
theorem dX11_forget_8 : decode cX11_forget 8 = .ok (.aload_n 0, 1) := by decide +kernel
theorem dX11_forget_9 : decode cX11_forget 9 = .ok (.getfield 28, 3) := by decide +kernel
theorem dX11_forget_12 : decode cX11_forget 12 = .ok (.invokevirtual 84, 3) := by decide +kernel
theorem dX11_forget_15 : decode cX11_forget 15 = .ok (.iload_n 1, 1) := by decide +kernel
theorem dX11_forget_16 : decode cX11_forget 16 = .ok (.ireturn, 1) := by decide +kernel
set_option maxRecDepth 20000 in
theorem ggX11_fits_X11_landTrouble : GoodIn wsX11_fits wsX11_landTrouble := goodIn_r _ [7, 2, 8, 9, 10, 11, 12, 13, 14, 15, 16, 17, 18, 6, 19, 20, 21, 22, 23, 62, 63, 64, 65, 66, 67, 68, 69, 70, 71, 72, 73, 74, 75, 76, 77, 78, 79, 80, 81, 82, 83, 84, 85, 86] rfl (by decide +kernel)
set_option maxRecDepth 20000 in
theorem gX11_fits_X11_landTrouble : GoodIn wsX11_fits (wsV RX11 309 RX11 yX11_landTrouble wsX11_landTrouble) := goodIn_app (goodIn_of _ (by decide +kernel)) ggX11_fits_X11_landTrouble
set_option maxRecDepth 20000 in
theorem ggX11_fits_X11_refused : GoodIn wsX11_fits wsX11_refused := goodIn_r _ [27, 28, 62, 63, 64, 65, 66, 67, 68, 69] rfl (by decide +kernel)
set_option maxRecDepth 20000 in
theorem gX11_fits_X11_refused : GoodIn wsX11_fits (wsV RX11 67 RX11 yX11_refused wsX11_refused) := goodIn_app (goodIn_of _ (by decide +kernel)) ggX11_fits_X11_refused
set_option maxRecDepth 20000 in
theorem ggX11_fits_X4_agreeing : GoodIn wsX11_fits wsX4_agreeing := goodIn_r _ [33, 34, 14, 15, 11, 16, 17, 18, 6, 19, 35, 36, 37, 38, 39, 40, 41, 42, 32, 43, 44, 45, 46, 47, 48, 49, 50, 51, 52, 53, 54, 55, 56, 57, 70, 71, 72, 73, 74, 75, 76, 77, 78, 79, 80, 81, 82, 83, 84, 85, 86, 87, 88, 89, 90, 91, 92, 93, 94, 95] rfl (by decide +kernel)
set_option maxRecDepth 20000 in
theorem gX11_fits_X4_agreeing : GoodIn wsX11_fits (wsV RX11 312 RX4 yX4_agreeing wsX4_agreeing) := goodIn_app (goodIn_of _ (by decide +kernel)) ggX11_fits_X4_agreeing
set_option maxRecDepth 20000 in
theorem ggX11_fits_X11_granted : GoodIn wsX11_fits wsX11_granted := goodIn_r _ [61, 28, 62, 63, 64, 65, 66, 67, 68, 69] rfl (by decide +kernel)
set_option maxRecDepth 20000 in
theorem gX11_fits_X11_granted : GoodIn wsX11_fits (wsV RX11 88 RX11 yX11_granted wsX11_granted) := goodIn_app (goodIn_of _ (by decide +kernel)) ggX11_fits_X11_granted
theorem dX11_fits_0 : decode cX11_fits 0 = .ok (.aload_n 0, 1) := by decide +kernel
theorem dX11_fits_1 : decode cX11_fits 1 = .ok (.invokevirtual 309, 3) := by decide +kernel
theorem dX11_fits_4 : decode cX11_fits 4 = .ok (.istore_n 1, 1) := by decide +kernel
theorem dX11_fits_5 : decode cX11_fits 5 = .ok (.iload_n 1, 1) := by decide +kernel
theorem dX11_fits_6 : decode cX11_fits 6 = .ok (.ifCond .eq 11, 3) := by decide +kernel
theorem dX11_fits_9 : decode cX11_fits 9 = .ok (.aload_n 0, 1) := by decide +kernel
theorem dX11_fits_10 : decode cX11_fits 10 = .ok (.iload_n 1, 1) := by decide +kernel
theorem dX11_fits_11 : decode cX11_fits 11 = .ok (.invokevirtual 67, 3) := by decide +kernel
theorem dX11_fits_14 : decode cX11_fits 14 = .ok (.goto 18, 3) := by decide +kernel
theorem dX11_fits_17 : decode cX11_fits 17 = .ok (.aload_n 0, 1) := by decide +kernel
theorem dX11_fits_18 : decode cX11_fits 18 = .ok (.aload_n 0, 1) := by decide +kernel
theorem dX11_fits_19 : decode cX11_fits 19 = .ok (.getfield 28, 3) := by decide +kernel
theorem dX11_fits_22 : decode cX11_fits 22 = .ok (.aload_n 0, 1) := by decide +kernel
theorem dX11_fits_23 : decode cX11_fits 23 = .ok (.getfield 45, 3) := by decide +kernel
theorem dX11_fits_26 : decode cX11_fits 26 = .ok (.invokevirtual 312, 3) := by decide +kernel
theorem dX11_fits_29 : decode cX11_fits 29 = .ok (.invokevirtual 88, 3) := by decide +kernel
theorem dX11_fits_32 : decode cX11_fits 32 = .ok (.ireturn, 1) := by decide +kernel
set_option maxRecDepth 20000 in
theorem ggX11_weight_X11_landTrouble : GoodIn wsX11_weight wsX11_landTrouble := goodIn_r _ [7, 1, 8, 9, 10, 11, 12, 13, 14, 15, 16, 17, 18, 6, 19, 20, 21, 22, 23, 68, 69, 70, 71, 72, 73, 74, 75, 76, 77, 78, 79, 80, 81, 82, 83, 84, 85, 86, 87, 88, 89, 90, 91, 92] rfl (by decide +kernel)
set_option maxRecDepth 20000 in
theorem gX11_weight_X11_landTrouble : GoodIn wsX11_weight (wsV RX11 309 RX11 yX11_landTrouble wsX11_landTrouble) := goodIn_app (goodIn_of _ (by decide +kernel)) ggX11_weight_X11_landTrouble
set_option maxRecDepth 20000 in
theorem ggX11_weight_X11_refused : GoodIn wsX11_weight wsX11_refused := goodIn_r _ [27, 28, 68, 69, 70, 71, 72, 73, 74, 75] rfl (by decide +kernel)
set_option maxRecDepth 20000 in
theorem gX11_weight_X11_refused : GoodIn wsX11_weight (wsV RX11 67 RX11 yX11_refused wsX11_refused) := goodIn_app (goodIn_of _ (by decide +kernel)) ggX11_weight_X11_refused
set_option maxRecDepth 20000 in
theorem ggX11_weight_X4_agreeing : GoodIn wsX11_weight wsX4_agreeing := goodIn_r _ [33, 34, 14, 15, 11, 16, 17, 18, 6, 19, 35, 36, 37, 38, 39, 40, 41, 42, 32, 43, 44, 45, 46, 47, 48, 49, 50, 51, 52, 53, 54, 55, 56, 57, 76, 77, 78, 79, 80, 81, 82, 83, 84, 85, 86, 87, 88, 89, 90, 91, 92, 93, 94, 95, 96, 97, 98, 99, 100, 101] rfl (by decide +kernel)
set_option maxRecDepth 20000 in
theorem gX11_weight_X4_agreeing : GoodIn wsX11_weight (wsV RX11 312 RX4 yX4_agreeing wsX4_agreeing) := goodIn_app (goodIn_of _ (by decide +kernel)) ggX11_weight_X4_agreeing
set_option maxRecDepth 20000 in
theorem ggX11_weight_X0_weightOf : GoodIn wsX11_weight wsX0_weightOf := goodIn_r _ [61, 62, 13, 14, 15, 11, 16, 17, 18, 6, 19, 63, 36, 37, 38, 39, 97, 98, 99, 100, 101, 76, 77, 78, 79, 80, 81, 82, 83, 84, 85, 86, 87, 88, 89, 90, 91, 92] rfl (by decide +kernel)
set_option maxRecDepth 20000 in
theorem gX11_weight_X0_weightOf : GoodIn wsX11_weight (wsV RX11 315 RX0 yX0_weightOf wsX0_weightOf) := goodIn_app (goodIn_of _ (by decide +kernel)) ggX11_weight_X0_weightOf
set_option maxRecDepth 20000 in
theorem ggX11_weight_X11_granted : GoodIn wsX11_weight wsX11_granted := goodIn_r _ [67, 28, 68, 69, 70, 71, 72, 73, 74, 75] rfl (by decide +kernel)
set_option maxRecDepth 20000 in
theorem gX11_weight_X11_granted : GoodIn wsX11_weight (wsV RX11 88 RX11 yX11_granted wsX11_granted) := goodIn_app (goodIn_of _ (by decide +kernel)) ggX11_weight_X11_granted
theorem dX11_weight_0 : decode cX11_weight 0 = .ok (.aload_n 0, 1) := by decide +kernel
theorem dX11_weight_1 : decode cX11_weight 1 = .ok (.invokevirtual 309, 3) := by decide +kernel
theorem dX11_weight_4 : decode cX11_weight 4 = .ok (.istore_n 1, 1) := by decide +kernel
theorem dX11_weight_5 : decode cX11_weight 5 = .ok (.iload_n 1, 1) := by decide +kernel
theorem dX11_weight_6 : decode cX11_weight 6 = .ok (.ifCond .eq 11, 3) := by decide +kernel
theorem dX11_weight_9 : decode cX11_weight 9 = .ok (.aload_n 0, 1) := by decide +kernel
theorem dX11_weight_10 : decode cX11_weight 10 = .ok (.iload_n 1, 1) := by decide +kernel
theorem dX11_weight_11 : decode cX11_weight 11 = .ok (.invokevirtual 67, 3) := by decide +kernel
theorem dX11_weight_14 : decode cX11_weight 14 = .ok (.goto 25, 3) := by decide +kernel
theorem dX11_weight_17 : decode cX11_weight 17 = .ok (.aload_n 0, 1) := by decide +kernel
theorem dX11_weight_18 : decode cX11_weight 18 = .ok (.aload_n 0, 1) := by decide +kernel
theorem dX11_weight_19 : decode cX11_weight 19 = .ok (.getfield 45, 3) := by decide +kernel
theorem dX11_weight_22 : decode cX11_weight 22 = .ok (.aload_n 0, 1) := by decide +kernel
theorem dX11_weight_23 : decode cX11_weight 23 = .ok (.getfield 28, 3) := by decide +kernel
theorem dX11_weight_26 : decode cX11_weight 26 = .ok (.aload_n 0, 1) := by decide +kernel
theorem dX11_weight_27 : decode cX11_weight 27 = .ok (.getfield 45, 3) := by decide +kernel
theorem dX11_weight_30 : decode cX11_weight 30 = .ok (.invokevirtual 312, 3) := by decide +kernel
theorem dX11_weight_33 : decode cX11_weight 33 = .ok (.invokevirtual 315, 3) := by decide +kernel
theorem dX11_weight_36 : decode cX11_weight 36 = .ok (.invokevirtual 88, 3) := by decide +kernel
theorem dX11_weight_39 : decode cX11_weight 39 = .ok (.ireturn, 1) := by decide +kernel
set_option maxRecDepth 20000 in
theorem ggX11_gone_X0_storyAt : GoodIn wsX11_gone wsX0_storyAt := goodIn_r _ [6, 7, 8, 43, 44, 45, 46, 47, 48, 49, 50, 51, 52, 53, 54, 55, 56, 57, 58, 59] rfl (by decide +kernel)
set_option maxRecDepth 20000 in
theorem gX11_gone_X0_storyAt : GoodIn wsX11_gone (wsV RX11 292 RX0 yX0_storyAt wsX0_storyAt) := goodIn_app (goodIn_of _ (by decide +kernel)) ggX11_gone_X0_storyAt
set_option maxRecDepth 20000 in
theorem ggX11_gone_X11_refused : GoodIn wsX11_gone wsX11_refused := goodIn_r _ [13, 14, 35, 36, 37, 38, 39, 40, 41, 42] rfl (by decide +kernel)
set_option maxRecDepth 20000 in
theorem gX11_gone_X11_refused : GoodIn wsX11_gone (wsV RX11 67 RX11 yX11_refused wsX11_refused) := goodIn_app (goodIn_of _ (by decide +kernel)) ggX11_gone_X11_refused
set_option maxRecDepth 20000 in
theorem ggX11_gone_X0_has : GoodIn wsX11_gone wsX0_has := goodIn_r _ [18, 19, 20, 21, 5, 22, 7, 23, 12, 24, 43, 44, 45, 46, 47, 48, 49, 50, 51, 52, 53, 54, 55, 56, 57, 58, 59] rfl (by decide +kernel)
set_option maxRecDepth 20000 in
theorem gX11_gone_X0_has : GoodIn wsX11_gone (wsV RX11 174 RX0 yX0_has wsX0_has) := goodIn_app (goodIn_of _ (by decide +kernel)) ggX11_gone_X0_has
set_option maxRecDepth 20000 in
theorem ggX11_gone_X6_yearGone : GoodIn wsX11_gone wsX6_yearGone := goodIn_r _ [29, 30, 60, 61, 62, 63, 64] rfl (by decide +kernel)
set_option maxRecDepth 20000 in
theorem gX11_gone_X6_yearGone : GoodIn wsX11_gone (wsV RX11 318 RX6 yX6_yearGone wsX6_yearGone) := goodIn_app (goodIn_of _ (by decide +kernel)) ggX11_gone_X6_yearGone
set_option maxRecDepth 20000 in
theorem ggX11_gone_X11_granted : GoodIn wsX11_gone wsX11_granted := goodIn_r _ [34, 14, 35, 36, 37, 38, 39, 40, 41, 42] rfl (by decide +kernel)
set_option maxRecDepth 20000 in
theorem gX11_gone_X11_granted : GoodIn wsX11_gone (wsV RX11 88 RX11 yX11_granted wsX11_granted) := goodIn_app (goodIn_of _ (by decide +kernel)) ggX11_gone_X11_granted
theorem dX11_gone_0 : decode cX11_gone 0 = .ok (.aload_n 0, 1) := by decide +kernel
theorem dX11_gone_1 : decode cX11_gone 1 = .ok (.getfield 45, 3) := by decide +kernel
theorem dX11_gone_4 : decode cX11_gone 4 = .ok (.iload_n 1, 1) := by decide +kernel
theorem dX11_gone_5 : decode cX11_gone 5 = .ok (.invokevirtual 292, 3) := by decide +kernel
theorem dX11_gone_8 : decode cX11_gone 8 = .ok (.astore_n 2, 1) := by decide +kernel
theorem dX11_gone_9 : decode cX11_gone 9 = .ok (.aload_n 2, 1) := by decide +kernel
theorem dX11_gone_10 : decode cX11_gone 10 = .ok (.ifnonnull 9, 3) := by decide +kernel
theorem dX11_gone_13 : decode cX11_gone 13 = .ok (.aload_n 0, 1) := by decide +kernel
theorem dX11_gone_14 : decode cX11_gone 14 = .ok (.iconst 1, 1) := by decide +kernel
theorem dX11_gone_15 : decode cX11_gone 15 = .ok (.invokevirtual 67, 3) := by decide +kernel
theorem dX11_gone_18 : decode cX11_gone 18 = .ok (.ireturn, 1) := by decide +kernel
theorem dX11_gone_19 : decode cX11_gone 19 = .ok (.aload_n 0, 1) := by decide +kernel
theorem dX11_gone_20 : decode cX11_gone 20 = .ok (.getfield 45, 3) := by decide +kernel
theorem dX11_gone_23 : decode cX11_gone 23 = .ok (.bipush 7, 2) := by decide +kernel
theorem dX11_gone_25 : decode cX11_gone 25 = .ok (.iconst 0, 1) := by decide +kernel
theorem dX11_gone_26 : decode cX11_gone 26 = .ok (.invokevirtual 174, 3) := by decide +kernel
theorem dX11_gone_29 : decode cX11_gone 29 = .ok (.ifCond .ne 10, 3) := by decide +kernel
theorem dX11_gone_32 : decode cX11_gone 32 = .ok (.aload_n 0, 1) := by decide +kernel
theorem dX11_gone_33 : decode cX11_gone 33 = .ok (.bipush 6, 2) := by decide +kernel
theorem dX11_gone_35 : decode cX11_gone 35 = .ok (.invokevirtual 67, 3) := by decide +kernel
theorem dX11_gone_38 : decode cX11_gone 38 = .ok (.ireturn, 1) := by decide +kernel
theorem dX11_gone_39 : decode cX11_gone 39 = .ok (.aload_n 0, 1) := by decide +kernel
theorem dX11_gone_40 : decode cX11_gone 40 = .ok (.aload_n 2, 1) := by decide +kernel
theorem dX11_gone_41 : decode cX11_gone 41 = .ok (.invokevirtual 318, 3) := by decide +kernel
theorem dX11_gone_44 : decode cX11_gone 44 = .ok (.invokevirtual 88, 3) := by decide +kernel
theorem dX11_gone_47 : decode cX11_gone 47 = .ok (.ireturn, 1) := by decide +kernel
set_option maxRecDepth 20000 in
theorem ggX11_dig_X11_landTrouble : GoodIn wsX11_dig wsX11_landTrouble := goodIn_r _ [7, 2, 8, 9, 10, 11, 12, 13, 14, 15, 16, 17, 18, 6, 19, 20, 21, 22, 23, 78, 79, 80, 81, 82, 83, 84, 85, 86, 87, 88, 89, 90, 91, 92, 93, 94, 95, 96, 97, 98, 99, 100, 101, 102] rfl (by decide +kernel)
set_option maxRecDepth 20000 in
theorem gX11_dig_X11_landTrouble : GoodIn wsX11_dig (wsV RX11 309 RX11 yX11_landTrouble wsX11_landTrouble) := goodIn_app (goodIn_of _ (by decide +kernel)) ggX11_dig_X11_landTrouble
set_option maxRecDepth 20000 in
theorem ggX11_dig_X11_refused : GoodIn wsX11_dig wsX11_refused := goodIn_r _ [27, 28, 78, 79, 80, 81, 82, 83, 84, 85] rfl (by decide +kernel)
set_option maxRecDepth 20000 in
theorem gX11_dig_X11_refused : GoodIn wsX11_dig (wsV RX11 67 RX11 yX11_refused wsX11_refused) := goodIn_app (goodIn_of _ (by decide +kernel)) ggX11_dig_X11_refused
set_option maxRecDepth 20000 in
theorem ggX11_dig_X4_agreeing : GoodIn wsX11_dig wsX4_agreeing := goodIn_r _ [33, 34, 14, 15, 11, 16, 17, 18, 6, 19, 35, 36, 37, 38, 39, 40, 41, 42, 32, 43, 44, 45, 46, 47, 48, 49, 50, 51, 52, 53, 54, 55, 56, 57, 86, 87, 88, 89, 90, 91, 92, 93, 94, 95, 96, 97, 98, 99, 100, 101, 102, 103, 104, 105, 106, 107, 108, 109, 110, 111] rfl (by decide +kernel)
set_option maxRecDepth 20000 in
theorem gX11_dig_X4_agreeing : GoodIn wsX11_dig (wsV RX11 312 RX4 yX4_agreeing wsX4_agreeing) := goodIn_app (goodIn_of _ (by decide +kernel)) ggX11_dig_X4_agreeing
set_option maxRecDepth 20000 in
theorem ggX11_dig_X0_yearOfDispute : GoodIn wsX11_dig wsX0_yearOfDispute := goodIn_r _ [61, 62, 63, 64, 11, 65, 66, 67, 49, 68, 69, 70, 71, 13, 14, 15, 16, 17, 18, 6, 19, 72, 36, 37, 38, 39, 73, 53, 54, 55, 56, 57, 86, 87, 88, 89, 90, 91, 92, 93, 94, 95, 96, 97, 98, 99, 100, 101, 102, 107, 108, 109, 110, 111] rfl (by decide +kernel)
set_option maxRecDepth 20000 in
theorem gX11_dig_X0_yearOfDispute : GoodIn wsX11_dig (wsV RX11 321 RX0 yX0_yearOfDispute wsX0_yearOfDispute) := goodIn_app (goodIn_of _ (by decide +kernel)) ggX11_dig_X0_yearOfDispute
set_option maxRecDepth 20000 in
theorem ggX11_dig_X11_granted : GoodIn wsX11_dig wsX11_granted := goodIn_r _ [77, 28, 78, 79, 80, 81, 82, 83, 84, 85] rfl (by decide +kernel)
set_option maxRecDepth 20000 in
theorem gX11_dig_X11_granted : GoodIn wsX11_dig (wsV RX11 88 RX11 yX11_granted wsX11_granted) := goodIn_app (goodIn_of _ (by decide +kernel)) ggX11_dig_X11_granted
theorem dX11_dig_0 : decode cX11_dig 0 = .ok (.aload_n 0, 1) := by decide +kernel
theorem dX11_dig_1 : decode cX11_dig 1 = .ok (.invokevirtual 309, 3) := by decide +kernel
theorem dX11_dig_4 : decode cX11_dig 4 = .ok (.istore_n 1, 1) := by decide +kernel
theorem dX11_dig_5 : decode cX11_dig 5 = .ok (.iload_n 1, 1) := by decide +kernel
theorem dX11_dig_6 : decode cX11_dig 6 = .ok (.ifCond .eq 9, 3) := by decide +kernel
theorem dX11_dig_9 : decode cX11_dig 9 = .ok (.aload_n 0, 1) := by decide +kernel
theorem dX11_dig_10 : decode cX11_dig 10 = .ok (.iload_n 1, 1) := by decide +kernel
theorem dX11_dig_11 : decode cX11_dig 11 = .ok (.invokevirtual 67, 3) := by decide +kernel
theorem dX11_dig_14 : decode cX11_dig 14 = .ok (.ireturn, 1) := by decide +kernel
theorem dX11_dig_15 : decode cX11_dig 15 = .ok (.aload_n 0, 1) := by decide +kernel
theorem dX11_dig_16 : decode cX11_dig 16 = .ok (.getfield 28, 3) := by decide +kernel
theorem dX11_dig_19 : decode cX11_dig 19 = .ok (.aload_n 0, 1) := by decide +kernel
theorem dX11_dig_20 : decode cX11_dig 20 = .ok (.getfield 45, 3) := by decide +kernel
theorem dX11_dig_23 : decode cX11_dig 23 = .ok (.invokevirtual 312, 3) := by decide +kernel
theorem dX11_dig_26 : decode cX11_dig 26 = .ok (.istore_n 2, 1) := by decide +kernel
theorem dX11_dig_27 : decode cX11_dig 27 = .ok (.iload_n 2, 1) := by decide +kernel
theorem dX11_dig_28 : decode cX11_dig 28 = .ok (.ifCond .ne 12, 3) := by decide +kernel
theorem dX11_dig_31 : decode cX11_dig 31 = .ok (.aload_n 0, 1) := by decide +kernel
theorem dX11_dig_32 : decode cX11_dig 32 = .ok (.bipush 6, 2) := by decide +kernel
theorem dX11_dig_34 : decode cX11_dig 34 = .ok (.invokevirtual 67, 3) := by decide +kernel
theorem dX11_dig_37 : decode cX11_dig 37 = .ok (.goto 15, 3) := by decide +kernel
theorem dX11_dig_40 : decode cX11_dig 40 = .ok (.aload_n 0, 1) := by decide +kernel
theorem dX11_dig_41 : decode cX11_dig 41 = .ok (.aload_n 0, 1) := by decide +kernel
theorem dX11_dig_42 : decode cX11_dig 42 = .ok (.getfield 45, 3) := by decide +kernel
theorem dX11_dig_45 : decode cX11_dig 45 = .ok (.iload_n 2, 1) := by decide +kernel
theorem dX11_dig_46 : decode cX11_dig 46 = .ok (.invokevirtual 321, 3) := by decide +kernel
theorem dX11_dig_49 : decode cX11_dig 49 = .ok (.invokevirtual 88, 3) := by decide +kernel
theorem dX11_dig_52 : decode cX11_dig 52 = .ok (.ireturn, 1) := by decide +kernel
set_option maxRecDepth 20000 in
theorem ggX11_lived_X0_isBare : GoodIn wsX11_lived wsX0_isBare := goodIn_r _ [6, 7, 8, 9, 5, 10, 11, 12, 13, 14, 49, 50, 51, 52, 53, 54, 55, 56, 57, 58, 59, 60, 61, 62, 63, 64, 65] rfl (by decide +kernel)
set_option maxRecDepth 20000 in
theorem gX11_lived_X0_isBare : GoodIn wsX11_lived (wsV RX11 160 RX0 yX0_isBare wsX0_isBare) := goodIn_app (goodIn_of _ (by decide +kernel)) ggX11_lived_X0_isBare
set_option maxRecDepth 20000 in
theorem ggX11_lived_X11_refused : GoodIn wsX11_lived wsX11_refused := goodIn_r _ [18, 19, 41, 42, 43, 44, 45, 46, 47, 48] rfl (by decide +kernel)
set_option maxRecDepth 20000 in
theorem gX11_lived_X11_refused : GoodIn wsX11_lived (wsV RX11 67 RX11 yX11_refused wsX11_refused) := goodIn_app (goodIn_of _ (by decide +kernel)) ggX11_lived_X11_refused
set_option maxRecDepth 20000 in
theorem ggX11_lived_X0_has : GoodIn wsX11_lived wsX0_has := goodIn_r _ [23, 7, 8, 9, 5, 10, 11, 12, 13, 14, 49, 50, 51, 52, 53, 54, 55, 56, 57, 58, 59, 60, 61, 62, 63, 64, 65] rfl (by decide +kernel)
set_option maxRecDepth 20000 in
theorem gX11_lived_X0_has : GoodIn wsX11_lived (wsV RX11 174 RX0 yX0_has wsX0_has) := goodIn_app (goodIn_of _ (by decide +kernel)) ggX11_lived_X0_has
set_option maxRecDepth 20000 in
theorem ggX11_lived_X0_inhabitants : GoodIn wsX11_lived wsX0_inhabitants := goodIn_r _ [27, 28, 29, 30, 31, 32, 33, 34, 35, 36, 49, 50, 51, 52, 53, 54, 55, 56, 57, 58, 59, 60, 61, 62, 63, 64, 65] rfl (by decide +kernel)
set_option maxRecDepth 20000 in
theorem gX11_lived_X0_inhabitants : GoodIn wsX11_lived (wsV RX11 324 RX0 yX0_inhabitants wsX0_inhabitants) := goodIn_app (goodIn_of _ (by decide +kernel)) ggX11_lived_X0_inhabitants
set_option maxRecDepth 20000 in
theorem ggX11_lived_X11_granted : GoodIn wsX11_lived wsX11_granted := goodIn_r _ [40, 19, 41, 42, 43, 44, 45, 46, 47, 48] rfl (by decide +kernel)
set_option maxRecDepth 20000 in
theorem gX11_lived_X11_granted : GoodIn wsX11_lived (wsV RX11 88 RX11 yX11_granted wsX11_granted) := goodIn_app (goodIn_of _ (by decide +kernel)) ggX11_lived_X11_granted
theorem dX11_lived_0 : decode cX11_lived 0 = .ok (.aload_n 0, 1) := by decide +kernel
theorem dX11_lived_1 : decode cX11_lived 1 = .ok (.getfield 45, 3) := by decide +kernel
theorem dX11_lived_4 : decode cX11_lived 4 = .ok (.invokevirtual 160, 3) := by decide +kernel
theorem dX11_lived_7 : decode cX11_lived 7 = .ok (.ifCond .eq 9, 3) := by decide +kernel
theorem dX11_lived_10 : decode cX11_lived 10 = .ok (.aload_n 0, 1) := by decide +kernel
theorem dX11_lived_11 : decode cX11_lived 11 = .ok (.iconst 1, 1) := by decide +kernel
theorem dX11_lived_12 : decode cX11_lived 12 = .ok (.invokevirtual 67, 3) := by decide +kernel
theorem dX11_lived_15 : decode cX11_lived 15 = .ok (.ireturn, 1) := by decide +kernel
theorem dX11_lived_16 : decode cX11_lived 16 = .ok (.aload_n 0, 1) := by decide +kernel
theorem dX11_lived_17 : decode cX11_lived 17 = .ok (.getfield 45, 3) := by decide +kernel
theorem dX11_lived_20 : decode cX11_lived 20 = .ok (.bipush 8, 2) := by decide +kernel
theorem dX11_lived_22 : decode cX11_lived 22 = .ok (.iconst 0, 1) := by decide +kernel
theorem dX11_lived_23 : decode cX11_lived 23 = .ok (.invokevirtual 174, 3) := by decide +kernel
theorem dX11_lived_26 : decode cX11_lived 26 = .ok (.ifCond .eq 16, 3) := by decide +kernel
theorem dX11_lived_29 : decode cX11_lived 29 = .ok (.aload_n 0, 1) := by decide +kernel
theorem dX11_lived_30 : decode cX11_lived 30 = .ok (.getfield 45, 3) := by decide +kernel
theorem dX11_lived_33 : decode cX11_lived 33 = .ok (.bipush 9, 2) := by decide +kernel
theorem dX11_lived_35 : decode cX11_lived 35 = .ok (.iconst 0, 1) := by decide +kernel
theorem dX11_lived_36 : decode cX11_lived 36 = .ok (.invokevirtual 174, 3) := by decide +kernel
theorem dX11_lived_39 : decode cX11_lived 39 = .ok (.ifCond .ne 10, 3) := by decide +kernel
theorem dX11_lived_42 : decode cX11_lived 42 = .ok (.aload_n 0, 1) := by decide +kernel
theorem dX11_lived_43 : decode cX11_lived 43 = .ok (.bipush 6, 2) := by decide +kernel
theorem dX11_lived_45 : decode cX11_lived 45 = .ok (.invokevirtual 67, 3) := by decide +kernel
theorem dX11_lived_48 : decode cX11_lived 48 = .ok (.ireturn, 1) := by decide +kernel
theorem dX11_lived_49 : decode cX11_lived 49 = .ok (.aload_n 0, 1) := by decide +kernel
theorem dX11_lived_50 : decode cX11_lived 50 = .ok (.aload_n 0, 1) := by decide +kernel
theorem dX11_lived_51 : decode cX11_lived 51 = .ok (.getfield 45, 3) := by decide +kernel
theorem dX11_lived_54 : decode cX11_lived 54 = .ok (.iload_n 1, 1) := by decide +kernel
theorem dX11_lived_55 : decode cX11_lived 55 = .ok (.invokevirtual 324, 3) := by decide +kernel
theorem dX11_lived_58 : decode cX11_lived 58 = .ok (.invokevirtual 88, 3) := by decide +kernel
theorem dX11_lived_61 : decode cX11_lived 61 = .ok (.ireturn, 1) := by decide +kernel
set_option maxRecDepth 20000 in
theorem ggX11_led_X0_wayAt : GoodIn wsX11_led wsX0_wayAt := goodIn_r _ [8, 9, 10, 54, 55, 56, 57, 58, 59, 60, 61, 62, 63, 64, 65, 66, 67, 68, 69, 70] rfl (by decide +kernel)
set_option maxRecDepth 20000 in
theorem gX11_led_X0_wayAt : GoodIn wsX11_led (wsV RX11 97 RX0 yX0_wayAt wsX0_wayAt) := goodIn_app (goodIn_of _ (by decide +kernel)) ggX11_led_X0_wayAt
set_option maxRecDepth 20000 in
theorem ggX11_led_X0_clearlyLaid : GoodIn wsX11_led wsX0_clearlyLaid := goodIn_r _ [14, 15, 16, 17, 18, 19, 7, 20, 9, 21, 22, 23, 24, 25, 26, 27, 28, 29, 30, 31, 32, 33, 34, 35, 36, 37, 38, 39, 40, 41, 42, 43, 44, 45, 71, 72, 73, 74, 75, 76, 77, 78, 54, 55, 56, 57, 58, 59, 60, 61, 62, 63, 64, 65, 66, 67, 68, 69, 70, 79, 80, 81] rfl (by decide +kernel)
set_option maxRecDepth 20000 in
theorem gX11_led_X0_clearlyLaid : GoodIn wsX11_led (wsV RX11 328 RX0 yX0_clearlyLaid wsX0_clearlyLaid) := goodIn_app (goodIn_of _ (by decide +kernel)) ggX11_led_X0_clearlyLaid
theorem dX11_led_0 : decode cX11_led 0 = .ok (.aload_n 0, 1) := by decide +kernel
theorem dX11_led_1 : decode cX11_led 1 = .ok (.getfield 45, 3) := by decide +kernel
theorem dX11_led_4 : decode cX11_led 4 = .ok (.iload_n 1, 1) := by decide +kernel
theorem dX11_led_5 : decode cX11_led 5 = .ok (.invokevirtual 97, 3) := by decide +kernel
theorem dX11_led_8 : decode cX11_led 8 = .ok (.astore_n 3, 1) := by decide +kernel
theorem dX11_led_9 : decode cX11_led 9 = .ok (.aload_n 3, 1) := by decide +kernel
theorem dX11_led_10 : decode cX11_led 10 = .ok (.ifnonnull 7, 3) := by decide +kernel
theorem dX11_led_13 : decode cX11_led 13 = .ok (.iconst (-1), 1) := by decide +kernel
theorem dX11_led_14 : decode cX11_led 14 = .ok (.goto 12, 3) := by decide +kernel
theorem dX11_led_17 : decode cX11_led 17 = .ok (.aload_n 0, 1) := by decide +kernel
theorem dX11_led_18 : decode cX11_led 18 = .ok (.getfield 45, 3) := by decide +kernel
theorem dX11_led_21 : decode cX11_led 21 = .ok (.aload_n 3, 1) := by decide +kernel
theorem dX11_led_22 : decode cX11_led 22 = .ok (.iload_n 2, 1) := by decide +kernel
theorem dX11_led_23 : decode cX11_led 23 = .ok (.invokevirtual 328, 3) := by decide +kernel
theorem dX11_led_26 : decode cX11_led 26 = .ok (.istore 4, 2) := by decide +kernel
theorem dX11_led_28 : decode cX11_led 28 = .ok (.iload 4, 2) := by decide +kernel
theorem dX11_led_30 : decode cX11_led 30 = .ok (.iconst (-1), 1) := by decide +kernel
theorem dX11_led_31 : decode cX11_led 31 = .ok (.if_icmp .ne 11, 3) := by decide +kernel
theorem dX11_led_34 : decode cX11_led 34 = .ok (.new 332, 3) := by decide +kernel
theorem dX11_led_37 : decode cX11_led 37 = .ok (.dup, 1) := by decide +kernel
theorem dX11_led_38 : decode cX11_led 38 = .ok (.invokespecial 334, 3) := by decide +kernel
theorem dX11_led_41 : decode cX11_led 41 = .ok (.athrow, 1) := by decide +kernel
theorem dX11_led_42 : decode cX11_led 42 = .ok (.iload 4, 2) := by decide +kernel
theorem dX11_led_44 : decode cX11_led 44 = .ok (.ireturn, 1) := by decide +kernel
set_option maxRecDepth 20000 in
theorem ggX11_size_X0_count : GoodIn wsX11_size wsX0_count := goodIn_r _ [13, 14, 15, 16, 17, 48, 49, 50, 51, 52, 53, 54, 55, 56, 57, 58, 59, 60, 61, 62, 63, 64] rfl (by decide +kernel)
set_option maxRecDepth 20000 in
theorem gX11_size_X0_count : GoodIn wsX11_size (wsV RX11 85 RX0 yX0_count wsX0_count) := goodIn_app (goodIn_of _ (by decide +kernel)) ggX11_size_X0_count
theorem dX11_size_0 : decode cX11_size 0 = .ok (.iload_n 1, 1) := by decide +kernel
theorem dX11_size_1 : decode cX11_size 1 = .ok (.tableswitch 100 0 10 #[59, 59, 59, 59, 59, 59, 59, 68, 76, 84, 92], 59) := by decide +kernel
theorem dX11_size_60 : decode cX11_size 60 = .ok (.aload_n 0, 1) := by decide +kernel
theorem dX11_size_61 : decode cX11_size 61 = .ok (.getfield 45, 3) := by decide +kernel
theorem dX11_size_64 : decode cX11_size 64 = .ok (.iload_n 1, 1) := by decide +kernel
theorem dX11_size_65 : decode cX11_size 65 = .ok (.invokevirtual 85, 3) := by decide +kernel
theorem dX11_size_68 : decode cX11_size 68 = .ok (.ireturn, 1) := by decide +kernel
theorem dX11_size_69 : decode cX11_size 69 = .ok (.aload_n 0, 1) := by decide +kernel
theorem dX11_size_70 : decode cX11_size 70 = .ok (.getfield 28, 3) := by decide +kernel
theorem dX11_size_73 : decode cX11_size 73 = .ok (.getfield 308, 3) := by decide +kernel
theorem dX11_size_76 : decode cX11_size 76 = .ok (.ireturn, 1) := by decide +kernel
theorem dX11_size_77 : decode cX11_size 77 = .ok (.aload_n 0, 1) := by decide +kernel
theorem dX11_size_78 : decode cX11_size 78 = .ok (.getfield 35, 3) := by decide +kernel
theorem dX11_size_81 : decode cX11_size 81 = .ok (.getfield 168, 3) := by decide +kernel
theorem dX11_size_84 : decode cX11_size 84 = .ok (.ireturn, 1) := by decide +kernel
theorem dX11_size_85 : decode cX11_size 85 = .ok (.aload_n 0, 1) := by decide +kernel
theorem dX11_size_86 : decode cX11_size 86 = .ok (.getfield 10, 3) := by decide +kernel
theorem dX11_size_89 : decode cX11_size 89 = .ok (.getfield 64, 3) := by decide +kernel
theorem dX11_size_92 : decode cX11_size 92 = .ok (.ireturn, 1) := by decide +kernel
theorem dX11_size_93 : decode cX11_size 93 = .ok (.aload_n 0, 1) := by decide +kernel
theorem dX11_size_94 : decode cX11_size 94 = .ok (.getfield 45, 3) := by decide +kernel
theorem dX11_size_97 : decode cX11_size 97 = .ok (.getfield 335, 3) := by decide +kernel
theorem dX11_size_100 : decode cX11_size 100 = .ok (.ireturn, 1) := by decide +kernel
theorem dX11_size_101 : decode cX11_size 101 = .ok (.iconst (-1), 1) := by decide +kernel
theorem dX11_size_102 : decode cX11_size 102 = .ok (.ireturn, 1) := by decide +kernel
set_option maxRecDepth 20000 in
theorem ggX11_statue_X0_statueAt : GoodIn wsX11_statue wsX0_statueAt := goodIn_r _ [6, 7, 8, 29, 30, 31, 32, 33, 34, 35, 36, 37, 38, 39, 40, 41, 42, 43, 44, 45] rfl (by decide +kernel)
set_option maxRecDepth 20000 in
theorem gX11_statue_X0_statueAt : GoodIn wsX11_statue (wsV RX11 101 RX0 yX0_statueAt wsX0_statueAt) := goodIn_app (goodIn_of _ (by decide +kernel)) ggX11_statue_X0_statueAt
set_option maxRecDepth 20000 in
theorem ggX11_statue_X5_report : GoodIn wsX11_statue wsX5_report := goodIn_r _ [13, 14, 15, 16, 17, 18, 19, 20, 46, 47, 48, 49, 50, 51, 52, 53] rfl (by decide +kernel)
set_option maxRecDepth 20000 in
theorem gX11_statue_X5_report : GoodIn wsX11_statue (wsV RX11 338 RX5 yX5_report wsX5_report) := goodIn_app (goodIn_of _ (by decide +kernel)) ggX11_statue_X5_report
theorem dX11_statue_0 : decode cX11_statue 0 = .ok (.aload_n 0, 1) := by decide +kernel
theorem dX11_statue_1 : decode cX11_statue 1 = .ok (.getfield 45, 3) := by decide +kernel
theorem dX11_statue_4 : decode cX11_statue 4 = .ok (.iload_n 1, 1) := by decide +kernel
theorem dX11_statue_5 : decode cX11_statue 5 = .ok (.invokevirtual 101, 3) := by decide +kernel
theorem dX11_statue_8 : decode cX11_statue 8 = .ok (.astore_n 3, 1) := by decide +kernel
theorem dX11_statue_9 : decode cX11_statue 9 = .ok (.aload_n 3, 1) := by decide +kernel
theorem dX11_statue_10 : decode cX11_statue 10 = .ok (.ifnonnull 7, 3) := by decide +kernel
theorem dX11_statue_13 : decode cX11_statue 13 = .ok (.iconst (-1), 1) := by decide +kernel
theorem dX11_statue_14 : decode cX11_statue 14 = .ok (.goto 8, 3) := by decide +kernel
theorem dX11_statue_17 : decode cX11_statue 17 = .ok (.aload_n 3, 1) := by decide +kernel
theorem dX11_statue_18 : decode cX11_statue 18 = .ok (.iload_n 2, 1) := by decide +kernel
theorem dX11_statue_19 : decode cX11_statue 19 = .ok (.invokevirtual 338, 3) := by decide +kernel
theorem dX11_statue_22 : decode cX11_statue 22 = .ok (.ireturn, 1) := by decide +kernel
theorem dX11_trouble_0 : decode cX11_trouble 0 = .ok (.aload_n 0, 1) := by decide +kernel
theorem dX11_trouble_1 : decode cX11_trouble 1 = .ok (.getfield 52, 3) := by decide +kernel
theorem dX11_trouble_4 : decode cX11_trouble 4 = .ok (.ireturn, 1) := by decide +kernel
theorem dX12_init_0 : decode cX12_init 0 = .ok (.aload_n 0, 1) := by decide +kernel
theorem dX12_init_1 : decode cX12_init 1 = .ok (.invokespecial 3, 3) := by decide +kernel
theorem dX12_init_4 : decode cX12_init 4 = .ok (.aload_n 0, 1) := by decide +kernel
theorem dX12_init_5 : decode cX12_init 5 = .ok (.iconst 4, 1) := by decide +kernel
theorem dX12_init_6 : decode cX12_init 6 = .ok (.newarray .int, 2) := by decide +kernel
theorem dX12_init_8 : decode cX12_init 8 = .ok (.putfield 9, 3) := by decide +kernel
theorem dX12_init_11 : decode cX12_init 11 = .ok (.aload_n 0, 1) := by decide +kernel
theorem dX12_init_12 : decode cX12_init 12 = .ok (.iconst 4, 1) := by decide +kernel
theorem dX12_init_13 : decode cX12_init 13 = .ok (.newarray .int, 2) := by decide +kernel
theorem dX12_init_15 : decode cX12_init 15 = .ok (.putfield 15, 3) := by decide +kernel
theorem dX12_init_18 : decode cX12_init 18 = .ok (.aload_n 0, 1) := by decide +kernel
theorem dX12_init_19 : decode cX12_init 19 = .ok (.iconst 4, 1) := by decide +kernel
theorem dX12_init_20 : decode cX12_init 20 = .ok (.newarray .int, 2) := by decide +kernel
theorem dX12_init_22 : decode cX12_init 22 = .ok (.putfield 18, 3) := by decide +kernel
theorem dX12_init_25 : decode cX12_init 25 = .ok (.aload_n 0, 1) := by decide +kernel
theorem dX12_init_26 : decode cX12_init 26 = .ok (.iconst 3, 1) := by decide +kernel
theorem dX12_init_27 : decode cX12_init 27 = .ok (.newarray .int, 2) := by decide +kernel
theorem dX12_init_29 : decode cX12_init 29 = .ok (.putfield 21, 3) := by decide +kernel
theorem dX12_init_32 : decode cX12_init 32 = .ok (.aload_n 0, 1) := by decide +kernel
theorem dX12_init_33 : decode cX12_init 33 = .ok (.iconst 3, 1) := by decide +kernel
theorem dX12_init_34 : decode cX12_init 34 = .ok (.newarray .int, 2) := by decide +kernel
theorem dX12_init_36 : decode cX12_init 36 = .ok (.putfield 24, 3) := by decide +kernel
theorem dX12_init_39 : decode cX12_init 39 = .ok (.aload_n 0, 1) := by decide +kernel
theorem dX12_init_40 : decode cX12_init 40 = .ok (.bipush 18, 2) := by decide +kernel
theorem dX12_init_42 : decode cX12_init 42 = .ok (.newarray .int, 2) := by decide +kernel
theorem dX12_init_44 : decode cX12_init 44 = .ok (.putfield 27, 3) := by decide +kernel
theorem dX12_init_47 : decode cX12_init 47 = .ok (.aload_n 0, 1) := by decide +kernel
theorem dX12_init_48 : decode cX12_init 48 = .ok (.bipush 10, 2) := by decide +kernel
theorem dX12_init_50 : decode cX12_init 50 = .ok (.newarray .int, 2) := by decide +kernel
theorem dX12_init_52 : decode cX12_init 52 = .ok (.putfield 30, 3) := by decide +kernel
theorem dX12_init_55 : decode cX12_init 55 = .ok (.aload_n 0, 1) := by decide +kernel
theorem dX12_init_56 : decode cX12_init 56 = .ok (.bipush 10, 2) := by decide +kernel
theorem dX12_init_58 : decode cX12_init 58 = .ok (.newarray .int, 2) := by decide +kernel
theorem dX12_init_60 : decode cX12_init 60 = .ok (.putfield 33, 3) := by decide +kernel
theorem dX12_init_63 : decode cX12_init 63 = .ok (.aload_n 0, 1) := by decide +kernel
theorem dX12_init_64 : decode cX12_init 64 = .ok (.bipush 10, 2) := by decide +kernel
theorem dX12_init_66 : decode cX12_init 66 = .ok (.newarray .int, 2) := by decide +kernel
theorem dX12_init_68 : decode cX12_init 68 = .ok (.putfield 36, 3) := by decide +kernel
theorem dX12_init_71 : decode cX12_init 71 = .ok (.aload_n 0, 1) := by decide +kernel
theorem dX12_init_72 : decode cX12_init 72 = .ok (.bipush 10, 2) := by decide +kernel
theorem dX12_init_74 : decode cX12_init 74 = .ok (.newarray .int, 2) := by decide +kernel
theorem dX12_init_76 : decode cX12_init 76 = .ok (.putfield 39, 3) := by decide +kernel
theorem dX12_init_79 : decode cX12_init 79 = .ok (.aload_n 0, 1) := by decide +kernel
theorem dX12_init_80 : decode cX12_init 80 = .ok (.bipush 10, 2) := by decide +kernel
theorem dX12_init_82 : decode cX12_init 82 = .ok (.newarray .int, 2) := by decide +kernel
theorem dX12_init_84 : decode cX12_init 84 = .ok (.putfield 42, 3) := by decide +kernel
theorem dX12_init_87 : decode cX12_init 87 = .ok (.aload_n 0, 1) := by decide +kernel
theorem dX12_init_88 : decode cX12_init 88 = .ok (.bipush 10, 2) := by decide +kernel
theorem dX12_init_90 : decode cX12_init 90 = .ok (.newarray .int, 2) := by decide +kernel
theorem dX12_init_92 : decode cX12_init 92 = .ok (.putfield 45, 3) := by decide +kernel
theorem dX12_init_95 : decode cX12_init 95 = .ok (.aload_n 0, 1) := by decide +kernel
theorem dX12_init_96 : decode cX12_init 96 = .ok (.bipush 10, 2) := by decide +kernel
theorem dX12_init_98 : decode cX12_init 98 = .ok (.newarray .int, 2) := by decide +kernel
theorem dX12_init_100 : decode cX12_init 100 = .ok (.putfield 48, 3) := by decide +kernel
theorem dX12_init_103 : decode cX12_init 103 = .ok (.aload_n 0, 1) := by decide +kernel
theorem dX12_init_104 : decode cX12_init 104 = .ok (.iconst 5, 1) := by decide +kernel
theorem dX12_init_105 : decode cX12_init 105 = .ok (.newarray .int, 2) := by decide +kernel
theorem dX12_init_107 : decode cX12_init 107 = .ok (.putfield 51, 3) := by decide +kernel
theorem dX12_init_110 : decode cX12_init 110 = .ok (.aload_n 0, 1) := by decide +kernel
theorem dX12_init_111 : decode cX12_init 111 = .ok (.iconst 5, 1) := by decide +kernel
theorem dX12_init_112 : decode cX12_init 112 = .ok (.newarray .int, 2) := by decide +kernel
theorem dX12_init_114 : decode cX12_init 114 = .ok (.putfield 54, 3) := by decide +kernel
theorem dX12_init_117 : decode cX12_init 117 = .ok (.aload_n 0, 1) := by decide +kernel
theorem dX12_init_118 : decode cX12_init 118 = .ok (.iconst 5, 1) := by decide +kernel
theorem dX12_init_119 : decode cX12_init 119 = .ok (.newarray .int, 2) := by decide +kernel
theorem dX12_init_121 : decode cX12_init 121 = .ok (.putfield 57, 3) := by decide +kernel
theorem dX12_init_124 : decode cX12_init 124 = .ok (.aload_n 0, 1) := by decide +kernel
theorem dX12_init_125 : decode cX12_init 125 = .ok (.iconst 5, 1) := by decide +kernel
theorem dX12_init_126 : decode cX12_init 126 = .ok (.newarray .int, 2) := by decide +kernel
theorem dX12_init_128 : decode cX12_init 128 = .ok (.putfield 60, 3) := by decide +kernel
theorem dX12_init_131 : decode cX12_init 131 = .ok (.aload_n 0, 1) := by decide +kernel
theorem dX12_init_132 : decode cX12_init 132 = .ok (.iconst 5, 1) := by decide +kernel
theorem dX12_init_133 : decode cX12_init 133 = .ok (.newarray .int, 2) := by decide +kernel
theorem dX12_init_135 : decode cX12_init 135 = .ok (.putfield 63, 3) := by decide +kernel
theorem dX12_init_138 : decode cX12_init 138 = .ok (.aload_n 0, 1) := by decide +kernel
theorem dX12_init_139 : decode cX12_init 139 = .ok (.iconst (-1), 1) := by decide +kernel
theorem dX12_init_140 : decode cX12_init 140 = .ok (.putfield 66, 3) := by decide +kernel
theorem dX12_init_143 : decode cX12_init 143 = .ok (.aload_n 0, 1) := by decide +kernel
theorem dX12_init_144 : decode cX12_init 144 = .ok (.iconst (-1), 1) := by decide +kernel
theorem dX12_init_145 : decode cX12_init 145 = .ok (.putfield 70, 3) := by decide +kernel
theorem dX12_init_148 : decode cX12_init 148 = .ok (.aload_n 0, 1) := by decide +kernel
theorem dX12_init_149 : decode cX12_init 149 = .ok (.iconst (-1), 1) := by decide +kernel
theorem dX12_init_150 : decode cX12_init 150 = .ok (.putfield 73, 3) := by decide +kernel
theorem dX12_init_153 : decode cX12_init 153 = .ok (.aload_n 0, 1) := by decide +kernel
theorem dX12_init_154 : decode cX12_init 154 = .ok (.iconst 5, 1) := by decide +kernel
theorem dX12_init_155 : decode cX12_init 155 = .ok (.newarray .int, 2) := by decide +kernel
theorem dX12_init_157 : decode cX12_init 157 = .ok (.putfield 76, 3) := by decide +kernel
theorem dX12_init_160 : decode cX12_init 160 = .ok (.aload_n 0, 1) := by decide +kernel
theorem dX12_init_161 : decode cX12_init 161 = .ok (.iconst 5, 1) := by decide +kernel
theorem dX12_init_162 : decode cX12_init 162 = .ok (.newarray .int, 2) := by decide +kernel
theorem dX12_init_164 : decode cX12_init 164 = .ok (.putfield 79, 3) := by decide +kernel
theorem dX12_init_167 : decode cX12_init 167 = .ok (.aload_n 0, 1) := by decide +kernel
theorem dX12_init_168 : decode cX12_init 168 = .ok (.iconst 5, 1) := by decide +kernel
theorem dX12_init_169 : decode cX12_init 169 = .ok (.newarray .int, 2) := by decide +kernel
theorem dX12_init_171 : decode cX12_init 171 = .ok (.putfield 82, 3) := by decide +kernel
theorem dX12_init_174 : decode cX12_init 174 = .ok (.aload_n 0, 1) := by decide +kernel
theorem dX12_init_175 : decode cX12_init 175 = .ok (.iconst 5, 1) := by decide +kernel
theorem dX12_init_176 : decode cX12_init 176 = .ok (.newarray .int, 2) := by decide +kernel
theorem dX12_init_178 : decode cX12_init 178 = .ok (.putfield 85, 3) := by decide +kernel
theorem dX12_init_181 : decode cX12_init 181 = .ok (.aload_n 0, 1) := by decide +kernel
theorem dX12_init_182 : decode cX12_init 182 = .ok (.iconst 3, 1) := by decide +kernel
theorem dX12_init_183 : decode cX12_init 183 = .ok (.newarray .int, 2) := by decide +kernel
theorem dX12_init_185 : decode cX12_init 185 = .ok (.putfield 88, 3) := by decide +kernel
theorem dX12_init_188 : decode cX12_init 188 = .ok (.aload_n 0, 1) := by decide +kernel
theorem dX12_init_189 : decode cX12_init 189 = .ok (.iconst 5, 1) := by decide +kernel
theorem dX12_init_190 : decode cX12_init 190 = .ok (.newarray .int, 2) := by decide +kernel
theorem dX12_init_192 : decode cX12_init 192 = .ok (.putfield 91, 3) := by decide +kernel
theorem dX12_init_195 : decode cX12_init 195 = .ok (.aload_n 0, 1) := by decide +kernel
theorem dX12_init_196 : decode cX12_init 196 = .ok (.iconst 5, 1) := by decide +kernel
theorem dX12_init_197 : decode cX12_init 197 = .ok (.newarray .int, 2) := by decide +kernel
theorem dX12_init_199 : decode cX12_init 199 = .ok (.putfield 94, 3) := by decide +kernel
theorem dX12_init_202 : decode cX12_init 202 = .ok (.aload_n 0, 1) := by decide +kernel
theorem dX12_init_203 : decode cX12_init 203 = .ok (.iconst 5, 1) := by decide +kernel
theorem dX12_init_204 : decode cX12_init 204 = .ok (.newarray .int, 2) := by decide +kernel
theorem dX12_init_206 : decode cX12_init 206 = .ok (.putfield 97, 3) := by decide +kernel
theorem dX12_init_209 : decode cX12_init 209 = .ok (.aload_n 0, 1) := by decide +kernel
theorem dX12_init_210 : decode cX12_init 210 = .ok (.iconst 5, 1) := by decide +kernel
theorem dX12_init_211 : decode cX12_init 211 = .ok (.newarray .int, 2) := by decide +kernel
theorem dX12_init_213 : decode cX12_init 213 = .ok (.putfield 100, 3) := by decide +kernel
theorem dX12_init_216 : decode cX12_init 216 = .ok (.aload_n 0, 1) := by decide +kernel
theorem dX12_init_217 : decode cX12_init 217 = .ok (.iconst 3, 1) := by decide +kernel
theorem dX12_init_218 : decode cX12_init 218 = .ok (.newarray .boolean, 2) := by decide +kernel
theorem dX12_init_220 : decode cX12_init 220 = .ok (.putfield 103, 3) := by decide +kernel
theorem dX12_init_223 : decode cX12_init 223 = .ok (.aload_n 0, 1) := by decide +kernel
theorem dX12_init_224 : decode cX12_init 224 = .ok (.bipush 35, 2) := by decide +kernel
theorem dX12_init_226 : decode cX12_init 226 = .ok (.newarray .long, 2) := by decide +kernel
theorem dX12_init_228 : decode cX12_init 228 = .ok (.putfield 107, 3) := by decide +kernel
theorem dX12_init_231 : decode cX12_init 231 = .ok (.aload_n 0, 1) := by decide +kernel
theorem dX12_init_232 : decode cX12_init 232 = .ok (.bipush 35, 2) := by decide +kernel
theorem dX12_init_234 : decode cX12_init 234 = .ok (.newarray .int, 2) := by decide +kernel
theorem dX12_init_236 : decode cX12_init 236 = .ok (.putfield 111, 3) := by decide +kernel
theorem dX12_init_239 : decode cX12_init 239 = .ok (.aload_n 0, 1) := by decide +kernel
theorem dX12_init_240 : decode cX12_init 240 = .ok (.bipush 35, 2) := by decide +kernel
theorem dX12_init_242 : decode cX12_init 242 = .ok (.newarray .int, 2) := by decide +kernel
theorem dX12_init_244 : decode cX12_init 244 = .ok (.putfield 114, 3) := by decide +kernel
theorem dX12_init_247 : decode cX12_init 247 = .ok (.return_, 1) := by decide +kernel
theorem dX12_find_0 : decode cX12_find 0 = .ok (.iconst 0, 1) := by decide +kernel
theorem dX12_find_1 : decode cX12_find 1 = .ok (.istore_n 3, 1) := by decide +kernel
theorem dX12_find_2 : decode cX12_find 2 = .ok (.iload_n 3, 1) := by decide +kernel
theorem dX12_find_3 : decode cX12_find 3 = .ok (.aload_n 0, 1) := by decide +kernel
theorem dX12_find_4 : decode cX12_find 4 = .ok (.getfield 117, 3) := by decide +kernel
theorem dX12_find_7 : decode cX12_find 7 = .ok (.if_icmp .ge 22, 3) := by decide +kernel
theorem dX12_find_10 : decode cX12_find 10 = .ok (.aload_n 0, 1) := by decide +kernel
theorem dX12_find_11 : decode cX12_find 11 = .ok (.getfield 107, 3) := by decide +kernel
theorem dX12_find_14 : decode cX12_find 14 = .ok (.iload_n 3, 1) := by decide +kernel
theorem dX12_find_15 : decode cX12_find 15 = .ok (.laload, 1) := by decide +kernel
theorem dX12_find_16 : decode cX12_find 16 = .ok (.lload_n 1, 1) := by decide +kernel
theorem dX12_find_17 : decode cX12_find 17 = .ok (.lcmp, 1) := by decide +kernel
theorem dX12_find_18 : decode cX12_find 18 = .ok (.ifCond .ne 5, 3) := by decide +kernel
theorem dX12_find_21 : decode cX12_find 21 = .ok (.iload_n 3, 1) := by decide +kernel
theorem dX12_find_22 : decode cX12_find 22 = .ok (.ireturn, 1) := by decide +kernel
theorem dX12_find_23 : decode cX12_find 23 = .ok (.iinc 3 1, 3) := by decide +kernel
theorem dX12_find_26 : decode cX12_find 26 = .ok (.goto (-24), 3) := by decide +kernel
theorem dX12_find_29 : decode cX12_find 29 = .ok (.iconst (-1), 1) := by decide +kernel
theorem dX12_find_30 : decode cX12_find 30 = .ok (.ireturn, 1) := by decide +kernel
theorem dX12_slopeAt_0 : decode cX12_slopeAt 0 = .ok (.aload_n 0, 1) := by decide +kernel
theorem dX12_slopeAt_1 : decode cX12_slopeAt 1 = .ok (.getfield 27, 3) := by decide +kernel
theorem dX12_slopeAt_4 : decode cX12_slopeAt 4 = .ok (.bipush 6, 2) := by decide +kernel
theorem dX12_slopeAt_6 : decode cX12_slopeAt 6 = .ok (.iload_n 1, 1) := by decide +kernel
theorem dX12_slopeAt_7 : decode cX12_slopeAt 7 = .ok (.imul, 1) := by decide +kernel
theorem dX12_slopeAt_8 : decode cX12_slopeAt 8 = .ok (.iload_n 2, 1) := by decide +kernel
theorem dX12_slopeAt_9 : decode cX12_slopeAt 9 = .ok (.iadd, 1) := by decide +kernel
theorem dX12_slopeAt_10 : decode cX12_slopeAt 10 = .ok (.iaload, 1) := by decide +kernel
theorem dX12_slopeAt_11 : decode cX12_slopeAt 11 = .ok (.ireturn, 1) := by decide +kernel
theorem dX13_init_0 : decode cX13_init 0 = .ok (.aload_n 0, 1) := by decide +kernel
theorem dX13_init_1 : decode cX13_init 1 = .ok (.invokespecial 1, 3) := by decide +kernel
theorem dX13_init_4 : decode cX13_init 4 = .ok (.aload_n 0, 1) := by decide +kernel
theorem dX13_init_5 : decode cX13_init 5 = .ok (.iconst (-1), 1) := by decide +kernel
theorem dX13_init_6 : decode cX13_init 6 = .ok (.putfield 9, 3) := by decide +kernel
theorem dX13_init_9 : decode cX13_init 9 = .ok (.aload_n 0, 1) := by decide +kernel
theorem dX13_init_10 : decode cX13_init 10 = .ok (.sipush 900, 3) := by decide +kernel
theorem dX13_init_13 : decode cX13_init 13 = .ok (.newarray .byte, 2) := by decide +kernel
theorem dX13_init_15 : decode cX13_init 15 = .ok (.putfield 13, 3) := by decide +kernel
theorem dX13_init_18 : decode cX13_init 18 = .ok (.aload_n 0, 1) := by decide +kernel
theorem dX13_init_19 : decode cX13_init 19 = .ok (.iconst (-1), 1) := by decide +kernel
theorem dX13_init_20 : decode cX13_init 20 = .ok (.putfield 17, 3) := by decide +kernel
theorem dX13_init_23 : decode cX13_init 23 = .ok (.aload_n 0, 1) := by decide +kernel
theorem dX13_init_24 : decode cX13_init 24 = .ok (.bipush 12, 2) := by decide +kernel
theorem dX13_init_26 : decode cX13_init 26 = .ok (.newarray .int, 2) := by decide +kernel
theorem dX13_init_28 : decode cX13_init 28 = .ok (.putfield 20, 3) := by decide +kernel
theorem dX13_init_31 : decode cX13_init 31 = .ok (.aload_n 0, 1) := by decide +kernel
theorem dX13_init_32 : decode cX13_init 32 = .ok (.bipush 12, 2) := by decide +kernel
theorem dX13_init_34 : decode cX13_init 34 = .ok (.newarray .int, 2) := by decide +kernel
theorem dX13_init_36 : decode cX13_init 36 = .ok (.putfield 24, 3) := by decide +kernel
theorem dX13_init_39 : decode cX13_init 39 = .ok (.aload_n 0, 1) := by decide +kernel
theorem dX13_init_40 : decode cX13_init 40 = .ok (.bipush 12, 2) := by decide +kernel
theorem dX13_init_42 : decode cX13_init 42 = .ok (.newarray .int, 2) := by decide +kernel
theorem dX13_init_44 : decode cX13_init 44 = .ok (.putfield 27, 3) := by decide +kernel
theorem dX13_init_47 : decode cX13_init 47 = .ok (.return_, 1) := by decide +kernel
theorem dX13_thrown_0 : decode cX13_thrown 0 = .ok (.aload_n 0, 1) := by decide +kernel
theorem dX13_thrown_1 : decode cX13_thrown 1 = .ok (.getfield 30, 3) := by decide +kernel
theorem dX13_thrown_4 : decode cX13_thrown 4 = .ok (.ireturn, 1) := by decide +kernel
theorem dX13_refused_0 : decode cX13_refused 0 = .ok (.aload_n 0, 1) := by decide +kernel
theorem dX13_refused_1 : decode cX13_refused 1 = .ok (.iload_n 1, 1) := by decide +kernel
theorem dX13_refused_2 : decode cX13_refused 2 = .ok (.putfield 33, 3) := by decide +kernel
theorem dX13_refused_5 : decode cX13_refused 5 = .ok (.aload_n 0, 1) := by decide +kernel
theorem dX13_refused_6 : decode cX13_refused 6 = .ok (.iconst (-1), 1) := by decide +kernel
theorem dX13_refused_7 : decode cX13_refused 7 = .ok (.putfield 9, 3) := by decide +kernel
theorem dX13_refused_10 : decode cX13_refused 10 = .ok (.iconst (-1), 1) := by decide +kernel
theorem dX13_refused_11 : decode cX13_refused 11 = .ok (.ireturn, 1) := by decide +kernel
set_option maxRecDepth 20000 in
theorem ggX13_lost_X13_refused : GoodIn wsX13_lost wsX13_refused := goodIn_r _ [5, 6, 7, 8, 9, 10, 11, 12, 13, 14, 15, 16, 17, 18, 19, 20, 21, 22, 23, 24, 25, 26, 27, 28, 29, 30, 31, 32, 33, 34, 35, 36] rfl (by decide +kernel)
set_option maxRecDepth 20000 in
theorem gX13_lost_X13_refused : GoodIn wsX13_lost (wsV RX13 36 RX13 yX13_refused wsX13_refused) := goodIn_app (goodIn_of _ (by decide +kernel)) ggX13_lost_X13_refused
theorem dX13_lost_0 : decode cX13_lost 0 = .ok (.aload_n 0, 1) := by decide +kernel
theorem dX13_lost_1 : decode cX13_lost 1 = .ok (.iload_n 1, 1) := by decide +kernel
theorem dX13_lost_2 : decode cX13_lost 2 = .ok (.invokevirtual 36, 3) := by decide +kernel
theorem dX13_lost_5 : decode cX13_lost 5 = .ok (.pop, 1) := by decide +kernel
theorem dX13_lost_6 : decode cX13_lost 6 = .ok (.sipush (-1000), 3) := by decide +kernel
theorem dX13_lost_9 : decode cX13_lost 9 = .ok (.ireturn, 1) := by decide +kernel
set_option maxRecDepth 20000 in
theorem ggX13_denied_X13_refused : GoodIn wsX13_denied wsX13_refused := goodIn_r _ [5, 6, 7, 8, 9, 10, 11, 12, 13, 14, 15, 16, 17, 18, 19, 20, 21, 22, 23, 24, 25, 26, 27, 28, 29, 30, 31, 32, 33, 34, 35, 36] rfl (by decide +kernel)
set_option maxRecDepth 20000 in
theorem gX13_denied_X13_refused : GoodIn wsX13_denied (wsV RX13 36 RX13 yX13_refused wsX13_refused) := goodIn_app (goodIn_of _ (by decide +kernel)) ggX13_denied_X13_refused
theorem dX13_denied_0 : decode cX13_denied 0 = .ok (.aload_n 0, 1) := by decide +kernel
theorem dX13_denied_1 : decode cX13_denied 1 = .ok (.iload_n 1, 1) := by decide +kernel
theorem dX13_denied_2 : decode cX13_denied 2 = .ok (.invokevirtual 36, 3) := by decide +kernel
theorem dX13_denied_5 : decode cX13_denied 5 = .ok (.pop, 1) := by decide +kernel
theorem dX13_denied_6 : decode cX13_denied 6 = .ok (.iconst 0, 1) := by decide +kernel
theorem dX13_denied_7 : decode cX13_denied 7 = .ok (.ireturn, 1) := by decide +kernel
theorem dX13_done_0 : decode cX13_done 0 = .ok (.aload_n 0, 1) := by decide +kernel
theorem dX13_done_1 : decode cX13_done 1 = .ok (.iconst 0, 1) := by decide +kernel
theorem dX13_done_2 : decode cX13_done 2 = .ok (.putfield 33, 3) := by decide +kernel
theorem dX13_done_5 : decode cX13_done 5 = .ok (.aload_n 0, 1) := by decide +kernel
theorem dX13_done_6 : decode cX13_done 6 = .ok (.iconst (-1), 1) := by decide +kernel
theorem dX13_done_7 : decode cX13_done 7 = .ok (.putfield 9, 3) := by decide +kernel
theorem dX13_done_10 : decode cX13_done 10 = .ok (.iload_n 1, 1) := by decide +kernel
theorem dX13_done_11 : decode cX13_done 11 = .ok (.ireturn, 1) := by decide +kernel
set_option maxRecDepth 20000 in
theorem ggX13_granted_X13_done : GoodIn wsX13_granted wsX13_done := goodIn_r _ [5, 6, 7, 8, 9, 10, 11, 12, 13, 14, 15, 16, 17, 18, 19, 20, 21, 22, 23, 24, 25, 26, 27, 28, 29, 30, 31, 32, 33, 34, 35, 36] rfl (by decide +kernel)
set_option maxRecDepth 20000 in
theorem gX13_granted_X13_done : GoodIn wsX13_granted (wsV RX13 40 RX13 yX13_done wsX13_done) := goodIn_app (goodIn_of _ (by decide +kernel)) ggX13_granted_X13_done
theorem dX13_granted_0 : decode cX13_granted 0 = .ok (.aload_n 0, 1) := by decide +kernel
theorem dX13_granted_1 : decode cX13_granted 1 = .ok (.iconst 0, 1) := by decide +kernel
theorem dX13_granted_2 : decode cX13_granted 2 = .ok (.invokevirtual 40, 3) := by decide +kernel
theorem dX13_granted_5 : decode cX13_granted 5 = .ok (.pop, 1) := by decide +kernel
theorem dX13_granted_6 : decode cX13_granted 6 = .ok (.iconst 1, 1) := by decide +kernel
theorem dX13_granted_7 : decode cX13_granted 7 = .ok (.ireturn, 1) := by decide +kernel
theorem dX13_in_0 : decode cX13_in 0 = .ok (.iload_n 0, 1) := by decide +kernel
theorem dX13_in_1 : decode cX13_in 1 = .ok (.iload_n 1, 1) := by decide +kernel
theorem dX13_in_2 : decode cX13_in 2 = .ok (.if_icmp .lt 12, 3) := by decide +kernel
theorem dX13_in_5 : decode cX13_in 5 = .ok (.iload_n 0, 1) := by decide +kernel
theorem dX13_in_6 : decode cX13_in 6 = .ok (.iload_n 2, 1) := by decide +kernel
theorem dX13_in_7 : decode cX13_in 7 = .ok (.if_icmp .gt 7, 3) := by decide +kernel
theorem dX13_in_10 : decode cX13_in 10 = .ok (.iconst 1, 1) := by decide +kernel
theorem dX13_in_11 : decode cX13_in 11 = .ok (.goto 4, 3) := by decide +kernel
theorem dX13_in_14 : decode cX13_in 14 = .ok (.iconst 0, 1) := by decide +kernel
theorem dX13_in_15 : decode cX13_in 15 = .ok (.ireturn, 1) := by decide +kernel
theorem dX13_up_0 : decode cX13_up 0 = .ok (.iload_n 0, 1) := by decide +kernel
theorem dX13_up_1 : decode cX13_up 1 = .ok (.iload_n 1, 1) := by decide +kernel
theorem dX13_up_2 : decode cX13_up 2 = .ok (.iadd, 1) := by decide +kernel
theorem dX13_up_3 : decode cX13_up 3 = .ok (.iconst 1, 1) := by decide +kernel
theorem dX13_up_4 : decode cX13_up 4 = .ok (.isub, 1) := by decide +kernel
theorem dX13_up_5 : decode cX13_up 5 = .ok (.iload_n 1, 1) := by decide +kernel
theorem dX13_up_6 : decode cX13_up 6 = .ok (.idiv, 1) := by decide +kernel
theorem dX13_up_7 : decode cX13_up 7 = .ok (.ireturn, 1) := by decide +kernel
theorem dX13_byteAt_0 : decode cX13_byteAt 0 = .ok (.iload_n 1, 1) := by decide +kernel
theorem dX13_byteAt_1 : decode cX13_byteAt 1 = .ok (.aload_n 0, 1) := by decide +kernel
theorem dX13_byteAt_2 : decode cX13_byteAt 2 = .ok (.getfield 43, 3) := by decide +kernel
theorem dX13_byteAt_5 : decode cX13_byteAt 5 = .ok (.if_icmp .ge 16, 3) := by decide +kernel
theorem dX13_byteAt_8 : decode cX13_byteAt 8 = .ok (.aload_n 0, 1) := by decide +kernel
theorem dX13_byteAt_9 : decode cX13_byteAt 9 = .ok (.getfield 13, 3) := by decide +kernel
theorem dX13_byteAt_12 : decode cX13_byteAt 12 = .ok (.iload_n 1, 1) := by decide +kernel
theorem dX13_byteAt_13 : decode cX13_byteAt 13 = .ok (.baload, 1) := by decide +kernel
theorem dX13_byteAt_14 : decode cX13_byteAt 14 = .ok (.sipush 255, 3) := by decide +kernel
theorem dX13_byteAt_17 : decode cX13_byteAt 17 = .ok (.iand, 1) := by decide +kernel
theorem dX13_byteAt_18 : decode cX13_byteAt 18 = .ok (.goto 4, 3) := by decide +kernel
theorem dX13_byteAt_21 : decode cX13_byteAt 21 = .ok (.iconst (-1), 1) := by decide +kernel
theorem dX13_byteAt_22 : decode cX13_byteAt 22 = .ok (.ireturn, 1) := by decide +kernel
theorem dX13_isLetter_0 : decode cX13_isLetter 0 = .ok (.iload_n 0, 1) := by decide +kernel
theorem dX13_isLetter_1 : decode cX13_isLetter 1 = .ok (.bipush 97, 2) := by decide +kernel
theorem dX13_isLetter_3 : decode cX13_isLetter 3 = .ok (.if_icmp .lt 13, 3) := by decide +kernel
theorem dX13_isLetter_6 : decode cX13_isLetter 6 = .ok (.iload_n 0, 1) := by decide +kernel
theorem dX13_isLetter_7 : decode cX13_isLetter 7 = .ok (.bipush 122, 2) := by decide +kernel
theorem dX13_isLetter_9 : decode cX13_isLetter 9 = .ok (.if_icmp .gt 7, 3) := by decide +kernel
theorem dX13_isLetter_12 : decode cX13_isLetter 12 = .ok (.iconst 1, 1) := by decide +kernel
theorem dX13_isLetter_13 : decode cX13_isLetter 13 = .ok (.goto 4, 3) := by decide +kernel
theorem dX13_isLetter_16 : decode cX13_isLetter 16 = .ok (.iconst 0, 1) := by decide +kernel
theorem dX13_isLetter_17 : decode cX13_isLetter 17 = .ok (.ireturn, 1) := by decide +kernel
theorem dX13_isDigit_0 : decode cX13_isDigit 0 = .ok (.iload_n 0, 1) := by decide +kernel
theorem dX13_isDigit_1 : decode cX13_isDigit 1 = .ok (.bipush 48, 2) := by decide +kernel
theorem dX13_isDigit_3 : decode cX13_isDigit 3 = .ok (.if_icmp .lt 13, 3) := by decide +kernel
theorem dX13_isDigit_6 : decode cX13_isDigit 6 = .ok (.iload_n 0, 1) := by decide +kernel
theorem dX13_isDigit_7 : decode cX13_isDigit 7 = .ok (.bipush 57, 2) := by decide +kernel
theorem dX13_isDigit_9 : decode cX13_isDigit 9 = .ok (.if_icmp .gt 7, 3) := by decide +kernel
theorem dX13_isDigit_12 : decode cX13_isDigit 12 = .ok (.iconst 1, 1) := by decide +kernel
theorem dX13_isDigit_13 : decode cX13_isDigit 13 = .ok (.goto 4, 3) := by decide +kernel
theorem dX13_isDigit_16 : decode cX13_isDigit 16 = .ok (.iconst 0, 1) := by decide +kernel
theorem dX13_isDigit_17 : decode cX13_isDigit 17 = .ok (.ireturn, 1) := by decide +kernel
set_option maxRecDepth 20000 in
theorem ggX13_wordOf_J0_length_8abf5 : GoodIn wsX13_wordOf wsJ0_length_8abf5 := goodIn_r _ [6, 7, 8, 9, 10, 5, 11, 12, 13] rfl (by decide +kernel)
set_option maxRecDepth 20000 in
theorem gX13_wordOf_J0_length_8abf5 : GoodIn wsX13_wordOf (wsV RX13 46 RJ0 yJ0_length_8abf5 wsJ0_length_8abf5) := goodIn_app (goodIn_of _ (by decide +kernel)) ggX13_wordOf_J0_length_8abf5
set_option maxRecDepth 20000 in
theorem ggX13_wordOf_J0_charAt_5068e : GoodIn wsX13_wordOf wsJ0_charAt_5068e := goodIn_r _ [17, 7, 18, 19, 20, 5, 21, 12, 13, 22, 23, 24, 25, 26, 27, 28, 29, 30, 31, 32, 33, 34, 35, 36, 37, 38, 39, 40, 41, 42, 43, 44, 45, 46, 47, 48, 49, 50] rfl (by decide +kernel)
set_option maxRecDepth 20000 in
theorem gX13_wordOf_J0_charAt_5068e : GoodIn wsX13_wordOf (wsV RX13 54 RJ0 yJ0_charAt_5068e wsJ0_charAt_5068e) := goodIn_app (goodIn_of _ (by decide +kernel)) ggX13_wordOf_J0_charAt_5068e
theorem dX13_wordOf_0 : decode cX13_wordOf 0 = .ok (.lconst 0, 1) := by decide +kernel
theorem dX13_wordOf_1 : decode cX13_wordOf 1 = .ok (.lstore_n 1, 1) := by decide +kernel
theorem dX13_wordOf_2 : decode cX13_wordOf 2 = .ok (.iconst 0, 1) := by decide +kernel
theorem dX13_wordOf_3 : decode cX13_wordOf 3 = .ok (.istore_n 3, 1) := by decide +kernel
theorem dX13_wordOf_4 : decode cX13_wordOf 4 = .ok (.iload_n 3, 1) := by decide +kernel
theorem dX13_wordOf_5 : decode cX13_wordOf 5 = .ok (.aload_n 0, 1) := by decide +kernel
theorem dX13_wordOf_6 : decode cX13_wordOf 6 = .ok (.invokevirtual 46, 3) := by decide +kernel
theorem dX13_wordOf_9 : decode cX13_wordOf 9 = .ok (.if_icmp .ge 27, 3) := by decide +kernel
theorem dX13_wordOf_12 : decode cX13_wordOf 12 = .ok (.ldc2_w 52, 3) := by decide +kernel
theorem dX13_wordOf_15 : decode cX13_wordOf 15 = .ok (.lload_n 1, 1) := by decide +kernel
theorem dX13_wordOf_16 : decode cX13_wordOf 16 = .ok (.lmul, 1) := by decide +kernel
theorem dX13_wordOf_17 : decode cX13_wordOf 17 = .ok (.aload_n 0, 1) := by decide +kernel
theorem dX13_wordOf_18 : decode cX13_wordOf 18 = .ok (.iload_n 3, 1) := by decide +kernel
theorem dX13_wordOf_19 : decode cX13_wordOf 19 = .ok (.invokevirtual 54, 3) := by decide +kernel
theorem dX13_wordOf_22 : decode cX13_wordOf 22 = .ok (.bipush 97, 2) := by decide +kernel
theorem dX13_wordOf_24 : decode cX13_wordOf 24 = .ok (.isub, 1) := by decide +kernel
theorem dX13_wordOf_25 : decode cX13_wordOf 25 = .ok (.iconst 1, 1) := by decide +kernel
theorem dX13_wordOf_26 : decode cX13_wordOf 26 = .ok (.iadd, 1) := by decide +kernel
theorem dX13_wordOf_27 : decode cX13_wordOf 27 = .ok (.i2l, 1) := by decide +kernel
theorem dX13_wordOf_28 : decode cX13_wordOf 28 = .ok (.ladd, 1) := by decide +kernel
theorem dX13_wordOf_29 : decode cX13_wordOf 29 = .ok (.lstore_n 1, 1) := by decide +kernel
theorem dX13_wordOf_30 : decode cX13_wordOf 30 = .ok (.iinc 3 1, 3) := by decide +kernel
theorem dX13_wordOf_33 : decode cX13_wordOf 33 = .ok (.goto (-29), 3) := by decide +kernel
theorem dX13_wordOf_36 : decode cX13_wordOf 36 = .ok (.lload_n 1, 1) := by decide +kernel
theorem dX13_wordOf_37 : decode cX13_wordOf 37 = .ok (.lreturn, 1) := by decide +kernel
set_option maxRecDepth 20000 in
theorem ggX13_goesOn_X13_byteAt : GoodIn wsX13_goesOn wsX13_byteAt := goodIn_r _ [12, 13, 14, 21, 22, 23, 24, 25, 26, 27, 28, 29, 30, 31, 32, 33, 34, 35, 36, 37, 38, 39, 40, 41, 42, 43, 44, 45, 46, 47, 48, 49] rfl (by decide +kernel)
set_option maxRecDepth 20000 in
theorem gX13_goesOn_X13_byteAt : GoodIn wsX13_goesOn (wsV RX13 64 RX13 yX13_byteAt wsX13_byteAt) := goodIn_app (goodIn_of _ (by decide +kernel)) ggX13_goesOn_X13_byteAt
set_option maxRecDepth 20000 in
theorem ggX13_goesOn_X13_isLetter : GoodIn wsX13_goesOn wsX13_isLetter := goodIn_r _ [17] rfl (by decide +kernel)
set_option maxRecDepth 20000 in
theorem gX13_goesOn_X13_isLetter : GoodIn wsX13_goesOn (va_wsS RX13 73 yX13_isLetter wsX13_isLetter) := goodIn_app (goodIn_of _ (by decide +kernel)) ggX13_goesOn_X13_isLetter
set_option maxRecDepth 20000 in
theorem ggX13_goesOn_X13_isDigit : GoodIn wsX13_goesOn wsX13_isDigit := goodIn_r _ [20] rfl (by decide +kernel)
set_option maxRecDepth 20000 in
theorem gX13_goesOn_X13_isDigit : GoodIn wsX13_goesOn (va_wsS RX13 81 yX13_isDigit wsX13_isDigit) := goodIn_app (goodIn_of _ (by decide +kernel)) ggX13_goesOn_X13_isDigit
theorem dX13_goesOn_0 : decode cX13_goesOn 0 = .ok (.aload_n 0, 1) := by decide +kernel
theorem dX13_goesOn_1 : decode cX13_goesOn 1 = .ok (.getfield 58, 3) := by decide +kernel
theorem dX13_goesOn_4 : decode cX13_goesOn 4 = .ok (.iconst 5, 1) := by decide +kernel
theorem dX13_goesOn_5 : decode cX13_goesOn 5 = .ok (.if_icmp .ne 4, 3) := by decide +kernel
theorem dX13_goesOn_8 : decode cX13_goesOn 8 = .ok (.return_, 1) := by decide +kernel
theorem dX13_goesOn_9 : decode cX13_goesOn 9 = .ok (.aload_n 0, 1) := by decide +kernel
theorem dX13_goesOn_10 : decode cX13_goesOn 10 = .ok (.aload_n 0, 1) := by decide +kernel
theorem dX13_goesOn_11 : decode cX13_goesOn 11 = .ok (.getfield 61, 3) := by decide +kernel
theorem dX13_goesOn_14 : decode cX13_goesOn 14 = .ok (.invokevirtual 64, 3) := by decide +kernel
theorem dX13_goesOn_17 : decode cX13_goesOn 17 = .ok (.bipush 32, 2) := by decide +kernel
theorem dX13_goesOn_19 : decode cX13_goesOn 19 = .ok (.if_icmp .ne 16, 3) := by decide +kernel
theorem dX13_goesOn_22 : decode cX13_goesOn 22 = .ok (.aload_n 0, 1) := by decide +kernel
theorem dX13_goesOn_23 : decode cX13_goesOn 23 = .ok (.dup, 1) := by decide +kernel
theorem dX13_goesOn_24 : decode cX13_goesOn 24 = .ok (.getfield 61, 3) := by decide +kernel
theorem dX13_goesOn_27 : decode cX13_goesOn 27 = .ok (.iconst 1, 1) := by decide +kernel
theorem dX13_goesOn_28 : decode cX13_goesOn 28 = .ok (.iadd, 1) := by decide +kernel
theorem dX13_goesOn_29 : decode cX13_goesOn 29 = .ok (.putfield 61, 3) := by decide +kernel
theorem dX13_goesOn_32 : decode cX13_goesOn 32 = .ok (.goto (-23), 3) := by decide +kernel
theorem dX13_goesOn_35 : decode cX13_goesOn 35 = .ok (.aload_n 0, 1) := by decide +kernel
theorem dX13_goesOn_36 : decode cX13_goesOn 36 = .ok (.aload_n 0, 1) := by decide +kernel
theorem dX13_goesOn_37 : decode cX13_goesOn 37 = .ok (.getfield 61, 3) := by decide +kernel
theorem dX13_goesOn_40 : decode cX13_goesOn 40 = .ok (.putfield 67, 3) := by decide +kernel
theorem dX13_goesOn_43 : decode cX13_goesOn 43 = .ok (.aload_n 0, 1) := by decide +kernel
theorem dX13_goesOn_44 : decode cX13_goesOn 44 = .ok (.iconst 0, 1) := by decide +kernel
theorem dX13_goesOn_45 : decode cX13_goesOn 45 = .ok (.putfield 58, 3) := by decide +kernel
theorem dX13_goesOn_48 : decode cX13_goesOn 48 = .ok (.aload_n 0, 1) := by decide +kernel
theorem dX13_goesOn_49 : decode cX13_goesOn 49 = .ok (.iconst 0, 1) := by decide +kernel
theorem dX13_goesOn_50 : decode cX13_goesOn 50 = .ok (.putfield 70, 3) := by decide +kernel
theorem dX13_goesOn_53 : decode cX13_goesOn 53 = .ok (.aload_n 0, 1) := by decide +kernel
theorem dX13_goesOn_54 : decode cX13_goesOn 54 = .ok (.aload_n 0, 1) := by decide +kernel
theorem dX13_goesOn_55 : decode cX13_goesOn 55 = .ok (.getfield 61, 3) := by decide +kernel
theorem dX13_goesOn_58 : decode cX13_goesOn 58 = .ok (.invokevirtual 64, 3) := by decide +kernel
theorem dX13_goesOn_61 : decode cX13_goesOn 61 = .ok (.istore_n 1, 1) := by decide +kernel
theorem dX13_goesOn_62 : decode cX13_goesOn 62 = .ok (.iconst 0, 1) := by decide +kernel
theorem dX13_goesOn_63 : decode cX13_goesOn 63 = .ok (.istore_n 2, 1) := by decide +kernel
theorem dX13_goesOn_64 : decode cX13_goesOn 64 = .ok (.iload_n 1, 1) := by decide +kernel
theorem dX13_goesOn_65 : decode cX13_goesOn 65 = .ok (.iconst (-1), 1) := by decide +kernel
theorem dX13_goesOn_66 : decode cX13_goesOn 66 = .ok (.if_icmp .ne 11, 3) := by decide +kernel
theorem dX13_goesOn_69 : decode cX13_goesOn 69 = .ok (.aload_n 0, 1) := by decide +kernel
theorem dX13_goesOn_70 : decode cX13_goesOn 70 = .ok (.iconst 1, 1) := by decide +kernel
theorem dX13_goesOn_71 : decode cX13_goesOn 71 = .ok (.putfield 58, 3) := by decide +kernel
theorem dX13_goesOn_74 : decode cX13_goesOn 74 = .ok (.goto 207, 3) := by decide +kernel
theorem dX13_goesOn_77 : decode cX13_goesOn 77 = .ok (.iload_n 1, 1) := by decide +kernel
theorem dX13_goesOn_78 : decode cX13_goesOn 78 = .ok (.invokestatic 73, 3) := by decide +kernel
theorem dX13_goesOn_81 : decode cX13_goesOn 81 = .ok (.ifCond .eq 85, 3) := by decide +kernel
theorem dX13_goesOn_84 : decode cX13_goesOn 84 = .ok (.aload_n 0, 1) := by decide +kernel
theorem dX13_goesOn_85 : decode cX13_goesOn 85 = .ok (.lconst 0, 1) := by decide +kernel
theorem dX13_goesOn_86 : decode cX13_goesOn 86 = .ok (.putfield 77, 3) := by decide +kernel
theorem dX13_goesOn_89 : decode cX13_goesOn 89 = .ok (.aload_n 0, 1) := by decide +kernel
theorem dX13_goesOn_90 : decode cX13_goesOn 90 = .ok (.aload_n 0, 1) := by decide +kernel
theorem dX13_goesOn_91 : decode cX13_goesOn 91 = .ok (.getfield 61, 3) := by decide +kernel
theorem dX13_goesOn_94 : decode cX13_goesOn 94 = .ok (.invokevirtual 64, 3) := by decide +kernel
theorem dX13_goesOn_97 : decode cX13_goesOn 97 = .ok (.invokestatic 73, 3) := by decide +kernel
theorem dX13_goesOn_100 : decode cX13_goesOn 100 = .ok (.ifCond .eq 52, 3) := by decide +kernel
theorem dX13_goesOn_103 : decode cX13_goesOn 103 = .ok (.iload_n 2, 1) := by decide +kernel
theorem dX13_goesOn_104 : decode cX13_goesOn 104 = .ok (.bipush 8, 2) := by decide +kernel
theorem dX13_goesOn_106 : decode cX13_goesOn 106 = .ok (.if_icmp .ge 30, 3) := by decide +kernel
theorem dX13_goesOn_109 : decode cX13_goesOn 109 = .ok (.aload_n 0, 1) := by decide +kernel
theorem dX13_goesOn_110 : decode cX13_goesOn 110 = .ok (.ldc2_w 52, 3) := by decide +kernel
theorem dX13_goesOn_113 : decode cX13_goesOn 113 = .ok (.aload_n 0, 1) := by decide +kernel
theorem dX13_goesOn_114 : decode cX13_goesOn 114 = .ok (.getfield 77, 3) := by decide +kernel
theorem dX13_goesOn_117 : decode cX13_goesOn 117 = .ok (.lmul, 1) := by decide +kernel
theorem dX13_goesOn_118 : decode cX13_goesOn 118 = .ok (.aload_n 0, 1) := by decide +kernel
theorem dX13_goesOn_119 : decode cX13_goesOn 119 = .ok (.aload_n 0, 1) := by decide +kernel
theorem dX13_goesOn_120 : decode cX13_goesOn 120 = .ok (.getfield 61, 3) := by decide +kernel
theorem dX13_goesOn_123 : decode cX13_goesOn 123 = .ok (.invokevirtual 64, 3) := by decide +kernel
theorem dX13_goesOn_126 : decode cX13_goesOn 126 = .ok (.bipush 97, 2) := by decide +kernel
theorem dX13_goesOn_128 : decode cX13_goesOn 128 = .ok (.isub, 1) := by decide +kernel
theorem dX13_goesOn_129 : decode cX13_goesOn 129 = .ok (.iconst 1, 1) := by decide +kernel
theorem dX13_goesOn_130 : decode cX13_goesOn 130 = .ok (.iadd, 1) := by decide +kernel
theorem dX13_goesOn_131 : decode cX13_goesOn 131 = .ok (.i2l, 1) := by decide +kernel
theorem dX13_goesOn_132 : decode cX13_goesOn 132 = .ok (.ladd, 1) := by decide +kernel
theorem dX13_goesOn_133 : decode cX13_goesOn 133 = .ok (.putfield 77, 3) := by decide +kernel
theorem dX13_goesOn_136 : decode cX13_goesOn 136 = .ok (.iinc 2 1, 3) := by decide +kernel
theorem dX13_goesOn_139 : decode cX13_goesOn 139 = .ok (.aload_n 0, 1) := by decide +kernel
theorem dX13_goesOn_140 : decode cX13_goesOn 140 = .ok (.dup, 1) := by decide +kernel
theorem dX13_goesOn_141 : decode cX13_goesOn 141 = .ok (.getfield 61, 3) := by decide +kernel
theorem dX13_goesOn_144 : decode cX13_goesOn 144 = .ok (.iconst 1, 1) := by decide +kernel
theorem dX13_goesOn_145 : decode cX13_goesOn 145 = .ok (.iadd, 1) := by decide +kernel
theorem dX13_goesOn_146 : decode cX13_goesOn 146 = .ok (.putfield 61, 3) := by decide +kernel
theorem dX13_goesOn_149 : decode cX13_goesOn 149 = .ok (.goto (-60), 3) := by decide +kernel
theorem dX13_goesOn_152 : decode cX13_goesOn 152 = .ok (.iload_n 2, 1) := by decide +kernel
theorem dX13_goesOn_153 : decode cX13_goesOn 153 = .ok (.bipush 8, 2) := by decide +kernel
theorem dX13_goesOn_155 : decode cX13_goesOn 155 = .ok (.if_icmp .gt 126, 3) := by decide +kernel
theorem dX13_goesOn_158 : decode cX13_goesOn 158 = .ok (.aload_n 0, 1) := by decide +kernel
theorem dX13_goesOn_159 : decode cX13_goesOn 159 = .ok (.iconst 2, 1) := by decide +kernel
theorem dX13_goesOn_160 : decode cX13_goesOn 160 = .ok (.putfield 58, 3) := by decide +kernel
theorem dX13_goesOn_163 : decode cX13_goesOn 163 = .ok (.goto 118, 3) := by decide +kernel
theorem dX13_goesOn_166 : decode cX13_goesOn 166 = .ok (.iload_n 1, 1) := by decide +kernel
theorem dX13_goesOn_167 : decode cX13_goesOn 167 = .ok (.invokestatic 81, 3) := by decide +kernel
theorem dX13_goesOn_170 : decode cX13_goesOn 170 = .ok (.ifCond .eq 79, 3) := by decide +kernel
theorem dX13_goesOn_173 : decode cX13_goesOn 173 = .ok (.aload_n 0, 1) := by decide +kernel
theorem dX13_goesOn_174 : decode cX13_goesOn 174 = .ok (.iconst 0, 1) := by decide +kernel
theorem dX13_goesOn_175 : decode cX13_goesOn 175 = .ok (.putfield 84, 3) := by decide +kernel
theorem dX13_goesOn_178 : decode cX13_goesOn 178 = .ok (.aload_n 0, 1) := by decide +kernel
theorem dX13_goesOn_179 : decode cX13_goesOn 179 = .ok (.aload_n 0, 1) := by decide +kernel
theorem dX13_goesOn_180 : decode cX13_goesOn 180 = .ok (.getfield 61, 3) := by decide +kernel
theorem dX13_goesOn_183 : decode cX13_goesOn 183 = .ok (.invokevirtual 64, 3) := by decide +kernel
theorem dX13_goesOn_186 : decode cX13_goesOn 186 = .ok (.invokestatic 81, 3) := by decide +kernel
theorem dX13_goesOn_189 : decode cX13_goesOn 189 = .ok (.ifCond .eq 47, 3) := by decide +kernel
theorem dX13_goesOn_192 : decode cX13_goesOn 192 = .ok (.iload_n 2, 1) := by decide +kernel
theorem dX13_goesOn_193 : decode cX13_goesOn 193 = .ok (.iconst 3, 1) := by decide +kernel
theorem dX13_goesOn_194 : decode cX13_goesOn 194 = .ok (.if_icmp .ge 26, 3) := by decide +kernel
theorem dX13_goesOn_197 : decode cX13_goesOn 197 = .ok (.aload_n 0, 1) := by decide +kernel
theorem dX13_goesOn_198 : decode cX13_goesOn 198 = .ok (.bipush 10, 2) := by decide +kernel
theorem dX13_goesOn_200 : decode cX13_goesOn 200 = .ok (.aload_n 0, 1) := by decide +kernel
theorem dX13_goesOn_201 : decode cX13_goesOn 201 = .ok (.getfield 84, 3) := by decide +kernel
theorem dX13_goesOn_204 : decode cX13_goesOn 204 = .ok (.imul, 1) := by decide +kernel
theorem dX13_goesOn_205 : decode cX13_goesOn 205 = .ok (.aload_n 0, 1) := by decide +kernel
theorem dX13_goesOn_206 : decode cX13_goesOn 206 = .ok (.aload_n 0, 1) := by decide +kernel
theorem dX13_goesOn_207 : decode cX13_goesOn 207 = .ok (.getfield 61, 3) := by decide +kernel
theorem dX13_goesOn_210 : decode cX13_goesOn 210 = .ok (.invokevirtual 64, 3) := by decide +kernel
theorem dX13_goesOn_213 : decode cX13_goesOn 213 = .ok (.iadd, 1) := by decide +kernel
theorem dX13_goesOn_214 : decode cX13_goesOn 214 = .ok (.bipush 48, 2) := by decide +kernel
theorem dX13_goesOn_216 : decode cX13_goesOn 216 = .ok (.isub, 1) := by decide +kernel
theorem dX13_goesOn_217 : decode cX13_goesOn 217 = .ok (.putfield 84, 3) := by decide +kernel
theorem dX13_goesOn_220 : decode cX13_goesOn 220 = .ok (.iinc 2 1, 3) := by decide +kernel
theorem dX13_goesOn_223 : decode cX13_goesOn 223 = .ok (.aload_n 0, 1) := by decide +kernel
theorem dX13_goesOn_224 : decode cX13_goesOn 224 = .ok (.dup, 1) := by decide +kernel
theorem dX13_goesOn_225 : decode cX13_goesOn 225 = .ok (.getfield 61, 3) := by decide +kernel
theorem dX13_goesOn_228 : decode cX13_goesOn 228 = .ok (.iconst 1, 1) := by decide +kernel
theorem dX13_goesOn_229 : decode cX13_goesOn 229 = .ok (.iadd, 1) := by decide +kernel
theorem dX13_goesOn_230 : decode cX13_goesOn 230 = .ok (.putfield 61, 3) := by decide +kernel
theorem dX13_goesOn_233 : decode cX13_goesOn 233 = .ok (.goto (-55), 3) := by decide +kernel
theorem dX13_goesOn_236 : decode cX13_goesOn 236 = .ok (.iload_n 2, 1) := by decide +kernel
theorem dX13_goesOn_237 : decode cX13_goesOn 237 = .ok (.iconst 3, 1) := by decide +kernel
theorem dX13_goesOn_238 : decode cX13_goesOn 238 = .ok (.if_icmp .gt 43, 3) := by decide +kernel
theorem dX13_goesOn_241 : decode cX13_goesOn 241 = .ok (.aload_n 0, 1) := by decide +kernel
theorem dX13_goesOn_242 : decode cX13_goesOn 242 = .ok (.iconst 3, 1) := by decide +kernel
theorem dX13_goesOn_243 : decode cX13_goesOn 243 = .ok (.putfield 58, 3) := by decide +kernel
theorem dX13_goesOn_246 : decode cX13_goesOn 246 = .ok (.goto 35, 3) := by decide +kernel
theorem dX13_goesOn_249 : decode cX13_goesOn 249 = .ok (.iload_n 1, 1) := by decide +kernel
theorem dX13_goesOn_250 : decode cX13_goesOn 250 = .ok (.bipush 59, 2) := by decide +kernel
theorem dX13_goesOn_252 : decode cX13_goesOn 252 = .ok (.if_icmp .eq 9, 3) := by decide +kernel
theorem dX13_goesOn_255 : decode cX13_goesOn 255 = .ok (.iload_n 1, 1) := by decide +kernel
theorem dX13_goesOn_256 : decode cX13_goesOn 256 = .ok (.bipush 44, 2) := by decide +kernel
theorem dX13_goesOn_258 : decode cX13_goesOn 258 = .ok (.if_icmp .ne 23, 3) := by decide +kernel
theorem dX13_goesOn_261 : decode cX13_goesOn 261 = .ok (.aload_n 0, 1) := by decide +kernel
theorem dX13_goesOn_262 : decode cX13_goesOn 262 = .ok (.iconst 4, 1) := by decide +kernel
theorem dX13_goesOn_263 : decode cX13_goesOn 263 = .ok (.putfield 58, 3) := by decide +kernel
theorem dX13_goesOn_266 : decode cX13_goesOn 266 = .ok (.aload_n 0, 1) := by decide +kernel
theorem dX13_goesOn_267 : decode cX13_goesOn 267 = .ok (.iload_n 1, 1) := by decide +kernel
theorem dX13_goesOn_268 : decode cX13_goesOn 268 = .ok (.putfield 70, 3) := by decide +kernel
theorem dX13_goesOn_271 : decode cX13_goesOn 271 = .ok (.aload_n 0, 1) := by decide +kernel
theorem dX13_goesOn_272 : decode cX13_goesOn 272 = .ok (.dup, 1) := by decide +kernel
theorem dX13_goesOn_273 : decode cX13_goesOn 273 = .ok (.getfield 61, 3) := by decide +kernel
theorem dX13_goesOn_276 : decode cX13_goesOn 276 = .ok (.iconst 1, 1) := by decide +kernel
theorem dX13_goesOn_277 : decode cX13_goesOn 277 = .ok (.iadd, 1) := by decide +kernel
theorem dX13_goesOn_278 : decode cX13_goesOn 278 = .ok (.putfield 61, 3) := by decide +kernel
theorem dX13_goesOn_281 : decode cX13_goesOn 281 = .ok (.return_, 1) := by decide +kernel
theorem dX13_wrong_0 : decode cX13_wrong 0 = .ok (.aload_n 0, 1) := by decide +kernel
theorem dX13_wrong_1 : decode cX13_wrong 1 = .ok (.getfield 58, 3) := by decide +kernel
theorem dX13_wrong_4 : decode cX13_wrong 4 = .ok (.iconst 5, 1) := by decide +kernel
theorem dX13_wrong_5 : decode cX13_wrong 5 = .ok (.if_icmp .ne 4, 3) := by decide +kernel
theorem dX13_wrong_8 : decode cX13_wrong 8 = .ok (.return_, 1) := by decide +kernel
theorem dX13_wrong_9 : decode cX13_wrong 9 = .ok (.aload_n 0, 1) := by decide +kernel
theorem dX13_wrong_10 : decode cX13_wrong 10 = .ok (.iload_n 1, 1) := by decide +kernel
theorem dX13_wrong_11 : decode cX13_wrong 11 = .ok (.putfield 87, 3) := by decide +kernel
theorem dX13_wrong_14 : decode cX13_wrong 14 = .ok (.aload_n 0, 1) := by decide +kernel
theorem dX13_wrong_15 : decode cX13_wrong 15 = .ok (.aload_n 0, 1) := by decide +kernel
theorem dX13_wrong_16 : decode cX13_wrong 16 = .ok (.getfield 67, 3) := by decide +kernel
theorem dX13_wrong_19 : decode cX13_wrong 19 = .ok (.putfield 90, 3) := by decide +kernel
theorem dX13_wrong_22 : decode cX13_wrong 22 = .ok (.aload_n 0, 1) := by decide +kernel
theorem dX13_wrong_23 : decode cX13_wrong 23 = .ok (.iconst 5, 1) := by decide +kernel
theorem dX13_wrong_24 : decode cX13_wrong 24 = .ok (.putfield 58, 3) := by decide +kernel
theorem dX13_wrong_27 : decode cX13_wrong 27 = .ok (.return_, 1) := by decide +kernel
set_option maxRecDepth 20000 in
theorem ggX13_isWord_X13_wordOf : GoodIn wsX13_isWord wsX13_wordOf := goodIn_r _ [6, 7, 8, 9, 10, 11, 12, 13, 14, 15, 16, 17, 18, 19, 20, 21, 22, 23, 24, 25, 26, 27, 28, 29, 30, 31, 32, 33, 34, 35, 36, 37, 38, 39, 40, 41, 42, 43, 44, 45, 46, 47, 48, 49, 50, 51, 52, 53, 54, 55, 56] rfl (by decide +kernel)
set_option maxRecDepth 20000 in
theorem gX13_isWord_X13_wordOf : GoodIn wsX13_isWord (va_wsS RX13 93 yX13_wordOf wsX13_wordOf) := goodIn_app (goodIn_of _ (by decide +kernel)) ggX13_isWord_X13_wordOf
theorem dX13_isWord_0 : decode cX13_isWord 0 = .ok (.aload_n 0, 1) := by decide +kernel
theorem dX13_isWord_1 : decode cX13_isWord 1 = .ok (.getfield 58, 3) := by decide +kernel
theorem dX13_isWord_4 : decode cX13_isWord 4 = .ok (.iconst 2, 1) := by decide +kernel
theorem dX13_isWord_5 : decode cX13_isWord 5 = .ok (.if_icmp .ne 19, 3) := by decide +kernel
theorem dX13_isWord_8 : decode cX13_isWord 8 = .ok (.aload_n 0, 1) := by decide +kernel
theorem dX13_isWord_9 : decode cX13_isWord 9 = .ok (.getfield 77, 3) := by decide +kernel
theorem dX13_isWord_12 : decode cX13_isWord 12 = .ok (.aload_n 1, 1) := by decide +kernel
theorem dX13_isWord_13 : decode cX13_isWord 13 = .ok (.invokestatic 93, 3) := by decide +kernel
theorem dX13_isWord_16 : decode cX13_isWord 16 = .ok (.lcmp, 1) := by decide +kernel
theorem dX13_isWord_17 : decode cX13_isWord 17 = .ok (.ifCond .ne 7, 3) := by decide +kernel
theorem dX13_isWord_20 : decode cX13_isWord 20 = .ok (.iconst 1, 1) := by decide +kernel
theorem dX13_isWord_21 : decode cX13_isWord 21 = .ok (.goto 4, 3) := by decide +kernel
theorem dX13_isWord_24 : decode cX13_isWord 24 = .ok (.iconst 0, 1) := by decide +kernel
theorem dX13_isWord_25 : decode cX13_isWord 25 = .ok (.ireturn, 1) := by decide +kernel
set_option maxRecDepth 20000 in
theorem ggX13_eatsWord_X13_isWord : GoodIn wsX13_eatsWord wsX13_isWord := goodIn_r _ [5, 6, 7, 8, 9, 4, 10, 11, 12, 13, 14, 15, 16, 17, 18, 19, 20, 21, 22, 23, 24, 25, 26, 27, 28, 29, 30, 31, 32, 33, 34, 35, 36, 37, 38, 39, 40, 41, 42, 43, 44, 45, 46, 47, 48, 49, 50, 51, 52, 53, 54, 55, 56, 57, 58, 59, 60, 81, 82, 83, 84, 85, 86, 87, 88, 89, 90, 91, 92, 93, 94, 95, 96, 97, 98, 99, 100, 101, 102, 103, 104, 105, 106, 107, 108, 109] rfl (by decide +kernel)
set_option maxRecDepth 20000 in
theorem gX13_eatsWord_X13_isWord : GoodIn wsX13_eatsWord (wsV RX13 97 RX13 yX13_isWord wsX13_isWord) := goodIn_app (goodIn_of _ (by decide +kernel)) ggX13_eatsWord_X13_isWord
set_option maxRecDepth 20000 in
theorem ggX13_eatsWord_X13_goesOn : GoodIn wsX13_eatsWord wsX13_goesOn := goodIn_r _ [64, 6, 65, 66, 67, 7, 11, 68, 69, 70, 71, 4, 72, 73, 74, 75, 76, 77, 78, 79, 80, 81, 82, 83, 84, 85, 86, 87, 88, 89, 90, 91, 92, 93, 94, 95, 96, 97, 98, 99, 100, 101, 102, 103, 104, 105, 106, 107, 108, 109] rfl (by decide +kernel)
set_option maxRecDepth 20000 in
theorem gX13_eatsWord_X13_goesOn : GoodIn wsX13_eatsWord (wsV RX13 101 RX13 yX13_goesOn wsX13_goesOn) := goodIn_app (goodIn_of _ (by decide +kernel)) ggX13_eatsWord_X13_goesOn
theorem dX13_eatsWord_0 : decode cX13_eatsWord 0 = .ok (.aload_n 0, 1) := by decide +kernel
theorem dX13_eatsWord_1 : decode cX13_eatsWord 1 = .ok (.aload_n 1, 1) := by decide +kernel
theorem dX13_eatsWord_2 : decode cX13_eatsWord 2 = .ok (.invokevirtual 97, 3) := by decide +kernel
theorem dX13_eatsWord_5 : decode cX13_eatsWord 5 = .ok (.istore_n 2, 1) := by decide +kernel
theorem dX13_eatsWord_6 : decode cX13_eatsWord 6 = .ok (.iload_n 2, 1) := by decide +kernel
theorem dX13_eatsWord_7 : decode cX13_eatsWord 7 = .ok (.ifCond .eq 7, 3) := by decide +kernel
theorem dX13_eatsWord_10 : decode cX13_eatsWord 10 = .ok (.aload_n 0, 1) := by decide +kernel
theorem dX13_eatsWord_11 : decode cX13_eatsWord 11 = .ok (.invokevirtual 101, 3) := by decide +kernel
theorem dX13_eatsWord_14 : decode cX13_eatsWord 14 = .ok (.iload_n 2, 1) := by decide +kernel
theorem dX13_eatsWord_15 : decode cX13_eatsWord 15 = .ok (.ireturn, 1) := by decide +kernel
set_option maxRecDepth 20000 in
theorem ggX13_eatsSign_X13_goesOn : GoodIn wsX13_eatsSign wsX13_goesOn := goodIn_r _ [7, 1, 8, 9, 2, 10, 11, 12, 13, 14, 15, 6, 16, 17, 18, 19, 20, 21, 22, 23, 24, 25, 26, 27, 28, 29, 30, 31, 32, 33, 34, 35, 36, 37, 38, 39, 40, 41, 42, 43, 44, 45, 46, 47, 48, 49, 50, 51, 52, 53] rfl (by decide +kernel)
set_option maxRecDepth 20000 in
theorem gX13_eatsSign_X13_goesOn : GoodIn wsX13_eatsSign (wsV RX13 101 RX13 yX13_goesOn wsX13_goesOn) := goodIn_app (goodIn_of _ (by decide +kernel)) ggX13_eatsSign_X13_goesOn
theorem dX13_eatsSign_0 : decode cX13_eatsSign 0 = .ok (.aload_n 0, 1) := by decide +kernel
theorem dX13_eatsSign_1 : decode cX13_eatsSign 1 = .ok (.getfield 58, 3) := by decide +kernel
theorem dX13_eatsSign_4 : decode cX13_eatsSign 4 = .ok (.iconst 4, 1) := by decide +kernel
theorem dX13_eatsSign_5 : decode cX13_eatsSign 5 = .ok (.if_icmp .ne 15, 3) := by decide +kernel
theorem dX13_eatsSign_8 : decode cX13_eatsSign 8 = .ok (.aload_n 0, 1) := by decide +kernel
theorem dX13_eatsSign_9 : decode cX13_eatsSign 9 = .ok (.getfield 70, 3) := by decide +kernel
theorem dX13_eatsSign_12 : decode cX13_eatsSign 12 = .ok (.iload_n 1, 1) := by decide +kernel
theorem dX13_eatsSign_13 : decode cX13_eatsSign 13 = .ok (.if_icmp .ne 7, 3) := by decide +kernel
theorem dX13_eatsSign_16 : decode cX13_eatsSign 16 = .ok (.iconst 1, 1) := by decide +kernel
theorem dX13_eatsSign_17 : decode cX13_eatsSign 17 = .ok (.goto 4, 3) := by decide +kernel
theorem dX13_eatsSign_20 : decode cX13_eatsSign 20 = .ok (.iconst 0, 1) := by decide +kernel
theorem dX13_eatsSign_21 : decode cX13_eatsSign 21 = .ok (.istore_n 2, 1) := by decide +kernel
theorem dX13_eatsSign_22 : decode cX13_eatsSign 22 = .ok (.iload_n 2, 1) := by decide +kernel
theorem dX13_eatsSign_23 : decode cX13_eatsSign 23 = .ok (.ifCond .eq 7, 3) := by decide +kernel
theorem dX13_eatsSign_26 : decode cX13_eatsSign 26 = .ok (.aload_n 0, 1) := by decide +kernel
theorem dX13_eatsSign_27 : decode cX13_eatsSign 27 = .ok (.invokevirtual 101, 3) := by decide +kernel
theorem dX13_eatsSign_30 : decode cX13_eatsSign 30 = .ok (.iload_n 2, 1) := by decide +kernel
theorem dX13_eatsSign_31 : decode cX13_eatsSign 31 = .ok (.ireturn, 1) := by decide +kernel
set_option maxRecDepth 20000 in
theorem ggX13_needs_X13_isWord : GoodIn wsX13_needs wsX13_isWord := goodIn_r _ [5, 6, 7, 8, 9, 4, 10, 11, 12, 13, 14, 15, 16, 17, 18, 19, 20, 21, 22, 23, 24, 25, 26, 27, 28, 29, 30, 31, 32, 33, 34, 35, 36, 37, 38, 39, 40, 41, 42, 43, 44, 45, 46, 47, 48, 49, 50, 51, 52, 53, 54, 55, 56, 57, 58, 59, 60, 87, 88, 89, 90, 91, 92, 93, 94, 95, 96, 97, 98, 99, 100, 101, 102, 103, 104, 105, 106, 107, 108, 109, 110, 111, 112, 113, 114, 115] rfl (by decide +kernel)
set_option maxRecDepth 20000 in
theorem gX13_needs_X13_isWord : GoodIn wsX13_needs (wsV RX13 97 RX13 yX13_isWord wsX13_isWord) := goodIn_app (goodIn_of _ (by decide +kernel)) ggX13_needs_X13_isWord
set_option maxRecDepth 20000 in
theorem ggX13_needs_X13_wrong : GoodIn wsX13_needs wsX13_wrong := goodIn_r _ [64, 6, 65, 66, 67, 87, 88, 89, 90, 91, 92, 93, 94, 95, 96, 97, 98, 99, 100, 101, 102, 103, 104, 105, 106, 107, 108, 109, 110, 111, 112, 113, 114, 115] rfl (by decide +kernel)
set_option maxRecDepth 20000 in
theorem gX13_needs_X13_wrong : GoodIn wsX13_needs (wsV RX13 104 RX13 yX13_wrong wsX13_wrong) := goodIn_app (goodIn_of _ (by decide +kernel)) ggX13_needs_X13_wrong
set_option maxRecDepth 20000 in
theorem ggX13_needs_X13_goesOn : GoodIn wsX13_needs wsX13_goesOn := goodIn_r _ [71, 6, 72, 66, 73, 7, 11, 74, 75, 76, 77, 4, 78, 79, 80, 81, 82, 83, 84, 85, 86, 87, 88, 89, 90, 91, 92, 93, 94, 95, 96, 97, 98, 99, 100, 101, 102, 103, 104, 105, 106, 107, 108, 109, 110, 111, 112, 113, 114, 115] rfl (by decide +kernel)
set_option maxRecDepth 20000 in
theorem gX13_needs_X13_goesOn : GoodIn wsX13_needs (wsV RX13 101 RX13 yX13_goesOn wsX13_goesOn) := goodIn_app (goodIn_of _ (by decide +kernel)) ggX13_needs_X13_goesOn
theorem dX13_needs_0 : decode cX13_needs 0 = .ok (.aload_n 0, 1) := by decide +kernel
theorem dX13_needs_1 : decode cX13_needs 1 = .ok (.aload_n 1, 1) := by decide +kernel
theorem dX13_needs_2 : decode cX13_needs 2 = .ok (.invokevirtual 97, 3) := by decide +kernel
theorem dX13_needs_5 : decode cX13_needs 5 = .ok (.ifCond .ne 8, 3) := by decide +kernel
theorem dX13_needs_8 : decode cX13_needs 8 = .ok (.aload_n 0, 1) := by decide +kernel
theorem dX13_needs_9 : decode cX13_needs 9 = .ok (.iconst 1, 1) := by decide +kernel
theorem dX13_needs_10 : decode cX13_needs 10 = .ok (.invokevirtual 104, 3) := by decide +kernel
theorem dX13_needs_13 : decode cX13_needs 13 = .ok (.aload_n 0, 1) := by decide +kernel
theorem dX13_needs_14 : decode cX13_needs 14 = .ok (.invokevirtual 101, 3) := by decide +kernel
theorem dX13_needs_17 : decode cX13_needs 17 = .ok (.return_, 1) := by decide +kernel
set_option maxRecDepth 20000 in
theorem ggX13_readWhole_X13_wrong : GoodIn wsX13_readWhole wsX13_wrong := goodIn_r _ [7, 1, 8, 9, 10, 34, 35, 36, 37, 38, 39, 40, 41, 42, 43, 44, 45, 46, 47, 48, 49, 50, 51, 52, 53, 54, 55, 56, 57, 58, 59, 60, 61, 62] rfl (by decide +kernel)
set_option maxRecDepth 20000 in
theorem gX13_readWhole_X13_wrong : GoodIn wsX13_readWhole (wsV RX13 104 RX13 yX13_wrong wsX13_wrong) := goodIn_app (goodIn_of _ (by decide +kernel)) ggX13_readWhole_X13_wrong
set_option maxRecDepth 20000 in
theorem ggX13_readWhole_X13_in : GoodIn wsX13_readWhole wsX13_in := goodIn_r _ [13] rfl (by decide +kernel)
set_option maxRecDepth 20000 in
theorem gX13_readWhole_X13_in : GoodIn wsX13_readWhole (va_wsS RX13 108 yX13_in wsX13_in) := goodIn_app (goodIn_of _ (by decide +kernel)) ggX13_readWhole_X13_in
set_option maxRecDepth 20000 in
theorem ggX13_readWhole_X13_goesOn : GoodIn wsX13_readWhole wsX13_goesOn := goodIn_r _ [17, 1, 18, 9, 19, 20, 21, 2, 22, 23, 24, 6, 25, 26, 27, 28, 29, 30, 31, 32, 33, 34, 35, 36, 37, 38, 39, 40, 41, 42, 43, 44, 45, 46, 47, 48, 49, 50, 51, 52, 53, 54, 55, 56, 57, 58, 59, 60, 61, 62] rfl (by decide +kernel)
set_option maxRecDepth 20000 in
theorem gX13_readWhole_X13_goesOn : GoodIn wsX13_readWhole (wsV RX13 101 RX13 yX13_goesOn wsX13_goesOn) := goodIn_app (goodIn_of _ (by decide +kernel)) ggX13_readWhole_X13_goesOn
theorem dX13_readWhole_0 : decode cX13_readWhole 0 = .ok (.aload_n 0, 1) := by decide +kernel
theorem dX13_readWhole_1 : decode cX13_readWhole 1 = .ok (.getfield 58, 3) := by decide +kernel
theorem dX13_readWhole_4 : decode cX13_readWhole 4 = .ok (.iconst 3, 1) := by decide +kernel
theorem dX13_readWhole_5 : decode cX13_readWhole 5 = .ok (.if_icmp .eq 11, 3) := by decide +kernel
theorem dX13_readWhole_8 : decode cX13_readWhole 8 = .ok (.aload_n 0, 1) := by decide +kernel
theorem dX13_readWhole_9 : decode cX13_readWhole 9 = .ok (.iconst 1, 1) := by decide +kernel
theorem dX13_readWhole_10 : decode cX13_readWhole 10 = .ok (.invokevirtual 104, 3) := by decide +kernel
theorem dX13_readWhole_13 : decode cX13_readWhole 13 = .ok (.goto 20, 3) := by decide +kernel
theorem dX13_readWhole_16 : decode cX13_readWhole 16 = .ok (.aload_n 0, 1) := by decide +kernel
theorem dX13_readWhole_17 : decode cX13_readWhole 17 = .ok (.getfield 84, 3) := by decide +kernel
theorem dX13_readWhole_20 : decode cX13_readWhole 20 = .ok (.iload_n 1, 1) := by decide +kernel
theorem dX13_readWhole_21 : decode cX13_readWhole 21 = .ok (.iload_n 2, 1) := by decide +kernel
theorem dX13_readWhole_22 : decode cX13_readWhole 22 = .ok (.invokestatic 108, 3) := by decide +kernel
theorem dX13_readWhole_25 : decode cX13_readWhole 25 = .ok (.ifCond .ne 8, 3) := by decide +kernel
theorem dX13_readWhole_28 : decode cX13_readWhole 28 = .ok (.aload_n 0, 1) := by decide +kernel
theorem dX13_readWhole_29 : decode cX13_readWhole 29 = .ok (.iconst 4, 1) := by decide +kernel
theorem dX13_readWhole_30 : decode cX13_readWhole 30 = .ok (.invokevirtual 104, 3) := by decide +kernel
theorem dX13_readWhole_33 : decode cX13_readWhole 33 = .ok (.aload_n 0, 1) := by decide +kernel
theorem dX13_readWhole_34 : decode cX13_readWhole 34 = .ok (.getfield 84, 3) := by decide +kernel
theorem dX13_readWhole_37 : decode cX13_readWhole 37 = .ok (.istore_n 3, 1) := by decide +kernel
theorem dX13_readWhole_38 : decode cX13_readWhole 38 = .ok (.aload_n 0, 1) := by decide +kernel
theorem dX13_readWhole_39 : decode cX13_readWhole 39 = .ok (.invokevirtual 101, 3) := by decide +kernel
theorem dX13_readWhole_42 : decode cX13_readWhole 42 = .ok (.iload_n 3, 1) := by decide +kernel
theorem dX13_readWhole_43 : decode cX13_readWhole 43 = .ok (.ireturn, 1) := by decide +kernel
set_option maxRecDepth 20000 in
theorem ggX13_readPart_X13_needs : GoodIn wsX13_readPart wsX13_needs := goodIn_r _ [5, 6, 7, 8, 4, 9, 10, 11, 12, 13, 14, 15, 16, 17, 18, 19, 20, 21, 22, 23, 24, 25, 26, 27, 28, 29, 30, 31, 32, 33, 34, 35, 36, 37, 38, 39, 40, 41, 42, 43, 44, 45, 46, 47, 48, 49, 50, 51, 52, 53, 54, 55, 56, 57, 58, 59, 60, 61, 62, 63, 64, 65, 66, 67, 68, 69, 70, 71, 72, 73, 74, 75, 76, 77, 78, 79, 80, 81, 82, 83, 84, 85, 86, 87, 88, 89, 90, 98, 99, 100, 101, 102, 103, 104, 105, 106, 107, 108, 109, 110, 111, 112, 113, 114, 115, 116, 117, 118, 119, 120, 121, 122, 123, 124, 125, 126] rfl (by decide +kernel)
set_option maxRecDepth 20000 in
theorem gX13_readPart_X13_needs : GoodIn wsX13_readPart (wsV RX13 112 RX13 yX13_needs wsX13_needs) := goodIn_app (goodIn_of _ (by decide +kernel)) ggX13_readPart_X13_needs
set_option maxRecDepth 20000 in
theorem ggX13_readPart_X13_readWhole : GoodIn wsX13_readPart wsX13_readWhole := goodIn_r _ [94, 10, 78, 65, 66, 67, 4, 68, 69, 70, 71, 95, 96, 97, 72, 73, 74, 75, 76, 77, 11, 15, 79, 80, 81, 82, 83, 84, 85, 86, 87, 88, 89, 90, 98, 99, 100, 101, 102, 103, 104, 105, 106, 107, 108, 109, 110, 111, 112, 113, 114, 115, 116, 117, 118, 119, 120, 121, 122, 123, 124, 125, 126] rfl (by decide +kernel)
set_option maxRecDepth 20000 in
theorem gX13_readPart_X13_readWhole : GoodIn wsX13_readPart (wsV RX13 116 RX13 yX13_readWhole wsX13_readWhole) := goodIn_app (goodIn_of _ (by decide +kernel)) ggX13_readPart_X13_readWhole
theorem dX13_readPart_0 : decode cX13_readPart 0 = .ok (.aload_n 0, 1) := by decide +kernel
theorem dX13_readPart_1 : decode cX13_readPart 1 = .ok (.aload_n 1, 1) := by decide +kernel
theorem dX13_readPart_2 : decode cX13_readPart 2 = .ok (.invokevirtual 112, 3) := by decide +kernel
theorem dX13_readPart_5 : decode cX13_readPart 5 = .ok (.aload_n 0, 1) := by decide +kernel
theorem dX13_readPart_6 : decode cX13_readPart 6 = .ok (.iload_n 2, 1) := by decide +kernel
theorem dX13_readPart_7 : decode cX13_readPart 7 = .ok (.iload_n 3, 1) := by decide +kernel
theorem dX13_readPart_8 : decode cX13_readPart 8 = .ok (.invokevirtual 116, 3) := by decide +kernel
theorem dX13_readPart_11 : decode cX13_readPart 11 = .ok (.ireturn, 1) := by decide +kernel
set_option maxRecDepth 20000 in
theorem ggX13_isName_X13_isWord : GoodIn wsX13_isName wsX13_isWord := goodIn_r _ [6, 1, 7, 8, 9, 5, 10, 11, 12, 13, 14, 15, 16, 17, 18, 19, 20, 21, 22, 23, 24, 25, 26, 27, 28, 29, 30, 31, 32, 33, 34, 35, 36, 37, 38, 39, 40, 41, 42, 43, 44, 45, 46, 47, 48, 49, 50, 51, 52, 53, 54, 55, 56, 57, 58, 59, 60, 61, 62, 63, 64, 65, 66, 67, 68, 69, 70, 71, 72, 73, 74, 75, 76, 77, 78, 79, 80, 81, 82, 83, 84, 85, 86, 87, 88, 89] rfl (by decide +kernel)
set_option maxRecDepth 20000 in
theorem gX13_isName_X13_isWord : GoodIn wsX13_isName (wsV RX13 97 RX13 yX13_isWord wsX13_isWord) := goodIn_app (goodIn_of _ (by decide +kernel)) ggX13_isName_X13_isWord
theorem dX13_isName_0 : decode cX13_isName 0 = .ok (.aload_n 0, 1) := by decide +kernel
theorem dX13_isName_1 : decode cX13_isName 1 = .ok (.getfield 58, 3) := by decide +kernel
theorem dX13_isName_4 : decode cX13_isName 4 = .ok (.iconst 2, 1) := by decide +kernel
theorem dX13_isName_5 : decode cX13_isName 5 = .ok (.if_icmp .ne 66, 3) := by decide +kernel
theorem dX13_isName_8 : decode cX13_isName 8 = .ok (.aload_n 0, 1) := by decide +kernel
theorem dX13_isName_9 : decode cX13_isName 9 = .ok (.ldc 120, 2) := by decide +kernel
theorem dX13_isName_11 : decode cX13_isName 11 = .ok (.invokevirtual 97, 3) := by decide +kernel
theorem dX13_isName_14 : decode cX13_isName 14 = .ok (.ifCond .ne 57, 3) := by decide +kernel
theorem dX13_isName_17 : decode cX13_isName 17 = .ok (.aload_n 0, 1) := by decide +kernel
theorem dX13_isName_18 : decode cX13_isName 18 = .ok (.ldc 122, 2) := by decide +kernel
theorem dX13_isName_20 : decode cX13_isName 20 = .ok (.invokevirtual 97, 3) := by decide +kernel
theorem dX13_isName_23 : decode cX13_isName 23 = .ok (.ifCond .ne 48, 3) := by decide +kernel
theorem dX13_isName_26 : decode cX13_isName 26 = .ok (.aload_n 0, 1) := by decide +kernel
theorem dX13_isName_27 : decode cX13_isName 27 = .ok (.ldc 124, 2) := by decide +kernel
theorem dX13_isName_29 : decode cX13_isName 29 = .ok (.invokevirtual 97, 3) := by decide +kernel
theorem dX13_isName_32 : decode cX13_isName 32 = .ok (.ifCond .ne 39, 3) := by decide +kernel
theorem dX13_isName_35 : decode cX13_isName 35 = .ok (.aload_n 0, 1) := by decide +kernel
theorem dX13_isName_36 : decode cX13_isName 36 = .ok (.ldc 126, 2) := by decide +kernel
theorem dX13_isName_38 : decode cX13_isName 38 = .ok (.invokevirtual 97, 3) := by decide +kernel
theorem dX13_isName_41 : decode cX13_isName 41 = .ok (.ifCond .ne 30, 3) := by decide +kernel
theorem dX13_isName_44 : decode cX13_isName 44 = .ok (.aload_n 0, 1) := by decide +kernel
theorem dX13_isName_45 : decode cX13_isName 45 = .ok (.ldc 128, 2) := by decide +kernel
theorem dX13_isName_47 : decode cX13_isName 47 = .ok (.invokevirtual 97, 3) := by decide +kernel
theorem dX13_isName_50 : decode cX13_isName 50 = .ok (.ifCond .ne 21, 3) := by decide +kernel
theorem dX13_isName_53 : decode cX13_isName 53 = .ok (.aload_n 0, 1) := by decide +kernel
theorem dX13_isName_54 : decode cX13_isName 54 = .ok (.ldc 130, 2) := by decide +kernel
theorem dX13_isName_56 : decode cX13_isName 56 = .ok (.invokevirtual 97, 3) := by decide +kernel
theorem dX13_isName_59 : decode cX13_isName 59 = .ok (.ifCond .ne 12, 3) := by decide +kernel
theorem dX13_isName_62 : decode cX13_isName 62 = .ok (.aload_n 0, 1) := by decide +kernel
theorem dX13_isName_63 : decode cX13_isName 63 = .ok (.ldc 132, 2) := by decide +kernel
theorem dX13_isName_65 : decode cX13_isName 65 = .ok (.invokevirtual 97, 3) := by decide +kernel
theorem dX13_isName_68 : decode cX13_isName 68 = .ok (.ifCond .eq 5, 3) := by decide +kernel
theorem dX13_isName_71 : decode cX13_isName 71 = .ok (.iconst 0, 1) := by decide +kernel
theorem dX13_isName_72 : decode cX13_isName 72 = .ok (.ireturn, 1) := by decide +kernel
theorem dX13_isName_73 : decode cX13_isName 73 = .ok (.aload_n 0, 1) := by decide +kernel
theorem dX13_isName_74 : decode cX13_isName 74 = .ok (.ldc 134, 2) := by decide +kernel
theorem dX13_isName_76 : decode cX13_isName 76 = .ok (.invokevirtual 97, 3) := by decide +kernel
theorem dX13_isName_79 : decode cX13_isName 79 = .ok (.ifCond .ne 52, 3) := by decide +kernel
theorem dX13_isName_82 : decode cX13_isName 82 = .ok (.aload_n 0, 1) := by decide +kernel
theorem dX13_isName_83 : decode cX13_isName 83 = .ok (.ldc 136, 2) := by decide +kernel
theorem dX13_isName_85 : decode cX13_isName 85 = .ok (.invokevirtual 97, 3) := by decide +kernel
theorem dX13_isName_88 : decode cX13_isName 88 = .ok (.ifCond .ne 43, 3) := by decide +kernel
theorem dX13_isName_91 : decode cX13_isName 91 = .ok (.aload_n 0, 1) := by decide +kernel
theorem dX13_isName_92 : decode cX13_isName 92 = .ok (.ldc 138, 2) := by decide +kernel
theorem dX13_isName_94 : decode cX13_isName 94 = .ok (.invokevirtual 97, 3) := by decide +kernel
theorem dX13_isName_97 : decode cX13_isName 97 = .ok (.ifCond .ne 34, 3) := by decide +kernel
theorem dX13_isName_100 : decode cX13_isName 100 = .ok (.aload_n 0, 1) := by decide +kernel
theorem dX13_isName_101 : decode cX13_isName 101 = .ok (.ldc 140, 2) := by decide +kernel
theorem dX13_isName_103 : decode cX13_isName 103 = .ok (.invokevirtual 97, 3) := by decide +kernel
theorem dX13_isName_106 : decode cX13_isName 106 = .ok (.ifCond .ne 25, 3) := by decide +kernel
theorem dX13_isName_109 : decode cX13_isName 109 = .ok (.aload_n 0, 1) := by decide +kernel
theorem dX13_isName_110 : decode cX13_isName 110 = .ok (.ldc 142, 2) := by decide +kernel
theorem dX13_isName_112 : decode cX13_isName 112 = .ok (.invokevirtual 97, 3) := by decide +kernel
theorem dX13_isName_115 : decode cX13_isName 115 = .ok (.ifCond .ne 16, 3) := by decide +kernel
theorem dX13_isName_118 : decode cX13_isName 118 = .ok (.aload_n 0, 1) := by decide +kernel
theorem dX13_isName_119 : decode cX13_isName 119 = .ok (.ldc 144, 2) := by decide +kernel
theorem dX13_isName_121 : decode cX13_isName 121 = .ok (.invokevirtual 97, 3) := by decide +kernel
theorem dX13_isName_124 : decode cX13_isName 124 = .ok (.ifCond .ne 7, 3) := by decide +kernel
theorem dX13_isName_127 : decode cX13_isName 127 = .ok (.iconst 1, 1) := by decide +kernel
theorem dX13_isName_128 : decode cX13_isName 128 = .ok (.goto 4, 3) := by decide +kernel
theorem dX13_isName_131 : decode cX13_isName 131 = .ok (.iconst 0, 1) := by decide +kernel
theorem dX13_isName_132 : decode cX13_isName 132 = .ok (.ireturn, 1) := by decide +kernel
set_option maxRecDepth 20000 in
theorem ggX13_begins_X13_wrong : GoodIn wsX13_begins wsX13_wrong := goodIn_r _ [5, 6, 7, 8, 9, 31, 32, 33, 34, 35, 36, 37, 38, 39, 40, 41, 42, 43, 44, 45, 46, 47, 48, 49, 50, 51, 52, 53, 54, 55, 56, 57, 58, 59] rfl (by decide +kernel)
set_option maxRecDepth 20000 in
theorem gX13_begins_X13_wrong : GoodIn wsX13_begins (wsV RX13 104 RX13 yX13_wrong wsX13_wrong) := goodIn_app (goodIn_of _ (by decide +kernel)) ggX13_begins_X13_wrong
set_option maxRecDepth 20000 in
theorem ggX13_begins_X13_goesOn : GoodIn wsX13_begins wsX13_goesOn := goodIn_r _ [13, 6, 14, 8, 15, 16, 17, 18, 19, 20, 21, 4, 22, 23, 24, 25, 26, 27, 28, 29, 30, 31, 32, 33, 34, 35, 36, 37, 38, 39, 40, 41, 42, 43, 44, 45, 46, 47, 48, 49, 50, 51, 52, 53, 54, 55, 56, 57, 58, 59] rfl (by decide +kernel)
set_option maxRecDepth 20000 in
theorem gX13_begins_X13_goesOn : GoodIn wsX13_begins (wsV RX13 101 RX13 yX13_goesOn wsX13_goesOn) := goodIn_app (goodIn_of _ (by decide +kernel)) ggX13_begins_X13_goesOn
theorem dX13_begins_0 : decode cX13_begins 0 = .ok (.iload_n 1, 1) := by decide +kernel
theorem dX13_begins_1 : decode cX13_begins 1 = .ok (.iload_n 2, 1) := by decide +kernel
theorem dX13_begins_2 : decode cX13_begins 2 = .ok (.if_icmp .ne 8, 3) := by decide +kernel
theorem dX13_begins_5 : decode cX13_begins 5 = .ok (.aload_n 0, 1) := by decide +kernel
theorem dX13_begins_6 : decode cX13_begins 6 = .ok (.iconst 5, 1) := by decide +kernel
theorem dX13_begins_7 : decode cX13_begins 7 = .ok (.invokevirtual 104, 3) := by decide +kernel
theorem dX13_begins_10 : decode cX13_begins 10 = .ok (.aload_n 0, 1) := by decide +kernel
theorem dX13_begins_11 : decode cX13_begins 11 = .ok (.invokevirtual 101, 3) := by decide +kernel
theorem dX13_begins_14 : decode cX13_begins 14 = .ok (.return_, 1) := by decide +kernel
set_option maxRecDepth 20000 in
theorem ggX13_readFresh_X13_isName : GoodIn wsX13_readFresh wsX13_isName := goodIn_r _ [8, 3, 9, 10, 11, 7, 12, 2, 13, 14, 15, 16, 17, 18, 19, 20, 21, 22, 23, 24, 25, 26, 27, 28, 29, 30, 31, 32, 33, 34, 35, 36, 37, 38, 39, 40, 41, 42, 43, 44, 45, 46, 47, 48, 49, 50, 51, 52, 53, 54, 55, 56, 57, 58, 59, 60, 61, 62, 63, 64, 65, 99, 100, 101, 102, 103, 104, 105, 106, 107, 108, 109, 110, 111, 112, 113, 114, 115, 116, 117, 118, 119, 120, 121, 122, 123, 124, 125, 126, 127] rfl (by decide +kernel)
set_option maxRecDepth 20000 in
theorem gX13_readFresh_X13_isName : GoodIn wsX13_readFresh (wsV RX13 146 RX13 yX13_isName wsX13_isName) := goodIn_app (goodIn_of _ (by decide +kernel)) ggX13_readFresh_X13_isName
set_option maxRecDepth 20000 in
theorem ggX13_readFresh_X13_wrong : GoodIn wsX13_readFresh wsX13_wrong := goodIn_r _ [69, 3, 70, 71, 72, 99, 100, 101, 102, 103, 104, 105, 106, 107, 108, 109, 110, 111, 112, 113, 114, 115, 116, 117, 118, 119, 120, 121, 122, 123, 124, 125, 126, 127] rfl (by decide +kernel)
set_option maxRecDepth 20000 in
theorem gX13_readFresh_X13_wrong : GoodIn wsX13_readFresh (wsV RX13 104 RX13 yX13_wrong wsX13_wrong) := goodIn_app (goodIn_of _ (by decide +kernel)) ggX13_readFresh_X13_wrong
set_option maxRecDepth 20000 in
theorem ggX13_readFresh_X12_find : GoodIn wsX13_readFresh wsX12_find := goodIn_r _ [77, 78, 79, 128, 129, 130, 131, 132, 133, 134, 135, 136, 137, 138, 139, 140, 141, 142, 143, 144, 145, 146, 147, 148, 149, 150, 151, 152, 153, 154, 155, 156, 157, 158, 159, 160, 161, 162, 163, 164, 165, 166, 167, 168, 169, 170, 171, 172, 173, 174, 175] rfl (by decide +kernel)
set_option maxRecDepth 20000 in
theorem gX13_readFresh_X12_find : GoodIn wsX13_readFresh (wsV RX13 154 RX12 yX12_find wsX12_find) := goodIn_app (goodIn_of _ (by decide +kernel)) ggX13_readFresh_X12_find
set_option maxRecDepth 20000 in
theorem ggX13_readFresh_X13_goesOn : GoodIn wsX13_readFresh wsX13_goesOn := goodIn_r _ [83, 3, 84, 71, 85, 2, 16, 86, 87, 88, 89, 7, 90, 91, 92, 93, 94, 95, 96, 97, 98, 99, 100, 101, 102, 103, 104, 105, 106, 107, 108, 109, 110, 111, 112, 113, 114, 115, 116, 117, 118, 119, 120, 121, 122, 123, 124, 125, 126, 127] rfl (by decide +kernel)
set_option maxRecDepth 20000 in
theorem gX13_readFresh_X13_goesOn : GoodIn wsX13_readFresh (wsV RX13 101 RX13 yX13_goesOn wsX13_goesOn) := goodIn_app (goodIn_of _ (by decide +kernel)) ggX13_readFresh_X13_goesOn
theorem dX13_readFresh_0 : decode cX13_readFresh 0 = .ok (.aload_n 0, 1) := by decide +kernel
theorem dX13_readFresh_1 : decode cX13_readFresh 1 = .ok (.invokevirtual 146, 3) := by decide +kernel
theorem dX13_readFresh_4 : decode cX13_readFresh 4 = .ok (.ifCond .ne 8, 3) := by decide +kernel
theorem dX13_readFresh_7 : decode cX13_readFresh 7 = .ok (.aload_n 0, 1) := by decide +kernel
theorem dX13_readFresh_8 : decode cX13_readFresh 8 = .ok (.iconst 1, 1) := by decide +kernel
theorem dX13_readFresh_9 : decode cX13_readFresh 9 = .ok (.invokevirtual 104, 3) := by decide +kernel
theorem dX13_readFresh_12 : decode cX13_readFresh 12 = .ok (.aload_n 0, 1) := by decide +kernel
theorem dX13_readFresh_13 : decode cX13_readFresh 13 = .ok (.getfield 150, 3) := by decide +kernel
theorem dX13_readFresh_16 : decode cX13_readFresh 16 = .ok (.aload_n 0, 1) := by decide +kernel
theorem dX13_readFresh_17 : decode cX13_readFresh 17 = .ok (.getfield 77, 3) := by decide +kernel
theorem dX13_readFresh_20 : decode cX13_readFresh 20 = .ok (.invokevirtual 154, 3) := by decide +kernel
theorem dX13_readFresh_23 : decode cX13_readFresh 23 = .ok (.iconst (-1), 1) := by decide +kernel
theorem dX13_readFresh_24 : decode cX13_readFresh 24 = .ok (.if_icmp .eq 8, 3) := by decide +kernel
theorem dX13_readFresh_27 : decode cX13_readFresh 27 = .ok (.aload_n 0, 1) := by decide +kernel
theorem dX13_readFresh_28 : decode cX13_readFresh 28 = .ok (.iconst 3, 1) := by decide +kernel
theorem dX13_readFresh_29 : decode cX13_readFresh 29 = .ok (.invokevirtual 104, 3) := by decide +kernel
theorem dX13_readFresh_32 : decode cX13_readFresh 32 = .ok (.aload_n 0, 1) := by decide +kernel
theorem dX13_readFresh_33 : decode cX13_readFresh 33 = .ok (.getfield 58, 3) := by decide +kernel
theorem dX13_readFresh_36 : decode cX13_readFresh 36 = .ok (.iconst 5, 1) := by decide +kernel
theorem dX13_readFresh_37 : decode cX13_readFresh 37 = .ok (.if_icmp .ne 4, 3) := by decide +kernel
theorem dX13_readFresh_40 : decode cX13_readFresh 40 = .ok (.return_, 1) := by decide +kernel
theorem dX13_readFresh_41 : decode cX13_readFresh 41 = .ok (.aload_n 0, 1) := by decide +kernel
theorem dX13_readFresh_42 : decode cX13_readFresh 42 = .ok (.getfield 150, 3) := by decide +kernel
theorem dX13_readFresh_45 : decode cX13_readFresh 45 = .ok (.getfield 160, 3) := by decide +kernel
theorem dX13_readFresh_48 : decode cX13_readFresh 48 = .ok (.aload_n 0, 1) := by decide +kernel
theorem dX13_readFresh_49 : decode cX13_readFresh 49 = .ok (.getfield 150, 3) := by decide +kernel
theorem dX13_readFresh_52 : decode cX13_readFresh 52 = .ok (.getfield 164, 3) := by decide +kernel
theorem dX13_readFresh_55 : decode cX13_readFresh 55 = .ok (.aload_n 0, 1) := by decide +kernel
theorem dX13_readFresh_56 : decode cX13_readFresh 56 = .ok (.getfield 77, 3) := by decide +kernel
theorem dX13_readFresh_59 : decode cX13_readFresh 59 = .ok (.lastore, 1) := by decide +kernel
theorem dX13_readFresh_60 : decode cX13_readFresh 60 = .ok (.aload_n 0, 1) := by decide +kernel
theorem dX13_readFresh_61 : decode cX13_readFresh 61 = .ok (.getfield 150, 3) := by decide +kernel
theorem dX13_readFresh_64 : decode cX13_readFresh 64 = .ok (.getfield 167, 3) := by decide +kernel
theorem dX13_readFresh_67 : decode cX13_readFresh 67 = .ok (.aload_n 0, 1) := by decide +kernel
theorem dX13_readFresh_68 : decode cX13_readFresh 68 = .ok (.getfield 150, 3) := by decide +kernel
theorem dX13_readFresh_71 : decode cX13_readFresh 71 = .ok (.getfield 164, 3) := by decide +kernel
theorem dX13_readFresh_74 : decode cX13_readFresh 74 = .ok (.iload_n 1, 1) := by decide +kernel
theorem dX13_readFresh_75 : decode cX13_readFresh 75 = .ok (.iastore, 1) := by decide +kernel
theorem dX13_readFresh_76 : decode cX13_readFresh 76 = .ok (.aload_n 0, 1) := by decide +kernel
theorem dX13_readFresh_77 : decode cX13_readFresh 77 = .ok (.getfield 150, 3) := by decide +kernel
theorem dX13_readFresh_80 : decode cX13_readFresh 80 = .ok (.getfield 170, 3) := by decide +kernel
theorem dX13_readFresh_83 : decode cX13_readFresh 83 = .ok (.aload_n 0, 1) := by decide +kernel
theorem dX13_readFresh_84 : decode cX13_readFresh 84 = .ok (.getfield 150, 3) := by decide +kernel
theorem dX13_readFresh_87 : decode cX13_readFresh 87 = .ok (.getfield 164, 3) := by decide +kernel
theorem dX13_readFresh_90 : decode cX13_readFresh 90 = .ok (.iload_n 2, 1) := by decide +kernel
theorem dX13_readFresh_91 : decode cX13_readFresh 91 = .ok (.iastore, 1) := by decide +kernel
theorem dX13_readFresh_92 : decode cX13_readFresh 92 = .ok (.aload_n 0, 1) := by decide +kernel
theorem dX13_readFresh_93 : decode cX13_readFresh 93 = .ok (.getfield 150, 3) := by decide +kernel
theorem dX13_readFresh_96 : decode cX13_readFresh 96 = .ok (.dup, 1) := by decide +kernel
theorem dX13_readFresh_97 : decode cX13_readFresh 97 = .ok (.getfield 164, 3) := by decide +kernel
theorem dX13_readFresh_100 : decode cX13_readFresh 100 = .ok (.iconst 1, 1) := by decide +kernel
theorem dX13_readFresh_101 : decode cX13_readFresh 101 = .ok (.iadd, 1) := by decide +kernel
theorem dX13_readFresh_102 : decode cX13_readFresh 102 = .ok (.putfield 164, 3) := by decide +kernel
theorem dX13_readFresh_105 : decode cX13_readFresh 105 = .ok (.aload_n 0, 1) := by decide +kernel
theorem dX13_readFresh_106 : decode cX13_readFresh 106 = .ok (.invokevirtual 101, 3) := by decide +kernel
theorem dX13_readFresh_109 : decode cX13_readFresh 109 = .ok (.return_, 1) := by decide +kernel
set_option maxRecDepth 20000 in
theorem ggX13_known_X13_isName : GoodIn wsX13_known wsX13_isName := goodIn_r _ [8, 3, 9, 10, 11, 7, 12, 2, 13, 14, 15, 16, 17, 18, 19, 20, 21, 22, 23, 24, 25, 26, 27, 28, 29, 30, 31, 32, 33, 34, 35, 36, 37, 38, 39, 40, 41, 42, 43, 44, 45, 46, 47, 48, 49, 50, 51, 52, 53, 54, 55, 56, 57, 58, 59, 60, 61, 62, 63, 64, 65, 80, 81, 82, 83, 84, 85, 86, 87, 88, 89, 90, 91, 92, 93, 94, 95, 96, 97, 98, 99, 100, 101, 102, 103, 104, 105, 106, 107, 108] rfl (by decide +kernel)
set_option maxRecDepth 20000 in
theorem gX13_known_X13_isName : GoodIn wsX13_known (wsV RX13 146 RX13 yX13_isName wsX13_isName) := goodIn_app (goodIn_of _ (by decide +kernel)) ggX13_known_X13_isName
set_option maxRecDepth 20000 in
theorem ggX13_known_X13_wrong : GoodIn wsX13_known wsX13_wrong := goodIn_r _ [69, 3, 70, 71, 72, 80, 81, 82, 83, 84, 85, 86, 87, 88, 89, 90, 91, 92, 93, 94, 95, 96, 97, 98, 99, 100, 101, 102, 103, 104, 105, 106, 107, 108] rfl (by decide +kernel)
set_option maxRecDepth 20000 in
theorem gX13_known_X13_wrong : GoodIn wsX13_known (wsV RX13 104 RX13 yX13_wrong wsX13_wrong) := goodIn_app (goodIn_of _ (by decide +kernel)) ggX13_known_X13_wrong
set_option maxRecDepth 20000 in
theorem ggX13_known_X12_find : GoodIn wsX13_known wsX12_find := goodIn_r _ [77, 78, 79, 109, 110, 111, 112, 113, 114, 115, 116, 117, 118, 119, 120, 121, 122, 123, 124, 125, 126, 127, 128, 129, 130, 131, 132, 133, 134, 135, 136, 137, 138, 139, 140, 141, 142, 143, 144, 145, 146, 147, 148, 149, 150, 151, 152, 153, 154, 155, 156] rfl (by decide +kernel)
set_option maxRecDepth 20000 in
theorem gX13_known_X12_find : GoodIn wsX13_known (wsV RX13 154 RX12 yX12_find wsX12_find) := goodIn_app (goodIn_of _ (by decide +kernel)) ggX13_known_X12_find
theorem dX13_known_0 : decode cX13_known 0 = .ok (.aload_n 0, 1) := by decide +kernel
theorem dX13_known_1 : decode cX13_known 1 = .ok (.invokevirtual 146, 3) := by decide +kernel
theorem dX13_known_4 : decode cX13_known 4 = .ok (.ifCond .ne 8, 3) := by decide +kernel
theorem dX13_known_7 : decode cX13_known 7 = .ok (.aload_n 0, 1) := by decide +kernel
theorem dX13_known_8 : decode cX13_known 8 = .ok (.iconst 1, 1) := by decide +kernel
theorem dX13_known_9 : decode cX13_known 9 = .ok (.invokevirtual 104, 3) := by decide +kernel
theorem dX13_known_12 : decode cX13_known 12 = .ok (.aload_n 0, 1) := by decide +kernel
theorem dX13_known_13 : decode cX13_known 13 = .ok (.getfield 150, 3) := by decide +kernel
theorem dX13_known_16 : decode cX13_known 16 = .ok (.aload_n 0, 1) := by decide +kernel
theorem dX13_known_17 : decode cX13_known 17 = .ok (.getfield 77, 3) := by decide +kernel
theorem dX13_known_20 : decode cX13_known 20 = .ok (.invokevirtual 154, 3) := by decide +kernel
theorem dX13_known_23 : decode cX13_known 23 = .ok (.istore_n 2, 1) := by decide +kernel
theorem dX13_known_24 : decode cX13_known 24 = .ok (.iload_n 2, 1) := by decide +kernel
theorem dX13_known_25 : decode cX13_known 25 = .ok (.iconst (-1), 1) := by decide +kernel
theorem dX13_known_26 : decode cX13_known 26 = .ok (.if_icmp .eq 16, 3) := by decide +kernel
theorem dX13_known_29 : decode cX13_known 29 = .ok (.aload_n 0, 1) := by decide +kernel
theorem dX13_known_30 : decode cX13_known 30 = .ok (.getfield 150, 3) := by decide +kernel
theorem dX13_known_33 : decode cX13_known 33 = .ok (.getfield 167, 3) := by decide +kernel
theorem dX13_known_36 : decode cX13_known 36 = .ok (.iload_n 2, 1) := by decide +kernel
theorem dX13_known_37 : decode cX13_known 37 = .ok (.iaload, 1) := by decide +kernel
theorem dX13_known_38 : decode cX13_known 38 = .ok (.iload_n 1, 1) := by decide +kernel
theorem dX13_known_39 : decode cX13_known 39 = .ok (.if_icmp .eq 8, 3) := by decide +kernel
theorem dX13_known_42 : decode cX13_known 42 = .ok (.aload_n 0, 1) := by decide +kernel
theorem dX13_known_43 : decode cX13_known 43 = .ok (.iconst 2, 1) := by decide +kernel
theorem dX13_known_44 : decode cX13_known 44 = .ok (.invokevirtual 104, 3) := by decide +kernel
theorem dX13_known_47 : decode cX13_known 47 = .ok (.aload_n 0, 1) := by decide +kernel
theorem dX13_known_48 : decode cX13_known 48 = .ok (.getfield 58, 3) := by decide +kernel
theorem dX13_known_51 : decode cX13_known 51 = .ok (.iconst 5, 1) := by decide +kernel
theorem dX13_known_52 : decode cX13_known 52 = .ok (.if_icmp .ne 7, 3) := by decide +kernel
theorem dX13_known_55 : decode cX13_known 55 = .ok (.iconst 0, 1) := by decide +kernel
theorem dX13_known_56 : decode cX13_known 56 = .ok (.goto 12, 3) := by decide +kernel
theorem dX13_known_59 : decode cX13_known 59 = .ok (.aload_n 0, 1) := by decide +kernel
theorem dX13_known_60 : decode cX13_known 60 = .ok (.getfield 150, 3) := by decide +kernel
theorem dX13_known_63 : decode cX13_known 63 = .ok (.getfield 170, 3) := by decide +kernel
theorem dX13_known_66 : decode cX13_known 66 = .ok (.iload_n 2, 1) := by decide +kernel
theorem dX13_known_67 : decode cX13_known 67 = .ok (.iaload, 1) := by decide +kernel
theorem dX13_known_68 : decode cX13_known 68 = .ok (.ireturn, 1) := by decide +kernel
set_option maxRecDepth 20000 in
theorem ggX13_readKnown_X13_known : GoodIn wsX13_readKnown wsX13_known := goodIn_r _ [5, 6, 7, 8, 9, 10, 11, 4, 12, 13, 14, 15, 16, 17, 18, 19, 20, 21, 22, 23, 24, 25, 26, 27, 28, 29, 30, 31, 32, 33, 34, 35, 36, 37, 38, 39, 40, 41, 42, 43, 44, 45, 46, 47, 48, 49, 50, 51, 52, 53, 54, 55, 56, 57, 58, 59, 60, 61, 62, 63, 64, 65, 66, 67, 68, 69, 70, 71, 72, 73, 74, 75, 76, 77, 78, 79, 80, 81, 82, 83, 103, 104, 105, 106, 107, 108, 109, 110, 111, 112, 113, 114, 115, 116, 117, 118, 119, 120, 121, 122, 123, 124, 125, 126, 127, 128, 129, 130, 131, 132, 133, 134, 135, 136, 137, 138, 139, 140, 141, 142, 143, 144, 145, 146, 147, 148, 149, 150, 151, 152, 153, 154, 155, 156, 157, 158, 159, 160, 161, 162, 163, 164, 165, 166, 167, 168, 169, 170, 171, 172, 173, 174, 175, 176, 177, 178, 179] rfl (by decide +kernel)
set_option maxRecDepth 20000 in
theorem gX13_readKnown_X13_known : GoodIn wsX13_readKnown (wsV RX13 173 RX13 yX13_known wsX13_known) := goodIn_app (goodIn_of _ (by decide +kernel)) ggX13_readKnown_X13_known
set_option maxRecDepth 20000 in
theorem ggX13_readKnown_X13_goesOn : GoodIn wsX13_readKnown wsX13_goesOn := goodIn_r _ [87, 8, 88, 75, 89, 7, 20, 90, 91, 92, 93, 4, 94, 95, 96, 97, 98, 99, 100, 101, 102, 103, 104, 105, 106, 107, 108, 109, 110, 111, 112, 113, 114, 115, 116, 117, 118, 119, 120, 121, 122, 123, 124, 125, 126, 127, 128, 129, 130, 131] rfl (by decide +kernel)
set_option maxRecDepth 20000 in
theorem gX13_readKnown_X13_goesOn : GoodIn wsX13_readKnown (wsV RX13 101 RX13 yX13_goesOn wsX13_goesOn) := goodIn_app (goodIn_of _ (by decide +kernel)) ggX13_readKnown_X13_goesOn
theorem dX13_readKnown_0 : decode cX13_readKnown 0 = .ok (.aload_n 0, 1) := by decide +kernel
theorem dX13_readKnown_1 : decode cX13_readKnown 1 = .ok (.iload_n 1, 1) := by decide +kernel
theorem dX13_readKnown_2 : decode cX13_readKnown 2 = .ok (.invokevirtual 173, 3) := by decide +kernel
theorem dX13_readKnown_5 : decode cX13_readKnown 5 = .ok (.istore_n 2, 1) := by decide +kernel
theorem dX13_readKnown_6 : decode cX13_readKnown 6 = .ok (.aload_n 0, 1) := by decide +kernel
theorem dX13_readKnown_7 : decode cX13_readKnown 7 = .ok (.invokevirtual 101, 3) := by decide +kernel
theorem dX13_readKnown_10 : decode cX13_readKnown 10 = .ok (.iload_n 2, 1) := by decide +kernel
theorem dX13_readKnown_11 : decode cX13_readKnown 11 = .ok (.ireturn, 1) := by decide +kernel
set_option maxRecDepth 20000 in
theorem ggX13_isSlope_X13_isWord : GoodIn wsX13_isSlope wsX13_isWord := goodIn_r _ [5, 6, 7, 8, 9, 4, 10, 11, 12, 13, 14, 15, 16, 17, 18, 19, 20, 21, 22, 23, 24, 25, 26, 27, 28, 29, 30, 31, 32, 33, 34, 35, 36, 37, 38, 39, 40, 41, 42, 43, 44, 45, 46, 47, 48, 49, 50, 51, 52, 53, 54, 55, 56, 57, 58, 59, 60, 61, 62, 63, 64, 65, 66, 67, 68, 69, 70, 71, 72, 73, 74, 75, 76, 77, 78, 79, 80, 81, 82, 83, 84, 85, 86, 87, 88, 89] rfl (by decide +kernel)
set_option maxRecDepth 20000 in
theorem gX13_isSlope_X13_isWord : GoodIn wsX13_isSlope (wsV RX13 97 RX13 yX13_isWord wsX13_isWord) := goodIn_app (goodIn_of _ (by decide +kernel)) ggX13_isSlope_X13_isWord
theorem dX13_isSlope_0 : decode cX13_isSlope 0 = .ok (.aload_n 0, 1) := by decide +kernel
theorem dX13_isSlope_1 : decode cX13_isSlope 1 = .ok (.ldc 140, 2) := by decide +kernel
theorem dX13_isSlope_3 : decode cX13_isSlope 3 = .ok (.invokevirtual 97, 3) := by decide +kernel
theorem dX13_isSlope_6 : decode cX13_isSlope 6 = .ok (.ifCond .ne 12, 3) := by decide +kernel
theorem dX13_isSlope_9 : decode cX13_isSlope 9 = .ok (.aload_n 0, 1) := by decide +kernel
theorem dX13_isSlope_10 : decode cX13_isSlope 10 = .ok (.ldc 142, 2) := by decide +kernel
theorem dX13_isSlope_12 : decode cX13_isSlope 12 = .ok (.invokevirtual 97, 3) := by decide +kernel
theorem dX13_isSlope_15 : decode cX13_isSlope 15 = .ok (.ifCond .eq 7, 3) := by decide +kernel
theorem dX13_isSlope_18 : decode cX13_isSlope 18 = .ok (.iconst 1, 1) := by decide +kernel
theorem dX13_isSlope_19 : decode cX13_isSlope 19 = .ok (.goto 4, 3) := by decide +kernel
theorem dX13_isSlope_22 : decode cX13_isSlope 22 = .ok (.iconst 0, 1) := by decide +kernel
theorem dX13_isSlope_23 : decode cX13_isSlope 23 = .ok (.ireturn, 1) := by decide +kernel
set_option maxRecDepth 20000 in
theorem ggX13_readSlope_X13_isWord : GoodIn wsX13_readSlope wsX13_isWord := goodIn_r _ [5, 6, 7, 8, 9, 4, 10, 11, 12, 13, 14, 15, 16, 17, 18, 19, 20, 21, 22, 23, 24, 25, 26, 27, 28, 29, 30, 31, 32, 33, 34, 35, 36, 37, 38, 39, 40, 41, 42, 43, 44, 45, 46, 47, 48, 49, 50, 51, 52, 53, 54, 55, 56, 57, 58, 59, 60, 98, 99, 100, 101, 102, 103, 104, 105, 106, 107, 108, 109, 110, 111, 112, 113, 114, 115, 116, 117, 118, 119, 120, 121, 122, 123, 124, 125, 126] rfl (by decide +kernel)
set_option maxRecDepth 20000 in
theorem gX13_readSlope_X13_isWord : GoodIn wsX13_readSlope (wsV RX13 97 RX13 yX13_isWord wsX13_isWord) := goodIn_app (goodIn_of _ (by decide +kernel)) ggX13_readSlope_X13_isWord
set_option maxRecDepth 20000 in
theorem ggX13_readSlope_X13_isSlope : GoodIn wsX13_readSlope wsX13_isSlope := goodIn_r _ [64, 1, 2, 3, 4, 5, 6, 7, 8, 9, 10, 11, 12, 13, 14, 15, 16, 17, 18, 19, 20, 21, 22, 23, 24, 25, 26, 27, 28, 29, 30, 31, 32, 33, 34, 35, 36, 37, 38, 39, 40, 41, 42, 43, 44, 45, 46, 47, 48, 49, 50, 51, 52, 53, 54, 55, 56, 57, 58, 59, 60, 98, 99, 100, 101, 102, 103, 104, 105, 106, 107, 108, 109, 110, 111, 112, 113, 114, 115, 116, 117, 118, 119, 120, 121, 122, 123, 124, 125, 126] rfl (by decide +kernel)
set_option maxRecDepth 20000 in
theorem gX13_readSlope_X13_isSlope : GoodIn wsX13_readSlope (wsV RX13 176 RX13 yX13_isSlope wsX13_isSlope) := goodIn_app (goodIn_of _ (by decide +kernel)) ggX13_readSlope_X13_isSlope
set_option maxRecDepth 20000 in
theorem ggX13_readSlope_X13_wrong : GoodIn wsX13_readSlope wsX13_wrong := goodIn_r _ [68, 6, 69, 70, 71, 98, 99, 100, 101, 102, 103, 104, 105, 106, 107, 108, 109, 110, 111, 112, 113, 114, 115, 116, 117, 118, 119, 120, 121, 122, 123, 124, 125, 126] rfl (by decide +kernel)
set_option maxRecDepth 20000 in
theorem gX13_readSlope_X13_wrong : GoodIn wsX13_readSlope (wsV RX13 104 RX13 yX13_wrong wsX13_wrong) := goodIn_app (goodIn_of _ (by decide +kernel)) ggX13_readSlope_X13_wrong
set_option maxRecDepth 20000 in
theorem ggX13_readSlope_X13_goesOn : GoodIn wsX13_readSlope wsX13_goesOn := goodIn_r _ [75, 6, 76, 70, 77, 7, 11, 78, 79, 80, 81, 4, 82, 83, 84, 85, 86, 87, 88, 89, 90, 98, 99, 100, 101, 102, 103, 104, 105, 106, 107, 108, 109, 110, 111, 112, 113, 114, 115, 116, 117, 118, 119, 120, 121, 122, 123, 124, 125, 126] rfl (by decide +kernel)
set_option maxRecDepth 20000 in
theorem gX13_readSlope_X13_goesOn : GoodIn wsX13_readSlope (wsV RX13 101 RX13 yX13_goesOn wsX13_goesOn) := goodIn_app (goodIn_of _ (by decide +kernel)) ggX13_readSlope_X13_goesOn
set_option maxRecDepth 20000 in
theorem ggX13_readSlope_X13_readWhole : GoodIn wsX13_readSlope wsX13_readWhole := goodIn_r _ [94, 6, 78, 65, 66, 67, 4, 68, 69, 70, 71, 95, 96, 97, 72, 73, 74, 75, 76, 77, 7, 11, 79, 80, 81, 82, 83, 84, 85, 86, 87, 88, 89, 90, 98, 99, 100, 101, 102, 103, 104, 105, 106, 107, 108, 109, 110, 111, 112, 113, 114, 115, 116, 117, 118, 119, 120, 121, 122, 123, 124, 125, 126] rfl (by decide +kernel)
set_option maxRecDepth 20000 in
theorem gX13_readSlope_X13_readWhole : GoodIn wsX13_readSlope (wsV RX13 116 RX13 yX13_readWhole wsX13_readWhole) := goodIn_app (goodIn_of _ (by decide +kernel)) ggX13_readSlope_X13_readWhole
theorem dX13_readSlope_0 : decode cX13_readSlope 0 = .ok (.aload_n 0, 1) := by decide +kernel
theorem dX13_readSlope_1 : decode cX13_readSlope 1 = .ok (.ldc 142, 2) := by decide +kernel
theorem dX13_readSlope_3 : decode cX13_readSlope 3 = .ok (.invokevirtual 97, 3) := by decide +kernel
theorem dX13_readSlope_6 : decode cX13_readSlope 6 = .ok (.istore_n 1, 1) := by decide +kernel
theorem dX13_readSlope_7 : decode cX13_readSlope 7 = .ok (.aload_n 0, 1) := by decide +kernel
theorem dX13_readSlope_8 : decode cX13_readSlope 8 = .ok (.invokevirtual 176, 3) := by decide +kernel
theorem dX13_readSlope_11 : decode cX13_readSlope 11 = .ok (.ifCond .ne 8, 3) := by decide +kernel
theorem dX13_readSlope_14 : decode cX13_readSlope 14 = .ok (.aload_n 0, 1) := by decide +kernel
theorem dX13_readSlope_15 : decode cX13_readSlope 15 = .ok (.iconst 1, 1) := by decide +kernel
theorem dX13_readSlope_16 : decode cX13_readSlope 16 = .ok (.invokevirtual 104, 3) := by decide +kernel
theorem dX13_readSlope_19 : decode cX13_readSlope 19 = .ok (.aload_n 0, 1) := by decide +kernel
theorem dX13_readSlope_20 : decode cX13_readSlope 20 = .ok (.invokevirtual 101, 3) := by decide +kernel
theorem dX13_readSlope_23 : decode cX13_readSlope 23 = .ok (.aload_n 0, 1) := by decide +kernel
theorem dX13_readSlope_24 : decode cX13_readSlope 24 = .ok (.iconst 0, 1) := by decide +kernel
theorem dX13_readSlope_25 : decode cX13_readSlope 25 = .ok (.bipush 20, 2) := by decide +kernel
theorem dX13_readSlope_27 : decode cX13_readSlope 27 = .ok (.invokevirtual 116, 3) := by decide +kernel
theorem dX13_readSlope_30 : decode cX13_readSlope 30 = .ok (.istore_n 2, 1) := by decide +kernel
theorem dX13_readSlope_31 : decode cX13_readSlope 31 = .ok (.iload_n 1, 1) := by decide +kernel
theorem dX13_readSlope_32 : decode cX13_readSlope 32 = .ok (.ifCond .eq 8, 3) := by decide +kernel
theorem dX13_readSlope_35 : decode cX13_readSlope 35 = .ok (.iload_n 2, 1) := by decide +kernel
theorem dX13_readSlope_36 : decode cX13_readSlope 36 = .ok (.ineg, 1) := by decide +kernel
theorem dX13_readSlope_37 : decode cX13_readSlope 37 = .ok (.goto 4, 3) := by decide +kernel
theorem dX13_readSlope_40 : decode cX13_readSlope 40 = .ok (.iload_n 2, 1) := by decide +kernel
theorem dX13_readSlope_41 : decode cX13_readSlope 41 = .ok (.ireturn, 1) := by decide +kernel
set_option maxRecDepth 20000 in
theorem ggX13_readIsland_X13_readLine : GoodIn wsX13_readIsland wsX13_readLine := goodIn_r _ [7, 8, 9, 10, 6, 11, 1, 12, 13, 14, 15, 16, 17, 18, 19, 20, 21, 22, 23, 24, 25, 26, 27, 28, 29, 30, 31, 32, 33, 34, 35, 36, 37, 38, 39, 40, 41, 42, 43, 44, 45, 46, 47, 48, 49, 50, 51, 52, 53, 54, 55, 56, 57, 58, 59, 60, 61, 62, 63, 64, 65, 66, 67, 68, 69, 2, 70, 71, 72, 73, 74, 75, 76, 77, 78, 79, 80, 81, 82, 83, 84, 85, 86, 87, 88, 89, 90, 91, 92, 93, 94, 95, 96, 97, 98, 99, 100, 101, 102, 103, 104, 105, 106, 107, 108, 109, 110, 111, 112, 113, 114, 115, 116, 117, 118, 119, 120, 121, 122, 123, 124, 125, 126, 127, 128, 129, 130, 131, 132, 133, 134, 135, 136, 137, 138, 139, 140, 141, 142, 143, 144, 145, 146, 147, 148, 149, 150, 151, 152, 153, 154, 155, 156, 157, 158, 159, 160, 161, 162, 163, 164, 165, 166, 167, 168, 169, 170, 171, 172, 173, 174, 175, 176, 177, 178, 179, 180, 181, 182, 183, 184, 185, 186, 187, 188, 189, 190, 191, 192, 193, 194, 195, 196, 197, 198, 199, 200, 201, 202, 203, 204, 205, 206, 207, 208, 209, 210, 211, 212, 213, 214, 215, 216, 217, 218, 219, 220, 221, 222, 223, 224, 225, 226, 227, 228, 229, 230, 231, 232, 233, 234, 235, 236, 237, 238, 239, 240, 241, 242, 243, 244, 245, 246, 247, 248, 249, 250, 251, 252, 253, 254, 255, 256, 257, 258, 259, 260, 261, 262, 263, 264, 265, 266] rfl (by decide +kernel)
set_option maxRecDepth 20000 in
theorem gX13_readIsland_X13_readLine : GoodIn wsX13_readIsland (wsV RX13 179 RX13 yX13_readLine wsX13_readLine) := goodIn_app (goodIn_of _ (by decide +kernel)) ggX13_readIsland_X13_readLine
set_option maxRecDepth 20000 in
theorem ggX13_readIsland_X13_eatsSign : GoodIn wsX13_readIsland wsX13_eatsSign := goodIn_r _ [145, 1, 86, 81, 82, 83, 6, 84, 85, 79, 12, 16, 87, 88, 89, 90, 91, 92, 93, 94, 95, 96, 97, 98, 99, 190, 191, 192, 193, 194, 195, 196, 197, 198, 199, 200, 201, 202, 203, 204, 205, 206, 207, 208, 209, 210, 211, 212, 213, 214, 215, 216, 217, 218] rfl (by decide +kernel)
set_option maxRecDepth 20000 in
theorem gX13_readIsland_X13_eatsSign : GoodIn wsX13_readIsland (wsV RX13 182 RX13 yX13_eatsSign wsX13_eatsSign) := goodIn_app (goodIn_of _ (by decide +kernel)) ggX13_readIsland_X13_eatsSign
set_option maxRecDepth 20000 in
theorem ggX13_readIsland_X13_wrong : GoodIn wsX13_readIsland wsX13_wrong := goodIn_r _ [77, 1, 78, 79, 80, 190, 191, 192, 193, 194, 195, 196, 197, 198, 199, 200, 201, 202, 203, 204, 205, 206, 207, 208, 209, 210, 211, 212, 213, 214, 215, 216, 217, 218] rfl (by decide +kernel)
set_option maxRecDepth 20000 in
theorem gX13_readIsland_X13_wrong : GoodIn wsX13_readIsland (wsV RX13 104 RX13 yX13_wrong wsX13_wrong) := goodIn_app (goodIn_of _ (by decide +kernel)) ggX13_readIsland_X13_wrong
theorem dX13_readIsland_0 : decode cX13_readIsland 0 = .ok (.iconst 1, 1) := by decide +kernel
theorem dX13_readIsland_1 : decode cX13_readIsland 1 = .ok (.istore_n 1, 1) := by decide +kernel
theorem dX13_readIsland_2 : decode cX13_readIsland 2 = .ok (.iload_n 1, 1) := by decide +kernel
theorem dX13_readIsland_3 : decode cX13_readIsland 3 = .ok (.ifCond .eq 17, 3) := by decide +kernel
theorem dX13_readIsland_6 : decode cX13_readIsland 6 = .ok (.aload_n 0, 1) := by decide +kernel
theorem dX13_readIsland_7 : decode cX13_readIsland 7 = .ok (.invokevirtual 179, 3) := by decide +kernel
theorem dX13_readIsland_10 : decode cX13_readIsland 10 = .ok (.aload_n 0, 1) := by decide +kernel
theorem dX13_readIsland_11 : decode cX13_readIsland 11 = .ok (.bipush 59, 2) := by decide +kernel
theorem dX13_readIsland_13 : decode cX13_readIsland 13 = .ok (.invokevirtual 182, 3) := by decide +kernel
theorem dX13_readIsland_16 : decode cX13_readIsland 16 = .ok (.istore_n 1, 1) := by decide +kernel
theorem dX13_readIsland_17 : decode cX13_readIsland 17 = .ok (.goto (-15), 3) := by decide +kernel
theorem dX13_readIsland_20 : decode cX13_readIsland 20 = .ok (.aload_n 0, 1) := by decide +kernel
theorem dX13_readIsland_21 : decode cX13_readIsland 21 = .ok (.getfield 58, 3) := by decide +kernel
theorem dX13_readIsland_24 : decode cX13_readIsland 24 = .ok (.iconst 1, 1) := by decide +kernel
theorem dX13_readIsland_25 : decode cX13_readIsland 25 = .ok (.if_icmp .eq 8, 3) := by decide +kernel
theorem dX13_readIsland_28 : decode cX13_readIsland 28 = .ok (.aload_n 0, 1) := by decide +kernel
theorem dX13_readIsland_29 : decode cX13_readIsland 29 = .ok (.iconst 1, 1) := by decide +kernel
theorem dX13_readIsland_30 : decode cX13_readIsland 30 = .ok (.invokevirtual 104, 3) := by decide +kernel
theorem dX13_readIsland_33 : decode cX13_readIsland 33 = .ok (.aload_n 0, 1) := by decide +kernel
theorem dX13_readIsland_34 : decode cX13_readIsland 34 = .ok (.getfield 150, 3) := by decide +kernel
theorem dX13_readIsland_37 : decode cX13_readIsland 37 = .ok (.getfield 185, 3) := by decide +kernel
theorem dX13_readIsland_40 : decode cX13_readIsland 40 = .ok (.ifCond .eq 23, 3) := by decide +kernel
theorem dX13_readIsland_43 : decode cX13_readIsland 43 = .ok (.aload_n 0, 1) := by decide +kernel
theorem dX13_readIsland_44 : decode cX13_readIsland 44 = .ok (.getfield 150, 3) := by decide +kernel
theorem dX13_readIsland_47 : decode cX13_readIsland 47 = .ok (.getfield 188, 3) := by decide +kernel
theorem dX13_readIsland_50 : decode cX13_readIsland 50 = .ok (.ifCond .eq 13, 3) := by decide +kernel
theorem dX13_readIsland_53 : decode cX13_readIsland 53 = .ok (.aload_n 0, 1) := by decide +kernel
theorem dX13_readIsland_54 : decode cX13_readIsland 54 = .ok (.getfield 150, 3) := by decide +kernel
theorem dX13_readIsland_57 : decode cX13_readIsland 57 = .ok (.getfield 191, 3) := by decide +kernel
theorem dX13_readIsland_60 : decode cX13_readIsland 60 = .ok (.ifCond .ne 9, 3) := by decide +kernel
theorem dX13_readIsland_63 : decode cX13_readIsland 63 = .ok (.aload_n 0, 1) := by decide +kernel
theorem dX13_readIsland_64 : decode cX13_readIsland 64 = .ok (.bipush 6, 2) := by decide +kernel
theorem dX13_readIsland_66 : decode cX13_readIsland 66 = .ok (.invokevirtual 104, 3) := by decide +kernel
theorem dX13_readIsland_69 : decode cX13_readIsland 69 = .ok (.return_, 1) := by decide +kernel
set_option maxRecDepth 20000 in
theorem ggX13_readLine_X13_isWord : GoodIn wsX13_readLine wsX13_isWord := goodIn_r _ [5, 6, 7, 8, 9, 4, 10, 11, 12, 13, 14, 15, 16, 17, 18, 19, 20, 21, 22, 23, 24, 25, 26, 27, 28, 29, 30, 31, 32, 33, 34, 35, 36, 37, 38, 39, 40, 41, 42, 43, 44, 45, 46, 47, 48, 49, 50, 51, 52, 53, 54, 55, 56, 57, 58, 59, 60, 186, 187, 188, 189, 190, 191, 192, 193, 194, 195, 196, 197, 198, 199, 200, 201, 202, 203, 204, 205, 206, 207, 208, 209, 210, 211, 212, 213, 214] rfl (by decide +kernel)
set_option maxRecDepth 20000 in
theorem gX13_readLine_X13_isWord : GoodIn wsX13_readLine (wsV RX13 97 RX13 yX13_isWord wsX13_isWord) := goodIn_app (goodIn_of _ (by decide +kernel)) ggX13_readLine_X13_isWord
set_option maxRecDepth 20000 in
theorem ggX13_readLine_X13_readWay : GoodIn wsX13_readLine wsX13_readWay := goodIn_r _ [64, 65, 6, 66, 67, 68, 4, 69, 70, 71, 72, 73, 74, 75, 76, 77, 78, 79, 80, 81, 82, 7, 11, 83, 84, 85, 86, 87, 88, 89, 90, 91, 92, 93, 94, 95, 96, 97, 98, 99, 100, 101, 102, 103, 1, 2, 3, 5, 8, 9, 10, 12, 13, 14, 15, 16, 17, 18, 19, 20, 21, 22, 23, 24, 25, 26, 27, 28, 29, 30, 31, 32, 33, 34, 35, 36, 37, 38, 39, 40, 41, 42, 43, 44, 45, 46, 47, 48, 49, 50, 51, 52, 53, 54, 55, 56, 57, 58, 59, 60, 104, 105, 106, 107, 108, 109, 110, 111, 112, 113, 114, 115, 116, 117, 118, 119, 120, 121, 122, 123, 124, 125, 186, 187, 188, 189, 190, 191, 192, 193, 194, 195, 196, 197, 198, 199, 200, 201, 202, 203, 204, 205, 206, 207, 208, 209, 210, 211, 212, 213, 214, 215, 216, 217, 218, 219, 220, 221, 222, 223, 224, 225, 226, 227, 228, 229, 230, 231, 232, 233, 234, 235, 236, 237, 238, 239, 240, 241, 242, 243, 244, 245, 246, 247, 248, 249, 250, 251, 252, 253, 254, 255, 256, 257, 258, 259, 260, 261, 262] rfl (by decide +kernel)
set_option maxRecDepth 20000 in
theorem gX13_readLine_X13_readWay : GoodIn wsX13_readLine (wsV RX13 194 RX13 yX13_readWay wsX13_readWay) := goodIn_app (goodIn_of _ (by decide +kernel)) ggX13_readLine_X13_readWay
set_option maxRecDepth 20000 in
theorem ggX13_readLine_X13_readRoad : GoodIn wsX13_readLine wsX13_readRoad := goodIn_r _ [129, 65, 6, 66, 67, 68, 4, 69, 70, 71, 72, 73, 74, 75, 76, 77, 78, 79, 80, 81, 82, 7, 11, 83, 84, 85, 86, 87, 88, 89, 90, 91, 92, 93, 94, 95, 96, 97, 98, 99, 100, 101, 102, 103, 1, 2, 3, 5, 8, 9, 10, 12, 13, 14, 15, 16, 17, 18, 19, 20, 21, 22, 23, 24, 25, 26, 27, 28, 29, 30, 31, 32, 33, 34, 35, 36, 37, 38, 39, 40, 41, 42, 43, 44, 45, 46, 47, 48, 49, 50, 51, 52, 53, 54, 55, 56, 57, 58, 59, 60, 104, 105, 106, 107, 108, 109, 110, 111, 112, 113, 114, 115, 116, 117, 118, 119, 120, 121, 122, 123, 124, 125, 130, 131, 132, 133, 134, 135, 136, 137, 138, 139, 140, 141, 186, 187, 188, 189, 190, 191, 192, 193, 194, 195, 196, 197, 198, 199, 200, 201, 202, 203, 204, 205, 206, 207, 208, 209, 210, 211, 212, 213, 214, 215, 216, 217, 218, 219, 220, 221, 222, 223, 224, 225, 226, 227, 228, 229, 230, 231, 232, 233, 234, 235, 236, 237, 238, 239, 240, 241, 242, 243, 244, 245, 246, 247, 248, 249, 250, 251, 252, 253, 254, 255, 256, 257, 258, 259, 260, 261, 262] rfl (by decide +kernel)
set_option maxRecDepth 20000 in
theorem gX13_readLine_X13_readRoad : GoodIn wsX13_readLine (wsV RX13 197 RX13 yX13_readRoad wsX13_readRoad) := goodIn_app (goodIn_of _ (by decide +kernel)) ggX13_readLine_X13_readRoad
set_option maxRecDepth 20000 in
theorem ggX13_readLine_X13_readStatue : GoodIn wsX13_readLine wsX13_readStatue := goodIn_r _ [145, 65, 6, 66, 67, 68, 4, 69, 70, 71, 72, 73, 74, 75, 76, 77, 78, 79, 80, 81, 82, 7, 11, 83, 84, 85, 86, 87, 88, 89, 90, 91, 92, 93, 94, 95, 96, 97, 98, 99, 100, 101, 102, 103, 1, 2, 3, 5, 8, 9, 10, 12, 13, 14, 15, 16, 17, 18, 19, 20, 21, 22, 23, 24, 25, 26, 27, 28, 29, 30, 31, 32, 33, 34, 35, 36, 37, 38, 39, 40, 41, 42, 43, 44, 45, 46, 47, 48, 49, 50, 51, 52, 53, 54, 55, 56, 57, 58, 59, 60, 104, 105, 106, 107, 108, 109, 110, 111, 112, 113, 114, 115, 116, 117, 118, 119, 120, 121, 122, 123, 124, 125, 146, 147, 148, 149, 150, 151, 152, 153, 186, 187, 188, 189, 190, 191, 192, 193, 194, 195, 196, 197, 198, 199, 200, 201, 202, 203, 204, 205, 206, 207, 208, 209, 210, 211, 212, 213, 214, 215, 216, 217, 218, 219, 220, 221, 222, 223, 224, 225, 226, 227, 228, 229, 230, 231, 232, 233, 234, 235, 236, 237, 238, 239, 240, 241, 242, 243, 244, 245, 246, 247, 248, 249, 250, 251, 252, 253, 254, 255, 256, 257, 258, 259, 260, 261, 262] rfl (by decide +kernel)
set_option maxRecDepth 20000 in
theorem gX13_readLine_X13_readStatue : GoodIn wsX13_readLine (wsV RX13 200 RX13 yX13_readStatue wsX13_readStatue) := goodIn_app (goodIn_of _ (by decide +kernel)) ggX13_readLine_X13_readStatue
set_option maxRecDepth 20000 in
theorem ggX13_readLine_X13_readTrial : GoodIn wsX13_readLine wsX13_readTrial := goodIn_r _ [157, 65, 6, 66, 67, 68, 4, 69, 70, 71, 72, 73, 74, 75, 76, 77, 78, 79, 80, 81, 82, 7, 11, 83, 84, 85, 86, 87, 88, 89, 90, 91, 92, 93, 94, 95, 96, 97, 98, 99, 100, 101, 102, 103, 1, 2, 3, 5, 8, 9, 10, 12, 13, 14, 15, 16, 17, 18, 19, 20, 21, 22, 23, 24, 25, 26, 27, 28, 29, 30, 31, 32, 33, 34, 35, 36, 37, 38, 39, 40, 41, 42, 43, 44, 45, 46, 47, 48, 49, 50, 51, 52, 53, 54, 55, 56, 57, 58, 59, 60, 104, 105, 106, 107, 108, 109, 110, 115, 116, 117, 118, 146, 147, 148, 149, 150, 151, 152, 153, 111, 112, 113, 114, 119, 120, 121, 122, 123, 124, 125, 186, 187, 188, 189, 190, 191, 192, 193, 194, 195, 196, 197, 198, 199, 200, 201, 202, 203, 204, 205, 206, 207, 208, 209, 210, 211, 212, 213, 214, 215, 216, 217, 218, 219, 220, 221, 222, 223, 224, 225, 226, 227, 228, 229, 230, 231, 232, 233, 234, 235, 236, 237, 238, 239, 240, 241, 242, 243, 244, 245, 246, 247, 248, 249, 250, 251, 252, 253, 254, 255, 256, 257, 258, 259, 260, 261, 262] rfl (by decide +kernel)
set_option maxRecDepth 20000 in
theorem gX13_readLine_X13_readTrial : GoodIn wsX13_readLine (wsV RX13 203 RX13 yX13_readTrial wsX13_readTrial) := goodIn_app (goodIn_of _ (by decide +kernel)) ggX13_readLine_X13_readTrial
set_option maxRecDepth 20000 in
theorem ggX13_readLine_X13_readLand : GoodIn wsX13_readLine wsX13_readLand := goodIn_r _ [161, 65, 6, 70, 71, 72, 4, 73, 74, 75, 76, 77, 78, 79, 80, 81, 82, 7, 11, 83, 84, 85, 86, 87, 88, 89, 90, 91, 92, 93, 94, 95, 111, 112, 113, 114, 115, 116, 117, 118, 1, 2, 3, 5, 8, 9, 10, 12, 13, 14, 15, 16, 17, 18, 19, 20, 21, 22, 23, 24, 25, 26, 27, 28, 29, 30, 31, 32, 33, 34, 35, 36, 37, 38, 39, 40, 41, 42, 43, 44, 45, 46, 47, 48, 49, 50, 51, 52, 53, 54, 55, 56, 57, 58, 59, 60, 119, 120, 121, 122, 123, 124, 125, 186, 187, 188, 189, 190, 191, 192, 193, 194, 195, 196, 197, 198, 199, 200, 201, 202, 203, 204, 205, 206, 207, 208, 209, 210, 211, 212, 213, 214, 215, 216, 217, 218, 219, 220, 221, 222, 223, 224, 225, 226, 227, 228, 229, 230, 231, 232, 233, 234, 235, 236, 237, 238, 239, 240, 241, 242, 243, 244, 245, 246, 247, 248, 249, 250, 251, 252, 253, 254, 255, 256, 257, 258, 259, 260, 261, 262] rfl (by decide +kernel)
set_option maxRecDepth 20000 in
theorem gX13_readLine_X13_readLand : GoodIn wsX13_readLine (wsV RX13 206 RX13 yX13_readLand wsX13_readLand) := goodIn_app (goodIn_of _ (by decide +kernel)) ggX13_readLine_X13_readLand
set_option maxRecDepth 20000 in
theorem ggX13_readLine_X13_readFields : GoodIn wsX13_readLine wsX13_readFields := goodIn_r _ [165, 65, 6, 70, 71, 72, 4, 73, 74, 75, 76, 77, 78, 79, 80, 81, 82, 7, 11, 83, 84, 85, 86, 87, 88, 89, 90, 91, 92, 93, 94, 95, 119, 120, 121, 122, 123, 124, 125, 111, 112, 113, 114, 115, 116, 117, 118, 1, 2, 3, 5, 8, 9, 10, 12, 13, 14, 15, 16, 17, 18, 19, 20, 21, 22, 23, 24, 25, 26, 27, 28, 29, 30, 31, 32, 33, 34, 35, 36, 37, 38, 39, 40, 41, 42, 43, 44, 45, 46, 47, 48, 49, 50, 51, 52, 53, 54, 55, 56, 57, 58, 59, 60, 186, 187, 188, 189, 190, 191, 192, 193, 194, 195, 196, 197, 198, 199, 200, 201, 202, 203, 204, 205, 206, 207, 208, 209, 210, 211, 212, 213, 214, 215, 216, 217, 218, 219, 220, 221, 222, 223, 224, 225, 226, 227, 228, 229, 230, 231, 232, 233, 234, 235, 236, 237, 238, 239, 240, 241, 242, 243, 244, 245, 246, 247, 248, 249, 250, 251, 252, 253, 254, 255, 256, 257, 258, 259, 260, 261, 262] rfl (by decide +kernel)
set_option maxRecDepth 20000 in
theorem gX13_readLine_X13_readFields : GoodIn wsX13_readLine (wsV RX13 209 RX13 yX13_readFields wsX13_readFields) := goodIn_app (goodIn_of _ (by decide +kernel)) ggX13_readLine_X13_readFields
set_option maxRecDepth 20000 in
theorem ggX13_readLine_X13_readHouses : GoodIn wsX13_readLine wsX13_readHouses := goodIn_r _ [169, 65, 6, 70, 71, 72, 4, 73, 74, 75, 76, 77, 78, 79, 80, 81, 82, 7, 11, 83, 84, 85, 86, 87, 88, 89, 90, 91, 92, 93, 94, 95, 119, 120, 121, 122, 123, 124, 125, 111, 112, 113, 114, 115, 116, 117, 118, 1, 2, 3, 5, 8, 9, 10, 12, 13, 14, 15, 16, 17, 18, 19, 20, 21, 22, 23, 24, 25, 26, 27, 28, 29, 30, 31, 32, 33, 34, 35, 36, 37, 38, 39, 40, 41, 42, 43, 44, 45, 46, 47, 48, 49, 50, 51, 52, 53, 54, 55, 56, 57, 58, 59, 60, 186, 187, 188, 189, 190, 191, 192, 193, 194, 195, 196, 197, 198, 199, 200, 201, 202, 203, 204, 205, 206, 207, 208, 209, 210, 211, 212, 213, 214, 215, 216, 217, 218, 219, 220, 221, 222, 223, 224, 225, 226, 227, 228, 229, 230, 231, 232, 233, 234, 235, 236, 237, 238, 239, 240, 241, 242, 243, 244, 245, 246, 247, 248, 249, 250, 251, 252, 253, 254, 255, 256, 257, 258, 259, 260, 261, 262] rfl (by decide +kernel)
set_option maxRecDepth 20000 in
theorem gX13_readLine_X13_readHouses : GoodIn wsX13_readLine (wsV RX13 212 RX13 yX13_readHouses wsX13_readHouses) := goodIn_app (goodIn_of _ (by decide +kernel)) ggX13_readLine_X13_readHouses
set_option maxRecDepth 20000 in
theorem ggX13_readLine_X13_readStory : GoodIn wsX13_readLine wsX13_readStory := goodIn_r _ [173, 65, 6, 66, 67, 68, 4, 69, 70, 71, 72, 73, 74, 75, 76, 77, 78, 79, 80, 81, 82, 7, 11, 83, 84, 85, 86, 87, 88, 89, 90, 91, 92, 93, 94, 95, 96, 97, 98, 99, 100, 101, 102, 103, 1, 2, 3, 5, 8, 9, 10, 12, 13, 14, 15, 16, 17, 18, 19, 20, 21, 22, 23, 24, 25, 26, 27, 28, 29, 30, 31, 32, 33, 34, 35, 36, 37, 38, 39, 40, 41, 42, 43, 44, 45, 46, 47, 48, 49, 50, 51, 52, 53, 54, 55, 56, 57, 58, 59, 60, 104, 105, 106, 107, 108, 109, 110, 111, 112, 113, 114, 115, 116, 117, 118, 119, 120, 121, 122, 123, 124, 125, 186, 187, 188, 189, 190, 191, 192, 193, 194, 195, 196, 197, 198, 199, 200, 201, 202, 203, 204, 205, 206, 207, 208, 209, 210, 211, 212, 213, 214, 215, 216, 217, 218, 219, 220, 221, 222, 223, 224, 225, 226, 227, 228, 229, 230, 231, 232, 233, 234, 235, 236, 237, 238, 239, 240, 241, 242, 243, 244, 245, 246, 247, 248, 249, 250, 251, 252, 253, 254, 255, 256, 257, 258, 259, 260, 261, 262] rfl (by decide +kernel)
set_option maxRecDepth 20000 in
theorem gX13_readLine_X13_readStory : GoodIn wsX13_readLine (wsV RX13 215 RX13 yX13_readStory wsX13_readStory) := goodIn_app (goodIn_of _ (by decide +kernel)) ggX13_readLine_X13_readStory
set_option maxRecDepth 20000 in
theorem ggX13_readLine_X13_readTeller : GoodIn wsX13_readLine wsX13_readTeller := goodIn_r _ [177, 65, 6, 66, 67, 68, 4, 69, 70, 71, 72, 73, 74, 75, 76, 77, 78, 79, 80, 81, 82, 7, 11, 83, 84, 85, 86, 87, 88, 89, 90, 91, 92, 93, 94, 95, 96, 97, 98, 99, 100, 101, 102, 103, 1, 2, 3, 5, 8, 9, 10, 12, 13, 14, 15, 16, 17, 18, 19, 20, 21, 22, 23, 24, 25, 26, 27, 28, 29, 30, 31, 32, 33, 34, 35, 36, 37, 38, 39, 40, 41, 42, 43, 44, 45, 46, 47, 48, 49, 50, 51, 52, 53, 54, 55, 56, 57, 58, 59, 60, 104, 105, 106, 107, 108, 109, 110, 111, 112, 113, 114, 115, 116, 117, 118, 119, 120, 121, 122, 123, 124, 125, 150, 151, 152, 153, 138, 139, 140, 141, 178, 179, 180, 181, 186, 187, 188, 189, 190, 191, 192, 193, 194, 195, 196, 197, 198, 199, 200, 201, 202, 203, 204, 205, 206, 207, 208, 209, 210, 211, 212, 213, 214, 215, 216, 217, 218, 219, 220, 221, 222, 223, 224, 225, 226, 227, 228, 229, 230, 231, 232, 233, 234, 235, 236, 237, 238, 239, 240, 241, 242, 243, 244, 245, 246, 247, 248, 249, 250, 251, 252, 253, 254, 255, 256, 257, 258, 259, 260, 261, 262] rfl (by decide +kernel)
set_option maxRecDepth 20000 in
theorem gX13_readLine_X13_readTeller : GoodIn wsX13_readLine (wsV RX13 218 RX13 yX13_readTeller wsX13_readTeller) := goodIn_app (goodIn_of _ (by decide +kernel)) ggX13_readLine_X13_readTeller
set_option maxRecDepth 20000 in
theorem ggX13_readLine_X13_readTry : GoodIn wsX13_readLine wsX13_readTry := goodIn_r _ [185, 65, 6, 66, 67, 68, 4, 69, 70, 71, 72, 73, 74, 75, 76, 77, 78, 79, 80, 81, 82, 7, 11, 83, 84, 85, 86, 87, 88, 89, 90, 91, 92, 93, 94, 95, 96, 97, 98, 99, 100, 101, 102, 103, 1, 2, 3, 5, 8, 9, 10, 12, 13, 14, 15, 16, 17, 18, 19, 20, 21, 22, 23, 24, 25, 26, 27, 28, 29, 30, 31, 32, 33, 34, 35, 36, 37, 38, 39, 40, 41, 42, 43, 44, 45, 46, 47, 48, 49, 50, 51, 52, 53, 54, 55, 56, 57, 58, 59, 60, 104, 105, 106, 107, 108, 109, 110, 111, 112, 113, 114, 115, 116, 117, 118, 119, 120, 121, 122, 123, 124, 125, 134, 135, 136, 137, 130, 131, 132, 133, 186, 187, 188, 189, 190, 191, 192, 193, 194, 195, 196, 197, 198, 199, 200, 201, 202, 203, 204, 205, 206, 207, 208, 209, 210, 211, 212, 213, 214, 215, 216, 217, 218, 219, 220, 221, 222, 223, 224, 225, 226, 227, 228, 229, 230, 231, 232, 233, 234, 235, 236, 237, 238, 239, 240, 241, 242, 243, 244, 245, 246, 247, 248, 249, 250, 251, 252, 253, 254, 255, 256, 257, 258, 259, 260, 261, 262] rfl (by decide +kernel)
set_option maxRecDepth 20000 in
theorem gX13_readLine_X13_readTry : GoodIn wsX13_readLine (wsV RX13 221 RX13 yX13_readTry wsX13_readTry) := goodIn_app (goodIn_of _ (by decide +kernel)) ggX13_readLine_X13_readTry
set_option maxRecDepth 20000 in
theorem ggX13_readLine_X13_wrong : GoodIn wsX13_readLine wsX13_wrong := goodIn_r _ [73, 6, 74, 75, 76, 186, 187, 188, 189, 190, 191, 192, 193, 194, 195, 196, 197, 198, 199, 200, 201, 202, 203, 204, 205, 206, 207, 208, 209, 210, 211, 212, 213, 214] rfl (by decide +kernel)
set_option maxRecDepth 20000 in
theorem gX13_readLine_X13_wrong : GoodIn wsX13_readLine (wsV RX13 104 RX13 yX13_wrong wsX13_wrong) := goodIn_app (goodIn_of _ (by decide +kernel)) ggX13_readLine_X13_wrong
theorem dX13_readLine_0 : decode cX13_readLine 0 = .ok (.aload_n 0, 1) := by decide +kernel
theorem dX13_readLine_1 : decode cX13_readLine 1 = .ok (.ldc 120, 2) := by decide +kernel
theorem dX13_readLine_3 : decode cX13_readLine 3 = .ok (.invokevirtual 97, 3) := by decide +kernel
theorem dX13_readLine_6 : decode cX13_readLine 6 = .ok (.ifCond .eq 10, 3) := by decide +kernel
theorem dX13_readLine_9 : decode cX13_readLine 9 = .ok (.aload_n 0, 1) := by decide +kernel
theorem dX13_readLine_10 : decode cX13_readLine 10 = .ok (.invokevirtual 194, 3) := by decide +kernel
theorem dX13_readLine_13 : decode cX13_readLine 13 = .ok (.goto 152, 3) := by decide +kernel
theorem dX13_readLine_16 : decode cX13_readLine 16 = .ok (.aload_n 0, 1) := by decide +kernel
theorem dX13_readLine_17 : decode cX13_readLine 17 = .ok (.ldc 122, 2) := by decide +kernel
theorem dX13_readLine_19 : decode cX13_readLine 19 = .ok (.invokevirtual 97, 3) := by decide +kernel
theorem dX13_readLine_22 : decode cX13_readLine 22 = .ok (.ifCond .eq 10, 3) := by decide +kernel
theorem dX13_readLine_25 : decode cX13_readLine 25 = .ok (.aload_n 0, 1) := by decide +kernel
theorem dX13_readLine_26 : decode cX13_readLine 26 = .ok (.invokevirtual 197, 3) := by decide +kernel
theorem dX13_readLine_29 : decode cX13_readLine 29 = .ok (.goto 136, 3) := by decide +kernel
theorem dX13_readLine_32 : decode cX13_readLine 32 = .ok (.aload_n 0, 1) := by decide +kernel
theorem dX13_readLine_33 : decode cX13_readLine 33 = .ok (.ldc 124, 2) := by decide +kernel
theorem dX13_readLine_35 : decode cX13_readLine 35 = .ok (.invokevirtual 97, 3) := by decide +kernel
theorem dX13_readLine_38 : decode cX13_readLine 38 = .ok (.ifCond .eq 10, 3) := by decide +kernel
theorem dX13_readLine_41 : decode cX13_readLine 41 = .ok (.aload_n 0, 1) := by decide +kernel
theorem dX13_readLine_42 : decode cX13_readLine 42 = .ok (.invokevirtual 200, 3) := by decide +kernel
theorem dX13_readLine_45 : decode cX13_readLine 45 = .ok (.goto 120, 3) := by decide +kernel
theorem dX13_readLine_48 : decode cX13_readLine 48 = .ok (.aload_n 0, 1) := by decide +kernel
theorem dX13_readLine_49 : decode cX13_readLine 49 = .ok (.ldc 126, 2) := by decide +kernel
theorem dX13_readLine_51 : decode cX13_readLine 51 = .ok (.invokevirtual 97, 3) := by decide +kernel
theorem dX13_readLine_54 : decode cX13_readLine 54 = .ok (.ifCond .eq 10, 3) := by decide +kernel
theorem dX13_readLine_57 : decode cX13_readLine 57 = .ok (.aload_n 0, 1) := by decide +kernel
theorem dX13_readLine_58 : decode cX13_readLine 58 = .ok (.invokevirtual 203, 3) := by decide +kernel
theorem dX13_readLine_61 : decode cX13_readLine 61 = .ok (.goto 104, 3) := by decide +kernel
theorem dX13_readLine_64 : decode cX13_readLine 64 = .ok (.aload_n 0, 1) := by decide +kernel
theorem dX13_readLine_65 : decode cX13_readLine 65 = .ok (.ldc 128, 2) := by decide +kernel
theorem dX13_readLine_67 : decode cX13_readLine 67 = .ok (.invokevirtual 97, 3) := by decide +kernel
theorem dX13_readLine_70 : decode cX13_readLine 70 = .ok (.ifCond .eq 10, 3) := by decide +kernel
theorem dX13_readLine_73 : decode cX13_readLine 73 = .ok (.aload_n 0, 1) := by decide +kernel
theorem dX13_readLine_74 : decode cX13_readLine 74 = .ok (.invokevirtual 206, 3) := by decide +kernel
theorem dX13_readLine_77 : decode cX13_readLine 77 = .ok (.goto 88, 3) := by decide +kernel
theorem dX13_readLine_80 : decode cX13_readLine 80 = .ok (.aload_n 0, 1) := by decide +kernel
theorem dX13_readLine_81 : decode cX13_readLine 81 = .ok (.ldc 130, 2) := by decide +kernel
theorem dX13_readLine_83 : decode cX13_readLine 83 = .ok (.invokevirtual 97, 3) := by decide +kernel
theorem dX13_readLine_86 : decode cX13_readLine 86 = .ok (.ifCond .eq 10, 3) := by decide +kernel
theorem dX13_readLine_89 : decode cX13_readLine 89 = .ok (.aload_n 0, 1) := by decide +kernel
theorem dX13_readLine_90 : decode cX13_readLine 90 = .ok (.invokevirtual 209, 3) := by decide +kernel
theorem dX13_readLine_93 : decode cX13_readLine 93 = .ok (.goto 72, 3) := by decide +kernel
theorem dX13_readLine_96 : decode cX13_readLine 96 = .ok (.aload_n 0, 1) := by decide +kernel
theorem dX13_readLine_97 : decode cX13_readLine 97 = .ok (.ldc 132, 2) := by decide +kernel
theorem dX13_readLine_99 : decode cX13_readLine 99 = .ok (.invokevirtual 97, 3) := by decide +kernel
theorem dX13_readLine_102 : decode cX13_readLine 102 = .ok (.ifCond .eq 10, 3) := by decide +kernel
theorem dX13_readLine_105 : decode cX13_readLine 105 = .ok (.aload_n 0, 1) := by decide +kernel
theorem dX13_readLine_106 : decode cX13_readLine 106 = .ok (.invokevirtual 212, 3) := by decide +kernel
theorem dX13_readLine_109 : decode cX13_readLine 109 = .ok (.goto 56, 3) := by decide +kernel
theorem dX13_readLine_112 : decode cX13_readLine 112 = .ok (.aload_n 0, 1) := by decide +kernel
theorem dX13_readLine_113 : decode cX13_readLine 113 = .ok (.ldc 134, 2) := by decide +kernel
theorem dX13_readLine_115 : decode cX13_readLine 115 = .ok (.invokevirtual 97, 3) := by decide +kernel
theorem dX13_readLine_118 : decode cX13_readLine 118 = .ok (.ifCond .eq 10, 3) := by decide +kernel
theorem dX13_readLine_121 : decode cX13_readLine 121 = .ok (.aload_n 0, 1) := by decide +kernel
theorem dX13_readLine_122 : decode cX13_readLine 122 = .ok (.invokevirtual 215, 3) := by decide +kernel
theorem dX13_readLine_125 : decode cX13_readLine 125 = .ok (.goto 40, 3) := by decide +kernel
theorem dX13_readLine_128 : decode cX13_readLine 128 = .ok (.aload_n 0, 1) := by decide +kernel
theorem dX13_readLine_129 : decode cX13_readLine 129 = .ok (.ldc 136, 2) := by decide +kernel
theorem dX13_readLine_131 : decode cX13_readLine 131 = .ok (.invokevirtual 97, 3) := by decide +kernel
theorem dX13_readLine_134 : decode cX13_readLine 134 = .ok (.ifCond .eq 10, 3) := by decide +kernel
theorem dX13_readLine_137 : decode cX13_readLine 137 = .ok (.aload_n 0, 1) := by decide +kernel
theorem dX13_readLine_138 : decode cX13_readLine 138 = .ok (.invokevirtual 218, 3) := by decide +kernel
theorem dX13_readLine_141 : decode cX13_readLine 141 = .ok (.goto 24, 3) := by decide +kernel
theorem dX13_readLine_144 : decode cX13_readLine 144 = .ok (.aload_n 0, 1) := by decide +kernel
theorem dX13_readLine_145 : decode cX13_readLine 145 = .ok (.ldc 138, 2) := by decide +kernel
theorem dX13_readLine_147 : decode cX13_readLine 147 = .ok (.invokevirtual 97, 3) := by decide +kernel
theorem dX13_readLine_150 : decode cX13_readLine 150 = .ok (.ifCond .eq 10, 3) := by decide +kernel
theorem dX13_readLine_153 : decode cX13_readLine 153 = .ok (.aload_n 0, 1) := by decide +kernel
theorem dX13_readLine_154 : decode cX13_readLine 154 = .ok (.invokevirtual 221, 3) := by decide +kernel
theorem dX13_readLine_157 : decode cX13_readLine 157 = .ok (.goto 8, 3) := by decide +kernel
theorem dX13_readLine_160 : decode cX13_readLine 160 = .ok (.aload_n 0, 1) := by decide +kernel
theorem dX13_readLine_161 : decode cX13_readLine 161 = .ok (.iconst 1, 1) := by decide +kernel
theorem dX13_readLine_162 : decode cX13_readLine 162 = .ok (.invokevirtual 104, 3) := by decide +kernel
theorem dX13_readLine_165 : decode cX13_readLine 165 = .ok (.return_, 1) := by decide +kernel
set_option maxRecDepth 20000 in
theorem ggX13_readWay_X13_begins : GoodIn wsX13_readWay wsX13_begins := goodIn_r _ [7, 8, 9, 10, 6, 11, 2, 12, 13, 14, 15, 16, 17, 18, 19, 20, 21, 22, 23, 24, 25, 26, 27, 28, 29, 30, 31, 32, 33, 34, 35, 122, 123, 124, 125, 126, 127, 128, 129, 130, 131, 132, 133, 134, 135, 136, 137, 138, 139, 140, 141, 142, 143, 144, 145, 146, 147, 148, 149, 150] rfl (by decide +kernel)
set_option maxRecDepth 20000 in
theorem gX13_readWay_X13_begins : GoodIn wsX13_readWay (wsV RX13 224 RX13 yX13_begins wsX13_begins) := goodIn_app (goodIn_of _ (by decide +kernel)) ggX13_readWay_X13_begins
set_option maxRecDepth 20000 in
theorem ggX13_readWay_X13_readFresh : GoodIn wsX13_readWay wsX13_readFresh := goodIn_r _ [39, 1, 21, 2, 40, 41, 42, 6, 43, 44, 45, 46, 47, 48, 49, 50, 22, 51, 52, 53, 54, 55, 56, 57, 58, 59, 60, 61, 62, 63, 64, 65, 66, 67, 68, 69, 70, 71, 72, 73, 74, 75, 76, 77, 78, 79, 80, 81, 82, 83, 84, 85, 86, 87, 88, 89, 90, 91, 92, 93, 94, 95, 96, 97, 98, 99, 8, 9, 10, 11, 12, 13, 14, 100, 101, 102, 103, 104, 105, 106, 15, 16, 17, 18, 19, 20, 23, 24, 25, 26, 27, 28, 29, 30, 31, 32, 33, 34, 35, 122, 123, 124, 125, 126, 127, 128, 129, 130, 131, 132, 133, 134, 135, 136, 137, 138, 139, 140, 141, 142, 143, 144, 145, 146, 147, 148, 149, 150, 151, 152, 153, 154, 155, 156, 157, 158, 159, 160, 161, 162, 163, 164, 165, 166, 167, 168, 169, 170, 171, 172, 173, 174, 175, 176, 177, 178, 179, 180, 181, 182, 183, 184, 185, 186, 187, 188, 189, 190, 191, 192, 193, 194, 195, 196, 197, 198] rfl (by decide +kernel)
set_option maxRecDepth 20000 in
theorem gX13_readWay_X13_readFresh : GoodIn wsX13_readWay (wsV RX13 228 RX13 yX13_readFresh wsX13_readFresh) := goodIn_app (goodIn_of _ (by decide +kernel)) ggX13_readWay_X13_readFresh
set_option maxRecDepth 20000 in
theorem ggX13_readWay_X13_isWord : GoodIn wsX13_readWay wsX13_isWord := goodIn_r _ [47, 2, 21, 48, 49, 6, 50, 22, 51, 52, 53, 54, 55, 56, 57, 58, 59, 60, 61, 62, 63, 64, 65, 66, 67, 68, 69, 70, 71, 72, 73, 74, 75, 76, 77, 78, 79, 80, 81, 82, 83, 84, 85, 86, 87, 88, 89, 90, 91, 92, 93, 94, 95, 96, 97, 98, 99, 122, 123, 124, 125, 126, 127, 128, 129, 130, 131, 132, 133, 134, 135, 136, 137, 138, 139, 140, 141, 142, 143, 144, 145, 146, 147, 148, 149, 150] rfl (by decide +kernel)
set_option maxRecDepth 20000 in
theorem gX13_readWay_X13_isWord : GoodIn wsX13_readWay (wsV RX13 97 RX13 yX13_isWord wsX13_isWord) := goodIn_app (goodIn_of _ (by decide +kernel)) ggX13_readWay_X13_isWord
set_option maxRecDepth 20000 in
theorem ggX13_readWay_X13_wrong : GoodIn wsX13_readWay wsX13_wrong := goodIn_r _ [11, 2, 12, 13, 14, 122, 123, 124, 125, 126, 127, 128, 129, 130, 131, 132, 133, 134, 135, 136, 137, 138, 139, 140, 141, 142, 143, 144, 145, 146, 147, 148, 149, 150] rfl (by decide +kernel)
set_option maxRecDepth 20000 in
theorem gX13_readWay_X13_wrong : GoodIn wsX13_readWay (wsV RX13 104 RX13 yX13_wrong wsX13_wrong) := goodIn_app (goodIn_of _ (by decide +kernel)) ggX13_readWay_X13_wrong
set_option maxRecDepth 20000 in
theorem ggX13_readWay_X13_goesOn : GoodIn wsX13_readWay wsX13_goesOn := goodIn_r _ [18, 2, 19, 13, 20, 21, 22, 23, 24, 25, 26, 6, 27, 28, 29, 30, 31, 32, 33, 34, 35, 122, 123, 124, 125, 126, 127, 128, 129, 130, 131, 132, 133, 134, 135, 136, 137, 138, 139, 140, 141, 142, 143, 144, 145, 146, 147, 148, 149, 150] rfl (by decide +kernel)
set_option maxRecDepth 20000 in
theorem gX13_readWay_X13_goesOn : GoodIn wsX13_readWay (wsV RX13 101 RX13 yX13_goesOn wsX13_goesOn) := goodIn_app (goodIn_of _ (by decide +kernel)) ggX13_readWay_X13_goesOn
set_option maxRecDepth 20000 in
theorem ggX13_readWay_X13_readPart : GoodIn wsX13_readWay wsX13_readPart := goodIn_r _ [110, 111, 112, 113, 6, 114, 44, 45, 46, 47, 2, 21, 48, 49, 50, 22, 51, 52, 53, 54, 55, 56, 57, 58, 59, 60, 61, 62, 63, 64, 65, 66, 67, 68, 69, 70, 71, 72, 73, 74, 75, 76, 77, 78, 79, 80, 81, 82, 83, 84, 85, 86, 87, 88, 89, 90, 91, 92, 93, 94, 95, 96, 97, 98, 99, 8, 9, 10, 11, 12, 13, 14, 15, 16, 17, 18, 19, 20, 23, 24, 25, 26, 27, 28, 29, 30, 31, 32, 33, 34, 35, 115, 116, 117, 118, 119, 120, 121, 122, 123, 124, 125, 126, 127, 128, 129, 130, 131, 132, 133, 134, 135, 136, 137, 138, 139, 140, 141, 142, 143, 144, 145, 146, 147, 148, 149, 150] rfl (by decide +kernel)
set_option maxRecDepth 20000 in
theorem gX13_readWay_X13_readPart : GoodIn wsX13_readWay (wsV RX13 241 RX13 yX13_readPart wsX13_readPart) := goodIn_app (goodIn_of _ (by decide +kernel)) ggX13_readWay_X13_readPart
theorem dX13_readWay_0 : decode cX13_readWay 0 = .ok (.aload_n 0, 1) := by decide +kernel
theorem dX13_readWay_1 : decode cX13_readWay 1 = .ok (.aload_n 0, 1) := by decide +kernel
theorem dX13_readWay_2 : decode cX13_readWay 2 = .ok (.getfield 150, 3) := by decide +kernel
theorem dX13_readWay_5 : decode cX13_readWay 5 = .ok (.getfield 185, 3) := by decide +kernel
theorem dX13_readWay_8 : decode cX13_readWay 8 = .ok (.iconst 4, 1) := by decide +kernel
theorem dX13_readWay_9 : decode cX13_readWay 9 = .ok (.invokevirtual 224, 3) := by decide +kernel
theorem dX13_readWay_12 : decode cX13_readWay 12 = .ok (.aload_n 0, 1) := by decide +kernel
theorem dX13_readWay_13 : decode cX13_readWay 13 = .ok (.iconst 0, 1) := by decide +kernel
theorem dX13_readWay_14 : decode cX13_readWay 14 = .ok (.aload_n 0, 1) := by decide +kernel
theorem dX13_readWay_15 : decode cX13_readWay 15 = .ok (.getfield 150, 3) := by decide +kernel
theorem dX13_readWay_18 : decode cX13_readWay 18 = .ok (.getfield 185, 3) := by decide +kernel
theorem dX13_readWay_21 : decode cX13_readWay 21 = .ok (.invokevirtual 228, 3) := by decide +kernel
theorem dX13_readWay_24 : decode cX13_readWay 24 = .ok (.aload_n 0, 1) := by decide +kernel
theorem dX13_readWay_25 : decode cX13_readWay 25 = .ok (.ldc 231, 2) := by decide +kernel
theorem dX13_readWay_27 : decode cX13_readWay 27 = .ok (.invokevirtual 97, 3) := by decide +kernel
theorem dX13_readWay_30 : decode cX13_readWay 30 = .ok (.ifCond .eq 7, 3) := by decide +kernel
theorem dX13_readWay_33 : decode cX13_readWay 33 = .ok (.iconst 0, 1) := by decide +kernel
theorem dX13_readWay_34 : decode cX13_readWay 34 = .ok (.goto 43, 3) := by decide +kernel
theorem dX13_readWay_37 : decode cX13_readWay 37 = .ok (.aload_n 0, 1) := by decide +kernel
theorem dX13_readWay_38 : decode cX13_readWay 38 = .ok (.ldc 233, 2) := by decide +kernel
theorem dX13_readWay_40 : decode cX13_readWay 40 = .ok (.invokevirtual 97, 3) := by decide +kernel
theorem dX13_readWay_43 : decode cX13_readWay 43 = .ok (.ifCond .eq 7, 3) := by decide +kernel
theorem dX13_readWay_46 : decode cX13_readWay 46 = .ok (.iconst 1, 1) := by decide +kernel
theorem dX13_readWay_47 : decode cX13_readWay 47 = .ok (.goto 30, 3) := by decide +kernel
theorem dX13_readWay_50 : decode cX13_readWay 50 = .ok (.aload_n 0, 1) := by decide +kernel
theorem dX13_readWay_51 : decode cX13_readWay 51 = .ok (.ldc 235, 2) := by decide +kernel
theorem dX13_readWay_53 : decode cX13_readWay 53 = .ok (.invokevirtual 97, 3) := by decide +kernel
theorem dX13_readWay_56 : decode cX13_readWay 56 = .ok (.ifCond .eq 7, 3) := by decide +kernel
theorem dX13_readWay_59 : decode cX13_readWay 59 = .ok (.iconst 2, 1) := by decide +kernel
theorem dX13_readWay_60 : decode cX13_readWay 60 = .ok (.goto 17, 3) := by decide +kernel
theorem dX13_readWay_63 : decode cX13_readWay 63 = .ok (.aload_n 0, 1) := by decide +kernel
theorem dX13_readWay_64 : decode cX13_readWay 64 = .ok (.ldc 237, 2) := by decide +kernel
theorem dX13_readWay_66 : decode cX13_readWay 66 = .ok (.invokevirtual 97, 3) := by decide +kernel
theorem dX13_readWay_69 : decode cX13_readWay 69 = .ok (.ifCond .eq 7, 3) := by decide +kernel
theorem dX13_readWay_72 : decode cX13_readWay 72 = .ok (.iconst 3, 1) := by decide +kernel
theorem dX13_readWay_73 : decode cX13_readWay 73 = .ok (.goto 4, 3) := by decide +kernel
theorem dX13_readWay_76 : decode cX13_readWay 76 = .ok (.iconst (-1), 1) := by decide +kernel
theorem dX13_readWay_77 : decode cX13_readWay 77 = .ok (.istore_n 1, 1) := by decide +kernel
theorem dX13_readWay_78 : decode cX13_readWay 78 = .ok (.iload_n 1, 1) := by decide +kernel
theorem dX13_readWay_79 : decode cX13_readWay 79 = .ok (.iconst (-1), 1) := by decide +kernel
theorem dX13_readWay_80 : decode cX13_readWay 80 = .ok (.if_icmp .ne 8, 3) := by decide +kernel
theorem dX13_readWay_83 : decode cX13_readWay 83 = .ok (.aload_n 0, 1) := by decide +kernel
theorem dX13_readWay_84 : decode cX13_readWay 84 = .ok (.iconst 1, 1) := by decide +kernel
theorem dX13_readWay_85 : decode cX13_readWay 85 = .ok (.invokevirtual 104, 3) := by decide +kernel
theorem dX13_readWay_88 : decode cX13_readWay 88 = .ok (.aload_n 0, 1) := by decide +kernel
theorem dX13_readWay_89 : decode cX13_readWay 89 = .ok (.invokevirtual 101, 3) := by decide +kernel
theorem dX13_readWay_92 : decode cX13_readWay 92 = .ok (.aload_n 0, 1) := by decide +kernel
theorem dX13_readWay_93 : decode cX13_readWay 93 = .ok (.ldc 239, 2) := by decide +kernel
theorem dX13_readWay_95 : decode cX13_readWay 95 = .ok (.iconst 1, 1) := by decide +kernel
theorem dX13_readWay_96 : decode cX13_readWay 96 = .ok (.bipush 99, 2) := by decide +kernel
theorem dX13_readWay_98 : decode cX13_readWay 98 = .ok (.invokevirtual 241, 3) := by decide +kernel
theorem dX13_readWay_101 : decode cX13_readWay 101 = .ok (.istore_n 2, 1) := by decide +kernel
theorem dX13_readWay_102 : decode cX13_readWay 102 = .ok (.aload_n 0, 1) := by decide +kernel
theorem dX13_readWay_103 : decode cX13_readWay 103 = .ok (.ldc 245, 2) := by decide +kernel
theorem dX13_readWay_105 : decode cX13_readWay 105 = .ok (.iconst 1, 1) := by decide +kernel
theorem dX13_readWay_106 : decode cX13_readWay 106 = .ok (.bipush 20, 2) := by decide +kernel
theorem dX13_readWay_108 : decode cX13_readWay 108 = .ok (.invokevirtual 241, 3) := by decide +kernel
theorem dX13_readWay_111 : decode cX13_readWay 111 = .ok (.istore_n 3, 1) := by decide +kernel
theorem dX13_readWay_112 : decode cX13_readWay 112 = .ok (.aload_n 0, 1) := by decide +kernel
theorem dX13_readWay_113 : decode cX13_readWay 113 = .ok (.getfield 58, 3) := by decide +kernel
theorem dX13_readWay_116 : decode cX13_readWay 116 = .ok (.iconst 5, 1) := by decide +kernel
theorem dX13_readWay_117 : decode cX13_readWay 117 = .ok (.if_icmp .ne 4, 3) := by decide +kernel
theorem dX13_readWay_120 : decode cX13_readWay 120 = .ok (.return_, 1) := by decide +kernel
theorem dX13_readWay_121 : decode cX13_readWay 121 = .ok (.aload_n 0, 1) := by decide +kernel
theorem dX13_readWay_122 : decode cX13_readWay 122 = .ok (.getfield 150, 3) := by decide +kernel
theorem dX13_readWay_125 : decode cX13_readWay 125 = .ok (.getfield 247, 3) := by decide +kernel
theorem dX13_readWay_128 : decode cX13_readWay 128 = .ok (.aload_n 0, 1) := by decide +kernel
theorem dX13_readWay_129 : decode cX13_readWay 129 = .ok (.getfield 150, 3) := by decide +kernel
theorem dX13_readWay_132 : decode cX13_readWay 132 = .ok (.getfield 185, 3) := by decide +kernel
theorem dX13_readWay_135 : decode cX13_readWay 135 = .ok (.iload_n 1, 1) := by decide +kernel
theorem dX13_readWay_136 : decode cX13_readWay 136 = .ok (.iastore, 1) := by decide +kernel
theorem dX13_readWay_137 : decode cX13_readWay 137 = .ok (.aload_n 0, 1) := by decide +kernel
theorem dX13_readWay_138 : decode cX13_readWay 138 = .ok (.getfield 150, 3) := by decide +kernel
theorem dX13_readWay_141 : decode cX13_readWay 141 = .ok (.getfield 250, 3) := by decide +kernel
theorem dX13_readWay_144 : decode cX13_readWay 144 = .ok (.aload_n 0, 1) := by decide +kernel
theorem dX13_readWay_145 : decode cX13_readWay 145 = .ok (.getfield 150, 3) := by decide +kernel
theorem dX13_readWay_148 : decode cX13_readWay 148 = .ok (.getfield 185, 3) := by decide +kernel
theorem dX13_readWay_151 : decode cX13_readWay 151 = .ok (.iload_n 2, 1) := by decide +kernel
theorem dX13_readWay_152 : decode cX13_readWay 152 = .ok (.iastore, 1) := by decide +kernel
theorem dX13_readWay_153 : decode cX13_readWay 153 = .ok (.aload_n 0, 1) := by decide +kernel
theorem dX13_readWay_154 : decode cX13_readWay 154 = .ok (.getfield 150, 3) := by decide +kernel
theorem dX13_readWay_157 : decode cX13_readWay 157 = .ok (.getfield 252, 3) := by decide +kernel
theorem dX13_readWay_160 : decode cX13_readWay 160 = .ok (.aload_n 0, 1) := by decide +kernel
theorem dX13_readWay_161 : decode cX13_readWay 161 = .ok (.getfield 150, 3) := by decide +kernel
theorem dX13_readWay_164 : decode cX13_readWay 164 = .ok (.getfield 185, 3) := by decide +kernel
theorem dX13_readWay_167 : decode cX13_readWay 167 = .ok (.iload_n 3, 1) := by decide +kernel
theorem dX13_readWay_168 : decode cX13_readWay 168 = .ok (.iastore, 1) := by decide +kernel
theorem dX13_readWay_169 : decode cX13_readWay 169 = .ok (.aload_n 0, 1) := by decide +kernel
theorem dX13_readWay_170 : decode cX13_readWay 170 = .ok (.getfield 150, 3) := by decide +kernel
theorem dX13_readWay_173 : decode cX13_readWay 173 = .ok (.dup, 1) := by decide +kernel
theorem dX13_readWay_174 : decode cX13_readWay 174 = .ok (.getfield 185, 3) := by decide +kernel
theorem dX13_readWay_177 : decode cX13_readWay 177 = .ok (.iconst 1, 1) := by decide +kernel
theorem dX13_readWay_178 : decode cX13_readWay 178 = .ok (.iadd, 1) := by decide +kernel
theorem dX13_readWay_179 : decode cX13_readWay 179 = .ok (.putfield 185, 3) := by decide +kernel
theorem dX13_readWay_182 : decode cX13_readWay 182 = .ok (.return_, 1) := by decide +kernel
set_option maxRecDepth 20000 in
theorem ggX13_readRoad_X13_begins : GoodIn wsX13_readRoad wsX13_begins := goodIn_r _ [7, 8, 9, 10, 6, 11, 2, 12, 13, 14, 15, 16, 17, 18, 19, 20, 21, 22, 23, 24, 25, 26, 27, 28, 29, 30, 31, 32, 33, 34, 35, 134, 135, 136, 137, 138, 139, 140, 141, 142, 143, 144, 145, 146, 147, 148, 149, 150, 151, 152, 153, 154, 155, 156, 157, 158, 159, 160, 161, 162] rfl (by decide +kernel)
set_option maxRecDepth 20000 in
theorem gX13_readRoad_X13_begins : GoodIn wsX13_readRoad (wsV RX13 224 RX13 yX13_begins wsX13_begins) := goodIn_app (goodIn_of _ (by decide +kernel)) ggX13_readRoad_X13_begins
set_option maxRecDepth 20000 in
theorem ggX13_readRoad_X13_readFresh : GoodIn wsX13_readRoad wsX13_readFresh := goodIn_r _ [39, 1, 21, 2, 40, 41, 42, 6, 43, 44, 45, 46, 47, 48, 49, 50, 22, 51, 52, 53, 54, 55, 56, 57, 58, 59, 60, 61, 62, 63, 64, 65, 66, 67, 68, 69, 70, 71, 72, 73, 74, 75, 76, 77, 78, 79, 80, 81, 82, 83, 84, 85, 86, 87, 88, 89, 90, 91, 92, 93, 94, 95, 96, 97, 98, 99, 8, 9, 10, 11, 12, 13, 14, 100, 101, 102, 103, 104, 105, 106, 15, 16, 17, 18, 19, 20, 23, 24, 25, 26, 27, 28, 29, 30, 31, 32, 33, 34, 35, 134, 135, 136, 137, 138, 139, 140, 141, 142, 143, 144, 145, 146, 147, 148, 149, 150, 151, 152, 153, 154, 155, 156, 157, 158, 159, 160, 161, 162, 163, 164, 165, 166, 167, 168, 169, 170, 171, 172, 173, 174, 175, 176, 177, 178, 179, 180, 181, 182, 183, 184, 185, 186, 187, 188, 189, 190, 191, 192, 193, 194, 195, 196, 197, 198, 199, 200, 201, 202, 203, 204, 205, 206, 207, 208, 209, 210] rfl (by decide +kernel)
set_option maxRecDepth 20000 in
theorem gX13_readRoad_X13_readFresh : GoodIn wsX13_readRoad (wsV RX13 228 RX13 yX13_readFresh wsX13_readFresh) := goodIn_app (goodIn_of _ (by decide +kernel)) ggX13_readRoad_X13_readFresh
set_option maxRecDepth 20000 in
theorem ggX13_readRoad_X13_readPart : GoodIn wsX13_readRoad wsX13_readPart := goodIn_r _ [110, 111, 112, 113, 6, 114, 44, 45, 46, 47, 2, 21, 48, 49, 50, 22, 51, 52, 53, 54, 55, 56, 57, 58, 59, 60, 61, 62, 63, 64, 65, 66, 67, 68, 69, 70, 71, 72, 73, 74, 75, 76, 77, 78, 79, 80, 81, 82, 83, 84, 85, 86, 87, 88, 89, 90, 91, 92, 93, 94, 95, 96, 97, 98, 99, 8, 9, 10, 11, 12, 13, 14, 15, 16, 17, 18, 19, 20, 23, 24, 25, 26, 27, 28, 29, 30, 31, 32, 33, 34, 35, 115, 116, 117, 118, 119, 120, 121, 134, 135, 136, 137, 138, 139, 140, 141, 142, 143, 144, 145, 146, 147, 148, 149, 150, 151, 152, 153, 154, 155, 156, 157, 158, 159, 160, 161, 162] rfl (by decide +kernel)
set_option maxRecDepth 20000 in
theorem gX13_readRoad_X13_readPart : GoodIn wsX13_readRoad (wsV RX13 241 RX13 yX13_readPart wsX13_readPart) := goodIn_app (goodIn_of _ (by decide +kernel)) ggX13_readRoad_X13_readPart
set_option maxRecDepth 20000 in
theorem ggX13_readRoad_X13_needs : GoodIn wsX13_readRoad wsX13_needs := goodIn_r _ [114, 44, 45, 46, 6, 47, 2, 21, 48, 49, 50, 22, 51, 52, 53, 54, 55, 56, 57, 58, 59, 60, 61, 62, 63, 64, 65, 66, 67, 68, 69, 70, 71, 72, 73, 74, 75, 76, 77, 78, 79, 80, 81, 82, 83, 84, 85, 86, 87, 88, 89, 90, 91, 92, 93, 94, 95, 96, 97, 98, 99, 8, 9, 10, 11, 12, 13, 14, 15, 16, 17, 18, 19, 20, 23, 24, 25, 26, 27, 28, 29, 30, 31, 32, 33, 34, 35, 134, 135, 136, 137, 138, 139, 140, 141, 142, 143, 144, 145, 146, 147, 148, 149, 150, 151, 152, 153, 154, 155, 156, 157, 158, 159, 160, 161, 162] rfl (by decide +kernel)
set_option maxRecDepth 20000 in
theorem gX13_readRoad_X13_needs : GoodIn wsX13_readRoad (wsV RX13 112 RX13 yX13_needs wsX13_needs) := goodIn_app (goodIn_of _ (by decide +kernel)) ggX13_readRoad_X13_needs
set_option maxRecDepth 20000 in
theorem ggX13_readRoad_X13_isSlope : GoodIn wsX13_readRoad wsX13_isSlope := goodIn_r _ [125, 44, 45, 46, 6, 47, 2, 21, 48, 49, 50, 22, 51, 52, 53, 54, 55, 56, 57, 58, 59, 60, 61, 62, 63, 64, 65, 66, 67, 68, 69, 70, 71, 72, 73, 74, 75, 76, 77, 78, 79, 80, 81, 82, 83, 84, 85, 86, 87, 88, 89, 90, 91, 92, 93, 94, 95, 96, 97, 98, 99, 134, 135, 136, 137, 138, 139, 140, 141, 142, 143, 144, 145, 146, 147, 148, 149, 150, 151, 152, 153, 154, 155, 156, 157, 158, 159, 160, 161, 162] rfl (by decide +kernel)
set_option maxRecDepth 20000 in
theorem gX13_readRoad_X13_isSlope : GoodIn wsX13_readRoad (wsV RX13 176 RX13 yX13_isSlope wsX13_isSlope) := goodIn_app (goodIn_of _ (by decide +kernel)) ggX13_readRoad_X13_isSlope
set_option maxRecDepth 20000 in
theorem ggX13_readRoad_X13_wrong : GoodIn wsX13_readRoad wsX13_wrong := goodIn_r _ [11, 2, 12, 13, 14, 134, 135, 136, 137, 138, 139, 140, 141, 142, 143, 144, 145, 146, 147, 148, 149, 150, 151, 152, 153, 154, 155, 156, 157, 158, 159, 160, 161, 162] rfl (by decide +kernel)
set_option maxRecDepth 20000 in
theorem gX13_readRoad_X13_wrong : GoodIn wsX13_readRoad (wsV RX13 104 RX13 yX13_wrong wsX13_wrong) := goodIn_app (goodIn_of _ (by decide +kernel)) ggX13_readRoad_X13_wrong
set_option maxRecDepth 20000 in
theorem ggX13_readRoad_X13_readSlope : GoodIn wsX13_readRoad wsX13_readSlope := goodIn_r _ [129, 44, 45, 46, 6, 47, 2, 21, 48, 49, 50, 22, 51, 52, 53, 54, 55, 56, 57, 58, 59, 60, 61, 62, 63, 64, 65, 66, 67, 68, 69, 70, 71, 72, 73, 74, 75, 76, 77, 78, 79, 80, 81, 82, 83, 84, 85, 86, 87, 88, 89, 90, 91, 92, 93, 94, 95, 96, 97, 98, 99, 122, 123, 124, 125, 8, 9, 10, 11, 12, 13, 14, 15, 16, 17, 18, 19, 20, 23, 24, 25, 26, 27, 28, 29, 30, 31, 32, 33, 34, 35, 115, 116, 117, 118, 119, 120, 121, 134, 135, 136, 137, 138, 139, 140, 141, 142, 143, 144, 145, 146, 147, 148, 149, 150, 151, 152, 153, 154, 155, 156, 157, 158, 159, 160, 161, 162] rfl (by decide +kernel)
set_option maxRecDepth 20000 in
theorem gX13_readRoad_X13_readSlope : GoodIn wsX13_readRoad (wsV RX13 258 RX13 yX13_readSlope wsX13_readSlope) := goodIn_app (goodIn_of _ (by decide +kernel)) ggX13_readRoad_X13_readSlope
set_option maxRecDepth 20000 in
theorem ggX13_readRoad_X13_eatsSign : GoodIn wsX13_readRoad wsX13_eatsSign := goodIn_r _ [133, 2, 20, 15, 16, 17, 6, 18, 19, 13, 21, 22, 23, 24, 25, 26, 27, 28, 29, 30, 31, 32, 33, 34, 35, 134, 135, 136, 137, 138, 139, 140, 141, 142, 143, 144, 145, 146, 147, 148, 149, 150, 151, 152, 153, 154, 155, 156, 157, 158, 159, 160, 161, 162] rfl (by decide +kernel)
set_option maxRecDepth 20000 in
theorem gX13_readRoad_X13_eatsSign : GoodIn wsX13_readRoad (wsV RX13 182 RX13 yX13_eatsSign wsX13_eatsSign) := goodIn_app (goodIn_of _ (by decide +kernel)) ggX13_readRoad_X13_eatsSign
theorem dX13_readRoad_0 : decode cX13_readRoad 0 = .ok (.aload_n 0, 1) := by decide +kernel
theorem dX13_readRoad_1 : decode cX13_readRoad 1 = .ok (.aload_n 0, 1) := by decide +kernel
theorem dX13_readRoad_2 : decode cX13_readRoad 2 = .ok (.getfield 150, 3) := by decide +kernel
theorem dX13_readRoad_5 : decode cX13_readRoad 5 = .ok (.getfield 188, 3) := by decide +kernel
theorem dX13_readRoad_8 : decode cX13_readRoad 8 = .ok (.iconst 3, 1) := by decide +kernel
theorem dX13_readRoad_9 : decode cX13_readRoad 9 = .ok (.invokevirtual 224, 3) := by decide +kernel
theorem dX13_readRoad_12 : decode cX13_readRoad 12 = .ok (.aload_n 0, 1) := by decide +kernel
theorem dX13_readRoad_13 : decode cX13_readRoad 13 = .ok (.iconst 1, 1) := by decide +kernel
theorem dX13_readRoad_14 : decode cX13_readRoad 14 = .ok (.aload_n 0, 1) := by decide +kernel
theorem dX13_readRoad_15 : decode cX13_readRoad 15 = .ok (.getfield 150, 3) := by decide +kernel
theorem dX13_readRoad_18 : decode cX13_readRoad 18 = .ok (.getfield 188, 3) := by decide +kernel
theorem dX13_readRoad_21 : decode cX13_readRoad 21 = .ok (.invokevirtual 228, 3) := by decide +kernel
theorem dX13_readRoad_24 : decode cX13_readRoad 24 = .ok (.aload_n 0, 1) := by decide +kernel
theorem dX13_readRoad_25 : decode cX13_readRoad 25 = .ok (.ldc 254, 2) := by decide +kernel
theorem dX13_readRoad_27 : decode cX13_readRoad 27 = .ok (.iconst 0, 1) := by decide +kernel
theorem dX13_readRoad_28 : decode cX13_readRoad 28 = .ok (.bipush 9, 2) := by decide +kernel
theorem dX13_readRoad_30 : decode cX13_readRoad 30 = .ok (.invokevirtual 241, 3) := by decide +kernel
theorem dX13_readRoad_33 : decode cX13_readRoad 33 = .ok (.istore_n 1, 1) := by decide +kernel
theorem dX13_readRoad_34 : decode cX13_readRoad 34 = .ok (.aload_n 0, 1) := by decide +kernel
theorem dX13_readRoad_35 : decode cX13_readRoad 35 = .ok (.ldc_w 256, 3) := by decide +kernel
theorem dX13_readRoad_38 : decode cX13_readRoad 38 = .ok (.invokevirtual 112, 3) := by decide +kernel
theorem dX13_readRoad_41 : decode cX13_readRoad 41 = .ok (.iconst 0, 1) := by decide +kernel
theorem dX13_readRoad_42 : decode cX13_readRoad 42 = .ok (.istore_n 2, 1) := by decide +kernel
theorem dX13_readRoad_43 : decode cX13_readRoad 43 = .ok (.aload_n 0, 1) := by decide +kernel
theorem dX13_readRoad_44 : decode cX13_readRoad 44 = .ok (.getfield 58, 3) := by decide +kernel
theorem dX13_readRoad_47 : decode cX13_readRoad 47 = .ok (.iconst 5, 1) := by decide +kernel
theorem dX13_readRoad_48 : decode cX13_readRoad 48 = .ok (.if_icmp .eq 7, 3) := by decide +kernel
theorem dX13_readRoad_51 : decode cX13_readRoad 51 = .ok (.iconst 1, 1) := by decide +kernel
theorem dX13_readRoad_52 : decode cX13_readRoad 52 = .ok (.goto 4, 3) := by decide +kernel
theorem dX13_readRoad_55 : decode cX13_readRoad 55 = .ok (.iconst 0, 1) := by decide +kernel
theorem dX13_readRoad_56 : decode cX13_readRoad 56 = .ok (.istore_n 3, 1) := by decide +kernel
theorem dX13_readRoad_57 : decode cX13_readRoad 57 = .ok (.iload_n 3, 1) := by decide +kernel
theorem dX13_readRoad_58 : decode cX13_readRoad 58 = .ok (.ifCond .eq 71, 3) := by decide +kernel
theorem dX13_readRoad_61 : decode cX13_readRoad 61 = .ok (.iload_n 2, 1) := by decide +kernel
theorem dX13_readRoad_62 : decode cX13_readRoad 62 = .ok (.bipush 6, 2) := by decide +kernel
theorem dX13_readRoad_64 : decode cX13_readRoad 64 = .ok (.if_icmp .ne 15, 3) := by decide +kernel
theorem dX13_readRoad_67 : decode cX13_readRoad 67 = .ok (.aload_n 0, 1) := by decide +kernel
theorem dX13_readRoad_68 : decode cX13_readRoad 68 = .ok (.invokevirtual 176, 3) := by decide +kernel
theorem dX13_readRoad_71 : decode cX13_readRoad 71 = .ok (.ifCond .eq 8, 3) := by decide +kernel
theorem dX13_readRoad_74 : decode cX13_readRoad 74 = .ok (.aload_n 0, 1) := by decide +kernel
theorem dX13_readRoad_75 : decode cX13_readRoad 75 = .ok (.iconst 5, 1) := by decide +kernel
theorem dX13_readRoad_76 : decode cX13_readRoad 76 = .ok (.invokevirtual 104, 3) := by decide +kernel
theorem dX13_readRoad_79 : decode cX13_readRoad 79 = .ok (.aload_n 0, 1) := by decide +kernel
theorem dX13_readRoad_80 : decode cX13_readRoad 80 = .ok (.invokevirtual 258, 3) := by decide +kernel
theorem dX13_readRoad_83 : decode cX13_readRoad 83 = .ok (.istore 4, 2) := by decide +kernel
theorem dX13_readRoad_85 : decode cX13_readRoad 85 = .ok (.aload_n 0, 1) := by decide +kernel
theorem dX13_readRoad_86 : decode cX13_readRoad 86 = .ok (.getfield 58, 3) := by decide +kernel
theorem dX13_readRoad_89 : decode cX13_readRoad 89 = .ok (.iconst 5, 1) := by decide +kernel
theorem dX13_readRoad_90 : decode cX13_readRoad 90 = .ok (.if_icmp .ne 4, 3) := by decide +kernel
theorem dX13_readRoad_93 : decode cX13_readRoad 93 = .ok (.return_, 1) := by decide +kernel
theorem dX13_readRoad_94 : decode cX13_readRoad 94 = .ok (.aload_n 0, 1) := by decide +kernel
theorem dX13_readRoad_95 : decode cX13_readRoad 95 = .ok (.getfield 150, 3) := by decide +kernel
theorem dX13_readRoad_98 : decode cX13_readRoad 98 = .ok (.getfield 261, 3) := by decide +kernel
theorem dX13_readRoad_101 : decode cX13_readRoad 101 = .ok (.bipush 6, 2) := by decide +kernel
theorem dX13_readRoad_103 : decode cX13_readRoad 103 = .ok (.aload_n 0, 1) := by decide +kernel
theorem dX13_readRoad_104 : decode cX13_readRoad 104 = .ok (.getfield 150, 3) := by decide +kernel
theorem dX13_readRoad_107 : decode cX13_readRoad 107 = .ok (.getfield 188, 3) := by decide +kernel
theorem dX13_readRoad_110 : decode cX13_readRoad 110 = .ok (.imul, 1) := by decide +kernel
theorem dX13_readRoad_111 : decode cX13_readRoad 111 = .ok (.iload_n 2, 1) := by decide +kernel
theorem dX13_readRoad_112 : decode cX13_readRoad 112 = .ok (.iadd, 1) := by decide +kernel
theorem dX13_readRoad_113 : decode cX13_readRoad 113 = .ok (.iload 4, 2) := by decide +kernel
theorem dX13_readRoad_115 : decode cX13_readRoad 115 = .ok (.iastore, 1) := by decide +kernel
theorem dX13_readRoad_116 : decode cX13_readRoad 116 = .ok (.iinc 2 1, 3) := by decide +kernel
theorem dX13_readRoad_119 : decode cX13_readRoad 119 = .ok (.aload_n 0, 1) := by decide +kernel
theorem dX13_readRoad_120 : decode cX13_readRoad 120 = .ok (.bipush 44, 2) := by decide +kernel
theorem dX13_readRoad_122 : decode cX13_readRoad 122 = .ok (.invokevirtual 182, 3) := by decide +kernel
theorem dX13_readRoad_125 : decode cX13_readRoad 125 = .ok (.istore_n 3, 1) := by decide +kernel
theorem dX13_readRoad_126 : decode cX13_readRoad 126 = .ok (.goto (-69), 3) := by decide +kernel
theorem dX13_readRoad_129 : decode cX13_readRoad 129 = .ok (.aload_n 0, 1) := by decide +kernel
theorem dX13_readRoad_130 : decode cX13_readRoad 130 = .ok (.getfield 58, 3) := by decide +kernel
theorem dX13_readRoad_133 : decode cX13_readRoad 133 = .ok (.iconst 5, 1) := by decide +kernel
theorem dX13_readRoad_134 : decode cX13_readRoad 134 = .ok (.if_icmp .ne 4, 3) := by decide +kernel
theorem dX13_readRoad_137 : decode cX13_readRoad 137 = .ok (.return_, 1) := by decide +kernel
theorem dX13_readRoad_138 : decode cX13_readRoad 138 = .ok (.aload_n 0, 1) := by decide +kernel
theorem dX13_readRoad_139 : decode cX13_readRoad 139 = .ok (.getfield 150, 3) := by decide +kernel
theorem dX13_readRoad_142 : decode cX13_readRoad 142 = .ok (.getfield 264, 3) := by decide +kernel
theorem dX13_readRoad_145 : decode cX13_readRoad 145 = .ok (.aload_n 0, 1) := by decide +kernel
theorem dX13_readRoad_146 : decode cX13_readRoad 146 = .ok (.getfield 150, 3) := by decide +kernel
theorem dX13_readRoad_149 : decode cX13_readRoad 149 = .ok (.getfield 188, 3) := by decide +kernel
theorem dX13_readRoad_152 : decode cX13_readRoad 152 = .ok (.iload_n 1, 1) := by decide +kernel
theorem dX13_readRoad_153 : decode cX13_readRoad 153 = .ok (.iastore, 1) := by decide +kernel
theorem dX13_readRoad_154 : decode cX13_readRoad 154 = .ok (.aload_n 0, 1) := by decide +kernel
theorem dX13_readRoad_155 : decode cX13_readRoad 155 = .ok (.getfield 150, 3) := by decide +kernel
theorem dX13_readRoad_158 : decode cX13_readRoad 158 = .ok (.getfield 266, 3) := by decide +kernel
theorem dX13_readRoad_161 : decode cX13_readRoad 161 = .ok (.aload_n 0, 1) := by decide +kernel
theorem dX13_readRoad_162 : decode cX13_readRoad 162 = .ok (.getfield 150, 3) := by decide +kernel
theorem dX13_readRoad_165 : decode cX13_readRoad 165 = .ok (.getfield 188, 3) := by decide +kernel
theorem dX13_readRoad_168 : decode cX13_readRoad 168 = .ok (.iload_n 2, 1) := by decide +kernel
theorem dX13_readRoad_169 : decode cX13_readRoad 169 = .ok (.iastore, 1) := by decide +kernel
theorem dX13_readRoad_170 : decode cX13_readRoad 170 = .ok (.aload_n 0, 1) := by decide +kernel
theorem dX13_readRoad_171 : decode cX13_readRoad 171 = .ok (.getfield 150, 3) := by decide +kernel
theorem dX13_readRoad_174 : decode cX13_readRoad 174 = .ok (.dup, 1) := by decide +kernel
theorem dX13_readRoad_175 : decode cX13_readRoad 175 = .ok (.getfield 188, 3) := by decide +kernel
theorem dX13_readRoad_178 : decode cX13_readRoad 178 = .ok (.iconst 1, 1) := by decide +kernel
theorem dX13_readRoad_179 : decode cX13_readRoad 179 = .ok (.iadd, 1) := by decide +kernel
theorem dX13_readRoad_180 : decode cX13_readRoad 180 = .ok (.putfield 188, 3) := by decide +kernel
theorem dX13_readRoad_183 : decode cX13_readRoad 183 = .ok (.return_, 1) := by decide +kernel
set_option maxRecDepth 20000 in
theorem ggX13_readStatue_X13_begins : GoodIn wsX13_readStatue wsX13_begins := goodIn_r _ [7, 8, 9, 10, 6, 11, 2, 12, 13, 14, 15, 16, 17, 18, 19, 20, 21, 22, 23, 24, 25, 26, 27, 28, 29, 30, 31, 32, 33, 34, 35, 130, 131, 132, 133, 134, 135, 136, 137, 138, 139, 140, 141, 142, 143, 144, 145, 146, 147, 148, 149, 150, 151, 152, 153, 154, 155, 156, 157, 158] rfl (by decide +kernel)
set_option maxRecDepth 20000 in
theorem gX13_readStatue_X13_begins : GoodIn wsX13_readStatue (wsV RX13 224 RX13 yX13_begins wsX13_begins) := goodIn_app (goodIn_of _ (by decide +kernel)) ggX13_readStatue_X13_begins
set_option maxRecDepth 20000 in
theorem ggX13_readStatue_X13_readFresh : GoodIn wsX13_readStatue wsX13_readFresh := goodIn_r _ [39, 1, 21, 2, 40, 41, 42, 6, 43, 44, 45, 46, 47, 48, 49, 50, 22, 51, 52, 53, 54, 55, 56, 57, 58, 59, 60, 61, 62, 63, 64, 65, 66, 67, 68, 69, 70, 71, 72, 73, 74, 75, 76, 77, 78, 79, 80, 81, 82, 83, 84, 85, 86, 87, 88, 89, 90, 91, 92, 93, 94, 95, 96, 97, 98, 99, 8, 9, 10, 11, 12, 13, 14, 100, 101, 102, 103, 104, 105, 106, 15, 16, 17, 18, 19, 20, 23, 24, 25, 26, 27, 28, 29, 30, 31, 32, 33, 34, 35, 130, 131, 132, 133, 134, 135, 136, 137, 138, 139, 140, 141, 142, 143, 144, 145, 146, 147, 148, 149, 150, 151, 152, 153, 154, 155, 156, 157, 158, 159, 160, 161, 162, 163, 164, 165, 166, 167, 168, 169, 170, 171, 172, 173, 174, 175, 176, 177, 178, 179, 180, 181, 182, 183, 184, 185, 186, 187, 188, 189, 190, 191, 192, 193, 194, 195, 196, 197, 198, 199, 200, 201, 202, 203, 204, 205, 206] rfl (by decide +kernel)
set_option maxRecDepth 20000 in
theorem gX13_readStatue_X13_readFresh : GoodIn wsX13_readStatue (wsV RX13 228 RX13 yX13_readFresh wsX13_readFresh) := goodIn_app (goodIn_of _ (by decide +kernel)) ggX13_readStatue_X13_readFresh
set_option maxRecDepth 20000 in
theorem ggX13_readStatue_X13_readPart : GoodIn wsX13_readStatue wsX13_readPart := goodIn_r _ [110, 111, 112, 113, 6, 114, 44, 45, 46, 47, 2, 21, 48, 49, 50, 22, 51, 52, 53, 54, 55, 56, 57, 58, 59, 60, 61, 62, 63, 64, 65, 66, 67, 68, 69, 70, 71, 72, 73, 74, 75, 76, 77, 78, 79, 80, 81, 82, 83, 84, 85, 86, 87, 88, 89, 90, 91, 92, 93, 94, 95, 96, 97, 98, 99, 8, 9, 10, 11, 12, 13, 14, 15, 16, 17, 18, 19, 20, 23, 24, 25, 26, 27, 28, 29, 30, 31, 32, 33, 34, 35, 115, 116, 117, 118, 119, 120, 121, 130, 131, 132, 133, 134, 135, 136, 137, 138, 139, 140, 141, 142, 143, 144, 145, 146, 147, 148, 149, 150, 151, 152, 153, 154, 155, 156, 157, 158] rfl (by decide +kernel)
set_option maxRecDepth 20000 in
theorem gX13_readStatue_X13_readPart : GoodIn wsX13_readStatue (wsV RX13 241 RX13 yX13_readPart wsX13_readPart) := goodIn_app (goodIn_of _ (by decide +kernel)) ggX13_readStatue_X13_readPart
set_option maxRecDepth 20000 in
theorem ggX13_readStatue_X13_isWord : GoodIn wsX13_readStatue wsX13_isWord := goodIn_r _ [47, 2, 21, 48, 49, 6, 50, 22, 51, 52, 53, 54, 55, 56, 57, 58, 59, 60, 61, 62, 63, 64, 65, 66, 67, 68, 69, 70, 71, 72, 73, 74, 75, 76, 77, 78, 79, 80, 81, 82, 83, 84, 85, 86, 87, 88, 89, 90, 91, 92, 93, 94, 95, 96, 97, 98, 99, 130, 131, 132, 133, 134, 135, 136, 137, 138, 139, 140, 141, 142, 143, 144, 145, 146, 147, 148, 149, 150, 151, 152, 153, 154, 155, 156, 157, 158] rfl (by decide +kernel)
set_option maxRecDepth 20000 in
theorem gX13_readStatue_X13_isWord : GoodIn wsX13_readStatue (wsV RX13 97 RX13 yX13_isWord wsX13_isWord) := goodIn_app (goodIn_of _ (by decide +kernel)) ggX13_readStatue_X13_isWord
set_option maxRecDepth 20000 in
theorem ggX13_readStatue_X13_wrong : GoodIn wsX13_readStatue wsX13_wrong := goodIn_r _ [11, 2, 12, 13, 14, 130, 131, 132, 133, 134, 135, 136, 137, 138, 139, 140, 141, 142, 143, 144, 145, 146, 147, 148, 149, 150, 151, 152, 153, 154, 155, 156, 157, 158] rfl (by decide +kernel)
set_option maxRecDepth 20000 in
theorem gX13_readStatue_X13_wrong : GoodIn wsX13_readStatue (wsV RX13 104 RX13 yX13_wrong wsX13_wrong) := goodIn_app (goodIn_of _ (by decide +kernel)) ggX13_readStatue_X13_wrong
set_option maxRecDepth 20000 in
theorem ggX13_readStatue_X13_goesOn : GoodIn wsX13_readStatue wsX13_goesOn := goodIn_r _ [18, 2, 19, 13, 20, 21, 22, 23, 24, 25, 26, 6, 27, 28, 29, 30, 31, 32, 33, 34, 35, 130, 131, 132, 133, 134, 135, 136, 137, 138, 139, 140, 141, 142, 143, 144, 145, 146, 147, 148, 149, 150, 151, 152, 153, 154, 155, 156, 157, 158] rfl (by decide +kernel)
set_option maxRecDepth 20000 in
theorem gX13_readStatue_X13_goesOn : GoodIn wsX13_readStatue (wsV RX13 101 RX13 yX13_goesOn wsX13_goesOn) := goodIn_app (goodIn_of _ (by decide +kernel)) ggX13_readStatue_X13_goesOn
set_option maxRecDepth 20000 in
theorem ggX13_readStatue_X13_needs : GoodIn wsX13_readStatue wsX13_needs := goodIn_r _ [114, 44, 45, 46, 6, 47, 2, 21, 48, 49, 50, 22, 51, 52, 53, 54, 55, 56, 57, 58, 59, 60, 61, 62, 63, 64, 65, 66, 67, 68, 69, 70, 71, 72, 73, 74, 75, 76, 77, 78, 79, 80, 81, 82, 83, 84, 85, 86, 87, 88, 89, 90, 91, 92, 93, 94, 95, 96, 97, 98, 99, 8, 9, 10, 11, 12, 13, 14, 15, 16, 17, 18, 19, 20, 23, 24, 25, 26, 27, 28, 29, 30, 31, 32, 33, 34, 35, 130, 131, 132, 133, 134, 135, 136, 137, 138, 139, 140, 141, 142, 143, 144, 145, 146, 147, 148, 149, 150, 151, 152, 153, 154, 155, 156, 157, 158] rfl (by decide +kernel)
set_option maxRecDepth 20000 in
theorem gX13_readStatue_X13_needs : GoodIn wsX13_readStatue (wsV RX13 112 RX13 yX13_needs wsX13_needs) := goodIn_app (goodIn_of _ (by decide +kernel)) ggX13_readStatue_X13_needs
set_option maxRecDepth 20000 in
theorem ggX13_readStatue_X13_readKnown : GoodIn wsX13_readStatue wsX13_readKnown := goodIn_r _ [125, 126, 127, 128, 6, 129, 1, 21, 2, 40, 41, 42, 43, 44, 45, 46, 47, 48, 49, 50, 22, 51, 52, 53, 54, 55, 56, 57, 58, 59, 60, 61, 62, 63, 64, 65, 66, 67, 68, 69, 70, 71, 72, 73, 74, 75, 76, 77, 78, 79, 80, 81, 82, 83, 84, 85, 86, 87, 88, 89, 90, 91, 92, 93, 94, 95, 96, 97, 98, 99, 8, 9, 10, 11, 12, 13, 14, 100, 101, 102, 103, 104, 105, 106, 15, 16, 17, 18, 19, 20, 23, 24, 25, 26, 27, 28, 29, 30, 31, 32, 33, 34, 35, 130, 131, 132, 133, 134, 135, 136, 137, 138, 139, 140, 141, 142, 143, 144, 145, 146, 147, 148, 149, 150, 151, 152, 153, 154, 155, 156, 157, 158, 159, 160, 161, 162, 163, 164, 165, 166, 167, 168, 169, 170, 171, 172, 173, 174, 175, 176, 177, 178, 179, 180, 181, 182, 183, 184, 185, 186, 187, 188, 189, 190, 191, 192, 193, 194, 195, 196, 197, 198, 199, 200, 201, 202, 203, 204, 205, 206] rfl (by decide +kernel)
set_option maxRecDepth 20000 in
theorem gX13_readStatue_X13_readKnown : GoodIn wsX13_readStatue (wsV RX13 297 RX13 yX13_readKnown wsX13_readKnown) := goodIn_app (goodIn_of _ (by decide +kernel)) ggX13_readStatue_X13_readKnown
theorem dX13_readStatue_0 : decode cX13_readStatue 0 = .ok (.aload_n 0, 1) := by decide +kernel
theorem dX13_readStatue_1 : decode cX13_readStatue 1 = .ok (.aload_n 0, 1) := by decide +kernel
theorem dX13_readStatue_2 : decode cX13_readStatue 2 = .ok (.getfield 150, 3) := by decide +kernel
theorem dX13_readStatue_5 : decode cX13_readStatue 5 = .ok (.getfield 191, 3) := by decide +kernel
theorem dX13_readStatue_8 : decode cX13_readStatue 8 = .ok (.bipush 10, 2) := by decide +kernel
theorem dX13_readStatue_10 : decode cX13_readStatue 10 = .ok (.invokevirtual 224, 3) := by decide +kernel
theorem dX13_readStatue_13 : decode cX13_readStatue 13 = .ok (.aload_n 0, 1) := by decide +kernel
theorem dX13_readStatue_14 : decode cX13_readStatue 14 = .ok (.iconst 2, 1) := by decide +kernel
theorem dX13_readStatue_15 : decode cX13_readStatue 15 = .ok (.aload_n 0, 1) := by decide +kernel
theorem dX13_readStatue_16 : decode cX13_readStatue 16 = .ok (.getfield 150, 3) := by decide +kernel
theorem dX13_readStatue_19 : decode cX13_readStatue 19 = .ok (.getfield 191, 3) := by decide +kernel
theorem dX13_readStatue_22 : decode cX13_readStatue 22 = .ok (.invokevirtual 228, 3) := by decide +kernel
theorem dX13_readStatue_25 : decode cX13_readStatue 25 = .ok (.aload_n 0, 1) := by decide +kernel
theorem dX13_readStatue_26 : decode cX13_readStatue 26 = .ok (.ldc_w 268, 3) := by decide +kernel
theorem dX13_readStatue_29 : decode cX13_readStatue 29 = .ok (.iconst 1, 1) := by decide +kernel
theorem dX13_readStatue_30 : decode cX13_readStatue 30 = .ok (.bipush 99, 2) := by decide +kernel
theorem dX13_readStatue_32 : decode cX13_readStatue 32 = .ok (.invokevirtual 241, 3) := by decide +kernel
theorem dX13_readStatue_35 : decode cX13_readStatue 35 = .ok (.istore_n 1, 1) := by decide +kernel
theorem dX13_readStatue_36 : decode cX13_readStatue 36 = .ok (.aload_n 0, 1) := by decide +kernel
theorem dX13_readStatue_37 : decode cX13_readStatue 37 = .ok (.ldc_w 270, 3) := by decide +kernel
theorem dX13_readStatue_40 : decode cX13_readStatue 40 = .ok (.iconst 0, 1) := by decide +kernel
theorem dX13_readStatue_41 : decode cX13_readStatue 41 = .ok (.bipush 30, 2) := by decide +kernel
theorem dX13_readStatue_43 : decode cX13_readStatue 43 = .ok (.invokevirtual 241, 3) := by decide +kernel
theorem dX13_readStatue_46 : decode cX13_readStatue 46 = .ok (.istore_n 2, 1) := by decide +kernel
theorem dX13_readStatue_47 : decode cX13_readStatue 47 = .ok (.aload_n 0, 1) := by decide +kernel
theorem dX13_readStatue_48 : decode cX13_readStatue 48 = .ok (.ldc_w 272, 3) := by decide +kernel
theorem dX13_readStatue_51 : decode cX13_readStatue 51 = .ok (.iconst 0, 1) := by decide +kernel
theorem dX13_readStatue_52 : decode cX13_readStatue 52 = .ok (.bipush 20, 2) := by decide +kernel
theorem dX13_readStatue_54 : decode cX13_readStatue 54 = .ok (.invokevirtual 241, 3) := by decide +kernel
theorem dX13_readStatue_57 : decode cX13_readStatue 57 = .ok (.istore_n 3, 1) := by decide +kernel
theorem dX13_readStatue_58 : decode cX13_readStatue 58 = .ok (.aload_n 0, 1) := by decide +kernel
theorem dX13_readStatue_59 : decode cX13_readStatue 59 = .ok (.ldc_w 274, 3) := by decide +kernel
theorem dX13_readStatue_62 : decode cX13_readStatue 62 = .ok (.invokevirtual 97, 3) := by decide +kernel
theorem dX13_readStatue_65 : decode cX13_readStatue 65 = .ok (.ifCond .eq 7, 3) := by decide +kernel
theorem dX13_readStatue_68 : decode cX13_readStatue 68 = .ok (.iconst 0, 1) := by decide +kernel
theorem dX13_readStatue_69 : decode cX13_readStatue 69 = .ok (.goto 74, 3) := by decide +kernel
theorem dX13_readStatue_72 : decode cX13_readStatue 72 = .ok (.aload_n 0, 1) := by decide +kernel
theorem dX13_readStatue_73 : decode cX13_readStatue 73 = .ok (.ldc_w 276, 3) := by decide +kernel
theorem dX13_readStatue_76 : decode cX13_readStatue 76 = .ok (.invokevirtual 97, 3) := by decide +kernel
theorem dX13_readStatue_79 : decode cX13_readStatue 79 = .ok (.ifCond .eq 7, 3) := by decide +kernel
theorem dX13_readStatue_82 : decode cX13_readStatue 82 = .ok (.iconst 1, 1) := by decide +kernel
theorem dX13_readStatue_83 : decode cX13_readStatue 83 = .ok (.goto 60, 3) := by decide +kernel
theorem dX13_readStatue_86 : decode cX13_readStatue 86 = .ok (.aload_n 0, 1) := by decide +kernel
theorem dX13_readStatue_87 : decode cX13_readStatue 87 = .ok (.ldc_w 278, 3) := by decide +kernel
theorem dX13_readStatue_90 : decode cX13_readStatue 90 = .ok (.invokevirtual 97, 3) := by decide +kernel
theorem dX13_readStatue_93 : decode cX13_readStatue 93 = .ok (.ifCond .eq 7, 3) := by decide +kernel
theorem dX13_readStatue_96 : decode cX13_readStatue 96 = .ok (.iconst 2, 1) := by decide +kernel
theorem dX13_readStatue_97 : decode cX13_readStatue 97 = .ok (.goto 46, 3) := by decide +kernel
theorem dX13_readStatue_100 : decode cX13_readStatue 100 = .ok (.aload_n 0, 1) := by decide +kernel
theorem dX13_readStatue_101 : decode cX13_readStatue 101 = .ok (.ldc_w 280, 3) := by decide +kernel
theorem dX13_readStatue_104 : decode cX13_readStatue 104 = .ok (.invokevirtual 97, 3) := by decide +kernel
theorem dX13_readStatue_107 : decode cX13_readStatue 107 = .ok (.ifCond .eq 7, 3) := by decide +kernel
theorem dX13_readStatue_110 : decode cX13_readStatue 110 = .ok (.iconst 3, 1) := by decide +kernel
theorem dX13_readStatue_111 : decode cX13_readStatue 111 = .ok (.goto 32, 3) := by decide +kernel
theorem dX13_readStatue_114 : decode cX13_readStatue 114 = .ok (.aload_n 0, 1) := by decide +kernel
theorem dX13_readStatue_115 : decode cX13_readStatue 115 = .ok (.ldc_w 282, 3) := by decide +kernel
theorem dX13_readStatue_118 : decode cX13_readStatue 118 = .ok (.invokevirtual 97, 3) := by decide +kernel
theorem dX13_readStatue_121 : decode cX13_readStatue 121 = .ok (.ifCond .eq 7, 3) := by decide +kernel
theorem dX13_readStatue_124 : decode cX13_readStatue 124 = .ok (.iconst 4, 1) := by decide +kernel
theorem dX13_readStatue_125 : decode cX13_readStatue 125 = .ok (.goto 18, 3) := by decide +kernel
theorem dX13_readStatue_128 : decode cX13_readStatue 128 = .ok (.aload_n 0, 1) := by decide +kernel
theorem dX13_readStatue_129 : decode cX13_readStatue 129 = .ok (.ldc_w 284, 3) := by decide +kernel
theorem dX13_readStatue_132 : decode cX13_readStatue 132 = .ok (.invokevirtual 97, 3) := by decide +kernel
theorem dX13_readStatue_135 : decode cX13_readStatue 135 = .ok (.ifCond .eq 7, 3) := by decide +kernel
theorem dX13_readStatue_138 : decode cX13_readStatue 138 = .ok (.iconst 5, 1) := by decide +kernel
theorem dX13_readStatue_139 : decode cX13_readStatue 139 = .ok (.goto 4, 3) := by decide +kernel
theorem dX13_readStatue_142 : decode cX13_readStatue 142 = .ok (.iconst (-1), 1) := by decide +kernel
theorem dX13_readStatue_143 : decode cX13_readStatue 143 = .ok (.istore 4, 2) := by decide +kernel
theorem dX13_readStatue_145 : decode cX13_readStatue 145 = .ok (.iload 4, 2) := by decide +kernel
theorem dX13_readStatue_147 : decode cX13_readStatue 147 = .ok (.iconst (-1), 1) := by decide +kernel
theorem dX13_readStatue_148 : decode cX13_readStatue 148 = .ok (.if_icmp .ne 8, 3) := by decide +kernel
theorem dX13_readStatue_151 : decode cX13_readStatue 151 = .ok (.aload_n 0, 1) := by decide +kernel
theorem dX13_readStatue_152 : decode cX13_readStatue 152 = .ok (.iconst 1, 1) := by decide +kernel
theorem dX13_readStatue_153 : decode cX13_readStatue 153 = .ok (.invokevirtual 104, 3) := by decide +kernel
theorem dX13_readStatue_156 : decode cX13_readStatue 156 = .ok (.iload 4, 2) := by decide +kernel
theorem dX13_readStatue_158 : decode cX13_readStatue 158 = .ok (.iconst 5, 1) := by decide +kernel
theorem dX13_readStatue_159 : decode cX13_readStatue 159 = .ok (.if_icmp .ne 20, 3) := by decide +kernel
theorem dX13_readStatue_162 : decode cX13_readStatue 162 = .ok (.aload_n 0, 1) := by decide +kernel
theorem dX13_readStatue_163 : decode cX13_readStatue 163 = .ok (.getfield 150, 3) := by decide +kernel
theorem dX13_readStatue_166 : decode cX13_readStatue 166 = .ok (.getfield 286, 3) := by decide +kernel
theorem dX13_readStatue_169 : decode cX13_readStatue 169 = .ok (.bipush 8, 2) := by decide +kernel
theorem dX13_readStatue_171 : decode cX13_readStatue 171 = .ok (.if_icmp .ne 8, 3) := by decide +kernel
theorem dX13_readStatue_174 : decode cX13_readStatue 174 = .ok (.aload_n 0, 1) := by decide +kernel
theorem dX13_readStatue_175 : decode cX13_readStatue 175 = .ok (.iconst 5, 1) := by decide +kernel
theorem dX13_readStatue_176 : decode cX13_readStatue 176 = .ok (.invokevirtual 104, 3) := by decide +kernel
theorem dX13_readStatue_179 : decode cX13_readStatue 179 = .ok (.aload_n 0, 1) := by decide +kernel
theorem dX13_readStatue_180 : decode cX13_readStatue 180 = .ok (.invokevirtual 101, 3) := by decide +kernel
theorem dX13_readStatue_183 : decode cX13_readStatue 183 = .ok (.bipush (-2), 2) := by decide +kernel
theorem dX13_readStatue_185 : decode cX13_readStatue 185 = .ok (.istore 5, 2) := by decide +kernel
theorem dX13_readStatue_187 : decode cX13_readStatue 187 = .ok (.bipush (-2), 2) := by decide +kernel
theorem dX13_readStatue_189 : decode cX13_readStatue 189 = .ok (.istore 6, 2) := by decide +kernel
theorem dX13_readStatue_191 : decode cX13_readStatue 191 = .ok (.bipush (-2), 2) := by decide +kernel
theorem dX13_readStatue_193 : decode cX13_readStatue 193 = .ok (.istore 7, 2) := by decide +kernel
theorem dX13_readStatue_195 : decode cX13_readStatue 195 = .ok (.iload 4, 2) := by decide +kernel
theorem dX13_readStatue_197 : decode cX13_readStatue 197 = .ok (.iconst 5, 1) := by decide +kernel
theorem dX13_readStatue_198 : decode cX13_readStatue 198 = .ok (.if_icmp .ne 111, 3) := by decide +kernel
theorem dX13_readStatue_201 : decode cX13_readStatue 201 = .ok (.aload_n 0, 1) := by decide +kernel
theorem dX13_readStatue_202 : decode cX13_readStatue 202 = .ok (.ldc_w 289, 3) := by decide +kernel
theorem dX13_readStatue_205 : decode cX13_readStatue 205 = .ok (.invokevirtual 97, 3) := by decide +kernel
theorem dX13_readStatue_208 : decode cX13_readStatue 208 = .ok (.ifCond .eq 7, 3) := by decide +kernel
theorem dX13_readStatue_211 : decode cX13_readStatue 211 = .ok (.iconst 0, 1) := by decide +kernel
theorem dX13_readStatue_212 : decode cX13_readStatue 212 = .ok (.goto 32, 3) := by decide +kernel
theorem dX13_readStatue_215 : decode cX13_readStatue 215 = .ok (.aload_n 0, 1) := by decide +kernel
theorem dX13_readStatue_216 : decode cX13_readStatue 216 = .ok (.ldc_w 291, 3) := by decide +kernel
theorem dX13_readStatue_219 : decode cX13_readStatue 219 = .ok (.invokevirtual 97, 3) := by decide +kernel
theorem dX13_readStatue_222 : decode cX13_readStatue 222 = .ok (.ifCond .eq 7, 3) := by decide +kernel
theorem dX13_readStatue_225 : decode cX13_readStatue 225 = .ok (.iconst 1, 1) := by decide +kernel
theorem dX13_readStatue_226 : decode cX13_readStatue 226 = .ok (.goto 18, 3) := by decide +kernel
theorem dX13_readStatue_229 : decode cX13_readStatue 229 = .ok (.aload_n 0, 1) := by decide +kernel
theorem dX13_readStatue_230 : decode cX13_readStatue 230 = .ok (.ldc_w 293, 3) := by decide +kernel
theorem dX13_readStatue_233 : decode cX13_readStatue 233 = .ok (.invokevirtual 97, 3) := by decide +kernel
theorem dX13_readStatue_236 : decode cX13_readStatue 236 = .ok (.ifCond .eq 7, 3) := by decide +kernel
theorem dX13_readStatue_239 : decode cX13_readStatue 239 = .ok (.iconst 2, 1) := by decide +kernel
theorem dX13_readStatue_240 : decode cX13_readStatue 240 = .ok (.goto 4, 3) := by decide +kernel
theorem dX13_readStatue_243 : decode cX13_readStatue 243 = .ok (.iconst (-1), 1) := by decide +kernel
theorem dX13_readStatue_244 : decode cX13_readStatue 244 = .ok (.istore 5, 2) := by decide +kernel
theorem dX13_readStatue_246 : decode cX13_readStatue 246 = .ok (.iload 5, 2) := by decide +kernel
theorem dX13_readStatue_248 : decode cX13_readStatue 248 = .ok (.iconst (-1), 1) := by decide +kernel
theorem dX13_readStatue_249 : decode cX13_readStatue 249 = .ok (.if_icmp .ne 8, 3) := by decide +kernel
theorem dX13_readStatue_252 : decode cX13_readStatue 252 = .ok (.aload_n 0, 1) := by decide +kernel
theorem dX13_readStatue_253 : decode cX13_readStatue 253 = .ok (.iconst 1, 1) := by decide +kernel
theorem dX13_readStatue_254 : decode cX13_readStatue 254 = .ok (.invokevirtual 104, 3) := by decide +kernel
theorem dX13_readStatue_257 : decode cX13_readStatue 257 = .ok (.aload_n 0, 1) := by decide +kernel
theorem dX13_readStatue_258 : decode cX13_readStatue 258 = .ok (.invokevirtual 101, 3) := by decide +kernel
theorem dX13_readStatue_261 : decode cX13_readStatue 261 = .ok (.aload_n 0, 1) := by decide +kernel
theorem dX13_readStatue_262 : decode cX13_readStatue 262 = .ok (.ldc_w 295, 3) := by decide +kernel
theorem dX13_readStatue_265 : decode cX13_readStatue 265 = .ok (.invokevirtual 112, 3) := by decide +kernel
theorem dX13_readStatue_268 : decode cX13_readStatue 268 = .ok (.aload_n 0, 1) := by decide +kernel
theorem dX13_readStatue_269 : decode cX13_readStatue 269 = .ok (.iconst 1, 1) := by decide +kernel
theorem dX13_readStatue_270 : decode cX13_readStatue 270 = .ok (.invokevirtual 297, 3) := by decide +kernel
theorem dX13_readStatue_273 : decode cX13_readStatue 273 = .ok (.istore 6, 2) := by decide +kernel
theorem dX13_readStatue_275 : decode cX13_readStatue 275 = .ok (.aload_n 0, 1) := by decide +kernel
theorem dX13_readStatue_276 : decode cX13_readStatue 276 = .ok (.ldc_w 300, 3) := by decide +kernel
theorem dX13_readStatue_279 : decode cX13_readStatue 279 = .ok (.iconst 0, 1) := by decide +kernel
theorem dX13_readStatue_280 : decode cX13_readStatue 280 = .ok (.aload_n 0, 1) := by decide +kernel
theorem dX13_readStatue_281 : decode cX13_readStatue 281 = .ok (.getfield 58, 3) := by decide +kernel
theorem dX13_readStatue_284 : decode cX13_readStatue 284 = .ok (.iconst 5, 1) := by decide +kernel
theorem dX13_readStatue_285 : decode cX13_readStatue 285 = .ok (.if_icmp .ne 7, 3) := by decide +kernel
theorem dX13_readStatue_288 : decode cX13_readStatue 288 = .ok (.iconst 0, 1) := by decide +kernel
theorem dX13_readStatue_289 : decode cX13_readStatue 289 = .ok (.goto 15, 3) := by decide +kernel
theorem dX13_readStatue_292 : decode cX13_readStatue 292 = .ok (.aload_n 0, 1) := by decide +kernel
theorem dX13_readStatue_293 : decode cX13_readStatue 293 = .ok (.getfield 150, 3) := by decide +kernel
theorem dX13_readStatue_296 : decode cX13_readStatue 296 = .ok (.getfield 266, 3) := by decide +kernel
theorem dX13_readStatue_299 : decode cX13_readStatue 299 = .ok (.iload 6, 2) := by decide +kernel
theorem dX13_readStatue_301 : decode cX13_readStatue 301 = .ok (.iaload, 1) := by decide +kernel
theorem dX13_readStatue_302 : decode cX13_readStatue 302 = .ok (.iconst 1, 1) := by decide +kernel
theorem dX13_readStatue_303 : decode cX13_readStatue 303 = .ok (.isub, 1) := by decide +kernel
theorem dX13_readStatue_304 : decode cX13_readStatue 304 = .ok (.invokevirtual 241, 3) := by decide +kernel
theorem dX13_readStatue_307 : decode cX13_readStatue 307 = .ok (.istore 7, 2) := by decide +kernel
theorem dX13_readStatue_309 : decode cX13_readStatue 309 = .ok (.aload_n 0, 1) := by decide +kernel
theorem dX13_readStatue_310 : decode cX13_readStatue 310 = .ok (.getfield 58, 3) := by decide +kernel
theorem dX13_readStatue_313 : decode cX13_readStatue 313 = .ok (.iconst 5, 1) := by decide +kernel
theorem dX13_readStatue_314 : decode cX13_readStatue 314 = .ok (.if_icmp .ne 4, 3) := by decide +kernel
theorem dX13_readStatue_317 : decode cX13_readStatue 317 = .ok (.return_, 1) := by decide +kernel
theorem dX13_readStatue_318 : decode cX13_readStatue 318 = .ok (.aload_n 0, 1) := by decide +kernel
theorem dX13_readStatue_319 : decode cX13_readStatue 319 = .ok (.getfield 150, 3) := by decide +kernel
theorem dX13_readStatue_322 : decode cX13_readStatue 322 = .ok (.getfield 191, 3) := by decide +kernel
theorem dX13_readStatue_325 : decode cX13_readStatue 325 = .ok (.istore 8, 2) := by decide +kernel
theorem dX13_readStatue_327 : decode cX13_readStatue 327 = .ok (.aload_n 0, 1) := by decide +kernel
theorem dX13_readStatue_328 : decode cX13_readStatue 328 = .ok (.getfield 150, 3) := by decide +kernel
theorem dX13_readStatue_331 : decode cX13_readStatue 331 = .ok (.getfield 301, 3) := by decide +kernel
theorem dX13_readStatue_334 : decode cX13_readStatue 334 = .ok (.iload 8, 2) := by decide +kernel
theorem dX13_readStatue_336 : decode cX13_readStatue 336 = .ok (.iload_n 1, 1) := by decide +kernel
theorem dX13_readStatue_337 : decode cX13_readStatue 337 = .ok (.iastore, 1) := by decide +kernel
theorem dX13_readStatue_338 : decode cX13_readStatue 338 = .ok (.aload_n 0, 1) := by decide +kernel
theorem dX13_readStatue_339 : decode cX13_readStatue 339 = .ok (.getfield 150, 3) := by decide +kernel
theorem dX13_readStatue_342 : decode cX13_readStatue 342 = .ok (.getfield 303, 3) := by decide +kernel
theorem dX13_readStatue_345 : decode cX13_readStatue 345 = .ok (.iload 8, 2) := by decide +kernel
theorem dX13_readStatue_347 : decode cX13_readStatue 347 = .ok (.iload_n 2, 1) := by decide +kernel
theorem dX13_readStatue_348 : decode cX13_readStatue 348 = .ok (.iastore, 1) := by decide +kernel
theorem dX13_readStatue_349 : decode cX13_readStatue 349 = .ok (.aload_n 0, 1) := by decide +kernel
theorem dX13_readStatue_350 : decode cX13_readStatue 350 = .ok (.getfield 150, 3) := by decide +kernel
theorem dX13_readStatue_353 : decode cX13_readStatue 353 = .ok (.getfield 305, 3) := by decide +kernel
theorem dX13_readStatue_356 : decode cX13_readStatue 356 = .ok (.iload 8, 2) := by decide +kernel
theorem dX13_readStatue_358 : decode cX13_readStatue 358 = .ok (.iload_n 3, 1) := by decide +kernel
theorem dX13_readStatue_359 : decode cX13_readStatue 359 = .ok (.iastore, 1) := by decide +kernel
theorem dX13_readStatue_360 : decode cX13_readStatue 360 = .ok (.aload_n 0, 1) := by decide +kernel
theorem dX13_readStatue_361 : decode cX13_readStatue 361 = .ok (.getfield 150, 3) := by decide +kernel
theorem dX13_readStatue_364 : decode cX13_readStatue 364 = .ok (.getfield 307, 3) := by decide +kernel
theorem dX13_readStatue_367 : decode cX13_readStatue 367 = .ok (.iload 8, 2) := by decide +kernel
theorem dX13_readStatue_369 : decode cX13_readStatue 369 = .ok (.iload 4, 2) := by decide +kernel
theorem dX13_readStatue_371 : decode cX13_readStatue 371 = .ok (.iastore, 1) := by decide +kernel
theorem dX13_readStatue_372 : decode cX13_readStatue 372 = .ok (.aload_n 0, 1) := by decide +kernel
theorem dX13_readStatue_373 : decode cX13_readStatue 373 = .ok (.getfield 150, 3) := by decide +kernel
theorem dX13_readStatue_376 : decode cX13_readStatue 376 = .ok (.getfield 309, 3) := by decide +kernel
theorem dX13_readStatue_379 : decode cX13_readStatue 379 = .ok (.iload 8, 2) := by decide +kernel
theorem dX13_readStatue_381 : decode cX13_readStatue 381 = .ok (.iload 5, 2) := by decide +kernel
theorem dX13_readStatue_383 : decode cX13_readStatue 383 = .ok (.iastore, 1) := by decide +kernel
theorem dX13_readStatue_384 : decode cX13_readStatue 384 = .ok (.aload_n 0, 1) := by decide +kernel
theorem dX13_readStatue_385 : decode cX13_readStatue 385 = .ok (.getfield 150, 3) := by decide +kernel
theorem dX13_readStatue_388 : decode cX13_readStatue 388 = .ok (.getfield 312, 3) := by decide +kernel
theorem dX13_readStatue_391 : decode cX13_readStatue 391 = .ok (.iload 8, 2) := by decide +kernel
theorem dX13_readStatue_393 : decode cX13_readStatue 393 = .ok (.iload 6, 2) := by decide +kernel
theorem dX13_readStatue_395 : decode cX13_readStatue 395 = .ok (.iastore, 1) := by decide +kernel
theorem dX13_readStatue_396 : decode cX13_readStatue 396 = .ok (.aload_n 0, 1) := by decide +kernel
theorem dX13_readStatue_397 : decode cX13_readStatue 397 = .ok (.getfield 150, 3) := by decide +kernel
theorem dX13_readStatue_400 : decode cX13_readStatue 400 = .ok (.getfield 314, 3) := by decide +kernel
theorem dX13_readStatue_403 : decode cX13_readStatue 403 = .ok (.iload 8, 2) := by decide +kernel
theorem dX13_readStatue_405 : decode cX13_readStatue 405 = .ok (.iload 7, 2) := by decide +kernel
theorem dX13_readStatue_407 : decode cX13_readStatue 407 = .ok (.iastore, 1) := by decide +kernel
theorem dX13_readStatue_408 : decode cX13_readStatue 408 = .ok (.aload_n 0, 1) := by decide +kernel
theorem dX13_readStatue_409 : decode cX13_readStatue 409 = .ok (.getfield 150, 3) := by decide +kernel
theorem dX13_readStatue_412 : decode cX13_readStatue 412 = .ok (.dup, 1) := by decide +kernel
theorem dX13_readStatue_413 : decode cX13_readStatue 413 = .ok (.getfield 286, 3) := by decide +kernel
theorem dX13_readStatue_416 : decode cX13_readStatue 416 = .ok (.iload 4, 2) := by decide +kernel
theorem dX13_readStatue_418 : decode cX13_readStatue 418 = .ok (.iconst 5, 1) := by decide +kernel
theorem dX13_readStatue_419 : decode cX13_readStatue 419 = .ok (.if_icmp .ne 7, 3) := by decide +kernel
theorem dX13_readStatue_422 : decode cX13_readStatue 422 = .ok (.iconst 1, 1) := by decide +kernel
theorem dX13_readStatue_423 : decode cX13_readStatue 423 = .ok (.goto 4, 3) := by decide +kernel
theorem dX13_readStatue_426 : decode cX13_readStatue 426 = .ok (.iconst 0, 1) := by decide +kernel
theorem dX13_readStatue_427 : decode cX13_readStatue 427 = .ok (.iadd, 1) := by decide +kernel
theorem dX13_readStatue_428 : decode cX13_readStatue 428 = .ok (.putfield 286, 3) := by decide +kernel
theorem dX13_readStatue_431 : decode cX13_readStatue 431 = .ok (.aload_n 0, 1) := by decide +kernel
theorem dX13_readStatue_432 : decode cX13_readStatue 432 = .ok (.getfield 150, 3) := by decide +kernel
theorem dX13_readStatue_435 : decode cX13_readStatue 435 = .ok (.dup, 1) := by decide +kernel
theorem dX13_readStatue_436 : decode cX13_readStatue 436 = .ok (.getfield 191, 3) := by decide +kernel
theorem dX13_readStatue_439 : decode cX13_readStatue 439 = .ok (.iconst 1, 1) := by decide +kernel
theorem dX13_readStatue_440 : decode cX13_readStatue 440 = .ok (.iadd, 1) := by decide +kernel
theorem dX13_readStatue_441 : decode cX13_readStatue 441 = .ok (.putfield 191, 3) := by decide +kernel
theorem dX13_readStatue_444 : decode cX13_readStatue 444 = .ok (.return_, 1) := by decide +kernel
set_option maxRecDepth 20000 in
theorem ggX13_readTrial_X13_begins : GoodIn wsX13_readTrial wsX13_begins := goodIn_r _ [7, 8, 9, 10, 6, 11, 2, 12, 13, 14, 15, 16, 17, 18, 19, 20, 21, 22, 23, 24, 25, 26, 27, 28, 29, 30, 31, 32, 33, 34, 35, 130, 131, 132, 133, 134, 135, 136, 137, 138, 139, 140, 141, 142, 143, 144, 145, 146, 147, 148, 149, 150, 151, 152, 153, 154, 155, 156, 157, 158] rfl (by decide +kernel)
set_option maxRecDepth 20000 in
theorem gX13_readTrial_X13_begins : GoodIn wsX13_readTrial (wsV RX13 224 RX13 yX13_begins wsX13_begins) := goodIn_app (goodIn_of _ (by decide +kernel)) ggX13_readTrial_X13_begins
set_option maxRecDepth 20000 in
theorem ggX13_readTrial_X13_readFresh : GoodIn wsX13_readTrial wsX13_readFresh := goodIn_r _ [39, 1, 21, 2, 40, 41, 42, 6, 43, 44, 45, 46, 47, 48, 49, 50, 22, 51, 52, 53, 54, 55, 56, 57, 58, 59, 60, 61, 62, 63, 64, 65, 66, 67, 68, 69, 70, 71, 72, 73, 74, 75, 76, 77, 78, 79, 80, 81, 82, 83, 84, 85, 86, 87, 88, 89, 90, 91, 92, 93, 94, 95, 96, 97, 98, 99, 8, 9, 10, 11, 12, 13, 14, 100, 101, 102, 103, 104, 105, 106, 15, 16, 17, 18, 19, 20, 23, 24, 25, 26, 27, 28, 29, 30, 31, 32, 33, 34, 35, 130, 131, 132, 133, 134, 135, 136, 137, 138, 139, 140, 141, 142, 143, 144, 145, 146, 147, 148, 149, 150, 151, 152, 153, 154, 155, 156, 157, 158, 159, 160, 161, 162, 163, 164, 165, 166, 167, 168, 169, 170, 171, 172, 173, 174, 175, 176, 177, 178, 179, 180, 181, 182, 183, 184, 185, 186, 187, 188, 189, 190, 191, 192, 193, 194, 195, 196, 197, 198, 199, 200, 201, 202, 203, 204, 205, 206] rfl (by decide +kernel)
set_option maxRecDepth 20000 in
theorem gX13_readTrial_X13_readFresh : GoodIn wsX13_readTrial (wsV RX13 228 RX13 yX13_readFresh wsX13_readFresh) := goodIn_app (goodIn_of _ (by decide +kernel)) ggX13_readTrial_X13_readFresh
set_option maxRecDepth 20000 in
theorem ggX13_readTrial_X13_needs : GoodIn wsX13_readTrial wsX13_needs := goodIn_r _ [110, 44, 45, 46, 6, 47, 2, 21, 48, 49, 50, 22, 51, 52, 53, 54, 55, 56, 57, 58, 59, 60, 61, 62, 63, 64, 65, 66, 67, 68, 69, 70, 71, 72, 73, 74, 75, 76, 77, 78, 79, 80, 81, 82, 83, 84, 85, 86, 87, 88, 89, 90, 91, 92, 93, 94, 95, 96, 97, 98, 99, 8, 9, 10, 11, 12, 13, 14, 15, 16, 17, 18, 19, 20, 23, 24, 25, 26, 27, 28, 29, 30, 31, 32, 33, 34, 35, 130, 131, 132, 133, 134, 135, 136, 137, 138, 139, 140, 141, 142, 143, 144, 145, 146, 147, 148, 149, 150, 151, 152, 153, 154, 155, 156, 157, 158] rfl (by decide +kernel)
set_option maxRecDepth 20000 in
theorem gX13_readTrial_X13_needs : GoodIn wsX13_readTrial (wsV RX13 112 RX13 yX13_needs wsX13_needs) := goodIn_app (goodIn_of _ (by decide +kernel)) ggX13_readTrial_X13_needs
set_option maxRecDepth 20000 in
theorem ggX13_readTrial_X13_readKnown : GoodIn wsX13_readTrial wsX13_readKnown := goodIn_r _ [114, 115, 116, 117, 6, 118, 1, 21, 2, 40, 41, 42, 43, 44, 45, 46, 47, 48, 49, 50, 22, 51, 52, 53, 54, 55, 56, 57, 58, 59, 60, 61, 62, 63, 64, 65, 66, 67, 68, 69, 70, 71, 72, 73, 74, 75, 76, 77, 78, 79, 80, 81, 82, 83, 84, 85, 86, 87, 88, 89, 90, 91, 92, 93, 94, 95, 96, 97, 98, 99, 8, 9, 10, 11, 12, 13, 14, 100, 101, 102, 103, 104, 105, 106, 15, 16, 17, 18, 19, 20, 23, 24, 25, 26, 27, 28, 29, 30, 31, 32, 33, 34, 35, 130, 131, 132, 133, 134, 135, 136, 137, 138, 139, 140, 141, 142, 143, 144, 145, 146, 147, 148, 149, 150, 151, 152, 153, 154, 155, 156, 157, 158, 159, 160, 161, 162, 163, 164, 165, 166, 167, 168, 169, 170, 171, 172, 173, 174, 175, 176, 177, 178, 179, 180, 181, 182, 183, 184, 185, 186, 187, 188, 189, 190, 191, 192, 193, 194, 195, 196, 197, 198, 199, 200, 201, 202, 203, 204, 205, 206] rfl (by decide +kernel)
set_option maxRecDepth 20000 in
theorem gX13_readTrial_X13_readKnown : GoodIn wsX13_readTrial (wsV RX13 297 RX13 yX13_readKnown wsX13_readKnown) := goodIn_app (goodIn_of _ (by decide +kernel)) ggX13_readTrial_X13_readKnown
set_option maxRecDepth 20000 in
theorem ggX13_readTrial_X13_readPart : GoodIn wsX13_readTrial wsX13_readPart := goodIn_r _ [122, 107, 108, 109, 6, 110, 44, 45, 46, 47, 2, 21, 48, 49, 50, 22, 51, 52, 53, 54, 55, 56, 57, 58, 59, 60, 61, 62, 63, 64, 65, 66, 67, 68, 69, 70, 71, 72, 73, 74, 75, 76, 77, 78, 79, 80, 81, 82, 83, 84, 85, 86, 87, 88, 89, 90, 91, 92, 93, 94, 95, 96, 97, 98, 99, 8, 9, 10, 11, 12, 13, 14, 15, 16, 17, 18, 19, 20, 23, 24, 25, 26, 27, 28, 29, 30, 31, 32, 33, 34, 35, 123, 124, 125, 126, 127, 128, 129, 130, 131, 132, 133, 134, 135, 136, 137, 138, 139, 140, 141, 142, 143, 144, 145, 146, 147, 148, 149, 150, 151, 152, 153, 154, 155, 156, 157, 158] rfl (by decide +kernel)
set_option maxRecDepth 20000 in
theorem gX13_readTrial_X13_readPart : GoodIn wsX13_readTrial (wsV RX13 241 RX13 yX13_readPart wsX13_readPart) := goodIn_app (goodIn_of _ (by decide +kernel)) ggX13_readTrial_X13_readPart
theorem dX13_readTrial_0 : decode cX13_readTrial 0 = .ok (.aload_n 0, 1) := by decide +kernel
theorem dX13_readTrial_1 : decode cX13_readTrial 1 = .ok (.aload_n 0, 1) := by decide +kernel
theorem dX13_readTrial_2 : decode cX13_readTrial 2 = .ok (.getfield 150, 3) := by decide +kernel
theorem dX13_readTrial_5 : decode cX13_readTrial 5 = .ok (.getfield 317, 3) := by decide +kernel
theorem dX13_readTrial_8 : decode cX13_readTrial 8 = .ok (.iconst 5, 1) := by decide +kernel
theorem dX13_readTrial_9 : decode cX13_readTrial 9 = .ok (.invokevirtual 224, 3) := by decide +kernel
theorem dX13_readTrial_12 : decode cX13_readTrial 12 = .ok (.aload_n 0, 1) := by decide +kernel
theorem dX13_readTrial_13 : decode cX13_readTrial 13 = .ok (.iconst 2, 1) := by decide +kernel
theorem dX13_readTrial_14 : decode cX13_readTrial 14 = .ok (.aload_n 0, 1) := by decide +kernel
theorem dX13_readTrial_15 : decode cX13_readTrial 15 = .ok (.getfield 150, 3) := by decide +kernel
theorem dX13_readTrial_18 : decode cX13_readTrial 18 = .ok (.getfield 317, 3) := by decide +kernel
theorem dX13_readTrial_21 : decode cX13_readTrial 21 = .ok (.invokevirtual 228, 3) := by decide +kernel
theorem dX13_readTrial_24 : decode cX13_readTrial 24 = .ok (.aload_n 0, 1) := by decide +kernel
theorem dX13_readTrial_25 : decode cX13_readTrial 25 = .ok (.ldc_w 320, 3) := by decide +kernel
theorem dX13_readTrial_28 : decode cX13_readTrial 28 = .ok (.invokevirtual 112, 3) := by decide +kernel
theorem dX13_readTrial_31 : decode cX13_readTrial 31 = .ok (.aload_n 0, 1) := by decide +kernel
theorem dX13_readTrial_32 : decode cX13_readTrial 32 = .ok (.iconst 0, 1) := by decide +kernel
theorem dX13_readTrial_33 : decode cX13_readTrial 33 = .ok (.invokevirtual 297, 3) := by decide +kernel
theorem dX13_readTrial_36 : decode cX13_readTrial 36 = .ok (.istore_n 1, 1) := by decide +kernel
theorem dX13_readTrial_37 : decode cX13_readTrial 37 = .ok (.aload_n 0, 1) := by decide +kernel
theorem dX13_readTrial_38 : decode cX13_readTrial 38 = .ok (.ldc_w 268, 3) := by decide +kernel
theorem dX13_readTrial_41 : decode cX13_readTrial 41 = .ok (.iconst 1, 1) := by decide +kernel
theorem dX13_readTrial_42 : decode cX13_readTrial 42 = .ok (.bipush 99, 2) := by decide +kernel
theorem dX13_readTrial_44 : decode cX13_readTrial 44 = .ok (.invokevirtual 241, 3) := by decide +kernel
theorem dX13_readTrial_47 : decode cX13_readTrial 47 = .ok (.istore_n 2, 1) := by decide +kernel
theorem dX13_readTrial_48 : decode cX13_readTrial 48 = .ok (.aload_n 0, 1) := by decide +kernel
theorem dX13_readTrial_49 : decode cX13_readTrial 49 = .ok (.ldc_w 322, 3) := by decide +kernel
theorem dX13_readTrial_52 : decode cX13_readTrial 52 = .ok (.iconst 1, 1) := by decide +kernel
theorem dX13_readTrial_53 : decode cX13_readTrial 53 = .ok (.sipush 200, 3) := by decide +kernel
theorem dX13_readTrial_56 : decode cX13_readTrial 56 = .ok (.invokevirtual 241, 3) := by decide +kernel
theorem dX13_readTrial_59 : decode cX13_readTrial 59 = .ok (.istore_n 3, 1) := by decide +kernel
theorem dX13_readTrial_60 : decode cX13_readTrial 60 = .ok (.aload_n 0, 1) := by decide +kernel
theorem dX13_readTrial_61 : decode cX13_readTrial 61 = .ok (.ldc_w 324, 3) := by decide +kernel
theorem dX13_readTrial_64 : decode cX13_readTrial 64 = .ok (.iconst 1, 1) := by decide +kernel
theorem dX13_readTrial_65 : decode cX13_readTrial 65 = .ok (.sipush 999, 3) := by decide +kernel
theorem dX13_readTrial_68 : decode cX13_readTrial 68 = .ok (.invokevirtual 241, 3) := by decide +kernel
theorem dX13_readTrial_71 : decode cX13_readTrial 71 = .ok (.istore 4, 2) := by decide +kernel
theorem dX13_readTrial_73 : decode cX13_readTrial 73 = .ok (.aload_n 0, 1) := by decide +kernel
theorem dX13_readTrial_74 : decode cX13_readTrial 74 = .ok (.ldc_w 326, 3) := by decide +kernel
theorem dX13_readTrial_77 : decode cX13_readTrial 77 = .ok (.iconst 1, 1) := by decide +kernel
theorem dX13_readTrial_78 : decode cX13_readTrial 78 = .ok (.sipush 999, 3) := by decide +kernel
theorem dX13_readTrial_81 : decode cX13_readTrial 81 = .ok (.invokevirtual 241, 3) := by decide +kernel
theorem dX13_readTrial_84 : decode cX13_readTrial 84 = .ok (.istore 5, 2) := by decide +kernel
theorem dX13_readTrial_86 : decode cX13_readTrial 86 = .ok (.aload_n 0, 1) := by decide +kernel
theorem dX13_readTrial_87 : decode cX13_readTrial 87 = .ok (.getfield 58, 3) := by decide +kernel
theorem dX13_readTrial_90 : decode cX13_readTrial 90 = .ok (.iconst 5, 1) := by decide +kernel
theorem dX13_readTrial_91 : decode cX13_readTrial 91 = .ok (.if_icmp .ne 4, 3) := by decide +kernel
theorem dX13_readTrial_94 : decode cX13_readTrial 94 = .ok (.return_, 1) := by decide +kernel
theorem dX13_readTrial_95 : decode cX13_readTrial 95 = .ok (.aload_n 0, 1) := by decide +kernel
theorem dX13_readTrial_96 : decode cX13_readTrial 96 = .ok (.getfield 150, 3) := by decide +kernel
theorem dX13_readTrial_99 : decode cX13_readTrial 99 = .ok (.getfield 328, 3) := by decide +kernel
theorem dX13_readTrial_102 : decode cX13_readTrial 102 = .ok (.aload_n 0, 1) := by decide +kernel
theorem dX13_readTrial_103 : decode cX13_readTrial 103 = .ok (.getfield 150, 3) := by decide +kernel
theorem dX13_readTrial_106 : decode cX13_readTrial 106 = .ok (.getfield 317, 3) := by decide +kernel
theorem dX13_readTrial_109 : decode cX13_readTrial 109 = .ok (.iload_n 1, 1) := by decide +kernel
theorem dX13_readTrial_110 : decode cX13_readTrial 110 = .ok (.iastore, 1) := by decide +kernel
theorem dX13_readTrial_111 : decode cX13_readTrial 111 = .ok (.aload_n 0, 1) := by decide +kernel
theorem dX13_readTrial_112 : decode cX13_readTrial 112 = .ok (.getfield 150, 3) := by decide +kernel
theorem dX13_readTrial_115 : decode cX13_readTrial 115 = .ok (.getfield 331, 3) := by decide +kernel
theorem dX13_readTrial_118 : decode cX13_readTrial 118 = .ok (.aload_n 0, 1) := by decide +kernel
theorem dX13_readTrial_119 : decode cX13_readTrial 119 = .ok (.getfield 150, 3) := by decide +kernel
theorem dX13_readTrial_122 : decode cX13_readTrial 122 = .ok (.getfield 317, 3) := by decide +kernel
theorem dX13_readTrial_125 : decode cX13_readTrial 125 = .ok (.iload_n 2, 1) := by decide +kernel
theorem dX13_readTrial_126 : decode cX13_readTrial 126 = .ok (.iastore, 1) := by decide +kernel
theorem dX13_readTrial_127 : decode cX13_readTrial 127 = .ok (.aload_n 0, 1) := by decide +kernel
theorem dX13_readTrial_128 : decode cX13_readTrial 128 = .ok (.getfield 150, 3) := by decide +kernel
theorem dX13_readTrial_131 : decode cX13_readTrial 131 = .ok (.getfield 334, 3) := by decide +kernel
theorem dX13_readTrial_134 : decode cX13_readTrial 134 = .ok (.aload_n 0, 1) := by decide +kernel
theorem dX13_readTrial_135 : decode cX13_readTrial 135 = .ok (.getfield 150, 3) := by decide +kernel
theorem dX13_readTrial_138 : decode cX13_readTrial 138 = .ok (.getfield 317, 3) := by decide +kernel
theorem dX13_readTrial_141 : decode cX13_readTrial 141 = .ok (.iload_n 3, 1) := by decide +kernel
theorem dX13_readTrial_142 : decode cX13_readTrial 142 = .ok (.iastore, 1) := by decide +kernel
theorem dX13_readTrial_143 : decode cX13_readTrial 143 = .ok (.aload_n 0, 1) := by decide +kernel
theorem dX13_readTrial_144 : decode cX13_readTrial 144 = .ok (.getfield 150, 3) := by decide +kernel
theorem dX13_readTrial_147 : decode cX13_readTrial 147 = .ok (.getfield 337, 3) := by decide +kernel
theorem dX13_readTrial_150 : decode cX13_readTrial 150 = .ok (.aload_n 0, 1) := by decide +kernel
theorem dX13_readTrial_151 : decode cX13_readTrial 151 = .ok (.getfield 150, 3) := by decide +kernel
theorem dX13_readTrial_154 : decode cX13_readTrial 154 = .ok (.getfield 317, 3) := by decide +kernel
theorem dX13_readTrial_157 : decode cX13_readTrial 157 = .ok (.iload 4, 2) := by decide +kernel
theorem dX13_readTrial_159 : decode cX13_readTrial 159 = .ok (.iastore, 1) := by decide +kernel
theorem dX13_readTrial_160 : decode cX13_readTrial 160 = .ok (.aload_n 0, 1) := by decide +kernel
theorem dX13_readTrial_161 : decode cX13_readTrial 161 = .ok (.getfield 150, 3) := by decide +kernel
theorem dX13_readTrial_164 : decode cX13_readTrial 164 = .ok (.getfield 340, 3) := by decide +kernel
theorem dX13_readTrial_167 : decode cX13_readTrial 167 = .ok (.aload_n 0, 1) := by decide +kernel
theorem dX13_readTrial_168 : decode cX13_readTrial 168 = .ok (.getfield 150, 3) := by decide +kernel
theorem dX13_readTrial_171 : decode cX13_readTrial 171 = .ok (.getfield 317, 3) := by decide +kernel
theorem dX13_readTrial_174 : decode cX13_readTrial 174 = .ok (.iload 5, 2) := by decide +kernel
theorem dX13_readTrial_176 : decode cX13_readTrial 176 = .ok (.iastore, 1) := by decide +kernel
theorem dX13_readTrial_177 : decode cX13_readTrial 177 = .ok (.aload_n 0, 1) := by decide +kernel
theorem dX13_readTrial_178 : decode cX13_readTrial 178 = .ok (.getfield 150, 3) := by decide +kernel
theorem dX13_readTrial_181 : decode cX13_readTrial 181 = .ok (.dup, 1) := by decide +kernel
theorem dX13_readTrial_182 : decode cX13_readTrial 182 = .ok (.getfield 317, 3) := by decide +kernel
theorem dX13_readTrial_185 : decode cX13_readTrial 185 = .ok (.iconst 1, 1) := by decide +kernel
theorem dX13_readTrial_186 : decode cX13_readTrial 186 = .ok (.iadd, 1) := by decide +kernel
theorem dX13_readTrial_187 : decode cX13_readTrial 187 = .ok (.putfield 317, 3) := by decide +kernel
theorem dX13_readTrial_190 : decode cX13_readTrial 190 = .ok (.return_, 1) := by decide +kernel
set_option maxRecDepth 20000 in
theorem ggX13_readLand_X13_wrong : GoodIn wsX13_readLand wsX13_wrong := goodIn_r _ [7, 2, 8, 9, 10, 103, 104, 105, 106, 107, 108, 109, 110, 111, 112, 113, 114, 115, 116, 117, 118, 119, 120, 121, 122, 123, 124, 125, 126, 127, 128, 129, 130, 131] rfl (by decide +kernel)
set_option maxRecDepth 20000 in
theorem gX13_readLand_X13_wrong : GoodIn wsX13_readLand (wsV RX13 104 RX13 yX13_wrong wsX13_wrong) := goodIn_app (goodIn_of _ (by decide +kernel)) ggX13_readLand_X13_wrong
set_option maxRecDepth 20000 in
theorem ggX13_readLand_X13_goesOn : GoodIn wsX13_readLand wsX13_goesOn := goodIn_r _ [14, 2, 15, 9, 16, 17, 18, 19, 20, 21, 22, 6, 23, 24, 25, 26, 27, 28, 29, 30, 31, 103, 104, 105, 106, 107, 108, 109, 110, 111, 112, 113, 114, 115, 116, 117, 118, 119, 120, 121, 122, 123, 124, 125, 126, 127, 128, 129, 130, 131] rfl (by decide +kernel)
set_option maxRecDepth 20000 in
theorem gX13_readLand_X13_goesOn : GoodIn wsX13_readLand (wsV RX13 101 RX13 yX13_goesOn wsX13_goesOn) := goodIn_app (goodIn_of _ (by decide +kernel)) ggX13_readLand_X13_goesOn
set_option maxRecDepth 20000 in
theorem ggX13_readLand_X13_readPart : GoodIn wsX13_readLand wsX13_readPart := goodIn_r _ [35, 36, 37, 38, 6, 39, 40, 41, 42, 43, 2, 17, 44, 45, 46, 18, 47, 48, 49, 50, 51, 52, 53, 54, 55, 56, 57, 58, 59, 60, 61, 62, 63, 64, 65, 66, 67, 68, 69, 70, 71, 72, 73, 74, 75, 76, 77, 78, 79, 80, 81, 82, 83, 84, 85, 86, 87, 88, 89, 90, 91, 92, 93, 94, 95, 3, 4, 5, 7, 8, 9, 10, 11, 12, 13, 14, 15, 16, 19, 20, 21, 22, 23, 24, 25, 26, 27, 28, 29, 30, 31, 96, 97, 98, 99, 100, 101, 102, 103, 104, 105, 106, 107, 108, 109, 110, 111, 112, 113, 114, 115, 116, 117, 118, 119, 120, 121, 122, 123, 124, 125, 126, 127, 128, 129, 130, 131] rfl (by decide +kernel)
set_option maxRecDepth 20000 in
theorem gX13_readLand_X13_readPart : GoodIn wsX13_readLand (wsV RX13 241 RX13 yX13_readPart wsX13_readPart) := goodIn_app (goodIn_of _ (by decide +kernel)) ggX13_readLand_X13_readPart
theorem dX13_readLand_0 : decode cX13_readLand 0 = .ok (.aload_n 0, 1) := by decide +kernel
theorem dX13_readLand_1 : decode cX13_readLand 1 = .ok (.getfield 150, 3) := by decide +kernel
theorem dX13_readLand_4 : decode cX13_readLand 4 = .ok (.getfield 343, 3) := by decide +kernel
theorem dX13_readLand_7 : decode cX13_readLand 7 = .ok (.iconst (-1), 1) := by decide +kernel
theorem dX13_readLand_8 : decode cX13_readLand 8 = .ok (.if_icmp .eq 8, 3) := by decide +kernel
theorem dX13_readLand_11 : decode cX13_readLand 11 = .ok (.aload_n 0, 1) := by decide +kernel
theorem dX13_readLand_12 : decode cX13_readLand 12 = .ok (.iconst 3, 1) := by decide +kernel
theorem dX13_readLand_13 : decode cX13_readLand 13 = .ok (.invokevirtual 104, 3) := by decide +kernel
theorem dX13_readLand_16 : decode cX13_readLand 16 = .ok (.aload_n 0, 1) := by decide +kernel
theorem dX13_readLand_17 : decode cX13_readLand 17 = .ok (.invokevirtual 101, 3) := by decide +kernel
theorem dX13_readLand_20 : decode cX13_readLand 20 = .ok (.aload_n 0, 1) := by decide +kernel
theorem dX13_readLand_21 : decode cX13_readLand 21 = .ok (.ldc_w 346, 3) := by decide +kernel
theorem dX13_readLand_24 : decode cX13_readLand 24 = .ok (.iconst 0, 1) := by decide +kernel
theorem dX13_readLand_25 : decode cX13_readLand 25 = .ok (.sipush 999, 3) := by decide +kernel
theorem dX13_readLand_28 : decode cX13_readLand 28 = .ok (.invokevirtual 241, 3) := by decide +kernel
theorem dX13_readLand_31 : decode cX13_readLand 31 = .ok (.istore_n 1, 1) := by decide +kernel
theorem dX13_readLand_32 : decode cX13_readLand 32 = .ok (.aload_n 0, 1) := by decide +kernel
theorem dX13_readLand_33 : decode cX13_readLand 33 = .ok (.getfield 150, 3) := by decide +kernel
theorem dX13_readLand_36 : decode cX13_readLand 36 = .ok (.aload_n 0, 1) := by decide +kernel
theorem dX13_readLand_37 : decode cX13_readLand 37 = .ok (.ldc_w 347, 3) := by decide +kernel
theorem dX13_readLand_40 : decode cX13_readLand 40 = .ok (.iconst 0, 1) := by decide +kernel
theorem dX13_readLand_41 : decode cX13_readLand 41 = .ok (.bipush 50, 2) := by decide +kernel
theorem dX13_readLand_43 : decode cX13_readLand 43 = .ok (.invokevirtual 241, 3) := by decide +kernel
theorem dX13_readLand_46 : decode cX13_readLand 46 = .ok (.putfield 349, 3) := by decide +kernel
theorem dX13_readLand_49 : decode cX13_readLand 49 = .ok (.aload_n 0, 1) := by decide +kernel
theorem dX13_readLand_50 : decode cX13_readLand 50 = .ok (.getfield 150, 3) := by decide +kernel
theorem dX13_readLand_53 : decode cX13_readLand 53 = .ok (.aload_n 0, 1) := by decide +kernel
theorem dX13_readLand_54 : decode cX13_readLand 54 = .ok (.ldc_w 322, 3) := by decide +kernel
theorem dX13_readLand_57 : decode cX13_readLand 57 = .ok (.iconst 0, 1) := by decide +kernel
theorem dX13_readLand_58 : decode cX13_readLand 58 = .ok (.sipush 999, 3) := by decide +kernel
theorem dX13_readLand_61 : decode cX13_readLand 61 = .ok (.invokevirtual 241, 3) := by decide +kernel
theorem dX13_readLand_64 : decode cX13_readLand 64 = .ok (.putfield 351, 3) := by decide +kernel
theorem dX13_readLand_67 : decode cX13_readLand 67 = .ok (.aload_n 0, 1) := by decide +kernel
theorem dX13_readLand_68 : decode cX13_readLand 68 = .ok (.getfield 58, 3) := by decide +kernel
theorem dX13_readLand_71 : decode cX13_readLand 71 = .ok (.iconst 5, 1) := by decide +kernel
theorem dX13_readLand_72 : decode cX13_readLand 72 = .ok (.if_icmp .eq 11, 3) := by decide +kernel
theorem dX13_readLand_75 : decode cX13_readLand 75 = .ok (.aload_n 0, 1) := by decide +kernel
theorem dX13_readLand_76 : decode cX13_readLand 76 = .ok (.getfield 150, 3) := by decide +kernel
theorem dX13_readLand_79 : decode cX13_readLand 79 = .ok (.iload_n 1, 1) := by decide +kernel
theorem dX13_readLand_80 : decode cX13_readLand 80 = .ok (.putfield 343, 3) := by decide +kernel
theorem dX13_readLand_83 : decode cX13_readLand 83 = .ok (.return_, 1) := by decide +kernel
set_option maxRecDepth 20000 in
theorem ggX13_readFields_X13_wrong : GoodIn wsX13_readFields wsX13_wrong := goodIn_r _ [7, 2, 8, 9, 10, 103, 104, 105, 106, 107, 108, 109, 110, 111, 112, 113, 114, 115, 116, 117, 118, 119, 120, 121, 122, 123, 124, 125, 126, 127, 128, 129, 130, 131] rfl (by decide +kernel)
set_option maxRecDepth 20000 in
theorem gX13_readFields_X13_wrong : GoodIn wsX13_readFields (wsV RX13 104 RX13 yX13_wrong wsX13_wrong) := goodIn_app (goodIn_of _ (by decide +kernel)) ggX13_readFields_X13_wrong
set_option maxRecDepth 20000 in
theorem ggX13_readFields_X13_goesOn : GoodIn wsX13_readFields wsX13_goesOn := goodIn_r _ [14, 2, 15, 9, 16, 17, 18, 19, 20, 21, 22, 6, 23, 24, 25, 26, 27, 28, 29, 30, 31, 103, 104, 105, 106, 107, 108, 109, 110, 111, 112, 113, 114, 115, 116, 117, 118, 119, 120, 121, 122, 123, 124, 125, 126, 127, 128, 129, 130, 131] rfl (by decide +kernel)
set_option maxRecDepth 20000 in
theorem gX13_readFields_X13_goesOn : GoodIn wsX13_readFields (wsV RX13 101 RX13 yX13_goesOn wsX13_goesOn) := goodIn_app (goodIn_of _ (by decide +kernel)) ggX13_readFields_X13_goesOn
set_option maxRecDepth 20000 in
theorem ggX13_readFields_X13_readWhole : GoodIn wsX13_readFields wsX13_readWhole := goodIn_r _ [35, 2, 19, 3, 4, 5, 6, 7, 8, 9, 10, 36, 37, 38, 11, 12, 13, 14, 15, 16, 17, 18, 20, 21, 22, 23, 24, 25, 26, 27, 28, 29, 30, 31, 103, 104, 105, 106, 107, 108, 109, 110, 111, 112, 113, 114, 115, 116, 117, 118, 119, 120, 121, 122, 123, 124, 125, 126, 127, 128, 129, 130, 131] rfl (by decide +kernel)
set_option maxRecDepth 20000 in
theorem gX13_readFields_X13_readWhole : GoodIn wsX13_readFields (wsV RX13 116 RX13 yX13_readWhole wsX13_readWhole) := goodIn_app (goodIn_of _ (by decide +kernel)) ggX13_readFields_X13_readWhole
set_option maxRecDepth 20000 in
theorem ggX13_readFields_X13_readPart : GoodIn wsX13_readFields wsX13_readPart := goodIn_r _ [42, 43, 44, 45, 6, 46, 47, 48, 49, 50, 2, 17, 51, 52, 53, 18, 54, 55, 56, 57, 58, 59, 60, 61, 62, 63, 64, 65, 66, 67, 68, 69, 70, 71, 72, 73, 74, 75, 76, 77, 78, 79, 80, 81, 82, 83, 84, 85, 86, 87, 88, 89, 90, 91, 92, 93, 94, 95, 96, 97, 98, 99, 100, 101, 102, 3, 4, 5, 7, 8, 9, 10, 11, 12, 13, 14, 15, 16, 19, 20, 21, 22, 23, 24, 25, 26, 27, 28, 29, 30, 31, 32, 33, 34, 35, 36, 37, 38, 103, 104, 105, 106, 107, 108, 109, 110, 111, 112, 113, 114, 115, 116, 117, 118, 119, 120, 121, 122, 123, 124, 125, 126, 127, 128, 129, 130, 131] rfl (by decide +kernel)
set_option maxRecDepth 20000 in
theorem gX13_readFields_X13_readPart : GoodIn wsX13_readFields (wsV RX13 241 RX13 yX13_readPart wsX13_readPart) := goodIn_app (goodIn_of _ (by decide +kernel)) ggX13_readFields_X13_readPart
theorem dX13_readFields_0 : decode cX13_readFields 0 = .ok (.aload_n 0, 1) := by decide +kernel
theorem dX13_readFields_1 : decode cX13_readFields 1 = .ok (.getfield 150, 3) := by decide +kernel
theorem dX13_readFields_4 : decode cX13_readFields 4 = .ok (.getfield 353, 3) := by decide +kernel
theorem dX13_readFields_7 : decode cX13_readFields 7 = .ok (.iconst (-1), 1) := by decide +kernel
theorem dX13_readFields_8 : decode cX13_readFields 8 = .ok (.if_icmp .eq 8, 3) := by decide +kernel
theorem dX13_readFields_11 : decode cX13_readFields 11 = .ok (.aload_n 0, 1) := by decide +kernel
theorem dX13_readFields_12 : decode cX13_readFields 12 = .ok (.iconst 3, 1) := by decide +kernel
theorem dX13_readFields_13 : decode cX13_readFields 13 = .ok (.invokevirtual 104, 3) := by decide +kernel
theorem dX13_readFields_16 : decode cX13_readFields 16 = .ok (.aload_n 0, 1) := by decide +kernel
theorem dX13_readFields_17 : decode cX13_readFields 17 = .ok (.invokevirtual 101, 3) := by decide +kernel
theorem dX13_readFields_20 : decode cX13_readFields 20 = .ok (.aload_n 0, 1) := by decide +kernel
theorem dX13_readFields_21 : decode cX13_readFields 21 = .ok (.iconst 0, 1) := by decide +kernel
theorem dX13_readFields_22 : decode cX13_readFields 22 = .ok (.sipush 999, 3) := by decide +kernel
theorem dX13_readFields_25 : decode cX13_readFields 25 = .ok (.invokevirtual 116, 3) := by decide +kernel
theorem dX13_readFields_28 : decode cX13_readFields 28 = .ok (.istore_n 1, 1) := by decide +kernel
theorem dX13_readFields_29 : decode cX13_readFields 29 = .ok (.aload_n 0, 1) := by decide +kernel
theorem dX13_readFields_30 : decode cX13_readFields 30 = .ok (.getfield 150, 3) := by decide +kernel
theorem dX13_readFields_33 : decode cX13_readFields 33 = .ok (.aload_n 0, 1) := by decide +kernel
theorem dX13_readFields_34 : decode cX13_readFields 34 = .ok (.ldc_w 355, 3) := by decide +kernel
theorem dX13_readFields_37 : decode cX13_readFields 37 = .ok (.iconst 0, 1) := by decide +kernel
theorem dX13_readFields_38 : decode cX13_readFields 38 = .ok (.bipush 99, 2) := by decide +kernel
theorem dX13_readFields_40 : decode cX13_readFields 40 = .ok (.invokevirtual 241, 3) := by decide +kernel
theorem dX13_readFields_43 : decode cX13_readFields 43 = .ok (.putfield 357, 3) := by decide +kernel
theorem dX13_readFields_46 : decode cX13_readFields 46 = .ok (.aload_n 0, 1) := by decide +kernel
theorem dX13_readFields_47 : decode cX13_readFields 47 = .ok (.getfield 58, 3) := by decide +kernel
theorem dX13_readFields_50 : decode cX13_readFields 50 = .ok (.iconst 5, 1) := by decide +kernel
theorem dX13_readFields_51 : decode cX13_readFields 51 = .ok (.if_icmp .eq 11, 3) := by decide +kernel
theorem dX13_readFields_54 : decode cX13_readFields 54 = .ok (.aload_n 0, 1) := by decide +kernel
theorem dX13_readFields_55 : decode cX13_readFields 55 = .ok (.getfield 150, 3) := by decide +kernel
theorem dX13_readFields_58 : decode cX13_readFields 58 = .ok (.iload_n 1, 1) := by decide +kernel
theorem dX13_readFields_59 : decode cX13_readFields 59 = .ok (.putfield 353, 3) := by decide +kernel
theorem dX13_readFields_62 : decode cX13_readFields 62 = .ok (.return_, 1) := by decide +kernel
set_option maxRecDepth 20000 in
theorem ggX13_readHouses_X13_wrong : GoodIn wsX13_readHouses wsX13_wrong := goodIn_r _ [7, 2, 8, 9, 10, 103, 104, 105, 106, 107, 108, 109, 110, 111, 112, 113, 114, 115, 116, 117, 118, 119, 120, 121, 122, 123, 124, 125, 126, 127, 128, 129, 130, 131] rfl (by decide +kernel)
set_option maxRecDepth 20000 in
theorem gX13_readHouses_X13_wrong : GoodIn wsX13_readHouses (wsV RX13 104 RX13 yX13_wrong wsX13_wrong) := goodIn_app (goodIn_of _ (by decide +kernel)) ggX13_readHouses_X13_wrong
set_option maxRecDepth 20000 in
theorem ggX13_readHouses_X13_goesOn : GoodIn wsX13_readHouses wsX13_goesOn := goodIn_r _ [14, 2, 15, 9, 16, 17, 18, 19, 20, 21, 22, 6, 23, 24, 25, 26, 27, 28, 29, 30, 31, 103, 104, 105, 106, 107, 108, 109, 110, 111, 112, 113, 114, 115, 116, 117, 118, 119, 120, 121, 122, 123, 124, 125, 126, 127, 128, 129, 130, 131] rfl (by decide +kernel)
set_option maxRecDepth 20000 in
theorem gX13_readHouses_X13_goesOn : GoodIn wsX13_readHouses (wsV RX13 101 RX13 yX13_goesOn wsX13_goesOn) := goodIn_app (goodIn_of _ (by decide +kernel)) ggX13_readHouses_X13_goesOn
set_option maxRecDepth 20000 in
theorem ggX13_readHouses_X13_readWhole : GoodIn wsX13_readHouses wsX13_readWhole := goodIn_r _ [35, 2, 19, 3, 4, 5, 6, 7, 8, 9, 10, 36, 37, 38, 11, 12, 13, 14, 15, 16, 17, 18, 20, 21, 22, 23, 24, 25, 26, 27, 28, 29, 30, 31, 103, 104, 105, 106, 107, 108, 109, 110, 111, 112, 113, 114, 115, 116, 117, 118, 119, 120, 121, 122, 123, 124, 125, 126, 127, 128, 129, 130, 131] rfl (by decide +kernel)
set_option maxRecDepth 20000 in
theorem gX13_readHouses_X13_readWhole : GoodIn wsX13_readHouses (wsV RX13 116 RX13 yX13_readWhole wsX13_readWhole) := goodIn_app (goodIn_of _ (by decide +kernel)) ggX13_readHouses_X13_readWhole
set_option maxRecDepth 20000 in
theorem ggX13_readHouses_X13_readPart : GoodIn wsX13_readHouses wsX13_readPart := goodIn_r _ [42, 43, 44, 45, 6, 46, 47, 48, 49, 50, 2, 17, 51, 52, 53, 18, 54, 55, 56, 57, 58, 59, 60, 61, 62, 63, 64, 65, 66, 67, 68, 69, 70, 71, 72, 73, 74, 75, 76, 77, 78, 79, 80, 81, 82, 83, 84, 85, 86, 87, 88, 89, 90, 91, 92, 93, 94, 95, 96, 97, 98, 99, 100, 101, 102, 3, 4, 5, 7, 8, 9, 10, 11, 12, 13, 14, 15, 16, 19, 20, 21, 22, 23, 24, 25, 26, 27, 28, 29, 30, 31, 32, 33, 34, 35, 36, 37, 38, 103, 104, 105, 106, 107, 108, 109, 110, 111, 112, 113, 114, 115, 116, 117, 118, 119, 120, 121, 122, 123, 124, 125, 126, 127, 128, 129, 130, 131] rfl (by decide +kernel)
set_option maxRecDepth 20000 in
theorem gX13_readHouses_X13_readPart : GoodIn wsX13_readHouses (wsV RX13 241 RX13 yX13_readPart wsX13_readPart) := goodIn_app (goodIn_of _ (by decide +kernel)) ggX13_readHouses_X13_readPart
theorem dX13_readHouses_0 : decode cX13_readHouses 0 = .ok (.aload_n 0, 1) := by decide +kernel
theorem dX13_readHouses_1 : decode cX13_readHouses 1 = .ok (.getfield 150, 3) := by decide +kernel
theorem dX13_readHouses_4 : decode cX13_readHouses 4 = .ok (.getfield 359, 3) := by decide +kernel
theorem dX13_readHouses_7 : decode cX13_readHouses 7 = .ok (.iconst (-1), 1) := by decide +kernel
theorem dX13_readHouses_8 : decode cX13_readHouses 8 = .ok (.if_icmp .eq 8, 3) := by decide +kernel
theorem dX13_readHouses_11 : decode cX13_readHouses 11 = .ok (.aload_n 0, 1) := by decide +kernel
theorem dX13_readHouses_12 : decode cX13_readHouses 12 = .ok (.iconst 3, 1) := by decide +kernel
theorem dX13_readHouses_13 : decode cX13_readHouses 13 = .ok (.invokevirtual 104, 3) := by decide +kernel
theorem dX13_readHouses_16 : decode cX13_readHouses 16 = .ok (.aload_n 0, 1) := by decide +kernel
theorem dX13_readHouses_17 : decode cX13_readHouses 17 = .ok (.invokevirtual 101, 3) := by decide +kernel
theorem dX13_readHouses_20 : decode cX13_readHouses 20 = .ok (.aload_n 0, 1) := by decide +kernel
theorem dX13_readHouses_21 : decode cX13_readHouses 21 = .ok (.iconst 0, 1) := by decide +kernel
theorem dX13_readHouses_22 : decode cX13_readHouses 22 = .ok (.sipush 999, 3) := by decide +kernel
theorem dX13_readHouses_25 : decode cX13_readHouses 25 = .ok (.invokevirtual 116, 3) := by decide +kernel
theorem dX13_readHouses_28 : decode cX13_readHouses 28 = .ok (.istore_n 1, 1) := by decide +kernel
theorem dX13_readHouses_29 : decode cX13_readHouses 29 = .ok (.aload_n 0, 1) := by decide +kernel
theorem dX13_readHouses_30 : decode cX13_readHouses 30 = .ok (.getfield 150, 3) := by decide +kernel
theorem dX13_readHouses_33 : decode cX13_readHouses 33 = .ok (.aload_n 0, 1) := by decide +kernel
theorem dX13_readHouses_34 : decode cX13_readHouses 34 = .ok (.ldc_w 361, 3) := by decide +kernel
theorem dX13_readHouses_37 : decode cX13_readHouses 37 = .ok (.iconst 0, 1) := by decide +kernel
theorem dX13_readHouses_38 : decode cX13_readHouses 38 = .ok (.bipush 20, 2) := by decide +kernel
theorem dX13_readHouses_40 : decode cX13_readHouses 40 = .ok (.invokevirtual 241, 3) := by decide +kernel
theorem dX13_readHouses_43 : decode cX13_readHouses 43 = .ok (.putfield 363, 3) := by decide +kernel
theorem dX13_readHouses_46 : decode cX13_readHouses 46 = .ok (.aload_n 0, 1) := by decide +kernel
theorem dX13_readHouses_47 : decode cX13_readHouses 47 = .ok (.getfield 150, 3) := by decide +kernel
theorem dX13_readHouses_50 : decode cX13_readHouses 50 = .ok (.aload_n 0, 1) := by decide +kernel
theorem dX13_readHouses_51 : decode cX13_readHouses 51 = .ok (.ldc_w 366, 3) := by decide +kernel
theorem dX13_readHouses_54 : decode cX13_readHouses 54 = .ok (.aload_n 0, 1) := by decide +kernel
theorem dX13_readHouses_55 : decode cX13_readHouses 55 = .ok (.getfield 150, 3) := by decide +kernel
theorem dX13_readHouses_58 : decode cX13_readHouses 58 = .ok (.getfield 363, 3) := by decide +kernel
theorem dX13_readHouses_61 : decode cX13_readHouses 61 = .ok (.bipush 40, 2) := by decide +kernel
theorem dX13_readHouses_63 : decode cX13_readHouses 63 = .ok (.invokevirtual 241, 3) := by decide +kernel
theorem dX13_readHouses_66 : decode cX13_readHouses 66 = .ok (.putfield 368, 3) := by decide +kernel
theorem dX13_readHouses_69 : decode cX13_readHouses 69 = .ok (.aload_n 0, 1) := by decide +kernel
theorem dX13_readHouses_70 : decode cX13_readHouses 70 = .ok (.getfield 58, 3) := by decide +kernel
theorem dX13_readHouses_73 : decode cX13_readHouses 73 = .ok (.iconst 5, 1) := by decide +kernel
theorem dX13_readHouses_74 : decode cX13_readHouses 74 = .ok (.if_icmp .eq 11, 3) := by decide +kernel
theorem dX13_readHouses_77 : decode cX13_readHouses 77 = .ok (.aload_n 0, 1) := by decide +kernel
theorem dX13_readHouses_78 : decode cX13_readHouses 78 = .ok (.getfield 150, 3) := by decide +kernel
theorem dX13_readHouses_81 : decode cX13_readHouses 81 = .ok (.iload_n 1, 1) := by decide +kernel
theorem dX13_readHouses_82 : decode cX13_readHouses 82 = .ok (.putfield 359, 3) := by decide +kernel
theorem dX13_readHouses_85 : decode cX13_readHouses 85 = .ok (.return_, 1) := by decide +kernel
set_option maxRecDepth 20000 in
theorem ggX13_readStory_X13_begins : GoodIn wsX13_readStory wsX13_begins := goodIn_r _ [7, 8, 9, 10, 6, 11, 2, 12, 13, 14, 15, 16, 17, 18, 19, 20, 21, 22, 23, 24, 25, 26, 27, 28, 29, 30, 31, 32, 33, 34, 35, 122, 123, 124, 125, 126, 127, 128, 129, 130, 131, 132, 133, 134, 135, 136, 137, 138, 139, 140, 141, 142, 143, 144, 145, 146, 147, 148, 149, 150] rfl (by decide +kernel)
set_option maxRecDepth 20000 in
theorem gX13_readStory_X13_begins : GoodIn wsX13_readStory (wsV RX13 224 RX13 yX13_begins wsX13_begins) := goodIn_app (goodIn_of _ (by decide +kernel)) ggX13_readStory_X13_begins
set_option maxRecDepth 20000 in
theorem ggX13_readStory_X13_readFresh : GoodIn wsX13_readStory wsX13_readFresh := goodIn_r _ [39, 1, 21, 2, 40, 41, 42, 6, 43, 44, 45, 46, 47, 48, 49, 50, 22, 51, 52, 53, 54, 55, 56, 57, 58, 59, 60, 61, 62, 63, 64, 65, 66, 67, 68, 69, 70, 71, 72, 73, 74, 75, 76, 77, 78, 79, 80, 81, 82, 83, 84, 85, 86, 87, 88, 89, 90, 91, 92, 93, 94, 95, 96, 97, 98, 99, 8, 9, 10, 11, 12, 13, 14, 100, 101, 102, 103, 104, 105, 106, 15, 16, 17, 18, 19, 20, 23, 24, 25, 26, 27, 28, 29, 30, 31, 32, 33, 34, 35, 122, 123, 124, 125, 126, 127, 128, 129, 130, 131, 132, 133, 134, 135, 136, 137, 138, 139, 140, 141, 142, 143, 144, 145, 146, 147, 148, 149, 150, 151, 152, 153, 154, 155, 156, 157, 158, 159, 160, 161, 162, 163, 164, 165, 166, 167, 168, 169, 170, 171, 172, 173, 174, 175, 176, 177, 178, 179, 180, 181, 182, 183, 184, 185, 186, 187, 188, 189, 190, 191, 192, 193, 194, 195, 196, 197, 198] rfl (by decide +kernel)
set_option maxRecDepth 20000 in
theorem gX13_readStory_X13_readFresh : GoodIn wsX13_readStory (wsV RX13 228 RX13 yX13_readFresh wsX13_readFresh) := goodIn_app (goodIn_of _ (by decide +kernel)) ggX13_readStory_X13_readFresh
set_option maxRecDepth 20000 in
theorem ggX13_readStory_X13_readPart : GoodIn wsX13_readStory wsX13_readPart := goodIn_r _ [110, 111, 112, 113, 6, 114, 44, 45, 46, 47, 2, 21, 48, 49, 50, 22, 51, 52, 53, 54, 55, 56, 57, 58, 59, 60, 61, 62, 63, 64, 65, 66, 67, 68, 69, 70, 71, 72, 73, 74, 75, 76, 77, 78, 79, 80, 81, 82, 83, 84, 85, 86, 87, 88, 89, 90, 91, 92, 93, 94, 95, 96, 97, 98, 99, 8, 9, 10, 11, 12, 13, 14, 15, 16, 17, 18, 19, 20, 23, 24, 25, 26, 27, 28, 29, 30, 31, 32, 33, 34, 35, 115, 116, 117, 118, 119, 120, 121, 122, 123, 124, 125, 126, 127, 128, 129, 130, 131, 132, 133, 134, 135, 136, 137, 138, 139, 140, 141, 142, 143, 144, 145, 146, 147, 148, 149, 150] rfl (by decide +kernel)
set_option maxRecDepth 20000 in
theorem gX13_readStory_X13_readPart : GoodIn wsX13_readStory (wsV RX13 241 RX13 yX13_readPart wsX13_readPart) := goodIn_app (goodIn_of _ (by decide +kernel)) ggX13_readStory_X13_readPart
set_option maxRecDepth 20000 in
theorem ggX13_readStory_X13_isWord : GoodIn wsX13_readStory wsX13_isWord := goodIn_r _ [47, 2, 21, 48, 49, 6, 50, 22, 51, 52, 53, 54, 55, 56, 57, 58, 59, 60, 61, 62, 63, 64, 65, 66, 67, 68, 69, 70, 71, 72, 73, 74, 75, 76, 77, 78, 79, 80, 81, 82, 83, 84, 85, 86, 87, 88, 89, 90, 91, 92, 93, 94, 95, 96, 97, 98, 99, 122, 123, 124, 125, 126, 127, 128, 129, 130, 131, 132, 133, 134, 135, 136, 137, 138, 139, 140, 141, 142, 143, 144, 145, 146, 147, 148, 149, 150] rfl (by decide +kernel)
set_option maxRecDepth 20000 in
theorem gX13_readStory_X13_isWord : GoodIn wsX13_readStory (wsV RX13 97 RX13 yX13_isWord wsX13_isWord) := goodIn_app (goodIn_of _ (by decide +kernel)) ggX13_readStory_X13_isWord
set_option maxRecDepth 20000 in
theorem ggX13_readStory_X13_wrong : GoodIn wsX13_readStory wsX13_wrong := goodIn_r _ [11, 2, 12, 13, 14, 122, 123, 124, 125, 126, 127, 128, 129, 130, 131, 132, 133, 134, 135, 136, 137, 138, 139, 140, 141, 142, 143, 144, 145, 146, 147, 148, 149, 150] rfl (by decide +kernel)
set_option maxRecDepth 20000 in
theorem gX13_readStory_X13_wrong : GoodIn wsX13_readStory (wsV RX13 104 RX13 yX13_wrong wsX13_wrong) := goodIn_app (goodIn_of _ (by decide +kernel)) ggX13_readStory_X13_wrong
set_option maxRecDepth 20000 in
theorem ggX13_readStory_X13_goesOn : GoodIn wsX13_readStory wsX13_goesOn := goodIn_r _ [18, 2, 19, 13, 20, 21, 22, 23, 24, 25, 26, 6, 27, 28, 29, 30, 31, 32, 33, 34, 35, 122, 123, 124, 125, 126, 127, 128, 129, 130, 131, 132, 133, 134, 135, 136, 137, 138, 139, 140, 141, 142, 143, 144, 145, 146, 147, 148, 149, 150] rfl (by decide +kernel)
set_option maxRecDepth 20000 in
theorem gX13_readStory_X13_goesOn : GoodIn wsX13_readStory (wsV RX13 101 RX13 yX13_goesOn wsX13_goesOn) := goodIn_app (goodIn_of _ (by decide +kernel)) ggX13_readStory_X13_goesOn
set_option maxRecDepth 20000 in
theorem ggX13_readStory_X13_readWhole : GoodIn wsX13_readStory wsX13_readWhole := goodIn_r _ [118, 2, 23, 8, 9, 10, 6, 11, 12, 13, 14, 119, 120, 121, 15, 16, 17, 18, 19, 20, 21, 22, 24, 25, 26, 27, 28, 29, 30, 31, 32, 33, 34, 35, 122, 123, 124, 125, 126, 127, 128, 129, 130, 131, 132, 133, 134, 135, 136, 137, 138, 139, 140, 141, 142, 143, 144, 145, 146, 147, 148, 149, 150] rfl (by decide +kernel)
set_option maxRecDepth 20000 in
theorem gX13_readStory_X13_readWhole : GoodIn wsX13_readStory (wsV RX13 116 RX13 yX13_readWhole wsX13_readWhole) := goodIn_app (goodIn_of _ (by decide +kernel)) ggX13_readStory_X13_readWhole
theorem dX13_readStory_0 : decode cX13_readStory 0 = .ok (.aload_n 0, 1) := by decide +kernel
theorem dX13_readStory_1 : decode cX13_readStory 1 = .ok (.aload_n 0, 1) := by decide +kernel
theorem dX13_readStory_2 : decode cX13_readStory 2 = .ok (.getfield 150, 3) := by decide +kernel
theorem dX13_readStory_5 : decode cX13_readStory 5 = .ok (.getfield 371, 3) := by decide +kernel
theorem dX13_readStory_8 : decode cX13_readStory 8 = .ok (.iconst 5, 1) := by decide +kernel
theorem dX13_readStory_9 : decode cX13_readStory 9 = .ok (.invokevirtual 224, 3) := by decide +kernel
theorem dX13_readStory_12 : decode cX13_readStory 12 = .ok (.aload_n 0, 1) := by decide +kernel
theorem dX13_readStory_13 : decode cX13_readStory 13 = .ok (.iconst 2, 1) := by decide +kernel
theorem dX13_readStory_14 : decode cX13_readStory 14 = .ok (.aload_n 0, 1) := by decide +kernel
theorem dX13_readStory_15 : decode cX13_readStory 15 = .ok (.getfield 150, 3) := by decide +kernel
theorem dX13_readStory_18 : decode cX13_readStory 18 = .ok (.getfield 371, 3) := by decide +kernel
theorem dX13_readStory_21 : decode cX13_readStory 21 = .ok (.invokevirtual 228, 3) := by decide +kernel
theorem dX13_readStory_24 : decode cX13_readStory 24 = .ok (.aload_n 0, 1) := by decide +kernel
theorem dX13_readStory_25 : decode cX13_readStory 25 = .ok (.ldc 239, 2) := by decide +kernel
theorem dX13_readStory_27 : decode cX13_readStory 27 = .ok (.iconst 1, 1) := by decide +kernel
theorem dX13_readStory_28 : decode cX13_readStory 28 = .ok (.bipush 99, 2) := by decide +kernel
theorem dX13_readStory_30 : decode cX13_readStory 30 = .ok (.invokevirtual 241, 3) := by decide +kernel
theorem dX13_readStory_33 : decode cX13_readStory 33 = .ok (.istore_n 1, 1) := by decide +kernel
theorem dX13_readStory_34 : decode cX13_readStory 34 = .ok (.aload_n 0, 1) := by decide +kernel
theorem dX13_readStory_35 : decode cX13_readStory 35 = .ok (.ldc_w 374, 3) := by decide +kernel
theorem dX13_readStory_38 : decode cX13_readStory 38 = .ok (.invokevirtual 97, 3) := by decide +kernel
theorem dX13_readStory_41 : decode cX13_readStory 41 = .ok (.ifCond .eq 7, 3) := by decide +kernel
theorem dX13_readStory_44 : decode cX13_readStory 44 = .ok (.iconst 0, 1) := by decide +kernel
theorem dX13_readStory_45 : decode cX13_readStory 45 = .ok (.goto 32, 3) := by decide +kernel
theorem dX13_readStory_48 : decode cX13_readStory 48 = .ok (.aload_n 0, 1) := by decide +kernel
theorem dX13_readStory_49 : decode cX13_readStory 49 = .ok (.ldc_w 376, 3) := by decide +kernel
theorem dX13_readStory_52 : decode cX13_readStory 52 = .ok (.invokevirtual 97, 3) := by decide +kernel
theorem dX13_readStory_55 : decode cX13_readStory 55 = .ok (.ifCond .eq 7, 3) := by decide +kernel
theorem dX13_readStory_58 : decode cX13_readStory 58 = .ok (.iconst 1, 1) := by decide +kernel
theorem dX13_readStory_59 : decode cX13_readStory 59 = .ok (.goto 18, 3) := by decide +kernel
theorem dX13_readStory_62 : decode cX13_readStory 62 = .ok (.aload_n 0, 1) := by decide +kernel
theorem dX13_readStory_63 : decode cX13_readStory 63 = .ok (.ldc_w 378, 3) := by decide +kernel
theorem dX13_readStory_66 : decode cX13_readStory 66 = .ok (.invokevirtual 97, 3) := by decide +kernel
theorem dX13_readStory_69 : decode cX13_readStory 69 = .ok (.ifCond .eq 7, 3) := by decide +kernel
theorem dX13_readStory_72 : decode cX13_readStory 72 = .ok (.iconst 2, 1) := by decide +kernel
theorem dX13_readStory_73 : decode cX13_readStory 73 = .ok (.goto 4, 3) := by decide +kernel
theorem dX13_readStory_76 : decode cX13_readStory 76 = .ok (.iconst (-1), 1) := by decide +kernel
theorem dX13_readStory_77 : decode cX13_readStory 77 = .ok (.istore_n 2, 1) := by decide +kernel
theorem dX13_readStory_78 : decode cX13_readStory 78 = .ok (.iload_n 2, 1) := by decide +kernel
theorem dX13_readStory_79 : decode cX13_readStory 79 = .ok (.iconst (-1), 1) := by decide +kernel
theorem dX13_readStory_80 : decode cX13_readStory 80 = .ok (.if_icmp .ne 8, 3) := by decide +kernel
theorem dX13_readStory_83 : decode cX13_readStory 83 = .ok (.aload_n 0, 1) := by decide +kernel
theorem dX13_readStory_84 : decode cX13_readStory 84 = .ok (.iconst 1, 1) := by decide +kernel
theorem dX13_readStory_85 : decode cX13_readStory 85 = .ok (.invokevirtual 104, 3) := by decide +kernel
theorem dX13_readStory_88 : decode cX13_readStory 88 = .ok (.aload_n 0, 1) := by decide +kernel
theorem dX13_readStory_89 : decode cX13_readStory 89 = .ok (.invokevirtual 101, 3) := by decide +kernel
theorem dX13_readStory_92 : decode cX13_readStory 92 = .ok (.aload_n 0, 1) := by decide +kernel
theorem dX13_readStory_93 : decode cX13_readStory 93 = .ok (.iconst 0, 1) := by decide +kernel
theorem dX13_readStory_94 : decode cX13_readStory 94 = .ok (.iload_n 2, 1) := by decide +kernel
theorem dX13_readStory_95 : decode cX13_readStory 95 = .ok (.ifCond .ne 8, 3) := by decide +kernel
theorem dX13_readStory_98 : decode cX13_readStory 98 = .ok (.bipush 99, 2) := by decide +kernel
theorem dX13_readStory_100 : decode cX13_readStory 100 = .ok (.goto 5, 3) := by decide +kernel
theorem dX13_readStory_103 : decode cX13_readStory 103 = .ok (.bipush 100, 2) := by decide +kernel
theorem dX13_readStory_105 : decode cX13_readStory 105 = .ok (.invokevirtual 116, 3) := by decide +kernel
theorem dX13_readStory_108 : decode cX13_readStory 108 = .ok (.istore_n 3, 1) := by decide +kernel
theorem dX13_readStory_109 : decode cX13_readStory 109 = .ok (.iload_n 2, 1) := by decide +kernel
theorem dX13_readStory_110 : decode cX13_readStory 110 = .ok (.iconst 2, 1) := by decide +kernel
theorem dX13_readStory_111 : decode cX13_readStory 111 = .ok (.if_icmp .ne 16, 3) := by decide +kernel
theorem dX13_readStory_114 : decode cX13_readStory 114 = .ok (.aload_n 0, 1) := by decide +kernel
theorem dX13_readStory_115 : decode cX13_readStory 115 = .ok (.ldc_w 380, 3) := by decide +kernel
theorem dX13_readStory_118 : decode cX13_readStory 118 = .ok (.iconst 1, 1) := by decide +kernel
theorem dX13_readStory_119 : decode cX13_readStory 119 = .ok (.bipush 50, 2) := by decide +kernel
theorem dX13_readStory_121 : decode cX13_readStory 121 = .ok (.invokevirtual 241, 3) := by decide +kernel
theorem dX13_readStory_124 : decode cX13_readStory 124 = .ok (.goto 4, 3) := by decide +kernel
theorem dX13_readStory_127 : decode cX13_readStory 127 = .ok (.iconst 1, 1) := by decide +kernel
theorem dX13_readStory_128 : decode cX13_readStory 128 = .ok (.istore 4, 2) := by decide +kernel
theorem dX13_readStory_130 : decode cX13_readStory 130 = .ok (.aload_n 0, 1) := by decide +kernel
theorem dX13_readStory_131 : decode cX13_readStory 131 = .ok (.getfield 58, 3) := by decide +kernel
theorem dX13_readStory_134 : decode cX13_readStory 134 = .ok (.iconst 5, 1) := by decide +kernel
theorem dX13_readStory_135 : decode cX13_readStory 135 = .ok (.if_icmp .ne 4, 3) := by decide +kernel
theorem dX13_readStory_138 : decode cX13_readStory 138 = .ok (.return_, 1) := by decide +kernel
theorem dX13_readStory_139 : decode cX13_readStory 139 = .ok (.aload_n 0, 1) := by decide +kernel
theorem dX13_readStory_140 : decode cX13_readStory 140 = .ok (.getfield 150, 3) := by decide +kernel
theorem dX13_readStory_143 : decode cX13_readStory 143 = .ok (.getfield 382, 3) := by decide +kernel
theorem dX13_readStory_146 : decode cX13_readStory 146 = .ok (.aload_n 0, 1) := by decide +kernel
theorem dX13_readStory_147 : decode cX13_readStory 147 = .ok (.getfield 150, 3) := by decide +kernel
theorem dX13_readStory_150 : decode cX13_readStory 150 = .ok (.getfield 371, 3) := by decide +kernel
theorem dX13_readStory_153 : decode cX13_readStory 153 = .ok (.iload_n 1, 1) := by decide +kernel
theorem dX13_readStory_154 : decode cX13_readStory 154 = .ok (.iastore, 1) := by decide +kernel
theorem dX13_readStory_155 : decode cX13_readStory 155 = .ok (.aload_n 0, 1) := by decide +kernel
theorem dX13_readStory_156 : decode cX13_readStory 156 = .ok (.getfield 150, 3) := by decide +kernel
theorem dX13_readStory_159 : decode cX13_readStory 159 = .ok (.getfield 385, 3) := by decide +kernel
theorem dX13_readStory_162 : decode cX13_readStory 162 = .ok (.aload_n 0, 1) := by decide +kernel
theorem dX13_readStory_163 : decode cX13_readStory 163 = .ok (.getfield 150, 3) := by decide +kernel
theorem dX13_readStory_166 : decode cX13_readStory 166 = .ok (.getfield 371, 3) := by decide +kernel
theorem dX13_readStory_169 : decode cX13_readStory 169 = .ok (.iload_n 2, 1) := by decide +kernel
theorem dX13_readStory_170 : decode cX13_readStory 170 = .ok (.iastore, 1) := by decide +kernel
theorem dX13_readStory_171 : decode cX13_readStory 171 = .ok (.aload_n 0, 1) := by decide +kernel
theorem dX13_readStory_172 : decode cX13_readStory 172 = .ok (.getfield 150, 3) := by decide +kernel
theorem dX13_readStory_175 : decode cX13_readStory 175 = .ok (.getfield 388, 3) := by decide +kernel
theorem dX13_readStory_178 : decode cX13_readStory 178 = .ok (.aload_n 0, 1) := by decide +kernel
theorem dX13_readStory_179 : decode cX13_readStory 179 = .ok (.getfield 150, 3) := by decide +kernel
theorem dX13_readStory_182 : decode cX13_readStory 182 = .ok (.getfield 371, 3) := by decide +kernel
theorem dX13_readStory_185 : decode cX13_readStory 185 = .ok (.iload_n 3, 1) := by decide +kernel
theorem dX13_readStory_186 : decode cX13_readStory 186 = .ok (.iastore, 1) := by decide +kernel
theorem dX13_readStory_187 : decode cX13_readStory 187 = .ok (.aload_n 0, 1) := by decide +kernel
theorem dX13_readStory_188 : decode cX13_readStory 188 = .ok (.getfield 150, 3) := by decide +kernel
theorem dX13_readStory_191 : decode cX13_readStory 191 = .ok (.getfield 391, 3) := by decide +kernel
theorem dX13_readStory_194 : decode cX13_readStory 194 = .ok (.aload_n 0, 1) := by decide +kernel
theorem dX13_readStory_195 : decode cX13_readStory 195 = .ok (.getfield 150, 3) := by decide +kernel
theorem dX13_readStory_198 : decode cX13_readStory 198 = .ok (.getfield 371, 3) := by decide +kernel
theorem dX13_readStory_201 : decode cX13_readStory 201 = .ok (.iload 4, 2) := by decide +kernel
theorem dX13_readStory_203 : decode cX13_readStory 203 = .ok (.iastore, 1) := by decide +kernel
theorem dX13_readStory_204 : decode cX13_readStory 204 = .ok (.aload_n 0, 1) := by decide +kernel
theorem dX13_readStory_205 : decode cX13_readStory 205 = .ok (.getfield 150, 3) := by decide +kernel
theorem dX13_readStory_208 : decode cX13_readStory 208 = .ok (.dup, 1) := by decide +kernel
theorem dX13_readStory_209 : decode cX13_readStory 209 = .ok (.getfield 371, 3) := by decide +kernel
theorem dX13_readStory_212 : decode cX13_readStory 212 = .ok (.iconst 1, 1) := by decide +kernel
theorem dX13_readStory_213 : decode cX13_readStory 213 = .ok (.iadd, 1) := by decide +kernel
theorem dX13_readStory_214 : decode cX13_readStory 214 = .ok (.putfield 371, 3) := by decide +kernel
theorem dX13_readStory_217 : decode cX13_readStory 217 = .ok (.return_, 1) := by decide +kernel
set_option maxRecDepth 20000 in
theorem ggX13_readTeller_X13_begins : GoodIn wsX13_readTeller wsX13_begins := goodIn_r _ [7, 8, 9, 10, 6, 11, 2, 12, 13, 14, 15, 16, 17, 18, 19, 20, 21, 22, 23, 24, 25, 26, 27, 28, 29, 30, 31, 32, 33, 34, 35, 134, 135, 136, 137, 138, 139, 140, 141, 142, 143, 144, 145, 146, 147, 148, 149, 150, 151, 152, 153, 154, 155, 156, 157, 158, 159, 160, 161, 162] rfl (by decide +kernel)
set_option maxRecDepth 20000 in
theorem gX13_readTeller_X13_begins : GoodIn wsX13_readTeller (wsV RX13 224 RX13 yX13_begins wsX13_begins) := goodIn_app (goodIn_of _ (by decide +kernel)) ggX13_readTeller_X13_begins
set_option maxRecDepth 20000 in
theorem ggX13_readTeller_X13_readFresh : GoodIn wsX13_readTeller wsX13_readFresh := goodIn_r _ [39, 1, 21, 2, 40, 41, 42, 6, 43, 44, 45, 46, 47, 48, 49, 50, 22, 51, 52, 53, 54, 55, 56, 57, 58, 59, 60, 61, 62, 63, 64, 65, 66, 67, 68, 69, 70, 71, 72, 73, 74, 75, 76, 77, 78, 79, 80, 81, 82, 83, 84, 85, 86, 87, 88, 89, 90, 91, 92, 93, 94, 95, 96, 97, 98, 99, 8, 9, 10, 11, 12, 13, 14, 100, 101, 102, 103, 104, 105, 106, 15, 16, 17, 18, 19, 20, 23, 24, 25, 26, 27, 28, 29, 30, 31, 32, 33, 34, 35, 134, 135, 136, 137, 138, 139, 140, 141, 142, 143, 144, 145, 146, 147, 148, 149, 150, 151, 152, 153, 154, 155, 156, 157, 158, 159, 160, 161, 162, 163, 164, 165, 166, 167, 168, 169, 170, 171, 172, 173, 174, 175, 176, 177, 178, 179, 180, 181, 182, 183, 184, 185, 186, 187, 188, 189, 190, 191, 192, 193, 194, 195, 196, 197, 198, 199, 200, 201, 202, 203, 204, 205, 206, 207, 208, 209, 210] rfl (by decide +kernel)
set_option maxRecDepth 20000 in
theorem gX13_readTeller_X13_readFresh : GoodIn wsX13_readTeller (wsV RX13 228 RX13 yX13_readFresh wsX13_readFresh) := goodIn_app (goodIn_of _ (by decide +kernel)) ggX13_readTeller_X13_readFresh
set_option maxRecDepth 20000 in
theorem ggX13_readTeller_X13_readPart : GoodIn wsX13_readTeller wsX13_readPart := goodIn_r _ [110, 111, 112, 113, 6, 114, 44, 45, 46, 47, 2, 21, 48, 49, 50, 22, 51, 52, 53, 54, 55, 56, 57, 58, 59, 60, 61, 62, 63, 64, 65, 66, 67, 68, 69, 70, 71, 72, 73, 74, 75, 76, 77, 78, 79, 80, 81, 82, 83, 84, 85, 86, 87, 88, 89, 90, 91, 92, 93, 94, 95, 96, 97, 98, 99, 8, 9, 10, 11, 12, 13, 14, 15, 16, 17, 18, 19, 20, 23, 24, 25, 26, 27, 28, 29, 30, 31, 32, 33, 34, 35, 115, 116, 117, 118, 119, 120, 121, 134, 135, 136, 137, 138, 139, 140, 141, 142, 143, 144, 145, 146, 147, 148, 149, 150, 151, 152, 153, 154, 155, 156, 157, 158, 159, 160, 161, 162] rfl (by decide +kernel)
set_option maxRecDepth 20000 in
theorem gX13_readTeller_X13_readPart : GoodIn wsX13_readTeller (wsV RX13 241 RX13 yX13_readPart wsX13_readPart) := goodIn_app (goodIn_of _ (by decide +kernel)) ggX13_readTeller_X13_readPart
set_option maxRecDepth 20000 in
theorem ggX13_readTeller_X13_needs : GoodIn wsX13_readTeller wsX13_needs := goodIn_r _ [114, 44, 45, 46, 6, 47, 2, 21, 48, 49, 50, 22, 51, 52, 53, 54, 55, 56, 57, 58, 59, 60, 61, 62, 63, 64, 65, 66, 67, 68, 69, 70, 71, 72, 73, 74, 75, 76, 77, 78, 79, 80, 81, 82, 83, 84, 85, 86, 87, 88, 89, 90, 91, 92, 93, 94, 95, 96, 97, 98, 99, 8, 9, 10, 11, 12, 13, 14, 15, 16, 17, 18, 19, 20, 23, 24, 25, 26, 27, 28, 29, 30, 31, 32, 33, 34, 35, 134, 135, 136, 137, 138, 139, 140, 141, 142, 143, 144, 145, 146, 147, 148, 149, 150, 151, 152, 153, 154, 155, 156, 157, 158, 159, 160, 161, 162] rfl (by decide +kernel)
set_option maxRecDepth 20000 in
theorem gX13_readTeller_X13_needs : GoodIn wsX13_readTeller (wsV RX13 112 RX13 yX13_needs wsX13_needs) := goodIn_app (goodIn_of _ (by decide +kernel)) ggX13_readTeller_X13_needs
set_option maxRecDepth 20000 in
theorem ggX13_readTeller_X13_known : GoodIn wsX13_readTeller wsX13_known := goodIn_r _ [125, 1, 21, 2, 40, 41, 42, 6, 43, 44, 45, 46, 47, 48, 49, 50, 22, 51, 52, 53, 54, 55, 56, 57, 58, 59, 60, 61, 62, 63, 64, 65, 66, 67, 68, 69, 70, 71, 72, 73, 74, 75, 76, 77, 78, 79, 80, 81, 82, 83, 84, 85, 86, 87, 88, 89, 90, 91, 92, 93, 94, 95, 96, 97, 98, 99, 8, 9, 10, 11, 12, 13, 14, 100, 101, 102, 103, 104, 105, 106, 134, 135, 136, 137, 138, 139, 140, 141, 142, 143, 144, 145, 146, 147, 148, 149, 150, 151, 152, 153, 154, 155, 156, 157, 158, 159, 160, 161, 162, 163, 164, 165, 166, 167, 168, 169, 170, 171, 172, 173, 174, 175, 176, 177, 178, 179, 180, 181, 182, 183, 184, 185, 186, 187, 188, 189, 190, 191, 192, 193, 194, 195, 196, 197, 198, 199, 200, 201, 202, 203, 204, 205, 206, 207, 208, 209, 210] rfl (by decide +kernel)
set_option maxRecDepth 20000 in
theorem gX13_readTeller_X13_known : GoodIn wsX13_readTeller (wsV RX13 173 RX13 yX13_known wsX13_known) := goodIn_app (goodIn_of _ (by decide +kernel)) ggX13_readTeller_X13_known
set_option maxRecDepth 20000 in
theorem ggX13_readTeller_X13_wrong : GoodIn wsX13_readTeller wsX13_wrong := goodIn_r _ [11, 2, 12, 13, 14, 134, 135, 136, 137, 138, 139, 140, 141, 142, 143, 144, 145, 146, 147, 148, 149, 150, 151, 152, 153, 154, 155, 156, 157, 158, 159, 160, 161, 162] rfl (by decide +kernel)
set_option maxRecDepth 20000 in
theorem gX13_readTeller_X13_wrong : GoodIn wsX13_readTeller (wsV RX13 104 RX13 yX13_wrong wsX13_wrong) := goodIn_app (goodIn_of _ (by decide +kernel)) ggX13_readTeller_X13_wrong
set_option maxRecDepth 20000 in
theorem ggX13_readTeller_X13_goesOn : GoodIn wsX13_readTeller wsX13_goesOn := goodIn_r _ [18, 2, 19, 13, 20, 21, 22, 23, 24, 25, 26, 6, 27, 28, 29, 30, 31, 32, 33, 34, 35, 134, 135, 136, 137, 138, 139, 140, 141, 142, 143, 144, 145, 146, 147, 148, 149, 150, 151, 152, 153, 154, 155, 156, 157, 158, 159, 160, 161, 162] rfl (by decide +kernel)
set_option maxRecDepth 20000 in
theorem gX13_readTeller_X13_goesOn : GoodIn wsX13_readTeller (wsV RX13 101 RX13 yX13_goesOn wsX13_goesOn) := goodIn_app (goodIn_of _ (by decide +kernel)) ggX13_readTeller_X13_goesOn
set_option maxRecDepth 20000 in
theorem ggX13_readTeller_X13_eatsSign : GoodIn wsX13_readTeller wsX13_eatsSign := goodIn_r _ [129, 2, 20, 15, 16, 17, 6, 18, 19, 13, 21, 22, 23, 24, 25, 26, 27, 28, 29, 30, 31, 32, 33, 34, 35, 134, 135, 136, 137, 138, 139, 140, 141, 142, 143, 144, 145, 146, 147, 148, 149, 150, 151, 152, 153, 154, 155, 156, 157, 158, 159, 160, 161, 162] rfl (by decide +kernel)
set_option maxRecDepth 20000 in
theorem gX13_readTeller_X13_eatsSign : GoodIn wsX13_readTeller (wsV RX13 182 RX13 yX13_eatsSign wsX13_eatsSign) := goodIn_app (goodIn_of _ (by decide +kernel)) ggX13_readTeller_X13_eatsSign
set_option maxRecDepth 20000 in
theorem ggX13_readTeller_X13_eatsWord : GoodIn wsX13_readTeller wsX13_eatsWord := goodIn_r _ [133, 44, 45, 46, 6, 47, 2, 21, 48, 49, 50, 22, 51, 52, 53, 54, 55, 56, 57, 58, 59, 60, 61, 62, 63, 64, 65, 66, 67, 68, 69, 70, 71, 72, 73, 74, 75, 76, 77, 78, 79, 80, 81, 82, 83, 84, 85, 86, 87, 88, 89, 90, 91, 92, 93, 94, 95, 96, 97, 98, 99, 15, 16, 17, 18, 19, 13, 20, 23, 24, 25, 26, 27, 28, 29, 30, 31, 32, 33, 34, 35, 134, 135, 136, 137, 138, 139, 140, 141, 142, 143, 144, 145, 146, 147, 148, 149, 150, 151, 152, 153, 154, 155, 156, 157, 158, 159, 160, 161, 162] rfl (by decide +kernel)
set_option maxRecDepth 20000 in
theorem gX13_readTeller_X13_eatsWord : GoodIn wsX13_readTeller (wsV RX13 400 RX13 yX13_eatsWord wsX13_eatsWord) := goodIn_app (goodIn_of _ (by decide +kernel)) ggX13_readTeller_X13_eatsWord
theorem dX13_readTeller_0 : decode cX13_readTeller 0 = .ok (.aload_n 0, 1) := by decide +kernel
theorem dX13_readTeller_1 : decode cX13_readTeller 1 = .ok (.aload_n 0, 1) := by decide +kernel
theorem dX13_readTeller_2 : decode cX13_readTeller 2 = .ok (.getfield 150, 3) := by decide +kernel
theorem dX13_readTeller_5 : decode cX13_readTeller 5 = .ok (.getfield 393, 3) := by decide +kernel
theorem dX13_readTeller_8 : decode cX13_readTeller 8 = .ok (.iconst 3, 1) := by decide +kernel
theorem dX13_readTeller_9 : decode cX13_readTeller 9 = .ok (.invokevirtual 224, 3) := by decide +kernel
theorem dX13_readTeller_12 : decode cX13_readTeller 12 = .ok (.aload_n 0, 1) := by decide +kernel
theorem dX13_readTeller_13 : decode cX13_readTeller 13 = .ok (.iconst 2, 1) := by decide +kernel
theorem dX13_readTeller_14 : decode cX13_readTeller 14 = .ok (.aload_n 0, 1) := by decide +kernel
theorem dX13_readTeller_15 : decode cX13_readTeller 15 = .ok (.getfield 150, 3) := by decide +kernel
theorem dX13_readTeller_18 : decode cX13_readTeller 18 = .ok (.getfield 393, 3) := by decide +kernel
theorem dX13_readTeller_21 : decode cX13_readTeller 21 = .ok (.invokevirtual 228, 3) := by decide +kernel
theorem dX13_readTeller_24 : decode cX13_readTeller 24 = .ok (.aload_n 0, 1) := by decide +kernel
theorem dX13_readTeller_25 : decode cX13_readTeller 25 = .ok (.ldc_w 396, 3) := by decide +kernel
theorem dX13_readTeller_28 : decode cX13_readTeller 28 = .ok (.iconst 0, 1) := by decide +kernel
theorem dX13_readTeller_29 : decode cX13_readTeller 29 = .ok (.sipush 999, 3) := by decide +kernel
theorem dX13_readTeller_32 : decode cX13_readTeller 32 = .ok (.invokevirtual 241, 3) := by decide +kernel
theorem dX13_readTeller_35 : decode cX13_readTeller 35 = .ok (.pop, 1) := by decide +kernel
theorem dX13_readTeller_36 : decode cX13_readTeller 36 = .ok (.aload_n 0, 1) := by decide +kernel
theorem dX13_readTeller_37 : decode cX13_readTeller 37 = .ok (.ldc_w 398, 3) := by decide +kernel
theorem dX13_readTeller_40 : decode cX13_readTeller 40 = .ok (.invokevirtual 112, 3) := by decide +kernel
theorem dX13_readTeller_43 : decode cX13_readTeller 43 = .ok (.iconst 0, 1) := by decide +kernel
theorem dX13_readTeller_44 : decode cX13_readTeller 44 = .ok (.istore_n 1, 1) := by decide +kernel
theorem dX13_readTeller_45 : decode cX13_readTeller 45 = .ok (.aload_n 0, 1) := by decide +kernel
theorem dX13_readTeller_46 : decode cX13_readTeller 46 = .ok (.getfield 58, 3) := by decide +kernel
theorem dX13_readTeller_49 : decode cX13_readTeller 49 = .ok (.iconst 5, 1) := by decide +kernel
theorem dX13_readTeller_50 : decode cX13_readTeller 50 = .ok (.if_icmp .eq 7, 3) := by decide +kernel
theorem dX13_readTeller_53 : decode cX13_readTeller 53 = .ok (.iconst 1, 1) := by decide +kernel
theorem dX13_readTeller_54 : decode cX13_readTeller 54 = .ok (.goto 4, 3) := by decide +kernel
theorem dX13_readTeller_57 : decode cX13_readTeller 57 = .ok (.iconst 0, 1) := by decide +kernel
theorem dX13_readTeller_58 : decode cX13_readTeller 58 = .ok (.istore_n 2, 1) := by decide +kernel
theorem dX13_readTeller_59 : decode cX13_readTeller 59 = .ok (.iload_n 2, 1) := by decide +kernel
theorem dX13_readTeller_60 : decode cX13_readTeller 60 = .ok (.ifCond .eq 52, 3) := by decide +kernel
theorem dX13_readTeller_63 : decode cX13_readTeller 63 = .ok (.aload_n 0, 1) := by decide +kernel
theorem dX13_readTeller_64 : decode cX13_readTeller 64 = .ok (.iconst 0, 1) := by decide +kernel
theorem dX13_readTeller_65 : decode cX13_readTeller 65 = .ok (.invokevirtual 173, 3) := by decide +kernel
theorem dX13_readTeller_68 : decode cX13_readTeller 68 = .ok (.istore_n 3, 1) := by decide +kernel
theorem dX13_readTeller_69 : decode cX13_readTeller 69 = .ok (.iload_n 1, 1) := by decide +kernel
theorem dX13_readTeller_70 : decode cX13_readTeller 70 = .ok (.iload_n 3, 1) := by decide +kernel
theorem dX13_readTeller_71 : decode cX13_readTeller 71 = .ok (.ishr, 1) := by decide +kernel
theorem dX13_readTeller_72 : decode cX13_readTeller 72 = .ok (.iconst 1, 1) := by decide +kernel
theorem dX13_readTeller_73 : decode cX13_readTeller 73 = .ok (.iand, 1) := by decide +kernel
theorem dX13_readTeller_74 : decode cX13_readTeller 74 = .ok (.iconst 1, 1) := by decide +kernel
theorem dX13_readTeller_75 : decode cX13_readTeller 75 = .ok (.if_icmp .ne 8, 3) := by decide +kernel
theorem dX13_readTeller_78 : decode cX13_readTeller 78 = .ok (.aload_n 0, 1) := by decide +kernel
theorem dX13_readTeller_79 : decode cX13_readTeller 79 = .ok (.iconst 3, 1) := by decide +kernel
theorem dX13_readTeller_80 : decode cX13_readTeller 80 = .ok (.invokevirtual 104, 3) := by decide +kernel
theorem dX13_readTeller_83 : decode cX13_readTeller 83 = .ok (.aload_n 0, 1) := by decide +kernel
theorem dX13_readTeller_84 : decode cX13_readTeller 84 = .ok (.invokevirtual 101, 3) := by decide +kernel
theorem dX13_readTeller_87 : decode cX13_readTeller 87 = .ok (.aload_n 0, 1) := by decide +kernel
theorem dX13_readTeller_88 : decode cX13_readTeller 88 = .ok (.getfield 58, 3) := by decide +kernel
theorem dX13_readTeller_91 : decode cX13_readTeller 91 = .ok (.iconst 5, 1) := by decide +kernel
theorem dX13_readTeller_92 : decode cX13_readTeller 92 = .ok (.if_icmp .ne 4, 3) := by decide +kernel
theorem dX13_readTeller_95 : decode cX13_readTeller 95 = .ok (.return_, 1) := by decide +kernel
theorem dX13_readTeller_96 : decode cX13_readTeller 96 = .ok (.iload_n 1, 1) := by decide +kernel
theorem dX13_readTeller_97 : decode cX13_readTeller 97 = .ok (.iconst 1, 1) := by decide +kernel
theorem dX13_readTeller_98 : decode cX13_readTeller 98 = .ok (.iload_n 3, 1) := by decide +kernel
theorem dX13_readTeller_99 : decode cX13_readTeller 99 = .ok (.ishl, 1) := by decide +kernel
theorem dX13_readTeller_100 : decode cX13_readTeller 100 = .ok (.ior, 1) := by decide +kernel
theorem dX13_readTeller_101 : decode cX13_readTeller 101 = .ok (.istore_n 1, 1) := by decide +kernel
theorem dX13_readTeller_102 : decode cX13_readTeller 102 = .ok (.aload_n 0, 1) := by decide +kernel
theorem dX13_readTeller_103 : decode cX13_readTeller 103 = .ok (.bipush 44, 2) := by decide +kernel
theorem dX13_readTeller_105 : decode cX13_readTeller 105 = .ok (.invokevirtual 182, 3) := by decide +kernel
theorem dX13_readTeller_108 : decode cX13_readTeller 108 = .ok (.istore_n 2, 1) := by decide +kernel
theorem dX13_readTeller_109 : decode cX13_readTeller 109 = .ok (.goto (-50), 3) := by decide +kernel
theorem dX13_readTeller_112 : decode cX13_readTeller 112 = .ok (.aload_n 0, 1) := by decide +kernel
theorem dX13_readTeller_113 : decode cX13_readTeller 113 = .ok (.ldc 144, 2) := by decide +kernel
theorem dX13_readTeller_115 : decode cX13_readTeller 115 = .ok (.invokevirtual 400, 3) := by decide +kernel
theorem dX13_readTeller_118 : decode cX13_readTeller 118 = .ok (.istore_n 3, 1) := by decide +kernel
theorem dX13_readTeller_119 : decode cX13_readTeller 119 = .ok (.aload_n 0, 1) := by decide +kernel
theorem dX13_readTeller_120 : decode cX13_readTeller 120 = .ok (.getfield 58, 3) := by decide +kernel
theorem dX13_readTeller_123 : decode cX13_readTeller 123 = .ok (.iconst 5, 1) := by decide +kernel
theorem dX13_readTeller_124 : decode cX13_readTeller 124 = .ok (.if_icmp .ne 4, 3) := by decide +kernel
theorem dX13_readTeller_127 : decode cX13_readTeller 127 = .ok (.return_, 1) := by decide +kernel
theorem dX13_readTeller_128 : decode cX13_readTeller 128 = .ok (.aload_n 0, 1) := by decide +kernel
theorem dX13_readTeller_129 : decode cX13_readTeller 129 = .ok (.getfield 150, 3) := by decide +kernel
theorem dX13_readTeller_132 : decode cX13_readTeller 132 = .ok (.getfield 403, 3) := by decide +kernel
theorem dX13_readTeller_135 : decode cX13_readTeller 135 = .ok (.aload_n 0, 1) := by decide +kernel
theorem dX13_readTeller_136 : decode cX13_readTeller 136 = .ok (.getfield 150, 3) := by decide +kernel
theorem dX13_readTeller_139 : decode cX13_readTeller 139 = .ok (.getfield 393, 3) := by decide +kernel
theorem dX13_readTeller_142 : decode cX13_readTeller 142 = .ok (.iload_n 1, 1) := by decide +kernel
theorem dX13_readTeller_143 : decode cX13_readTeller 143 = .ok (.iastore, 1) := by decide +kernel
theorem dX13_readTeller_144 : decode cX13_readTeller 144 = .ok (.aload_n 0, 1) := by decide +kernel
theorem dX13_readTeller_145 : decode cX13_readTeller 145 = .ok (.getfield 150, 3) := by decide +kernel
theorem dX13_readTeller_148 : decode cX13_readTeller 148 = .ok (.getfield 405, 3) := by decide +kernel
theorem dX13_readTeller_151 : decode cX13_readTeller 151 = .ok (.aload_n 0, 1) := by decide +kernel
theorem dX13_readTeller_152 : decode cX13_readTeller 152 = .ok (.getfield 150, 3) := by decide +kernel
theorem dX13_readTeller_155 : decode cX13_readTeller 155 = .ok (.getfield 393, 3) := by decide +kernel
theorem dX13_readTeller_158 : decode cX13_readTeller 158 = .ok (.iload_n 3, 1) := by decide +kernel
theorem dX13_readTeller_159 : decode cX13_readTeller 159 = .ok (.bastore, 1) := by decide +kernel
theorem dX13_readTeller_160 : decode cX13_readTeller 160 = .ok (.aload_n 0, 1) := by decide +kernel
theorem dX13_readTeller_161 : decode cX13_readTeller 161 = .ok (.getfield 150, 3) := by decide +kernel
theorem dX13_readTeller_164 : decode cX13_readTeller 164 = .ok (.dup, 1) := by decide +kernel
theorem dX13_readTeller_165 : decode cX13_readTeller 165 = .ok (.getfield 393, 3) := by decide +kernel
theorem dX13_readTeller_168 : decode cX13_readTeller 168 = .ok (.iconst 1, 1) := by decide +kernel
theorem dX13_readTeller_169 : decode cX13_readTeller 169 = .ok (.iadd, 1) := by decide +kernel
theorem dX13_readTeller_170 : decode cX13_readTeller 170 = .ok (.putfield 393, 3) := by decide +kernel
theorem dX13_readTeller_173 : decode cX13_readTeller 173 = .ok (.return_, 1) := by decide +kernel
set_option maxRecDepth 20000 in
theorem ggX13_readTry_X13_begins : GoodIn wsX13_readTry wsX13_begins := goodIn_r _ [7, 8, 9, 10, 6, 11, 2, 12, 13, 14, 15, 16, 17, 18, 19, 20, 21, 22, 23, 24, 25, 26, 27, 28, 29, 30, 31, 32, 33, 34, 35, 130, 131, 132, 133, 134, 135, 136, 137, 138, 139, 140, 141, 142, 143, 144, 145, 146, 147, 148, 149, 150, 151, 152, 153, 154, 155, 156, 157, 158] rfl (by decide +kernel)
set_option maxRecDepth 20000 in
theorem gX13_readTry_X13_begins : GoodIn wsX13_readTry (wsV RX13 224 RX13 yX13_begins wsX13_begins) := goodIn_app (goodIn_of _ (by decide +kernel)) ggX13_readTry_X13_begins
set_option maxRecDepth 20000 in
theorem ggX13_readTry_X13_readFresh : GoodIn wsX13_readTry wsX13_readFresh := goodIn_r _ [39, 1, 21, 2, 40, 41, 42, 6, 43, 44, 45, 46, 47, 48, 49, 50, 22, 51, 52, 53, 54, 55, 56, 57, 58, 59, 60, 61, 62, 63, 64, 65, 66, 67, 68, 69, 70, 71, 72, 73, 74, 75, 76, 77, 78, 79, 80, 81, 82, 83, 84, 85, 86, 87, 88, 89, 90, 91, 92, 93, 94, 95, 96, 97, 98, 99, 8, 9, 10, 11, 12, 13, 14, 100, 101, 102, 103, 104, 105, 106, 15, 16, 17, 18, 19, 20, 23, 24, 25, 26, 27, 28, 29, 30, 31, 32, 33, 34, 35, 130, 131, 132, 133, 134, 135, 136, 137, 138, 139, 140, 141, 142, 143, 144, 145, 146, 147, 148, 149, 150, 151, 152, 153, 154, 155, 156, 157, 158, 159, 160, 161, 162, 163, 164, 165, 166, 167, 168, 169, 170, 171, 172, 173, 174, 175, 176, 177, 178, 179, 180, 181, 182, 183, 184, 185, 186, 187, 188, 189, 190, 191, 192, 193, 194, 195, 196, 197, 198, 199, 200, 201, 202, 203, 204, 205, 206] rfl (by decide +kernel)
set_option maxRecDepth 20000 in
theorem gX13_readTry_X13_readFresh : GoodIn wsX13_readTry (wsV RX13 228 RX13 yX13_readFresh wsX13_readFresh) := goodIn_app (goodIn_of _ (by decide +kernel)) ggX13_readTry_X13_readFresh
set_option maxRecDepth 20000 in
theorem ggX13_readTry_X13_readPart : GoodIn wsX13_readTry wsX13_readPart := goodIn_r _ [110, 111, 112, 113, 6, 114, 44, 45, 46, 47, 2, 21, 48, 49, 50, 22, 51, 52, 53, 54, 55, 56, 57, 58, 59, 60, 61, 62, 63, 64, 65, 66, 67, 68, 69, 70, 71, 72, 73, 74, 75, 76, 77, 78, 79, 80, 81, 82, 83, 84, 85, 86, 87, 88, 89, 90, 91, 92, 93, 94, 95, 96, 97, 98, 99, 8, 9, 10, 11, 12, 13, 14, 15, 16, 17, 18, 19, 20, 23, 24, 25, 26, 27, 28, 29, 30, 31, 32, 33, 34, 35, 115, 116, 117, 118, 119, 120, 121, 130, 131, 132, 133, 134, 135, 136, 137, 138, 139, 140, 141, 142, 143, 144, 145, 146, 147, 148, 149, 150, 151, 152, 153, 154, 155, 156, 157, 158] rfl (by decide +kernel)
set_option maxRecDepth 20000 in
theorem gX13_readTry_X13_readPart : GoodIn wsX13_readTry (wsV RX13 241 RX13 yX13_readPart wsX13_readPart) := goodIn_app (goodIn_of _ (by decide +kernel)) ggX13_readTry_X13_readPart
set_option maxRecDepth 20000 in
theorem ggX13_readTry_X13_readSlope : GoodIn wsX13_readTry wsX13_readSlope := goodIn_r _ [125, 44, 45, 46, 6, 47, 2, 21, 48, 49, 50, 22, 51, 52, 53, 54, 55, 56, 57, 58, 59, 60, 61, 62, 63, 64, 65, 66, 67, 68, 69, 70, 71, 72, 73, 74, 75, 76, 77, 78, 79, 80, 81, 82, 83, 84, 85, 86, 87, 88, 89, 90, 91, 92, 93, 94, 95, 96, 97, 98, 99, 126, 127, 128, 129, 8, 9, 10, 11, 12, 13, 14, 15, 16, 17, 18, 19, 20, 23, 24, 25, 26, 27, 28, 29, 30, 31, 32, 33, 34, 35, 115, 116, 117, 118, 119, 120, 121, 130, 131, 132, 133, 134, 135, 136, 137, 138, 139, 140, 141, 142, 143, 144, 145, 146, 147, 148, 149, 150, 151, 152, 153, 154, 155, 156, 157, 158] rfl (by decide +kernel)
set_option maxRecDepth 20000 in
theorem gX13_readTry_X13_readSlope : GoodIn wsX13_readTry (wsV RX13 258 RX13 yX13_readSlope wsX13_readSlope) := goodIn_app (goodIn_of _ (by decide +kernel)) ggX13_readTry_X13_readSlope
theorem dX13_readTry_0 : decode cX13_readTry 0 = .ok (.aload_n 0, 1) := by decide +kernel
theorem dX13_readTry_1 : decode cX13_readTry 1 = .ok (.aload_n 0, 1) := by decide +kernel
theorem dX13_readTry_2 : decode cX13_readTry 2 = .ok (.getfield 150, 3) := by decide +kernel
theorem dX13_readTry_5 : decode cX13_readTry 5 = .ok (.getfield 409, 3) := by decide +kernel
theorem dX13_readTry_8 : decode cX13_readTry 8 = .ok (.iconst 5, 1) := by decide +kernel
theorem dX13_readTry_9 : decode cX13_readTry 9 = .ok (.invokevirtual 224, 3) := by decide +kernel
theorem dX13_readTry_12 : decode cX13_readTry 12 = .ok (.aload_n 0, 1) := by decide +kernel
theorem dX13_readTry_13 : decode cX13_readTry 13 = .ok (.iconst 2, 1) := by decide +kernel
theorem dX13_readTry_14 : decode cX13_readTry 14 = .ok (.aload_n 0, 1) := by decide +kernel
theorem dX13_readTry_15 : decode cX13_readTry 15 = .ok (.getfield 150, 3) := by decide +kernel
theorem dX13_readTry_18 : decode cX13_readTry 18 = .ok (.getfield 409, 3) := by decide +kernel
theorem dX13_readTry_21 : decode cX13_readTry 21 = .ok (.invokevirtual 228, 3) := by decide +kernel
theorem dX13_readTry_24 : decode cX13_readTry 24 = .ok (.aload_n 0, 1) := by decide +kernel
theorem dX13_readTry_25 : decode cX13_readTry 25 = .ok (.ldc_w 268, 3) := by decide +kernel
theorem dX13_readTry_28 : decode cX13_readTry 28 = .ok (.iconst 1, 1) := by decide +kernel
theorem dX13_readTry_29 : decode cX13_readTry 29 = .ok (.bipush 99, 2) := by decide +kernel
theorem dX13_readTry_31 : decode cX13_readTry 31 = .ok (.invokevirtual 241, 3) := by decide +kernel
theorem dX13_readTry_34 : decode cX13_readTry 34 = .ok (.istore_n 1, 1) := by decide +kernel
theorem dX13_readTry_35 : decode cX13_readTry 35 = .ok (.aload_n 0, 1) := by decide +kernel
theorem dX13_readTry_36 : decode cX13_readTry 36 = .ok (.ldc_w 270, 3) := by decide +kernel
theorem dX13_readTry_39 : decode cX13_readTry 39 = .ok (.iconst 0, 1) := by decide +kernel
theorem dX13_readTry_40 : decode cX13_readTry 40 = .ok (.bipush 30, 2) := by decide +kernel
theorem dX13_readTry_42 : decode cX13_readTry 42 = .ok (.invokevirtual 241, 3) := by decide +kernel
theorem dX13_readTry_45 : decode cX13_readTry 45 = .ok (.istore_n 2, 1) := by decide +kernel
theorem dX13_readTry_46 : decode cX13_readTry 46 = .ok (.aload_n 0, 1) := by decide +kernel
theorem dX13_readTry_47 : decode cX13_readTry 47 = .ok (.ldc_w 272, 3) := by decide +kernel
theorem dX13_readTry_50 : decode cX13_readTry 50 = .ok (.iconst 0, 1) := by decide +kernel
theorem dX13_readTry_51 : decode cX13_readTry 51 = .ok (.bipush 20, 2) := by decide +kernel
theorem dX13_readTry_53 : decode cX13_readTry 53 = .ok (.invokevirtual 241, 3) := by decide +kernel
theorem dX13_readTry_56 : decode cX13_readTry 56 = .ok (.istore_n 3, 1) := by decide +kernel
theorem dX13_readTry_57 : decode cX13_readTry 57 = .ok (.aload_n 0, 1) := by decide +kernel
theorem dX13_readTry_58 : decode cX13_readTry 58 = .ok (.invokevirtual 258, 3) := by decide +kernel
theorem dX13_readTry_61 : decode cX13_readTry 61 = .ok (.istore 4, 2) := by decide +kernel
theorem dX13_readTry_63 : decode cX13_readTry 63 = .ok (.aload_n 0, 1) := by decide +kernel
theorem dX13_readTry_64 : decode cX13_readTry 64 = .ok (.getfield 58, 3) := by decide +kernel
theorem dX13_readTry_67 : decode cX13_readTry 67 = .ok (.iconst 5, 1) := by decide +kernel
theorem dX13_readTry_68 : decode cX13_readTry 68 = .ok (.if_icmp .ne 4, 3) := by decide +kernel
theorem dX13_readTry_71 : decode cX13_readTry 71 = .ok (.return_, 1) := by decide +kernel
theorem dX13_readTry_72 : decode cX13_readTry 72 = .ok (.aload_n 0, 1) := by decide +kernel
theorem dX13_readTry_73 : decode cX13_readTry 73 = .ok (.getfield 150, 3) := by decide +kernel
theorem dX13_readTry_76 : decode cX13_readTry 76 = .ok (.getfield 412, 3) := by decide +kernel
theorem dX13_readTry_79 : decode cX13_readTry 79 = .ok (.aload_n 0, 1) := by decide +kernel
theorem dX13_readTry_80 : decode cX13_readTry 80 = .ok (.getfield 150, 3) := by decide +kernel
theorem dX13_readTry_83 : decode cX13_readTry 83 = .ok (.getfield 409, 3) := by decide +kernel
theorem dX13_readTry_86 : decode cX13_readTry 86 = .ok (.iload_n 1, 1) := by decide +kernel
theorem dX13_readTry_87 : decode cX13_readTry 87 = .ok (.iastore, 1) := by decide +kernel
theorem dX13_readTry_88 : decode cX13_readTry 88 = .ok (.aload_n 0, 1) := by decide +kernel
theorem dX13_readTry_89 : decode cX13_readTry 89 = .ok (.getfield 150, 3) := by decide +kernel
theorem dX13_readTry_92 : decode cX13_readTry 92 = .ok (.getfield 415, 3) := by decide +kernel
theorem dX13_readTry_95 : decode cX13_readTry 95 = .ok (.aload_n 0, 1) := by decide +kernel
theorem dX13_readTry_96 : decode cX13_readTry 96 = .ok (.getfield 150, 3) := by decide +kernel
theorem dX13_readTry_99 : decode cX13_readTry 99 = .ok (.getfield 409, 3) := by decide +kernel
theorem dX13_readTry_102 : decode cX13_readTry 102 = .ok (.iload_n 2, 1) := by decide +kernel
theorem dX13_readTry_103 : decode cX13_readTry 103 = .ok (.iastore, 1) := by decide +kernel
theorem dX13_readTry_104 : decode cX13_readTry 104 = .ok (.aload_n 0, 1) := by decide +kernel
theorem dX13_readTry_105 : decode cX13_readTry 105 = .ok (.getfield 150, 3) := by decide +kernel
theorem dX13_readTry_108 : decode cX13_readTry 108 = .ok (.getfield 418, 3) := by decide +kernel
theorem dX13_readTry_111 : decode cX13_readTry 111 = .ok (.aload_n 0, 1) := by decide +kernel
theorem dX13_readTry_112 : decode cX13_readTry 112 = .ok (.getfield 150, 3) := by decide +kernel
theorem dX13_readTry_115 : decode cX13_readTry 115 = .ok (.getfield 409, 3) := by decide +kernel
theorem dX13_readTry_118 : decode cX13_readTry 118 = .ok (.iload_n 3, 1) := by decide +kernel
theorem dX13_readTry_119 : decode cX13_readTry 119 = .ok (.iastore, 1) := by decide +kernel
theorem dX13_readTry_120 : decode cX13_readTry 120 = .ok (.aload_n 0, 1) := by decide +kernel
theorem dX13_readTry_121 : decode cX13_readTry 121 = .ok (.getfield 150, 3) := by decide +kernel
theorem dX13_readTry_124 : decode cX13_readTry 124 = .ok (.getfield 421, 3) := by decide +kernel
theorem dX13_readTry_127 : decode cX13_readTry 127 = .ok (.aload_n 0, 1) := by decide +kernel
theorem dX13_readTry_128 : decode cX13_readTry 128 = .ok (.getfield 150, 3) := by decide +kernel
theorem dX13_readTry_131 : decode cX13_readTry 131 = .ok (.getfield 409, 3) := by decide +kernel
theorem dX13_readTry_134 : decode cX13_readTry 134 = .ok (.iload 4, 2) := by decide +kernel
theorem dX13_readTry_136 : decode cX13_readTry 136 = .ok (.iastore, 1) := by decide +kernel
theorem dX13_readTry_137 : decode cX13_readTry 137 = .ok (.aload_n 0, 1) := by decide +kernel
theorem dX13_readTry_138 : decode cX13_readTry 138 = .ok (.getfield 150, 3) := by decide +kernel
theorem dX13_readTry_141 : decode cX13_readTry 141 = .ok (.dup, 1) := by decide +kernel
theorem dX13_readTry_142 : decode cX13_readTry 142 = .ok (.getfield 409, 3) := by decide +kernel
theorem dX13_readTry_145 : decode cX13_readTry 145 = .ok (.iconst 1, 1) := by decide +kernel
theorem dX13_readTry_146 : decode cX13_readTry 146 = .ok (.iadd, 1) := by decide +kernel
theorem dX13_readTry_147 : decode cX13_readTry 147 = .ok (.putfield 409, 3) := by decide +kernel
theorem dX13_readTry_150 : decode cX13_readTry 150 = .ok (.return_, 1) := by decide +kernel
theorem dX13_feed_0 : decode cX13_feed 0 = .ok (.aload_n 0, 1) := by decide +kernel
theorem dX13_feed_1 : decode cX13_feed 1 = .ok (.iconst 0, 1) := by decide +kernel
theorem dX13_feed_2 : decode cX13_feed 2 = .ok (.putfield 30, 3) := by decide +kernel
theorem dX13_feed_5 : decode cX13_feed 5 = .ok (.aload_n 0, 1) := by decide +kernel
theorem dX13_feed_6 : decode cX13_feed 6 = .ok (.getfield 424, 3) := by decide +kernel
theorem dX13_feed_9 : decode cX13_feed 9 = .ok (.bipush 20, 2) := by decide +kernel
theorem dX13_feed_11 : decode cX13_feed 11 = .ok (.iadd, 1) := by decide +kernel
theorem dX13_feed_12 : decode cX13_feed 12 = .ok (.sipush 900, 3) := by decide +kernel
theorem dX13_feed_15 : decode cX13_feed 15 = .ok (.if_icmp .le 5, 3) := by decide +kernel
theorem dX13_feed_18 : decode cX13_feed 18 = .ok (.iconst (-1), 1) := by decide +kernel
theorem dX13_feed_19 : decode cX13_feed 19 = .ok (.ireturn, 1) := by decide +kernel
theorem dX13_feed_20 : decode cX13_feed 20 = .ok (.iconst 0, 1) := by decide +kernel
theorem dX13_feed_21 : decode cX13_feed 21 = .ok (.istore 6, 2) := by decide +kernel
theorem dX13_feed_23 : decode cX13_feed 23 = .ok (.iload 6, 2) := by decide +kernel
theorem dX13_feed_25 : decode cX13_feed 25 = .ok (.bipush 20, 2) := by decide +kernel
theorem dX13_feed_27 : decode cX13_feed 27 = .ok (.if_icmp .ge 90, 3) := by decide +kernel
theorem dX13_feed_30 : decode cX13_feed 30 = .ok (.iload 6, 2) := by decide +kernel
theorem dX13_feed_32 : decode cX13_feed 32 = .ok (.iconst 4, 1) := by decide +kernel
theorem dX13_feed_33 : decode cX13_feed 33 = .ok (.if_icmp .ge 7, 3) := by decide +kernel
theorem dX13_feed_36 : decode cX13_feed 36 = .ok (.iload_n 1, 1) := by decide +kernel
theorem dX13_feed_37 : decode cX13_feed 37 = .ok (.goto 39, 3) := by decide +kernel
theorem dX13_feed_40 : decode cX13_feed 40 = .ok (.iload 6, 2) := by decide +kernel
theorem dX13_feed_42 : decode cX13_feed 42 = .ok (.bipush 8, 2) := by decide +kernel
theorem dX13_feed_44 : decode cX13_feed 44 = .ok (.if_icmp .ge 7, 3) := by decide +kernel
theorem dX13_feed_47 : decode cX13_feed 47 = .ok (.iload_n 2, 1) := by decide +kernel
theorem dX13_feed_48 : decode cX13_feed 48 = .ok (.goto 28, 3) := by decide +kernel
theorem dX13_feed_51 : decode cX13_feed 51 = .ok (.iload 6, 2) := by decide +kernel
theorem dX13_feed_53 : decode cX13_feed 53 = .ok (.bipush 12, 2) := by decide +kernel
theorem dX13_feed_55 : decode cX13_feed 55 = .ok (.if_icmp .ge 7, 3) := by decide +kernel
theorem dX13_feed_58 : decode cX13_feed 58 = .ok (.iload_n 3, 1) := by decide +kernel
theorem dX13_feed_59 : decode cX13_feed 59 = .ok (.goto 17, 3) := by decide +kernel
theorem dX13_feed_62 : decode cX13_feed 62 = .ok (.iload 6, 2) := by decide +kernel
theorem dX13_feed_64 : decode cX13_feed 64 = .ok (.bipush 16, 2) := by decide +kernel
theorem dX13_feed_66 : decode cX13_feed 66 = .ok (.if_icmp .ge 8, 3) := by decide +kernel
theorem dX13_feed_69 : decode cX13_feed 69 = .ok (.iload 4, 2) := by decide +kernel
theorem dX13_feed_71 : decode cX13_feed 71 = .ok (.goto 5, 3) := by decide +kernel
theorem dX13_feed_74 : decode cX13_feed 74 = .ok (.iload 5, 2) := by decide +kernel
theorem dX13_feed_76 : decode cX13_feed 76 = .ok (.istore 7, 2) := by decide +kernel
theorem dX13_feed_78 : decode cX13_feed 78 = .ok (.aload_n 0, 1) := by decide +kernel
theorem dX13_feed_79 : decode cX13_feed 79 = .ok (.getfield 13, 3) := by decide +kernel
theorem dX13_feed_82 : decode cX13_feed 82 = .ok (.aload_n 0, 1) := by decide +kernel
theorem dX13_feed_83 : decode cX13_feed 83 = .ok (.getfield 424, 3) := by decide +kernel
theorem dX13_feed_86 : decode cX13_feed 86 = .ok (.iload 7, 2) := by decide +kernel
theorem dX13_feed_88 : decode cX13_feed 88 = .ok (.bipush 24, 2) := by decide +kernel
theorem dX13_feed_90 : decode cX13_feed 90 = .ok (.bipush 8, 2) := by decide +kernel
theorem dX13_feed_92 : decode cX13_feed 92 = .ok (.iload 6, 2) := by decide +kernel
theorem dX13_feed_94 : decode cX13_feed 94 = .ok (.iconst 4, 1) := by decide +kernel
theorem dX13_feed_95 : decode cX13_feed 95 = .ok (.irem, 1) := by decide +kernel
theorem dX13_feed_96 : decode cX13_feed 96 = .ok (.imul, 1) := by decide +kernel
theorem dX13_feed_97 : decode cX13_feed 97 = .ok (.isub, 1) := by decide +kernel
theorem dX13_feed_98 : decode cX13_feed 98 = .ok (.ishr, 1) := by decide +kernel
theorem dX13_feed_99 : decode cX13_feed 99 = .ok (.i2b, 1) := by decide +kernel
theorem dX13_feed_100 : decode cX13_feed 100 = .ok (.bastore, 1) := by decide +kernel
theorem dX13_feed_101 : decode cX13_feed 101 = .ok (.aload_n 0, 1) := by decide +kernel
theorem dX13_feed_102 : decode cX13_feed 102 = .ok (.dup, 1) := by decide +kernel
theorem dX13_feed_103 : decode cX13_feed 103 = .ok (.getfield 424, 3) := by decide +kernel
theorem dX13_feed_106 : decode cX13_feed 106 = .ok (.iconst 1, 1) := by decide +kernel
theorem dX13_feed_107 : decode cX13_feed 107 = .ok (.iadd, 1) := by decide +kernel
theorem dX13_feed_108 : decode cX13_feed 108 = .ok (.putfield 424, 3) := by decide +kernel
theorem dX13_feed_111 : decode cX13_feed 111 = .ok (.iinc 6 1, 3) := by decide +kernel
theorem dX13_feed_114 : decode cX13_feed 114 = .ok (.goto (-91), 3) := by decide +kernel
theorem dX13_feed_117 : decode cX13_feed 117 = .ok (.aload_n 0, 1) := by decide +kernel
theorem dX13_feed_118 : decode cX13_feed 118 = .ok (.getfield 424, 3) := by decide +kernel
theorem dX13_feed_121 : decode cX13_feed 121 = .ok (.ireturn, 1) := by decide +kernel
set_option maxRecDepth 20000 in
theorem ggX13_island_X13_refused : GoodIn wsX13_island wsX13_refused := goodIn_r _ [22, 11, 13, 253, 254, 255, 256, 257, 258, 259, 260, 261, 262, 263, 264, 265, 266, 267, 268, 269, 270, 271, 272, 273, 274, 275, 276, 277, 278, 279, 280, 281] rfl (by decide +kernel)
set_option maxRecDepth 20000 in
theorem gX13_island_X13_refused : GoodIn wsX13_island (wsV RX13 36 RX13 yX13_refused wsX13_refused) := goodIn_app (goodIn_of _ (by decide +kernel)) ggX13_island_X13_refused
set_option maxRecDepth 20000 in
theorem ggX13_island_X12_init : GoodIn wsX13_island wsX12_init := goodIn_r _ [24, 25, 26, 27, 28, 29, 30, 31, 32, 33, 34, 35, 36, 37, 38, 39, 40, 41, 42, 43, 44, 45, 46, 47, 48, 49, 50, 51, 52, 53, 54, 55, 56, 57, 58, 59, 60, 61, 62, 63, 64, 282, 283, 284, 285, 286, 287, 288, 289, 290, 291, 292, 293, 294, 295, 296, 297, 298, 299, 300, 301, 302, 303, 304, 305, 306, 307, 308, 309, 310, 311, 312, 313, 314, 315, 316, 317, 318, 319, 320, 321, 322, 323, 324, 325, 326, 327, 328, 329] rfl (by decide +kernel)
set_option maxRecDepth 20000 in
theorem gX13_island_X12_init_n427 : GoodIn wsX13_island (wsX12_init) := ggX13_island_X12_init
set_option maxRecDepth 20000 in
theorem ggX13_island_X13_goesOn : GoodIn wsX13_island wsX13_goesOn := goodIn_r _ [68, 10, 4, 69, 70, 71, 72, 73, 74, 75, 76, 21, 77, 3, 78, 79, 80, 81, 82, 83, 84, 253, 254, 255, 256, 257, 258, 259, 260, 261, 262, 263, 264, 265, 266, 267, 268, 269, 270, 271, 272, 273, 274, 275, 276, 277, 278, 279, 280, 281] rfl (by decide +kernel)
set_option maxRecDepth 20000 in
theorem gX13_island_X13_goesOn : GoodIn wsX13_island (wsV RX13 101 RX13 yX13_goesOn wsX13_goesOn) := goodIn_app (goodIn_of _ (by decide +kernel)) ggX13_island_X13_goesOn
set_option maxRecDepth 20000 in
theorem ggX13_island_X13_readIsland : GoodIn wsX13_island wsX13_readIsland := goodIn_r _ [88, 10, 9, 89, 90, 91, 21, 92, 93, 94, 95, 96, 71, 97, 98, 99, 72, 100, 101, 102, 103, 104, 105, 106, 107, 108, 109, 110, 111, 112, 113, 114, 115, 116, 117, 118, 119, 120, 121, 122, 123, 124, 125, 126, 127, 128, 129, 130, 131, 132, 133, 134, 135, 136, 137, 138, 139, 140, 141, 142, 143, 144, 145, 146, 147, 148, 149, 150, 151, 152, 153, 154, 155, 156, 157, 158, 159, 160, 5, 69, 12, 65, 66, 67, 68, 4, 70, 73, 74, 75, 76, 77, 3, 78, 79, 80, 81, 82, 83, 84, 161, 162, 163, 164, 165, 166, 167, 168, 169, 170, 171, 8, 172, 173, 62, 174, 175, 176, 177, 178, 179, 180, 181, 182, 183, 184, 185, 186, 187, 188, 189, 190, 191, 192, 193, 194, 195, 196, 197, 198, 199, 200, 201, 202, 203, 204, 205, 206, 207, 208, 209, 210, 211, 212, 213, 214, 215, 216, 217, 218, 219, 220, 221, 222, 223, 224, 225, 226, 227, 228, 229, 230, 231, 232, 233, 234, 235, 236, 237, 238, 239, 240, 241, 242, 243, 244, 245, 246, 247, 248, 253, 254, 255, 256, 257, 258, 259, 260, 261, 262, 263, 264, 265, 266, 267, 268, 269, 270, 271, 272, 273, 274, 275, 276, 277, 278, 279, 280, 281, 282, 283, 284, 285, 286, 287, 288, 289, 290, 291, 292, 293, 294, 295, 296, 297, 298, 299, 300, 301, 302, 303, 304, 305, 306, 307, 308, 309, 310, 311, 312, 313, 314, 315, 316, 317, 318, 319, 320, 321, 322, 323, 324, 325, 326, 327, 328, 329] rfl (by decide +kernel)
set_option maxRecDepth 20000 in
theorem gX13_island_X13_readIsland : GoodIn wsX13_island (wsV RX13 428 RX13 yX13_readIsland wsX13_readIsland) := goodIn_app (goodIn_of _ (by decide +kernel)) ggX13_island_X13_readIsland
set_option maxRecDepth 20000 in
theorem ggX13_island_X13_done : GoodIn wsX13_island wsX13_done := goodIn_r _ [252, 11, 13, 253, 254, 255, 256, 257, 258, 259, 260, 261, 262, 263, 264, 265, 266, 267, 268, 269, 270, 271, 272, 273, 274, 275, 276, 277, 278, 279, 280, 281] rfl (by decide +kernel)
set_option maxRecDepth 20000 in
theorem gX13_island_X13_done : GoodIn wsX13_island (wsV RX13 40 RX13 yX13_done wsX13_done) := goodIn_app (goodIn_of _ (by decide +kernel)) ggX13_island_X13_done
theorem dX13_island_0 : decode cX13_island 0 = .ok (.aload_n 0, 1) := by decide +kernel
theorem dX13_island_1 : decode cX13_island 1 = .ok (.iconst 0, 1) := by decide +kernel
theorem dX13_island_2 : decode cX13_island 2 = .ok (.putfield 30, 3) := by decide +kernel
theorem dX13_island_5 : decode cX13_island 5 = .ok (.iload_n 1, 1) := by decide +kernel
theorem dX13_island_6 : decode cX13_island 6 = .ok (.ifCond .lt 11, 3) := by decide +kernel
theorem dX13_island_9 : decode cX13_island 9 = .ok (.iload_n 1, 1) := by decide +kernel
theorem dX13_island_10 : decode cX13_island 10 = .ok (.aload_n 0, 1) := by decide +kernel
theorem dX13_island_11 : decode cX13_island 11 = .ok (.getfield 424, 3) := by decide +kernel
theorem dX13_island_14 : decode cX13_island 14 = .ok (.if_icmp .le 9, 3) := by decide +kernel
theorem dX13_island_17 : decode cX13_island 17 = .ok (.aload_n 0, 1) := by decide +kernel
theorem dX13_island_18 : decode cX13_island 18 = .ok (.iconst 2, 1) := by decide +kernel
theorem dX13_island_19 : decode cX13_island 19 = .ok (.invokevirtual 36, 3) := by decide +kernel
theorem dX13_island_22 : decode cX13_island 22 = .ok (.ireturn, 1) := by decide +kernel
theorem dX13_island_23 : decode cX13_island 23 = .ok (.aload_n 0, 1) := by decide +kernel
theorem dX13_island_24 : decode cX13_island 24 = .ok (.iload_n 1, 1) := by decide +kernel
theorem dX13_island_25 : decode cX13_island 25 = .ok (.putfield 43, 3) := by decide +kernel
theorem dX13_island_28 : decode cX13_island 28 = .ok (.aload_n 0, 1) := by decide +kernel
theorem dX13_island_29 : decode cX13_island 29 = .ok (.iconst 0, 1) := by decide +kernel
theorem dX13_island_30 : decode cX13_island 30 = .ok (.putfield 424, 3) := by decide +kernel
theorem dX13_island_33 : decode cX13_island 33 = .ok (.aload_n 0, 1) := by decide +kernel
theorem dX13_island_34 : decode cX13_island 34 = .ok (.iconst 0, 1) := by decide +kernel
theorem dX13_island_35 : decode cX13_island 35 = .ok (.putfield 61, 3) := by decide +kernel
theorem dX13_island_38 : decode cX13_island 38 = .ok (.aload_n 0, 1) := by decide +kernel
theorem dX13_island_39 : decode cX13_island 39 = .ok (.iconst 0, 1) := by decide +kernel
theorem dX13_island_40 : decode cX13_island 40 = .ok (.putfield 87, 3) := by decide +kernel
theorem dX13_island_43 : decode cX13_island 43 = .ok (.aload_n 0, 1) := by decide +kernel
theorem dX13_island_44 : decode cX13_island 44 = .ok (.new 155, 3) := by decide +kernel
theorem dX13_island_47 : decode cX13_island 47 = .ok (.dup, 1) := by decide +kernel
theorem dX13_island_48 : decode cX13_island 48 = .ok (.invokespecial 427, 3) := by decide +kernel
theorem dX13_island_51 : decode cX13_island 51 = .ok (.putfield 150, 3) := by decide +kernel
theorem dX13_island_54 : decode cX13_island 54 = .ok (.aload_n 0, 1) := by decide +kernel
theorem dX13_island_55 : decode cX13_island 55 = .ok (.iconst 0, 1) := by decide +kernel
theorem dX13_island_56 : decode cX13_island 56 = .ok (.putfield 58, 3) := by decide +kernel
theorem dX13_island_59 : decode cX13_island 59 = .ok (.aload_n 0, 1) := by decide +kernel
theorem dX13_island_60 : decode cX13_island 60 = .ok (.invokevirtual 101, 3) := by decide +kernel
theorem dX13_island_63 : decode cX13_island 63 = .ok (.aload_n 0, 1) := by decide +kernel
theorem dX13_island_64 : decode cX13_island 64 = .ok (.invokevirtual 428, 3) := by decide +kernel
theorem dX13_island_67 : decode cX13_island 67 = .ok (.aload_n 0, 1) := by decide +kernel
theorem dX13_island_68 : decode cX13_island 68 = .ok (.getfield 87, 3) := by decide +kernel
theorem dX13_island_71 : decode cX13_island 71 = .ok (.ifCond .le 18, 3) := by decide +kernel
theorem dX13_island_74 : decode cX13_island 74 = .ok (.aload_n 0, 1) := by decide +kernel
theorem dX13_island_75 : decode cX13_island 75 = .ok (.iconst 4, 1) := by decide +kernel
theorem dX13_island_76 : decode cX13_island 76 = .ok (.putfield 33, 3) := by decide +kernel
theorem dX13_island_79 : decode cX13_island 79 = .ok (.aload_n 0, 1) := by decide +kernel
theorem dX13_island_80 : decode cX13_island 80 = .ok (.aload_n 0, 1) := by decide +kernel
theorem dX13_island_81 : decode cX13_island 81 = .ok (.getfield 90, 3) := by decide +kernel
theorem dX13_island_84 : decode cX13_island 84 = .ok (.putfield 9, 3) := by decide +kernel
theorem dX13_island_87 : decode cX13_island 87 = .ok (.iconst (-1), 1) := by decide +kernel
theorem dX13_island_88 : decode cX13_island 88 = .ok (.ireturn, 1) := by decide +kernel
theorem dX13_island_89 : decode cX13_island 89 = .ok (.aload_n 0, 1) := by decide +kernel
theorem dX13_island_90 : decode cX13_island 90 = .ok (.aload_n 0, 1) := by decide +kernel
theorem dX13_island_91 : decode cX13_island 91 = .ok (.getfield 150, 3) := by decide +kernel
theorem dX13_island_94 : decode cX13_island 94 = .ok (.putfield 431, 3) := by decide +kernel
theorem dX13_island_97 : decode cX13_island 97 = .ok (.aload_n 0, 1) := by decide +kernel
theorem dX13_island_98 : decode cX13_island 98 = .ok (.iconst (-1), 1) := by decide +kernel
theorem dX13_island_99 : decode cX13_island 99 = .ok (.putfield 17, 3) := by decide +kernel
theorem dX13_island_102 : decode cX13_island 102 = .ok (.aload_n 0, 1) := by decide +kernel
theorem dX13_island_103 : decode cX13_island 103 = .ok (.iconst 0, 1) := by decide +kernel
theorem dX13_island_104 : decode cX13_island 104 = .ok (.putfield 434, 3) := by decide +kernel
theorem dX13_island_107 : decode cX13_island 107 = .ok (.aload_n 0, 1) := by decide +kernel
theorem dX13_island_108 : decode cX13_island 108 = .ok (.iconst 0, 1) := by decide +kernel
theorem dX13_island_109 : decode cX13_island 109 = .ok (.putfield 437, 3) := by decide +kernel
theorem dX13_island_112 : decode cX13_island 112 = .ok (.aload_n 0, 1) := by decide +kernel
theorem dX13_island_113 : decode cX13_island 113 = .ok (.aload_n 0, 1) := by decide +kernel
theorem dX13_island_114 : decode cX13_island 114 = .ok (.getfield 431, 3) := by decide +kernel
theorem dX13_island_117 : decode cX13_island 117 = .ok (.getfield 191, 3) := by decide +kernel
theorem dX13_island_120 : decode cX13_island 120 = .ok (.invokevirtual 40, 3) := by decide +kernel
theorem dX13_island_123 : decode cX13_island 123 = .ok (.ireturn, 1) := by decide +kernel
theorem dX13_fault_0 : decode cX13_fault 0 = .ok (.aload_n 0, 1) := by decide +kernel
theorem dX13_fault_1 : decode cX13_fault 1 = .ok (.iconst 0, 1) := by decide +kernel
theorem dX13_fault_2 : decode cX13_fault 2 = .ok (.putfield 30, 3) := by decide +kernel
theorem dX13_fault_5 : decode cX13_fault 5 = .ok (.aload_n 0, 1) := by decide +kernel
theorem dX13_fault_6 : decode cX13_fault 6 = .ok (.getfield 87, 3) := by decide +kernel
theorem dX13_fault_9 : decode cX13_fault 9 = .ok (.ireturn, 1) := by decide +kernel
theorem dX13_where_0 : decode cX13_where 0 = .ok (.aload_n 0, 1) := by decide +kernel
theorem dX13_where_1 : decode cX13_where 1 = .ok (.iconst 0, 1) := by decide +kernel
theorem dX13_where_2 : decode cX13_where 2 = .ok (.putfield 30, 3) := by decide +kernel
theorem dX13_where_5 : decode cX13_where 5 = .ok (.aload_n 0, 1) := by decide +kernel
theorem dX13_where_6 : decode cX13_where 6 = .ok (.getfield 9, 3) := by decide +kernel
theorem dX13_where_9 : decode cX13_where 9 = .ok (.ireturn, 1) := by decide +kernel
theorem dX13_isWay_0 : decode cX13_isWay 0 = .ok (.aload_n 0, 1) := by decide +kernel
theorem dX13_isWay_1 : decode cX13_isWay 1 = .ok (.getfield 431, 3) := by decide +kernel
theorem dX13_isWay_4 : decode cX13_isWay 4 = .ok (.ifnull 22, 3) := by decide +kernel
theorem dX13_isWay_7 : decode cX13_isWay 7 = .ok (.iload_n 1, 1) := by decide +kernel
theorem dX13_isWay_8 : decode cX13_isWay 8 = .ok (.ifCond .lt 18, 3) := by decide +kernel
theorem dX13_isWay_11 : decode cX13_isWay 11 = .ok (.iload_n 1, 1) := by decide +kernel
theorem dX13_isWay_12 : decode cX13_isWay 12 = .ok (.aload_n 0, 1) := by decide +kernel
theorem dX13_isWay_13 : decode cX13_isWay 13 = .ok (.getfield 431, 3) := by decide +kernel
theorem dX13_isWay_16 : decode cX13_isWay 16 = .ok (.getfield 185, 3) := by decide +kernel
theorem dX13_isWay_19 : decode cX13_isWay 19 = .ok (.if_icmp .ge 7, 3) := by decide +kernel
theorem dX13_isWay_22 : decode cX13_isWay 22 = .ok (.iconst 1, 1) := by decide +kernel
theorem dX13_isWay_23 : decode cX13_isWay 23 = .ok (.goto 4, 3) := by decide +kernel
theorem dX13_isWay_26 : decode cX13_isWay 26 = .ok (.iconst 0, 1) := by decide +kernel
theorem dX13_isWay_27 : decode cX13_isWay 27 = .ok (.ireturn, 1) := by decide +kernel
theorem dX13_isRoad_0 : decode cX13_isRoad 0 = .ok (.aload_n 0, 1) := by decide +kernel
theorem dX13_isRoad_1 : decode cX13_isRoad 1 = .ok (.getfield 431, 3) := by decide +kernel
theorem dX13_isRoad_4 : decode cX13_isRoad 4 = .ok (.ifnull 22, 3) := by decide +kernel
theorem dX13_isRoad_7 : decode cX13_isRoad 7 = .ok (.iload_n 1, 1) := by decide +kernel
theorem dX13_isRoad_8 : decode cX13_isRoad 8 = .ok (.ifCond .lt 18, 3) := by decide +kernel
theorem dX13_isRoad_11 : decode cX13_isRoad 11 = .ok (.iload_n 1, 1) := by decide +kernel
theorem dX13_isRoad_12 : decode cX13_isRoad 12 = .ok (.aload_n 0, 1) := by decide +kernel
theorem dX13_isRoad_13 : decode cX13_isRoad 13 = .ok (.getfield 431, 3) := by decide +kernel
theorem dX13_isRoad_16 : decode cX13_isRoad 16 = .ok (.getfield 188, 3) := by decide +kernel
theorem dX13_isRoad_19 : decode cX13_isRoad 19 = .ok (.if_icmp .ge 7, 3) := by decide +kernel
theorem dX13_isRoad_22 : decode cX13_isRoad 22 = .ok (.iconst 1, 1) := by decide +kernel
theorem dX13_isRoad_23 : decode cX13_isRoad 23 = .ok (.goto 4, 3) := by decide +kernel
theorem dX13_isRoad_26 : decode cX13_isRoad 26 = .ok (.iconst 0, 1) := by decide +kernel
theorem dX13_isRoad_27 : decode cX13_isRoad 27 = .ok (.ireturn, 1) := by decide +kernel
theorem dX13_isStatue_0 : decode cX13_isStatue 0 = .ok (.aload_n 0, 1) := by decide +kernel
theorem dX13_isStatue_1 : decode cX13_isStatue 1 = .ok (.getfield 431, 3) := by decide +kernel
theorem dX13_isStatue_4 : decode cX13_isStatue 4 = .ok (.ifnull 22, 3) := by decide +kernel
theorem dX13_isStatue_7 : decode cX13_isStatue 7 = .ok (.iload_n 1, 1) := by decide +kernel
theorem dX13_isStatue_8 : decode cX13_isStatue 8 = .ok (.ifCond .lt 18, 3) := by decide +kernel
theorem dX13_isStatue_11 : decode cX13_isStatue 11 = .ok (.iload_n 1, 1) := by decide +kernel
theorem dX13_isStatue_12 : decode cX13_isStatue 12 = .ok (.aload_n 0, 1) := by decide +kernel
theorem dX13_isStatue_13 : decode cX13_isStatue 13 = .ok (.getfield 431, 3) := by decide +kernel
theorem dX13_isStatue_16 : decode cX13_isStatue 16 = .ok (.getfield 191, 3) := by decide +kernel
theorem dX13_isStatue_19 : decode cX13_isStatue 19 = .ok (.if_icmp .ge 7, 3) := by decide +kernel
theorem dX13_isStatue_22 : decode cX13_isStatue 22 = .ok (.iconst 1, 1) := by decide +kernel
theorem dX13_isStatue_23 : decode cX13_isStatue 23 = .ok (.goto 4, 3) := by decide +kernel
theorem dX13_isStatue_26 : decode cX13_isStatue 26 = .ok (.iconst 0, 1) := by decide +kernel
theorem dX13_isStatue_27 : decode cX13_isStatue 27 = .ok (.ireturn, 1) := by decide +kernel
theorem dX13_isStory_0 : decode cX13_isStory 0 = .ok (.aload_n 0, 1) := by decide +kernel
theorem dX13_isStory_1 : decode cX13_isStory 1 = .ok (.getfield 431, 3) := by decide +kernel
theorem dX13_isStory_4 : decode cX13_isStory 4 = .ok (.ifnull 22, 3) := by decide +kernel
theorem dX13_isStory_7 : decode cX13_isStory 7 = .ok (.iload_n 1, 1) := by decide +kernel
theorem dX13_isStory_8 : decode cX13_isStory 8 = .ok (.ifCond .lt 18, 3) := by decide +kernel
theorem dX13_isStory_11 : decode cX13_isStory 11 = .ok (.iload_n 1, 1) := by decide +kernel
theorem dX13_isStory_12 : decode cX13_isStory 12 = .ok (.aload_n 0, 1) := by decide +kernel
theorem dX13_isStory_13 : decode cX13_isStory 13 = .ok (.getfield 431, 3) := by decide +kernel
theorem dX13_isStory_16 : decode cX13_isStory 16 = .ok (.getfield 371, 3) := by decide +kernel
theorem dX13_isStory_19 : decode cX13_isStory 19 = .ok (.if_icmp .ge 7, 3) := by decide +kernel
theorem dX13_isStory_22 : decode cX13_isStory 22 = .ok (.iconst 1, 1) := by decide +kernel
theorem dX13_isStory_23 : decode cX13_isStory 23 = .ok (.goto 4, 3) := by decide +kernel
theorem dX13_isStory_26 : decode cX13_isStory 26 = .ok (.iconst 0, 1) := by decide +kernel
theorem dX13_isStory_27 : decode cX13_isStory 27 = .ok (.ireturn, 1) := by decide +kernel
set_option maxRecDepth 20000 in
theorem ggX13_canGo_X13_in : GoodIn wsX13_canGo wsX13_in := goodIn_r _ [4] rfl (by decide +kernel)
set_option maxRecDepth 20000 in
theorem gX13_canGo_X13_in : GoodIn wsX13_canGo (va_wsS RX13 108 yX13_in wsX13_in) := goodIn_app (goodIn_of _ (by decide +kernel)) ggX13_canGo_X13_in
theorem dX13_canGo_0 : decode cX13_canGo 0 = .ok (.iload_n 0, 1) := by decide +kernel
theorem dX13_canGo_1 : decode cX13_canGo 1 = .ok (.ifCond .ne 41, 3) := by decide +kernel
theorem dX13_canGo_4 : decode cX13_canGo 4 = .ok (.iload_n 2, 1) := by decide +kernel
theorem dX13_canGo_5 : decode cX13_canGo 5 = .ok (.iconst 5, 1) := by decide +kernel
theorem dX13_canGo_6 : decode cX13_canGo 6 = .ok (.bipush 25, 2) := by decide +kernel
theorem dX13_canGo_8 : decode cX13_canGo 8 = .ok (.invokestatic 108, 3) := by decide +kernel
theorem dX13_canGo_11 : decode cX13_canGo 11 = .ok (.ifCond .eq 29, 3) := by decide +kernel
theorem dX13_canGo_14 : decode cX13_canGo 14 = .ok (.iload_n 3, 1) := by decide +kernel
theorem dX13_canGo_15 : decode cX13_canGo 15 = .ok (.iconst 3, 1) := by decide +kernel
theorem dX13_canGo_16 : decode cX13_canGo 16 = .ok (.if_icmp .lt 24, 3) := by decide +kernel
theorem dX13_canGo_19 : decode cX13_canGo 19 = .ok (.iload 4, 2) := by decide +kernel
theorem dX13_canGo_21 : decode cX13_canGo 21 = .ok (.iload_n 2, 1) := by decide +kernel
theorem dX13_canGo_22 : decode cX13_canGo 22 = .ok (.iconst 2, 1) := by decide +kernel
theorem dX13_canGo_23 : decode cX13_canGo 23 = .ok (.idiv, 1) := by decide +kernel
theorem dX13_canGo_24 : decode cX13_canGo 24 = .ok (.if_icmp .gt 16, 3) := by decide +kernel
theorem dX13_canGo_27 : decode cX13_canGo 27 = .ok (.iload 4, 2) := by decide +kernel
theorem dX13_canGo_29 : decode cX13_canGo 29 = .ok (.iload_n 2, 1) := by decide +kernel
theorem dX13_canGo_30 : decode cX13_canGo 30 = .ok (.iconst 4, 1) := by decide +kernel
theorem dX13_canGo_31 : decode cX13_canGo 31 = .ok (.idiv, 1) := by decide +kernel
theorem dX13_canGo_32 : decode cX13_canGo 32 = .ok (.ineg, 1) := by decide +kernel
theorem dX13_canGo_33 : decode cX13_canGo 33 = .ok (.if_icmp .lt 7, 3) := by decide +kernel
theorem dX13_canGo_36 : decode cX13_canGo 36 = .ok (.iconst 1, 1) := by decide +kernel
theorem dX13_canGo_37 : decode cX13_canGo 37 = .ok (.goto 4, 3) := by decide +kernel
theorem dX13_canGo_40 : decode cX13_canGo 40 = .ok (.iconst 0, 1) := by decide +kernel
theorem dX13_canGo_41 : decode cX13_canGo 41 = .ok (.ireturn, 1) := by decide +kernel
theorem dX13_canGo_42 : decode cX13_canGo 42 = .ok (.iload_n 0, 1) := by decide +kernel
theorem dX13_canGo_43 : decode cX13_canGo 43 = .ok (.iconst 1, 1) := by decide +kernel
theorem dX13_canGo_44 : decode cX13_canGo 44 = .ok (.if_icmp .ne 13, 3) := by decide +kernel
theorem dX13_canGo_47 : decode cX13_canGo 47 = .ok (.iload 4, 2) := by decide +kernel
theorem dX13_canGo_49 : decode cX13_canGo 49 = .ok (.bipush (-6), 2) := by decide +kernel
theorem dX13_canGo_51 : decode cX13_canGo 51 = .ok (.bipush 8, 2) := by decide +kernel
theorem dX13_canGo_53 : decode cX13_canGo 53 = .ok (.invokestatic 108, 3) := by decide +kernel
theorem dX13_canGo_56 : decode cX13_canGo 56 = .ok (.ireturn, 1) := by decide +kernel
theorem dX13_canGo_57 : decode cX13_canGo 57 = .ok (.iload_n 0, 1) := by decide +kernel
theorem dX13_canGo_58 : decode cX13_canGo 58 = .ok (.iconst 2, 1) := by decide +kernel
theorem dX13_canGo_59 : decode cX13_canGo 59 = .ok (.if_icmp .ne 26, 3) := by decide +kernel
theorem dX13_canGo_62 : decode cX13_canGo 62 = .ok (.iload_n 1, 1) := by decide +kernel
theorem dX13_canGo_63 : decode cX13_canGo 63 = .ok (.bipush 30, 2) := by decide +kernel
theorem dX13_canGo_65 : decode cX13_canGo 65 = .ok (.if_icmp .gt 18, 3) := by decide +kernel
theorem dX13_canGo_68 : decode cX13_canGo 68 = .ok (.iload 4, 2) := by decide +kernel
theorem dX13_canGo_70 : decode cX13_canGo 70 = .ok (.bipush (-3), 2) := by decide +kernel
theorem dX13_canGo_72 : decode cX13_canGo 72 = .ok (.iconst 5, 1) := by decide +kernel
theorem dX13_canGo_73 : decode cX13_canGo 73 = .ok (.invokestatic 108, 3) := by decide +kernel
theorem dX13_canGo_76 : decode cX13_canGo 76 = .ok (.ifCond .eq 7, 3) := by decide +kernel
theorem dX13_canGo_79 : decode cX13_canGo 79 = .ok (.iconst 1, 1) := by decide +kernel
theorem dX13_canGo_80 : decode cX13_canGo 80 = .ok (.goto 4, 3) := by decide +kernel
theorem dX13_canGo_83 : decode cX13_canGo 83 = .ok (.iconst 0, 1) := by decide +kernel
theorem dX13_canGo_84 : decode cX13_canGo 84 = .ok (.ireturn, 1) := by decide +kernel
theorem dX13_canGo_85 : decode cX13_canGo 85 = .ok (.iload_n 1, 1) := by decide +kernel
theorem dX13_canGo_86 : decode cX13_canGo 86 = .ok (.bipush 20, 2) := by decide +kernel
theorem dX13_canGo_88 : decode cX13_canGo 88 = .ok (.if_icmp .gt 14, 3) := by decide +kernel
theorem dX13_canGo_91 : decode cX13_canGo 91 = .ok (.iload 4, 2) := by decide +kernel
theorem dX13_canGo_93 : decode cX13_canGo 93 = .ok (.bipush 12, 2) := by decide +kernel
theorem dX13_canGo_95 : decode cX13_canGo 95 = .ok (.if_icmp .gt 7, 3) := by decide +kernel
theorem dX13_canGo_98 : decode cX13_canGo 98 = .ok (.iconst 1, 1) := by decide +kernel
theorem dX13_canGo_99 : decode cX13_canGo 99 = .ok (.goto 4, 3) := by decide +kernel
theorem dX13_canGo_102 : decode cX13_canGo 102 = .ok (.iconst 0, 1) := by decide +kernel
theorem dX13_canGo_103 : decode cX13_canGo 103 = .ok (.ireturn, 1) := by decide +kernel
set_option maxRecDepth 20000 in
theorem ggX13_canBy_X13_canGo : GoodIn wsX13_canBy wsX13_canGo := goodIn_r _ [5, 6, 7, 4, 8] rfl (by decide +kernel)
set_option maxRecDepth 20000 in
theorem gX13_canBy_X13_canGo : GoodIn wsX13_canBy (va_wsS RX13 440 yX13_canGo wsX13_canGo) := goodIn_app (goodIn_of _ (by decide +kernel)) ggX13_canBy_X13_canGo
theorem dX13_canBy_0 : decode cX13_canBy 0 = .ok (.aload_n 0, 1) := by decide +kernel
theorem dX13_canBy_1 : decode cX13_canBy 1 = .ok (.getfield 431, 3) := by decide +kernel
theorem dX13_canBy_4 : decode cX13_canBy 4 = .ok (.getfield 247, 3) := by decide +kernel
theorem dX13_canBy_7 : decode cX13_canBy 7 = .ok (.iload_n 1, 1) := by decide +kernel
theorem dX13_canBy_8 : decode cX13_canBy 8 = .ok (.iaload, 1) := by decide +kernel
theorem dX13_canBy_9 : decode cX13_canBy 9 = .ok (.aload_n 0, 1) := by decide +kernel
theorem dX13_canBy_10 : decode cX13_canBy 10 = .ok (.getfield 431, 3) := by decide +kernel
theorem dX13_canBy_13 : decode cX13_canBy 13 = .ok (.getfield 301, 3) := by decide +kernel
theorem dX13_canBy_16 : decode cX13_canBy 16 = .ok (.iload_n 2, 1) := by decide +kernel
theorem dX13_canBy_17 : decode cX13_canBy 17 = .ok (.iaload, 1) := by decide +kernel
theorem dX13_canBy_18 : decode cX13_canBy 18 = .ok (.aload_n 0, 1) := by decide +kernel
theorem dX13_canBy_19 : decode cX13_canBy 19 = .ok (.getfield 431, 3) := by decide +kernel
theorem dX13_canBy_22 : decode cX13_canBy 22 = .ok (.getfield 303, 3) := by decide +kernel
theorem dX13_canBy_25 : decode cX13_canBy 25 = .ok (.iload_n 2, 1) := by decide +kernel
theorem dX13_canBy_26 : decode cX13_canBy 26 = .ok (.iaload, 1) := by decide +kernel
theorem dX13_canBy_27 : decode cX13_canBy 27 = .ok (.aload_n 0, 1) := by decide +kernel
theorem dX13_canBy_28 : decode cX13_canBy 28 = .ok (.getfield 431, 3) := by decide +kernel
theorem dX13_canBy_31 : decode cX13_canBy 31 = .ok (.getfield 305, 3) := by decide +kernel
theorem dX13_canBy_34 : decode cX13_canBy 34 = .ok (.iload_n 2, 1) := by decide +kernel
theorem dX13_canBy_35 : decode cX13_canBy 35 = .ok (.iaload, 1) := by decide +kernel
theorem dX13_canBy_36 : decode cX13_canBy 36 = .ok (.iload_n 3, 1) := by decide +kernel
theorem dX13_canBy_37 : decode cX13_canBy 37 = .ok (.invokestatic 440, 3) := by decide +kernel
theorem dX13_canBy_40 : decode cX13_canBy 40 = .ok (.ireturn, 1) := by decide +kernel
set_option maxRecDepth 20000 in
theorem ggX13_refusesSlope_X13_isWay : GoodIn wsX13_refusesSlope wsX13_isWay := goodIn_r _ [5, 6, 14, 15, 16, 17, 18, 19, 20, 21, 22, 23, 24, 25, 26, 27, 28, 29, 30, 31, 32, 33, 34, 35, 36, 37, 38, 39, 40, 41, 42, 43, 44, 45, 46, 47, 48, 49, 50, 51, 52, 53, 54, 55, 56, 57, 58, 59, 60, 61, 62, 63, 64, 65, 66, 67, 68, 69, 70, 71, 72, 73, 74, 75, 76, 77, 78, 79, 80, 81, 82, 83, 84, 85, 86, 87, 88, 89, 90] rfl (by decide +kernel)
set_option maxRecDepth 20000 in
theorem gX13_refusesSlope_X13_isWay : GoodIn wsX13_refusesSlope (wsV RX13 444 RX13 yX13_isWay wsX13_isWay) := goodIn_app (goodIn_of _ (by decide +kernel)) ggX13_refusesSlope_X13_isWay
set_option maxRecDepth 20000 in
theorem ggX13_refusesSlope_X13_isStatue : GoodIn wsX13_refusesSlope wsX13_isStatue := goodIn_r _ [10, 6, 14, 15, 16, 17, 18, 19, 20, 21, 22, 23, 24, 25, 26, 27, 28, 29, 30, 31, 32, 33, 34, 35, 36, 37, 38, 39, 40, 41, 42, 43, 44, 45, 46, 47, 48, 49, 50, 51, 52, 53, 54, 55, 56, 57, 58, 59, 60, 61, 62, 63, 64, 65, 66, 67, 68, 69, 70, 71, 72, 73, 74, 75, 76, 77, 78, 79, 80, 81, 82, 83, 84, 85, 86, 87, 88, 89, 90] rfl (by decide +kernel)
set_option maxRecDepth 20000 in
theorem gX13_refusesSlope_X13_isStatue : GoodIn wsX13_refusesSlope (wsV RX13 447 RX13 yX13_isStatue wsX13_isStatue) := goodIn_app (goodIn_of _ (by decide +kernel)) ggX13_refusesSlope_X13_isStatue
set_option maxRecDepth 20000 in
theorem ggX13_refusesSlope_X13_in : GoodIn wsX13_refusesSlope wsX13_in := goodIn_r _ [13] rfl (by decide +kernel)
set_option maxRecDepth 20000 in
theorem gX13_refusesSlope_X13_in : GoodIn wsX13_refusesSlope (va_wsS RX13 108 yX13_in wsX13_in) := goodIn_app (goodIn_of _ (by decide +kernel)) ggX13_refusesSlope_X13_in
theorem dX13_refusesSlope_0 : decode cX13_refusesSlope 0 = .ok (.aload_n 0, 1) := by decide +kernel
theorem dX13_refusesSlope_1 : decode cX13_refusesSlope 1 = .ok (.iload_n 1, 1) := by decide +kernel
theorem dX13_refusesSlope_2 : decode cX13_refusesSlope 2 = .ok (.invokevirtual 444, 3) := by decide +kernel
theorem dX13_refusesSlope_5 : decode cX13_refusesSlope 5 = .ok (.ifCond .eq 11, 3) := by decide +kernel
theorem dX13_refusesSlope_8 : decode cX13_refusesSlope 8 = .ok (.aload_n 0, 1) := by decide +kernel
theorem dX13_refusesSlope_9 : decode cX13_refusesSlope 9 = .ok (.iload_n 2, 1) := by decide +kernel
theorem dX13_refusesSlope_10 : decode cX13_refusesSlope 10 = .ok (.invokevirtual 447, 3) := by decide +kernel
theorem dX13_refusesSlope_13 : decode cX13_refusesSlope 13 = .ok (.ifCond .ne 7, 3) := by decide +kernel
theorem dX13_refusesSlope_16 : decode cX13_refusesSlope 16 = .ok (.iconst 1, 1) := by decide +kernel
theorem dX13_refusesSlope_17 : decode cX13_refusesSlope 17 = .ok (.goto 19, 3) := by decide +kernel
theorem dX13_refusesSlope_20 : decode cX13_refusesSlope 20 = .ok (.iload_n 3, 1) := by decide +kernel
theorem dX13_refusesSlope_21 : decode cX13_refusesSlope 21 = .ok (.bipush (-20), 2) := by decide +kernel
theorem dX13_refusesSlope_23 : decode cX13_refusesSlope 23 = .ok (.bipush 20, 2) := by decide +kernel
theorem dX13_refusesSlope_25 : decode cX13_refusesSlope 25 = .ok (.invokestatic 108, 3) := by decide +kernel
theorem dX13_refusesSlope_28 : decode cX13_refusesSlope 28 = .ok (.ifCond .eq 7, 3) := by decide +kernel
theorem dX13_refusesSlope_31 : decode cX13_refusesSlope 31 = .ok (.iconst 0, 1) := by decide +kernel
theorem dX13_refusesSlope_32 : decode cX13_refusesSlope 32 = .ok (.goto 4, 3) := by decide +kernel
theorem dX13_refusesSlope_35 : decode cX13_refusesSlope 35 = .ok (.iconst 2, 1) := by decide +kernel
theorem dX13_refusesSlope_36 : decode cX13_refusesSlope 36 = .ok (.ireturn, 1) := by decide +kernel
set_option maxRecDepth 20000 in
theorem ggX13_can_X13_refusesSlope : GoodIn wsX13_can wsX13_refusesSlope := goodIn_r _ [6, 7, 8, 9, 5, 10, 11, 12, 13, 14, 15, 16, 17, 18, 36, 37, 38, 39, 40, 41, 42, 43, 44, 45, 46, 47, 48, 49, 50, 51, 52, 53, 54, 55, 56, 57, 58, 59, 60, 61, 62, 63, 64, 65, 66, 67, 68, 69, 70, 71, 72, 73, 74, 75, 76, 77, 78, 79, 80, 81, 82, 83, 84, 85, 86, 87, 88, 89, 90, 91, 92, 93, 94, 95, 96, 97, 98, 99, 100, 101, 102, 103, 104, 105, 106, 107, 108, 109, 110, 111, 112] rfl (by decide +kernel)
set_option maxRecDepth 20000 in
theorem gX13_can_X13_refusesSlope : GoodIn wsX13_can (wsV RX13 450 RX13 yX13_refusesSlope wsX13_refusesSlope) := goodIn_app (goodIn_of _ (by decide +kernel)) ggX13_can_X13_refusesSlope
set_option maxRecDepth 20000 in
theorem ggX13_can_X13_refused : GoodIn wsX13_can wsX13_refused := goodIn_r _ [22, 23, 24, 36, 37, 38, 39, 40, 41, 42, 43, 44, 45, 46, 47, 48, 49, 50, 51, 52, 53, 54, 55, 56, 57, 58, 59, 60, 61, 62, 63, 64] rfl (by decide +kernel)
set_option maxRecDepth 20000 in
theorem gX13_can_X13_refused : GoodIn wsX13_can (wsV RX13 36 RX13 yX13_refused wsX13_refused) := goodIn_app (goodIn_of _ (by decide +kernel)) ggX13_can_X13_refused
set_option maxRecDepth 20000 in
theorem ggX13_can_X13_canBy : GoodIn wsX13_can wsX13_canBy := goodIn_r _ [28, 11, 29, 30, 5, 31, 16, 17, 18, 36, 37, 38, 39, 40, 41, 42, 43, 44, 45, 46, 47, 48, 49, 50, 51, 52, 53, 54, 55, 56, 57, 58, 59, 60, 61, 62, 63, 64, 65, 66, 67, 68, 69, 70, 71, 72, 73, 74, 75, 76, 77, 78, 79, 80, 81, 82, 83, 84, 85, 86, 87, 88, 89, 90, 91, 92, 93, 94, 95, 96, 97, 98, 99, 100, 101, 102, 103, 104, 105, 106, 107, 108, 109, 110, 111, 112] rfl (by decide +kernel)
set_option maxRecDepth 20000 in
theorem gX13_can_X13_canBy : GoodIn wsX13_can (wsV RX13 454 RX13 yX13_canBy wsX13_canBy) := goodIn_app (goodIn_of _ (by decide +kernel)) ggX13_can_X13_canBy
set_option maxRecDepth 20000 in
theorem ggX13_can_X13_done : GoodIn wsX13_can wsX13_done := goodIn_r _ [35, 23, 24, 36, 37, 38, 39, 40, 41, 42, 43, 44, 45, 46, 47, 48, 49, 50, 51, 52, 53, 54, 55, 56, 57, 58, 59, 60, 61, 62, 63, 64] rfl (by decide +kernel)
set_option maxRecDepth 20000 in
theorem gX13_can_X13_done : GoodIn wsX13_can (wsV RX13 40 RX13 yX13_done wsX13_done) := goodIn_app (goodIn_of _ (by decide +kernel)) ggX13_can_X13_done
theorem dX13_can_0 : decode cX13_can 0 = .ok (.aload_n 0, 1) := by decide +kernel
theorem dX13_can_1 : decode cX13_can 1 = .ok (.iconst 0, 1) := by decide +kernel
theorem dX13_can_2 : decode cX13_can 2 = .ok (.putfield 30, 3) := by decide +kernel
theorem dX13_can_5 : decode cX13_can 5 = .ok (.aload_n 0, 1) := by decide +kernel
theorem dX13_can_6 : decode cX13_can 6 = .ok (.iload_n 1, 1) := by decide +kernel
theorem dX13_can_7 : decode cX13_can 7 = .ok (.iload_n 2, 1) := by decide +kernel
theorem dX13_can_8 : decode cX13_can 8 = .ok (.iload_n 3, 1) := by decide +kernel
theorem dX13_can_9 : decode cX13_can 9 = .ok (.invokevirtual 450, 3) := by decide +kernel
theorem dX13_can_12 : decode cX13_can 12 = .ok (.istore 4, 2) := by decide +kernel
theorem dX13_can_14 : decode cX13_can 14 = .ok (.iload 4, 2) := by decide +kernel
theorem dX13_can_16 : decode cX13_can 16 = .ok (.ifCond .le 12, 3) := by decide +kernel
theorem dX13_can_19 : decode cX13_can 19 = .ok (.aload_n 0, 1) := by decide +kernel
theorem dX13_can_20 : decode cX13_can 20 = .ok (.iload 4, 2) := by decide +kernel
theorem dX13_can_22 : decode cX13_can 22 = .ok (.invokevirtual 36, 3) := by decide +kernel
theorem dX13_can_25 : decode cX13_can 25 = .ok (.goto 22, 3) := by decide +kernel
theorem dX13_can_28 : decode cX13_can 28 = .ok (.aload_n 0, 1) := by decide +kernel
theorem dX13_can_29 : decode cX13_can 29 = .ok (.aload_n 0, 1) := by decide +kernel
theorem dX13_can_30 : decode cX13_can 30 = .ok (.iload_n 1, 1) := by decide +kernel
theorem dX13_can_31 : decode cX13_can 31 = .ok (.iload_n 2, 1) := by decide +kernel
theorem dX13_can_32 : decode cX13_can 32 = .ok (.iload_n 3, 1) := by decide +kernel
theorem dX13_can_33 : decode cX13_can 33 = .ok (.invokevirtual 454, 3) := by decide +kernel
theorem dX13_can_36 : decode cX13_can 36 = .ok (.ifCond .eq 7, 3) := by decide +kernel
theorem dX13_can_39 : decode cX13_can 39 = .ok (.iconst 1, 1) := by decide +kernel
theorem dX13_can_40 : decode cX13_can 40 = .ok (.goto 4, 3) := by decide +kernel
theorem dX13_can_43 : decode cX13_can 43 = .ok (.iconst 0, 1) := by decide +kernel
theorem dX13_can_44 : decode cX13_can 44 = .ok (.invokevirtual 40, 3) := by decide +kernel
theorem dX13_can_47 : decode cX13_can 47 = .ok (.ireturn, 1) := by decide +kernel
set_option maxRecDepth 20000 in
theorem ggX13_canOn_X13_isWay : GoodIn wsX13_canOn wsX13_isWay := goodIn_r _ [7, 2, 42, 43, 44, 45, 46, 47, 48, 49, 50, 51, 52, 53, 54, 55, 56, 57, 58, 59, 60, 61, 62, 63, 64, 65, 66, 67, 68, 69, 70, 71, 72, 73, 74, 75, 76, 77, 78, 79, 80, 81, 82, 83, 84, 85, 86, 87, 88, 89, 90, 91, 92, 93, 94, 95, 96, 97, 98, 99, 100, 101, 102, 103, 104, 105, 106, 107, 108, 109, 110, 111, 112, 113, 114, 115, 116, 117, 118] rfl (by decide +kernel)
set_option maxRecDepth 20000 in
theorem gX13_canOn_X13_isWay : GoodIn wsX13_canOn (wsV RX13 444 RX13 yX13_isWay wsX13_isWay) := goodIn_app (goodIn_of _ (by decide +kernel)) ggX13_canOn_X13_isWay
set_option maxRecDepth 20000 in
theorem ggX13_canOn_X13_isStatue : GoodIn wsX13_canOn wsX13_isStatue := goodIn_r _ [11, 2, 42, 43, 44, 45, 46, 47, 48, 49, 50, 51, 52, 53, 54, 55, 56, 57, 58, 59, 60, 61, 62, 63, 64, 65, 66, 67, 68, 69, 70, 71, 72, 73, 74, 75, 76, 77, 78, 79, 80, 81, 82, 83, 84, 85, 86, 87, 88, 89, 90, 91, 92, 93, 94, 95, 96, 97, 98, 99, 100, 101, 102, 103, 104, 105, 106, 107, 108, 109, 110, 111, 112, 113, 114, 115, 116, 117, 118] rfl (by decide +kernel)
set_option maxRecDepth 20000 in
theorem gX13_canOn_X13_isStatue : GoodIn wsX13_canOn (wsV RX13 447 RX13 yX13_isStatue wsX13_isStatue) := goodIn_app (goodIn_of _ (by decide +kernel)) ggX13_canOn_X13_isStatue
set_option maxRecDepth 20000 in
theorem ggX13_canOn_X13_isRoad : GoodIn wsX13_canOn wsX13_isRoad := goodIn_r _ [15, 2, 42, 43, 44, 45, 46, 47, 48, 49, 50, 51, 52, 53, 54, 55, 56, 57, 58, 59, 60, 61, 62, 63, 64, 65, 66, 67, 68, 69, 70, 71, 72, 73, 74, 75, 76, 77, 78, 79, 80, 81, 82, 83, 84, 85, 86, 87, 88, 89, 90, 91, 92, 93, 94, 95, 96, 97, 98, 99, 100, 101, 102, 103, 104, 105, 106, 107, 108, 109, 110, 111, 112, 113, 114, 115, 116, 117, 118] rfl (by decide +kernel)
set_option maxRecDepth 20000 in
theorem gX13_canOn_X13_isRoad : GoodIn wsX13_canOn (wsV RX13 457 RX13 yX13_isRoad wsX13_isRoad) := goodIn_app (goodIn_of _ (by decide +kernel)) ggX13_canOn_X13_isRoad
set_option maxRecDepth 20000 in
theorem ggX13_canOn_X13_refused : GoodIn wsX13_canOn wsX13_refused := goodIn_r _ [19, 20, 21, 42, 43, 44, 45, 46, 47, 48, 49, 50, 51, 52, 53, 54, 55, 56, 57, 58, 59, 60, 61, 62, 63, 64, 65, 66, 67, 68, 69, 70] rfl (by decide +kernel)
set_option maxRecDepth 20000 in
theorem gX13_canOn_X13_refused : GoodIn wsX13_canOn (wsV RX13 36 RX13 yX13_refused wsX13_refused) := goodIn_app (goodIn_of _ (by decide +kernel)) ggX13_canOn_X13_refused
set_option maxRecDepth 20000 in
theorem ggX13_canOn_X12_slopeAt : GoodIn wsX13_canOn wsX12_slopeAt := goodIn_r _ [26, 27, 71, 72, 73, 74, 75, 76, 77, 78, 79, 80, 81, 82, 83, 84, 85, 86, 87, 88, 89, 90, 91, 92, 93, 94, 95, 96, 97, 98, 99, 100, 101, 102, 103, 104, 105, 106, 107, 108, 109, 110, 111, 112, 113, 114, 115, 116, 117, 118] rfl (by decide +kernel)
set_option maxRecDepth 20000 in
theorem gX13_canOn_X12_slopeAt : GoodIn wsX13_canOn (wsV RX13 460 RX12 yX12_slopeAt wsX12_slopeAt) := goodIn_app (goodIn_of _ (by decide +kernel)) ggX13_canOn_X12_slopeAt
set_option maxRecDepth 20000 in
theorem ggX13_canOn_X13_canBy : GoodIn wsX13_canOn wsX13_canBy := goodIn_r _ [31, 2, 32, 33, 6, 34, 35, 36, 37, 42, 43, 44, 45, 46, 47, 48, 49, 50, 51, 52, 53, 54, 55, 56, 57, 58, 59, 60, 61, 62, 63, 64, 65, 66, 67, 68, 69, 70, 71, 72, 73, 74, 75, 76, 77, 78, 79, 80, 81, 82, 83, 84, 85, 86, 87, 88, 89, 90, 91, 92, 93, 94, 95, 96, 97, 98, 99, 100, 101, 102, 103, 104, 105, 106, 107, 108, 109, 110, 111, 112, 113, 114, 115, 116, 117, 118] rfl (by decide +kernel)
set_option maxRecDepth 20000 in
theorem gX13_canOn_X13_canBy : GoodIn wsX13_canOn (wsV RX13 454 RX13 yX13_canBy wsX13_canBy) := goodIn_app (goodIn_of _ (by decide +kernel)) ggX13_canOn_X13_canBy
set_option maxRecDepth 20000 in
theorem ggX13_canOn_X13_done : GoodIn wsX13_canOn wsX13_done := goodIn_r _ [41, 20, 21, 42, 43, 44, 45, 46, 47, 48, 49, 50, 51, 52, 53, 54, 55, 56, 57, 58, 59, 60, 61, 62, 63, 64, 65, 66, 67, 68, 69, 70] rfl (by decide +kernel)
set_option maxRecDepth 20000 in
theorem gX13_canOn_X13_done : GoodIn wsX13_canOn (wsV RX13 40 RX13 yX13_done wsX13_done) := goodIn_app (goodIn_of _ (by decide +kernel)) ggX13_canOn_X13_done
theorem dX13_canOn_0 : decode cX13_canOn 0 = .ok (.aload_n 0, 1) := by decide +kernel
theorem dX13_canOn_1 : decode cX13_canOn 1 = .ok (.iconst 0, 1) := by decide +kernel
theorem dX13_canOn_2 : decode cX13_canOn 2 = .ok (.putfield 30, 3) := by decide +kernel
theorem dX13_canOn_5 : decode cX13_canOn 5 = .ok (.aload_n 0, 1) := by decide +kernel
theorem dX13_canOn_6 : decode cX13_canOn 6 = .ok (.iload_n 1, 1) := by decide +kernel
theorem dX13_canOn_7 : decode cX13_canOn 7 = .ok (.invokevirtual 444, 3) := by decide +kernel
theorem dX13_canOn_10 : decode cX13_canOn 10 = .ok (.ifCond .eq 19, 3) := by decide +kernel
theorem dX13_canOn_13 : decode cX13_canOn 13 = .ok (.aload_n 0, 1) := by decide +kernel
theorem dX13_canOn_14 : decode cX13_canOn 14 = .ok (.iload_n 2, 1) := by decide +kernel
theorem dX13_canOn_15 : decode cX13_canOn 15 = .ok (.invokevirtual 447, 3) := by decide +kernel
theorem dX13_canOn_18 : decode cX13_canOn 18 = .ok (.ifCond .eq 11, 3) := by decide +kernel
theorem dX13_canOn_21 : decode cX13_canOn 21 = .ok (.aload_n 0, 1) := by decide +kernel
theorem dX13_canOn_22 : decode cX13_canOn 22 = .ok (.iload_n 3, 1) := by decide +kernel
theorem dX13_canOn_23 : decode cX13_canOn 23 = .ok (.invokevirtual 457, 3) := by decide +kernel
theorem dX13_canOn_26 : decode cX13_canOn 26 = .ok (.ifCond .ne 9, 3) := by decide +kernel
theorem dX13_canOn_29 : decode cX13_canOn 29 = .ok (.aload_n 0, 1) := by decide +kernel
theorem dX13_canOn_30 : decode cX13_canOn 30 = .ok (.iconst 1, 1) := by decide +kernel
theorem dX13_canOn_31 : decode cX13_canOn 31 = .ok (.invokevirtual 36, 3) := by decide +kernel
theorem dX13_canOn_34 : decode cX13_canOn 34 = .ok (.ireturn, 1) := by decide +kernel
theorem dX13_canOn_35 : decode cX13_canOn 35 = .ok (.iconst 0, 1) := by decide +kernel
theorem dX13_canOn_36 : decode cX13_canOn 36 = .ok (.istore 4, 2) := by decide +kernel
theorem dX13_canOn_38 : decode cX13_canOn 38 = .ok (.iconst 0, 1) := by decide +kernel
theorem dX13_canOn_39 : decode cX13_canOn 39 = .ok (.istore 5, 2) := by decide +kernel
theorem dX13_canOn_41 : decode cX13_canOn 41 = .ok (.iload 5, 2) := by decide +kernel
theorem dX13_canOn_43 : decode cX13_canOn 43 = .ok (.aload_n 0, 1) := by decide +kernel
theorem dX13_canOn_44 : decode cX13_canOn 44 = .ok (.getfield 431, 3) := by decide +kernel
theorem dX13_canOn_47 : decode cX13_canOn 47 = .ok (.getfield 266, 3) := by decide +kernel
theorem dX13_canOn_50 : decode cX13_canOn 50 = .ok (.iload_n 3, 1) := by decide +kernel
theorem dX13_canOn_51 : decode cX13_canOn 51 = .ok (.iaload, 1) := by decide +kernel
theorem dX13_canOn_52 : decode cX13_canOn 52 = .ok (.if_icmp .ge 41, 3) := by decide +kernel
theorem dX13_canOn_55 : decode cX13_canOn 55 = .ok (.iload 4, 2) := by decide +kernel
theorem dX13_canOn_57 : decode cX13_canOn 57 = .ok (.aload_n 0, 1) := by decide +kernel
theorem dX13_canOn_58 : decode cX13_canOn 58 = .ok (.iload_n 1, 1) := by decide +kernel
theorem dX13_canOn_59 : decode cX13_canOn 59 = .ok (.iload_n 2, 1) := by decide +kernel
theorem dX13_canOn_60 : decode cX13_canOn 60 = .ok (.aload_n 0, 1) := by decide +kernel
theorem dX13_canOn_61 : decode cX13_canOn 61 = .ok (.getfield 431, 3) := by decide +kernel
theorem dX13_canOn_64 : decode cX13_canOn 64 = .ok (.iload_n 3, 1) := by decide +kernel
theorem dX13_canOn_65 : decode cX13_canOn 65 = .ok (.iload 5, 2) := by decide +kernel
theorem dX13_canOn_67 : decode cX13_canOn 67 = .ok (.invokevirtual 460, 3) := by decide +kernel
theorem dX13_canOn_70 : decode cX13_canOn 70 = .ok (.invokevirtual 454, 3) := by decide +kernel
theorem dX13_canOn_73 : decode cX13_canOn 73 = .ok (.ifCond .eq 10, 3) := by decide +kernel
theorem dX13_canOn_76 : decode cX13_canOn 76 = .ok (.iconst 1, 1) := by decide +kernel
theorem dX13_canOn_77 : decode cX13_canOn 77 = .ok (.iload 5, 2) := by decide +kernel
theorem dX13_canOn_79 : decode cX13_canOn 79 = .ok (.ishl, 1) := by decide +kernel
theorem dX13_canOn_80 : decode cX13_canOn 80 = .ok (.goto 4, 3) := by decide +kernel
theorem dX13_canOn_83 : decode cX13_canOn 83 = .ok (.iconst 0, 1) := by decide +kernel
theorem dX13_canOn_84 : decode cX13_canOn 84 = .ok (.ior, 1) := by decide +kernel
theorem dX13_canOn_85 : decode cX13_canOn 85 = .ok (.istore 4, 2) := by decide +kernel
theorem dX13_canOn_87 : decode cX13_canOn 87 = .ok (.iinc 5 1, 3) := by decide +kernel
theorem dX13_canOn_90 : decode cX13_canOn 90 = .ok (.goto (-49), 3) := by decide +kernel
theorem dX13_canOn_93 : decode cX13_canOn 93 = .ok (.aload_n 0, 1) := by decide +kernel
theorem dX13_canOn_94 : decode cX13_canOn 94 = .ok (.iload 4, 2) := by decide +kernel
theorem dX13_canOn_96 : decode cX13_canOn 96 = .ok (.invokevirtual 40, 3) := by decide +kernel
theorem dX13_canOn_99 : decode cX13_canOn 99 = .ok (.ireturn, 1) := by decide +kernel
set_option maxRecDepth 20000 in
theorem ggX13_steepest_X13_isWay : GoodIn wsX13_steepest wsX13_isWay := goodIn_r _ [6, 7, 36, 37, 38, 39, 40, 41, 42, 43, 44, 45, 46, 47, 48, 49, 50, 51, 52, 53, 54, 55, 56, 57, 58, 59, 60, 61, 62, 63, 64, 65, 66, 67, 68, 69, 70, 71, 72, 73, 74, 75, 76, 77, 78, 79, 80, 81, 82, 83, 84, 85, 86, 87, 88, 89, 90, 91, 92, 93, 94, 95, 96, 97, 98, 99, 100, 101, 102, 103, 104, 105, 106, 107, 108, 109, 110, 111, 112] rfl (by decide +kernel)
set_option maxRecDepth 20000 in
theorem gX13_steepest_X13_isWay : GoodIn wsX13_steepest (wsV RX13 444 RX13 yX13_isWay wsX13_isWay) := goodIn_app (goodIn_of _ (by decide +kernel)) ggX13_steepest_X13_isWay
set_option maxRecDepth 20000 in
theorem ggX13_steepest_X13_isStatue : GoodIn wsX13_steepest wsX13_isStatue := goodIn_r _ [11, 7, 36, 37, 38, 39, 40, 41, 42, 43, 44, 45, 46, 47, 48, 49, 50, 51, 52, 53, 54, 55, 56, 57, 58, 59, 60, 61, 62, 63, 64, 65, 66, 67, 68, 69, 70, 71, 72, 73, 74, 75, 76, 77, 78, 79, 80, 81, 82, 83, 84, 85, 86, 87, 88, 89, 90, 91, 92, 93, 94, 95, 96, 97, 98, 99, 100, 101, 102, 103, 104, 105, 106, 107, 108, 109, 110, 111, 112] rfl (by decide +kernel)
set_option maxRecDepth 20000 in
theorem gX13_steepest_X13_isStatue : GoodIn wsX13_steepest (wsV RX13 447 RX13 yX13_isStatue wsX13_isStatue) := goodIn_app (goodIn_of _ (by decide +kernel)) ggX13_steepest_X13_isStatue
set_option maxRecDepth 20000 in
theorem ggX13_steepest_X13_lost : GoodIn wsX13_steepest wsX13_lost := goodIn_r _ [15, 16, 17, 18, 5, 19, 20, 21, 36, 37, 38, 39, 40, 41, 42, 43, 44, 45, 46, 47, 48, 49, 50, 51, 52, 53, 54, 55, 56, 57, 58, 59, 60, 61, 62, 63, 64] rfl (by decide +kernel)
set_option maxRecDepth 20000 in
theorem gX13_steepest_X13_lost : GoodIn wsX13_steepest (wsV RX13 463 RX13 yX13_lost wsX13_lost) := goodIn_app (goodIn_of _ (by decide +kernel)) ggX13_steepest_X13_lost
set_option maxRecDepth 20000 in
theorem ggX13_steepest_X13_canBy : GoodIn wsX13_steepest wsX13_canBy := goodIn_r _ [25, 7, 26, 27, 5, 28, 29, 30, 31, 36, 37, 38, 39, 40, 41, 42, 43, 44, 45, 46, 47, 48, 49, 50, 51, 52, 53, 54, 55, 56, 57, 58, 59, 60, 61, 62, 63, 64, 65, 66, 67, 68, 69, 70, 71, 72, 73, 74, 75, 76, 77, 78, 79, 80, 81, 82, 83, 84, 85, 86, 87, 88, 89, 90, 91, 92, 93, 94, 95, 96, 97, 98, 99, 100, 101, 102, 103, 104, 105, 106, 107, 108, 109, 110, 111, 112] rfl (by decide +kernel)
set_option maxRecDepth 20000 in
theorem gX13_steepest_X13_canBy : GoodIn wsX13_steepest (wsV RX13 454 RX13 yX13_canBy wsX13_canBy) := goodIn_app (goodIn_of _ (by decide +kernel)) ggX13_steepest_X13_canBy
set_option maxRecDepth 20000 in
theorem ggX13_steepest_X13_done : GoodIn wsX13_steepest wsX13_done := goodIn_r _ [35, 20, 21, 36, 37, 38, 39, 40, 41, 42, 43, 44, 45, 46, 47, 48, 49, 50, 51, 52, 53, 54, 55, 56, 57, 58, 59, 60, 61, 62, 63, 64] rfl (by decide +kernel)
set_option maxRecDepth 20000 in
theorem gX13_steepest_X13_done : GoodIn wsX13_steepest (wsV RX13 40 RX13 yX13_done wsX13_done) := goodIn_app (goodIn_of _ (by decide +kernel)) ggX13_steepest_X13_done
theorem dX13_steepest_0 : decode cX13_steepest 0 = .ok (.aload_n 0, 1) := by decide +kernel
theorem dX13_steepest_1 : decode cX13_steepest 1 = .ok (.iconst 0, 1) := by decide +kernel
theorem dX13_steepest_2 : decode cX13_steepest 2 = .ok (.putfield 30, 3) := by decide +kernel
theorem dX13_steepest_5 : decode cX13_steepest 5 = .ok (.aload_n 0, 1) := by decide +kernel
theorem dX13_steepest_6 : decode cX13_steepest 6 = .ok (.iload_n 1, 1) := by decide +kernel
theorem dX13_steepest_7 : decode cX13_steepest 7 = .ok (.invokevirtual 444, 3) := by decide +kernel
theorem dX13_steepest_10 : decode cX13_steepest 10 = .ok (.ifCond .eq 11, 3) := by decide +kernel
theorem dX13_steepest_13 : decode cX13_steepest 13 = .ok (.aload_n 0, 1) := by decide +kernel
theorem dX13_steepest_14 : decode cX13_steepest 14 = .ok (.iload_n 2, 1) := by decide +kernel
theorem dX13_steepest_15 : decode cX13_steepest 15 = .ok (.invokevirtual 447, 3) := by decide +kernel
theorem dX13_steepest_18 : decode cX13_steepest 18 = .ok (.ifCond .ne 9, 3) := by decide +kernel
theorem dX13_steepest_21 : decode cX13_steepest 21 = .ok (.aload_n 0, 1) := by decide +kernel
theorem dX13_steepest_22 : decode cX13_steepest 22 = .ok (.iconst 1, 1) := by decide +kernel
theorem dX13_steepest_23 : decode cX13_steepest 23 = .ok (.invokevirtual 463, 3) := by decide +kernel
theorem dX13_steepest_26 : decode cX13_steepest 26 = .ok (.ireturn, 1) := by decide +kernel
theorem dX13_steepest_27 : decode cX13_steepest 27 = .ok (.iconst 0, 1) := by decide +kernel
theorem dX13_steepest_28 : decode cX13_steepest 28 = .ok (.istore 4, 2) := by decide +kernel
theorem dX13_steepest_30 : decode cX13_steepest 30 = .ok (.iload 4, 2) := by decide +kernel
theorem dX13_steepest_32 : decode cX13_steepest 32 = .ok (.bipush 40, 2) := by decide +kernel
theorem dX13_steepest_34 : decode cX13_steepest 34 = .ok (.if_icmp .gt 46, 3) := by decide +kernel
theorem dX13_steepest_37 : decode cX13_steepest 37 = .ok (.iload_n 3, 1) := by decide +kernel
theorem dX13_steepest_38 : decode cX13_steepest 38 = .ok (.ifCond .eq 11, 3) := by decide +kernel
theorem dX13_steepest_41 : decode cX13_steepest 41 = .ok (.iload 4, 2) := by decide +kernel
theorem dX13_steepest_43 : decode cX13_steepest 43 = .ok (.bipush 20, 2) := by decide +kernel
theorem dX13_steepest_45 : decode cX13_steepest 45 = .ok (.isub, 1) := by decide +kernel
theorem dX13_steepest_46 : decode cX13_steepest 46 = .ok (.goto 8, 3) := by decide +kernel
theorem dX13_steepest_49 : decode cX13_steepest 49 = .ok (.bipush 20, 2) := by decide +kernel
theorem dX13_steepest_51 : decode cX13_steepest 51 = .ok (.iload 4, 2) := by decide +kernel
theorem dX13_steepest_53 : decode cX13_steepest 53 = .ok (.isub, 1) := by decide +kernel
theorem dX13_steepest_54 : decode cX13_steepest 54 = .ok (.istore 5, 2) := by decide +kernel
theorem dX13_steepest_56 : decode cX13_steepest 56 = .ok (.aload_n 0, 1) := by decide +kernel
theorem dX13_steepest_57 : decode cX13_steepest 57 = .ok (.iload_n 1, 1) := by decide +kernel
theorem dX13_steepest_58 : decode cX13_steepest 58 = .ok (.iload_n 2, 1) := by decide +kernel
theorem dX13_steepest_59 : decode cX13_steepest 59 = .ok (.iload 5, 2) := by decide +kernel
theorem dX13_steepest_61 : decode cX13_steepest 61 = .ok (.invokevirtual 454, 3) := by decide +kernel
theorem dX13_steepest_64 : decode cX13_steepest 64 = .ok (.ifCond .eq 10, 3) := by decide +kernel
theorem dX13_steepest_67 : decode cX13_steepest 67 = .ok (.aload_n 0, 1) := by decide +kernel
theorem dX13_steepest_68 : decode cX13_steepest 68 = .ok (.iload 5, 2) := by decide +kernel
theorem dX13_steepest_70 : decode cX13_steepest 70 = .ok (.invokevirtual 40, 3) := by decide +kernel
theorem dX13_steepest_73 : decode cX13_steepest 73 = .ok (.ireturn, 1) := by decide +kernel
theorem dX13_steepest_74 : decode cX13_steepest 74 = .ok (.iinc 4 1, 3) := by decide +kernel
theorem dX13_steepest_77 : decode cX13_steepest 77 = .ok (.goto (-47), 3) := by decide +kernel
theorem dX13_steepest_80 : decode cX13_steepest 80 = .ok (.aload_n 0, 1) := by decide +kernel
theorem dX13_steepest_81 : decode cX13_steepest 81 = .ok (.bipush (-100), 2) := by decide +kernel
theorem dX13_steepest_83 : decode cX13_steepest 83 = .ok (.invokevirtual 40, 3) := by decide +kernel
theorem dX13_steepest_86 : decode cX13_steepest 86 = .ok (.ireturn, 1) := by decide +kernel
set_option maxRecDepth 20000 in
theorem ggX13_needBy_X13_up : GoodIn wsX13_needBy wsX13_up := goodIn_r _ [5] rfl (by decide +kernel)
set_option maxRecDepth 20000 in
theorem gX13_needBy_X13_up : GoodIn wsX13_needBy (va_wsS RX13 466 yX13_up wsX13_up) := goodIn_app (goodIn_of _ (by decide +kernel)) ggX13_needBy_X13_up
theorem dX13_needBy_0 : decode cX13_needBy 0 = .ok (.aload_n 0, 1) := by decide +kernel
theorem dX13_needBy_1 : decode cX13_needBy 1 = .ok (.getfield 431, 3) := by decide +kernel
theorem dX13_needBy_4 : decode cX13_needBy 4 = .ok (.getfield 247, 3) := by decide +kernel
theorem dX13_needBy_7 : decode cX13_needBy 7 = .ok (.iload_n 1, 1) := by decide +kernel
theorem dX13_needBy_8 : decode cX13_needBy 8 = .ok (.iaload, 1) := by decide +kernel
theorem dX13_needBy_9 : decode cX13_needBy 9 = .ok (.istore 4, 2) := by decide +kernel
theorem dX13_needBy_11 : decode cX13_needBy 11 = .ok (.iload 4, 2) := by decide +kernel
theorem dX13_needBy_13 : decode cX13_needBy 13 = .ok (.iconst 1, 1) := by decide +kernel
theorem dX13_needBy_14 : decode cX13_needBy 14 = .ok (.if_icmp .ne 7, 3) := by decide +kernel
theorem dX13_needBy_17 : decode cX13_needBy 17 = .ok (.iconst 2, 1) := by decide +kernel
theorem dX13_needBy_18 : decode cX13_needBy 18 = .ok (.goto 14, 3) := by decide +kernel
theorem dX13_needBy_21 : decode cX13_needBy 21 = .ok (.iload 4, 2) := by decide +kernel
theorem dX13_needBy_23 : decode cX13_needBy 23 = .ok (.iconst 3, 1) := by decide +kernel
theorem dX13_needBy_24 : decode cX13_needBy 24 = .ok (.if_icmp .ne 7, 3) := by decide +kernel
theorem dX13_needBy_27 : decode cX13_needBy 27 = .ok (.iconst 3, 1) := by decide +kernel
theorem dX13_needBy_28 : decode cX13_needBy 28 = .ok (.goto 4, 3) := by decide +kernel
theorem dX13_needBy_31 : decode cX13_needBy 31 = .ok (.iconst 1, 1) := by decide +kernel
theorem dX13_needBy_32 : decode cX13_needBy 32 = .ok (.istore 5, 2) := by decide +kernel
theorem dX13_needBy_34 : decode cX13_needBy 34 = .ok (.iload_n 2, 1) := by decide +kernel
theorem dX13_needBy_35 : decode cX13_needBy 35 = .ok (.bipush 10, 2) := by decide +kernel
theorem dX13_needBy_37 : decode cX13_needBy 37 = .ok (.imul, 1) := by decide +kernel
theorem dX13_needBy_38 : decode cX13_needBy 38 = .ok (.iload 5, 2) := by decide +kernel
theorem dX13_needBy_40 : decode cX13_needBy 40 = .ok (.imul, 1) := by decide +kernel
theorem dX13_needBy_41 : decode cX13_needBy 41 = .ok (.bipush 100, 2) := by decide +kernel
theorem dX13_needBy_43 : decode cX13_needBy 43 = .ok (.iload_n 3, 1) := by decide +kernel
theorem dX13_needBy_44 : decode cX13_needBy 44 = .ok (.ifCond .le 9, 3) := by decide +kernel
theorem dX13_needBy_47 : decode cX13_needBy 47 = .ok (.iconst 5, 1) := by decide +kernel
theorem dX13_needBy_48 : decode cX13_needBy 48 = .ok (.iload_n 3, 1) := by decide +kernel
theorem dX13_needBy_49 : decode cX13_needBy 49 = .ok (.imul, 1) := by decide +kernel
theorem dX13_needBy_50 : decode cX13_needBy 50 = .ok (.goto 4, 3) := by decide +kernel
theorem dX13_needBy_53 : decode cX13_needBy 53 = .ok (.iconst 0, 1) := by decide +kernel
theorem dX13_needBy_54 : decode cX13_needBy 54 = .ok (.iadd, 1) := by decide +kernel
theorem dX13_needBy_55 : decode cX13_needBy 55 = .ok (.imul, 1) := by decide +kernel
theorem dX13_needBy_56 : decode cX13_needBy 56 = .ok (.bipush 100, 2) := by decide +kernel
theorem dX13_needBy_58 : decode cX13_needBy 58 = .ok (.aload_n 0, 1) := by decide +kernel
theorem dX13_needBy_59 : decode cX13_needBy 59 = .ok (.getfield 431, 3) := by decide +kernel
theorem dX13_needBy_62 : decode cX13_needBy 62 = .ok (.getfield 252, 3) := by decide +kernel
theorem dX13_needBy_65 : decode cX13_needBy 65 = .ok (.iload_n 1, 1) := by decide +kernel
theorem dX13_needBy_66 : decode cX13_needBy 66 = .ok (.iaload, 1) := by decide +kernel
theorem dX13_needBy_67 : decode cX13_needBy 67 = .ok (.imul, 1) := by decide +kernel
theorem dX13_needBy_68 : decode cX13_needBy 68 = .ok (.invokestatic 466, 3) := by decide +kernel
theorem dX13_needBy_71 : decode cX13_needBy 71 = .ok (.ireturn, 1) := by decide +kernel
set_option maxRecDepth 20000 in
theorem ggX13_need_X13_refusesSlope : GoodIn wsX13_need wsX13_refusesSlope := goodIn_r _ [7, 8, 9, 10, 6, 11, 2, 12, 13, 14, 15, 16, 17, 18, 36, 37, 38, 39, 40, 41, 42, 43, 44, 45, 46, 47, 48, 49, 50, 51, 52, 53, 54, 55, 56, 57, 58, 59, 60, 61, 62, 63, 64, 65, 66, 67, 68, 69, 70, 71, 72, 73, 74, 75, 76, 77, 78, 79, 80, 81, 82, 83, 84, 85, 86, 87, 88, 89, 90, 91, 92, 93, 94, 95, 96, 97, 98, 99, 100, 101, 102, 103, 104, 105, 106, 107, 108, 109, 110, 111, 112] rfl (by decide +kernel)
set_option maxRecDepth 20000 in
theorem gX13_need_X13_refusesSlope : GoodIn wsX13_need (wsV RX13 450 RX13 yX13_refusesSlope wsX13_refusesSlope) := goodIn_app (goodIn_of _ (by decide +kernel)) ggX13_need_X13_refusesSlope
set_option maxRecDepth 20000 in
theorem ggX13_need_X13_refused : GoodIn wsX13_need wsX13_refused := goodIn_r _ [22, 23, 24, 36, 37, 38, 39, 40, 41, 42, 43, 44, 45, 46, 47, 48, 49, 50, 51, 52, 53, 54, 55, 56, 57, 58, 59, 60, 61, 62, 63, 64] rfl (by decide +kernel)
set_option maxRecDepth 20000 in
theorem gX13_need_X13_refused : GoodIn wsX13_need (wsV RX13 36 RX13 yX13_refused wsX13_refused) := goodIn_app (goodIn_of _ (by decide +kernel)) ggX13_need_X13_refused
set_option maxRecDepth 20000 in
theorem ggX13_need_X13_needBy : GoodIn wsX13_need wsX13_needBy := goodIn_r _ [28, 2, 29, 30, 6, 31, 36, 37, 38, 39, 40, 41, 42, 43, 44, 45, 46, 47, 48, 49, 50, 51, 52, 53, 54, 55, 56, 57, 58, 59, 60, 61, 62, 63, 64, 65, 66, 67, 68, 69, 70, 71, 72, 73, 74, 75, 76, 77, 78, 79, 80, 81, 82, 83, 84, 85, 86, 87, 88, 89, 90, 91, 92, 93, 94, 95, 96, 97, 98, 99, 100, 101, 102, 103, 104, 105, 106, 107, 108, 109, 110, 111, 112] rfl (by decide +kernel)
set_option maxRecDepth 20000 in
theorem gX13_need_X13_needBy : GoodIn wsX13_need (wsV RX13 468 RX13 yX13_needBy wsX13_needBy) := goodIn_app (goodIn_of _ (by decide +kernel)) ggX13_need_X13_needBy
set_option maxRecDepth 20000 in
theorem ggX13_need_X13_done : GoodIn wsX13_need wsX13_done := goodIn_r _ [35, 23, 24, 36, 37, 38, 39, 40, 41, 42, 43, 44, 45, 46, 47, 48, 49, 50, 51, 52, 53, 54, 55, 56, 57, 58, 59, 60, 61, 62, 63, 64] rfl (by decide +kernel)
set_option maxRecDepth 20000 in
theorem gX13_need_X13_done : GoodIn wsX13_need (wsV RX13 40 RX13 yX13_done wsX13_done) := goodIn_app (goodIn_of _ (by decide +kernel)) ggX13_need_X13_done
theorem dX13_need_0 : decode cX13_need 0 = .ok (.aload_n 0, 1) := by decide +kernel
theorem dX13_need_1 : decode cX13_need 1 = .ok (.iconst 0, 1) := by decide +kernel
theorem dX13_need_2 : decode cX13_need 2 = .ok (.putfield 30, 3) := by decide +kernel
theorem dX13_need_5 : decode cX13_need 5 = .ok (.aload_n 0, 1) := by decide +kernel
theorem dX13_need_6 : decode cX13_need 6 = .ok (.iload_n 1, 1) := by decide +kernel
theorem dX13_need_7 : decode cX13_need 7 = .ok (.iload_n 2, 1) := by decide +kernel
theorem dX13_need_8 : decode cX13_need 8 = .ok (.iload_n 3, 1) := by decide +kernel
theorem dX13_need_9 : decode cX13_need 9 = .ok (.invokevirtual 450, 3) := by decide +kernel
theorem dX13_need_12 : decode cX13_need 12 = .ok (.istore 4, 2) := by decide +kernel
theorem dX13_need_14 : decode cX13_need 14 = .ok (.iload 4, 2) := by decide +kernel
theorem dX13_need_16 : decode cX13_need 16 = .ok (.ifCond .le 12, 3) := by decide +kernel
theorem dX13_need_19 : decode cX13_need 19 = .ok (.aload_n 0, 1) := by decide +kernel
theorem dX13_need_20 : decode cX13_need 20 = .ok (.iload 4, 2) := by decide +kernel
theorem dX13_need_22 : decode cX13_need 22 = .ok (.invokevirtual 36, 3) := by decide +kernel
theorem dX13_need_25 : decode cX13_need 25 = .ok (.goto 22, 3) := by decide +kernel
theorem dX13_need_28 : decode cX13_need 28 = .ok (.aload_n 0, 1) := by decide +kernel
theorem dX13_need_29 : decode cX13_need 29 = .ok (.aload_n 0, 1) := by decide +kernel
theorem dX13_need_30 : decode cX13_need 30 = .ok (.iload_n 1, 1) := by decide +kernel
theorem dX13_need_31 : decode cX13_need 31 = .ok (.aload_n 0, 1) := by decide +kernel
theorem dX13_need_32 : decode cX13_need 32 = .ok (.getfield 431, 3) := by decide +kernel
theorem dX13_need_35 : decode cX13_need 35 = .ok (.getfield 301, 3) := by decide +kernel
theorem dX13_need_38 : decode cX13_need 38 = .ok (.iload_n 2, 1) := by decide +kernel
theorem dX13_need_39 : decode cX13_need 39 = .ok (.iaload, 1) := by decide +kernel
theorem dX13_need_40 : decode cX13_need 40 = .ok (.iload_n 3, 1) := by decide +kernel
theorem dX13_need_41 : decode cX13_need 41 = .ok (.invokevirtual 468, 3) := by decide +kernel
theorem dX13_need_44 : decode cX13_need 44 = .ok (.invokevirtual 40, 3) := by decide +kernel
theorem dX13_need_47 : decode cX13_need 47 = .ok (.ireturn, 1) := by decide +kernel
set_option maxRecDepth 20000 in
theorem ggX13_minutesBy_X13_up : GoodIn wsX13_minutesBy wsX13_up := goodIn_r _ [5] rfl (by decide +kernel)
set_option maxRecDepth 20000 in
theorem gX13_minutesBy_X13_up : GoodIn wsX13_minutesBy (va_wsS RX13 466 yX13_up wsX13_up) := goodIn_app (goodIn_of _ (by decide +kernel)) ggX13_minutesBy_X13_up
theorem dX13_minutesBy_0 : decode cX13_minutesBy 0 = .ok (.aload_n 0, 1) := by decide +kernel
theorem dX13_minutesBy_1 : decode cX13_minutesBy 1 = .ok (.getfield 431, 3) := by decide +kernel
theorem dX13_minutesBy_4 : decode cX13_minutesBy 4 = .ok (.getfield 247, 3) := by decide +kernel
theorem dX13_minutesBy_7 : decode cX13_minutesBy 7 = .ok (.iload_n 1, 1) := by decide +kernel
theorem dX13_minutesBy_8 : decode cX13_minutesBy 8 = .ok (.iaload, 1) := by decide +kernel
theorem dX13_minutesBy_9 : decode cX13_minutesBy 9 = .ok (.istore 4, 2) := by decide +kernel
theorem dX13_minutesBy_11 : decode cX13_minutesBy 11 = .ok (.iload 4, 2) := by decide +kernel
theorem dX13_minutesBy_13 : decode cX13_minutesBy 13 = .ok (.ifCond .ne 8, 3) := by decide +kernel
theorem dX13_minutesBy_16 : decode cX13_minutesBy 16 = .ok (.bipush 40, 2) := by decide +kernel
theorem dX13_minutesBy_18 : decode cX13_minutesBy 18 = .ok (.goto 27, 3) := by decide +kernel
theorem dX13_minutesBy_21 : decode cX13_minutesBy 21 = .ok (.iload 4, 2) := by decide +kernel
theorem dX13_minutesBy_23 : decode cX13_minutesBy 23 = .ok (.iconst 1, 1) := by decide +kernel
theorem dX13_minutesBy_24 : decode cX13_minutesBy 24 = .ok (.if_icmp .ne 8, 3) := by decide +kernel
theorem dX13_minutesBy_27 : decode cX13_minutesBy 27 = .ok (.bipush 60, 2) := by decide +kernel
theorem dX13_minutesBy_29 : decode cX13_minutesBy 29 = .ok (.goto 16, 3) := by decide +kernel
theorem dX13_minutesBy_32 : decode cX13_minutesBy 32 = .ok (.iload 4, 2) := by decide +kernel
theorem dX13_minutesBy_34 : decode cX13_minutesBy 34 = .ok (.iconst 2, 1) := by decide +kernel
theorem dX13_minutesBy_35 : decode cX13_minutesBy 35 = .ok (.if_icmp .ne 8, 3) := by decide +kernel
theorem dX13_minutesBy_38 : decode cX13_minutesBy 38 = .ok (.bipush 30, 2) := by decide +kernel
theorem dX13_minutesBy_40 : decode cX13_minutesBy 40 = .ok (.goto 5, 3) := by decide +kernel
theorem dX13_minutesBy_43 : decode cX13_minutesBy 43 = .ok (.bipush 90, 2) := by decide +kernel
theorem dX13_minutesBy_45 : decode cX13_minutesBy 45 = .ok (.istore 5, 2) := by decide +kernel
theorem dX13_minutesBy_47 : decode cX13_minutesBy 47 = .ok (.iload 5, 2) := by decide +kernel
theorem dX13_minutesBy_49 : decode cX13_minutesBy 49 = .ok (.iload_n 2, 1) := by decide +kernel
theorem dX13_minutesBy_50 : decode cX13_minutesBy 50 = .ok (.imul, 1) := by decide +kernel
theorem dX13_minutesBy_51 : decode cX13_minutesBy 51 = .ok (.iload_n 3, 1) := by decide +kernel
theorem dX13_minutesBy_52 : decode cX13_minutesBy 52 = .ok (.invokestatic 466, 3) := by decide +kernel
theorem dX13_minutesBy_55 : decode cX13_minutesBy 55 = .ok (.istore 6, 2) := by decide +kernel
theorem dX13_minutesBy_57 : decode cX13_minutesBy 57 = .ok (.iload 6, 2) := by decide +kernel
theorem dX13_minutesBy_59 : decode cX13_minutesBy 59 = .ok (.iload 5, 2) := by decide +kernel
theorem dX13_minutesBy_61 : decode cX13_minutesBy 61 = .ok (.iconst 2, 1) := by decide +kernel
theorem dX13_minutesBy_62 : decode cX13_minutesBy 62 = .ok (.idiv, 1) := by decide +kernel
theorem dX13_minutesBy_63 : decode cX13_minutesBy 63 = .ok (.if_icmp .ge 10, 3) := by decide +kernel
theorem dX13_minutesBy_66 : decode cX13_minutesBy 66 = .ok (.iload 5, 2) := by decide +kernel
theorem dX13_minutesBy_68 : decode cX13_minutesBy 68 = .ok (.iconst 2, 1) := by decide +kernel
theorem dX13_minutesBy_69 : decode cX13_minutesBy 69 = .ok (.idiv, 1) := by decide +kernel
theorem dX13_minutesBy_70 : decode cX13_minutesBy 70 = .ok (.goto 5, 3) := by decide +kernel
theorem dX13_minutesBy_73 : decode cX13_minutesBy 73 = .ok (.iload 6, 2) := by decide +kernel
theorem dX13_minutesBy_75 : decode cX13_minutesBy 75 = .ok (.ireturn, 1) := by decide +kernel
set_option maxRecDepth 20000 in
theorem ggX13_minutes_X13_refusesSlope : GoodIn wsX13_minutes wsX13_refusesSlope := goodIn_r _ [7, 8, 9, 10, 6, 11, 2, 12, 13, 14, 15, 16, 17, 18, 40, 41, 42, 43, 44, 45, 46, 47, 48, 49, 50, 51, 52, 53, 54, 55, 56, 57, 58, 59, 60, 61, 62, 63, 64, 65, 66, 67, 68, 69, 70, 71, 72, 73, 74, 75, 76, 77, 78, 79, 80, 81, 82, 83, 84, 85, 86, 87, 88, 89, 90, 91, 92, 93, 94, 95, 96, 97, 98, 99, 100, 101, 102, 103, 104, 105, 106, 107, 108, 109, 110, 111, 112, 113, 114, 115, 116] rfl (by decide +kernel)
set_option maxRecDepth 20000 in
theorem gX13_minutes_X13_refusesSlope : GoodIn wsX13_minutes (wsV RX13 450 RX13 yX13_refusesSlope wsX13_refusesSlope) := goodIn_app (goodIn_of _ (by decide +kernel)) ggX13_minutes_X13_refusesSlope
set_option maxRecDepth 20000 in
theorem ggX13_minutes_X13_refused : GoodIn wsX13_minutes wsX13_refused := goodIn_r _ [22, 23, 24, 40, 41, 42, 43, 44, 45, 46, 47, 48, 49, 50, 51, 52, 53, 54, 55, 56, 57, 58, 59, 60, 61, 62, 63, 64, 65, 66, 67, 68] rfl (by decide +kernel)
set_option maxRecDepth 20000 in
theorem gX13_minutes_X13_refused : GoodIn wsX13_minutes (wsV RX13 36 RX13 yX13_refused wsX13_refused) := goodIn_app (goodIn_of _ (by decide +kernel)) ggX13_minutes_X13_refused
set_option maxRecDepth 20000 in
theorem ggX13_minutes_X13_in : GoodIn wsX13_minutes wsX13_in := goodIn_r _ [18] rfl (by decide +kernel)
set_option maxRecDepth 20000 in
theorem gX13_minutes_X13_in : GoodIn wsX13_minutes (va_wsS RX13 108 yX13_in wsX13_in) := goodIn_app (goodIn_of _ (by decide +kernel)) ggX13_minutes_X13_in
set_option maxRecDepth 20000 in
theorem ggX13_minutes_X13_needBy : GoodIn wsX13_minutes wsX13_needBy := goodIn_r _ [28, 2, 29, 30, 6, 31, 40, 41, 42, 43, 44, 45, 46, 47, 48, 49, 50, 51, 52, 53, 54, 55, 56, 57, 58, 59, 60, 61, 62, 63, 64, 65, 66, 67, 68, 69, 70, 71, 72, 73, 74, 75, 76, 77, 78, 79, 80, 81, 82, 83, 84, 85, 86, 87, 88, 89, 90, 91, 92, 93, 94, 95, 96, 97, 98, 99, 100, 101, 102, 103, 104, 105, 106, 107, 108, 109, 110, 111, 112, 113, 114, 115, 116] rfl (by decide +kernel)
set_option maxRecDepth 20000 in
theorem gX13_minutes_X13_needBy : GoodIn wsX13_minutes (wsV RX13 468 RX13 yX13_needBy wsX13_needBy) := goodIn_app (goodIn_of _ (by decide +kernel)) ggX13_minutes_X13_needBy
set_option maxRecDepth 20000 in
theorem ggX13_minutes_X13_minutesBy : GoodIn wsX13_minutes wsX13_minutesBy := goodIn_r _ [35, 2, 29, 30, 6, 31, 40, 41, 42, 43, 44, 45, 46, 47, 48, 49, 50, 51, 52, 53, 54, 55, 56, 57, 58, 59, 60, 61, 62, 63, 64, 65, 66, 67, 68, 69, 70, 71, 72, 73, 74, 75, 76, 77, 78, 79, 80, 81, 82, 83, 84, 85, 86, 87, 88, 89, 90, 91, 92, 93, 94, 95, 96, 97, 98, 99, 100, 101, 102, 103, 104, 105, 106, 107, 108, 109, 110, 111, 112, 113, 114, 115, 116] rfl (by decide +kernel)
set_option maxRecDepth 20000 in
theorem gX13_minutes_X13_minutesBy : GoodIn wsX13_minutes (wsV RX13 471 RX13 yX13_minutesBy wsX13_minutesBy) := goodIn_app (goodIn_of _ (by decide +kernel)) ggX13_minutes_X13_minutesBy
set_option maxRecDepth 20000 in
theorem ggX13_minutes_X13_done : GoodIn wsX13_minutes wsX13_done := goodIn_r _ [39, 23, 24, 40, 41, 42, 43, 44, 45, 46, 47, 48, 49, 50, 51, 52, 53, 54, 55, 56, 57, 58, 59, 60, 61, 62, 63, 64, 65, 66, 67, 68] rfl (by decide +kernel)
set_option maxRecDepth 20000 in
theorem gX13_minutes_X13_done : GoodIn wsX13_minutes (wsV RX13 40 RX13 yX13_done wsX13_done) := goodIn_app (goodIn_of _ (by decide +kernel)) ggX13_minutes_X13_done
theorem dX13_minutes_0 : decode cX13_minutes 0 = .ok (.aload_n 0, 1) := by decide +kernel
theorem dX13_minutes_1 : decode cX13_minutes 1 = .ok (.iconst 0, 1) := by decide +kernel
theorem dX13_minutes_2 : decode cX13_minutes 2 = .ok (.putfield 30, 3) := by decide +kernel
theorem dX13_minutes_5 : decode cX13_minutes 5 = .ok (.aload_n 0, 1) := by decide +kernel
theorem dX13_minutes_6 : decode cX13_minutes 6 = .ok (.iload_n 1, 1) := by decide +kernel
theorem dX13_minutes_7 : decode cX13_minutes 7 = .ok (.iload_n 2, 1) := by decide +kernel
theorem dX13_minutes_8 : decode cX13_minutes 8 = .ok (.iload_n 3, 1) := by decide +kernel
theorem dX13_minutes_9 : decode cX13_minutes 9 = .ok (.invokevirtual 450, 3) := by decide +kernel
theorem dX13_minutes_12 : decode cX13_minutes 12 = .ok (.istore 5, 2) := by decide +kernel
theorem dX13_minutes_14 : decode cX13_minutes 14 = .ok (.iload 5, 2) := by decide +kernel
theorem dX13_minutes_16 : decode cX13_minutes 16 = .ok (.ifCond .le 10, 3) := by decide +kernel
theorem dX13_minutes_19 : decode cX13_minutes 19 = .ok (.aload_n 0, 1) := by decide +kernel
theorem dX13_minutes_20 : decode cX13_minutes 20 = .ok (.iload 5, 2) := by decide +kernel
theorem dX13_minutes_22 : decode cX13_minutes 22 = .ok (.invokevirtual 36, 3) := by decide +kernel
theorem dX13_minutes_25 : decode cX13_minutes 25 = .ok (.ireturn, 1) := by decide +kernel
theorem dX13_minutes_26 : decode cX13_minutes 26 = .ok (.iload 4, 2) := by decide +kernel
theorem dX13_minutes_28 : decode cX13_minutes 28 = .ok (.iconst 1, 1) := by decide +kernel
theorem dX13_minutes_29 : decode cX13_minutes 29 = .ok (.sipush 200, 3) := by decide +kernel
theorem dX13_minutes_32 : decode cX13_minutes 32 = .ok (.invokestatic 108, 3) := by decide +kernel
theorem dX13_minutes_35 : decode cX13_minutes 35 = .ok (.ifCond .eq 32, 3) := by decide +kernel
theorem dX13_minutes_38 : decode cX13_minutes 38 = .ok (.aload_n 0, 1) := by decide +kernel
theorem dX13_minutes_39 : decode cX13_minutes 39 = .ok (.aload_n 0, 1) := by decide +kernel
theorem dX13_minutes_40 : decode cX13_minutes 40 = .ok (.iload_n 1, 1) := by decide +kernel
theorem dX13_minutes_41 : decode cX13_minutes 41 = .ok (.aload_n 0, 1) := by decide +kernel
theorem dX13_minutes_42 : decode cX13_minutes 42 = .ok (.iload_n 1, 1) := by decide +kernel
theorem dX13_minutes_43 : decode cX13_minutes 43 = .ok (.aload_n 0, 1) := by decide +kernel
theorem dX13_minutes_44 : decode cX13_minutes 44 = .ok (.getfield 431, 3) := by decide +kernel
theorem dX13_minutes_47 : decode cX13_minutes 47 = .ok (.getfield 301, 3) := by decide +kernel
theorem dX13_minutes_50 : decode cX13_minutes 50 = .ok (.iload_n 2, 1) := by decide +kernel
theorem dX13_minutes_51 : decode cX13_minutes 51 = .ok (.iaload, 1) := by decide +kernel
theorem dX13_minutes_52 : decode cX13_minutes 52 = .ok (.iload_n 3, 1) := by decide +kernel
theorem dX13_minutes_53 : decode cX13_minutes 53 = .ok (.invokevirtual 468, 3) := by decide +kernel
theorem dX13_minutes_56 : decode cX13_minutes 56 = .ok (.iload 4, 2) := by decide +kernel
theorem dX13_minutes_58 : decode cX13_minutes 58 = .ok (.invokevirtual 471, 3) := by decide +kernel
theorem dX13_minutes_61 : decode cX13_minutes 61 = .ok (.invokevirtual 40, 3) := by decide +kernel
theorem dX13_minutes_64 : decode cX13_minutes 64 = .ok (.goto 8, 3) := by decide +kernel
theorem dX13_minutes_67 : decode cX13_minutes 67 = .ok (.aload_n 0, 1) := by decide +kernel
theorem dX13_minutes_68 : decode cX13_minutes 68 = .ok (.iconst 2, 1) := by decide +kernel
theorem dX13_minutes_69 : decode cX13_minutes 69 = .ok (.invokevirtual 36, 3) := by decide +kernel
theorem dX13_minutes_72 : decode cX13_minutes 72 = .ok (.ireturn, 1) := by decide +kernel
theorem dX13_chanceBy_0 : decode cX13_chanceBy 0 = .ok (.iload_n 3, 1) := by decide +kernel
theorem dX13_chanceBy_1 : decode cX13_chanceBy 1 = .ok (.ifCond .ge 8, 3) := by decide +kernel
theorem dX13_chanceBy_4 : decode cX13_chanceBy 4 = .ok (.iload_n 3, 1) := by decide +kernel
theorem dX13_chanceBy_5 : decode cX13_chanceBy 5 = .ok (.ineg, 1) := by decide +kernel
theorem dX13_chanceBy_6 : decode cX13_chanceBy 6 = .ok (.goto 4, 3) := by decide +kernel
theorem dX13_chanceBy_9 : decode cX13_chanceBy 9 = .ok (.iload_n 3, 1) := by decide +kernel
theorem dX13_chanceBy_10 : decode cX13_chanceBy 10 = .ok (.istore 4, 2) := by decide +kernel
theorem dX13_chanceBy_12 : decode cX13_chanceBy 12 = .ok (.aload_n 0, 1) := by decide +kernel
theorem dX13_chanceBy_13 : decode cX13_chanceBy 13 = .ok (.getfield 431, 3) := by decide +kernel
theorem dX13_chanceBy_16 : decode cX13_chanceBy 16 = .ok (.getfield 247, 3) := by decide +kernel
theorem dX13_chanceBy_19 : decode cX13_chanceBy 19 = .ok (.iload_n 1, 1) := by decide +kernel
theorem dX13_chanceBy_20 : decode cX13_chanceBy 20 = .ok (.iaload, 1) := by decide +kernel
theorem dX13_chanceBy_21 : decode cX13_chanceBy 21 = .ok (.istore 5, 2) := by decide +kernel
theorem dX13_chanceBy_23 : decode cX13_chanceBy 23 = .ok (.bipush 10, 2) := by decide +kernel
theorem dX13_chanceBy_25 : decode cX13_chanceBy 25 = .ok (.aload_n 0, 1) := by decide +kernel
theorem dX13_chanceBy_26 : decode cX13_chanceBy 26 = .ok (.getfield 431, 3) := by decide +kernel
theorem dX13_chanceBy_29 : decode cX13_chanceBy 29 = .ok (.getfield 305, 3) := by decide +kernel
theorem dX13_chanceBy_32 : decode cX13_chanceBy 32 = .ok (.iload_n 2, 1) := by decide +kernel
theorem dX13_chanceBy_33 : decode cX13_chanceBy 33 = .ok (.iaload, 1) := by decide +kernel
theorem dX13_chanceBy_34 : decode cX13_chanceBy 34 = .ok (.isub, 1) := by decide +kernel
theorem dX13_chanceBy_35 : decode cX13_chanceBy 35 = .ok (.istore 6, 2) := by decide +kernel
theorem dX13_chanceBy_37 : decode cX13_chanceBy 37 = .ok (.iload 5, 2) := by decide +kernel
theorem dX13_chanceBy_39 : decode cX13_chanceBy 39 = .ok (.ifCond .ne 22, 3) := by decide +kernel
theorem dX13_chanceBy_42 : decode cX13_chanceBy 42 = .ok (.iconst 2, 1) := by decide +kernel
theorem dX13_chanceBy_43 : decode cX13_chanceBy 43 = .ok (.iload 4, 2) := by decide +kernel
theorem dX13_chanceBy_45 : decode cX13_chanceBy 45 = .ok (.imul, 1) := by decide +kernel
theorem dX13_chanceBy_46 : decode cX13_chanceBy 46 = .ok (.iload 6, 2) := by decide +kernel
theorem dX13_chanceBy_48 : decode cX13_chanceBy 48 = .ok (.ifCond .le 8, 3) := by decide +kernel
theorem dX13_chanceBy_51 : decode cX13_chanceBy 51 = .ok (.iload 6, 2) := by decide +kernel
theorem dX13_chanceBy_53 : decode cX13_chanceBy 53 = .ok (.goto 4, 3) := by decide +kernel
theorem dX13_chanceBy_56 : decode cX13_chanceBy 56 = .ok (.iconst 0, 1) := by decide +kernel
theorem dX13_chanceBy_57 : decode cX13_chanceBy 57 = .ok (.iadd, 1) := by decide +kernel
theorem dX13_chanceBy_58 : decode cX13_chanceBy 58 = .ok (.goto 28, 3) := by decide +kernel
theorem dX13_chanceBy_61 : decode cX13_chanceBy 61 = .ok (.iload 5, 2) := by decide +kernel
theorem dX13_chanceBy_63 : decode cX13_chanceBy 63 = .ok (.iconst 1, 1) := by decide +kernel
theorem dX13_chanceBy_64 : decode cX13_chanceBy 64 = .ok (.if_icmp .ne 8, 3) := by decide +kernel
theorem dX13_chanceBy_67 : decode cX13_chanceBy 67 = .ok (.iload 4, 2) := by decide +kernel
theorem dX13_chanceBy_69 : decode cX13_chanceBy 69 = .ok (.goto 17, 3) := by decide +kernel
theorem dX13_chanceBy_72 : decode cX13_chanceBy 72 = .ok (.iload 5, 2) := by decide +kernel
theorem dX13_chanceBy_74 : decode cX13_chanceBy 74 = .ok (.iconst 2, 1) := by decide +kernel
theorem dX13_chanceBy_75 : decode cX13_chanceBy 75 = .ok (.if_icmp .ne 10, 3) := by decide +kernel
theorem dX13_chanceBy_78 : decode cX13_chanceBy 78 = .ok (.iconst 3, 1) := by decide +kernel
theorem dX13_chanceBy_79 : decode cX13_chanceBy 79 = .ok (.iload 4, 2) := by decide +kernel
theorem dX13_chanceBy_81 : decode cX13_chanceBy 81 = .ok (.imul, 1) := by decide +kernel
theorem dX13_chanceBy_82 : decode cX13_chanceBy 82 = .ok (.goto 4, 3) := by decide +kernel
theorem dX13_chanceBy_85 : decode cX13_chanceBy 85 = .ok (.iconst 0, 1) := by decide +kernel
theorem dX13_chanceBy_86 : decode cX13_chanceBy 86 = .ok (.istore 7, 2) := by decide +kernel
theorem dX13_chanceBy_88 : decode cX13_chanceBy 88 = .ok (.iload 7, 2) := by decide +kernel
theorem dX13_chanceBy_90 : decode cX13_chanceBy 90 = .ok (.bipush 100, 2) := by decide +kernel
theorem dX13_chanceBy_92 : decode cX13_chanceBy 92 = .ok (.if_icmp .le 8, 3) := by decide +kernel
theorem dX13_chanceBy_95 : decode cX13_chanceBy 95 = .ok (.bipush 100, 2) := by decide +kernel
theorem dX13_chanceBy_97 : decode cX13_chanceBy 97 = .ok (.goto 5, 3) := by decide +kernel
theorem dX13_chanceBy_100 : decode cX13_chanceBy 100 = .ok (.iload 7, 2) := by decide +kernel
theorem dX13_chanceBy_102 : decode cX13_chanceBy 102 = .ok (.ireturn, 1) := by decide +kernel
set_option maxRecDepth 20000 in
theorem ggX13_chance_X13_refusesSlope : GoodIn wsX13_chance wsX13_refusesSlope := goodIn_r _ [6, 7, 8, 9, 5, 10, 11, 12, 13, 14, 15, 16, 17, 18, 33, 34, 35, 36, 37, 38, 39, 40, 41, 42, 43, 44, 45, 46, 47, 48, 49, 50, 51, 52, 53, 54, 55, 56, 57, 58, 59, 60, 61, 62, 63, 64, 65, 66, 67, 68, 69, 70, 71, 72, 73, 74, 75, 76, 77, 78, 79, 80, 81, 82, 83, 84, 85, 86, 87, 88, 89, 90, 91, 92, 93, 94, 95, 96, 97, 98, 99, 100, 101, 102, 103, 104, 105, 106, 107, 108, 109] rfl (by decide +kernel)
set_option maxRecDepth 20000 in
theorem gX13_chance_X13_refusesSlope : GoodIn wsX13_chance (wsV RX13 450 RX13 yX13_refusesSlope wsX13_refusesSlope) := goodIn_app (goodIn_of _ (by decide +kernel)) ggX13_chance_X13_refusesSlope
set_option maxRecDepth 20000 in
theorem ggX13_chance_X13_refused : GoodIn wsX13_chance wsX13_refused := goodIn_r _ [22, 23, 24, 33, 34, 35, 36, 37, 38, 39, 40, 41, 42, 43, 44, 45, 46, 47, 48, 49, 50, 51, 52, 53, 54, 55, 56, 57, 58, 59, 60, 61] rfl (by decide +kernel)
set_option maxRecDepth 20000 in
theorem gX13_chance_X13_refused : GoodIn wsX13_chance (wsV RX13 36 RX13 yX13_refused wsX13_refused) := goodIn_app (goodIn_of _ (by decide +kernel)) ggX13_chance_X13_refused
set_option maxRecDepth 20000 in
theorem ggX13_chance_X13_chanceBy : GoodIn wsX13_chance wsX13_chanceBy := goodIn_r _ [28, 11, 33, 34, 35, 36, 37, 38, 39, 40, 41, 42, 43, 44, 45, 46, 47, 48, 49, 50, 51, 52, 53, 54, 55, 56, 57, 58, 59, 60, 61, 62, 63, 64, 65, 66, 67, 68, 69, 70, 71, 72, 73, 74, 75, 76, 77, 78, 79, 80, 81, 82, 83, 84, 85, 86, 87, 88, 89, 90, 91, 92, 93, 94, 95, 96, 97, 98, 99, 100, 101, 102, 103, 104, 105, 106, 107, 108, 109] rfl (by decide +kernel)
