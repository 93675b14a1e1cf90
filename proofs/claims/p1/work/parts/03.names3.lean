theorem dX3_plannedRun_5 : decode cX3_plannedRun 5 = .ok (.if_icmp .ge 7, 3) := by decide +kernel
theorem dX3_plannedRun_8 : decode cX3_plannedRun 8 = .ok (.iconst (-1), 1) := by decide +kernel
theorem dX3_plannedRun_9 : decode cX3_plannedRun 9 = .ok (.goto 11, 3) := by decide +kernel
theorem dX3_plannedRun_12 : decode cX3_plannedRun 12 = .ok (.aload_n 0, 1) := by decide +kernel
theorem dX3_plannedRun_13 : decode cX3_plannedRun 13 = .ok (.getfield 88, 3) := by decide +kernel
theorem dX3_plannedRun_16 : decode cX3_plannedRun 16 = .ok (.iload_n 1, 1) := by decide +kernel
theorem dX3_plannedRun_17 : decode cX3_plannedRun 17 = .ok (.ishr, 1) := by decide +kernel
theorem dX3_plannedRun_18 : decode cX3_plannedRun 18 = .ok (.iconst 1, 1) := by decide +kernel
theorem dX3_plannedRun_19 : decode cX3_plannedRun 19 = .ok (.iand, 1) := by decide +kernel
theorem dX3_plannedRun_20 : decode cX3_plannedRun 20 = .ok (.ireturn, 1) := by decide +kernel
set_option maxRecDepth 20000 in
theorem ggX3_layPlan_X3_lookAhead : GoodIn wsX3_layPlan wsX3_lookAhead := goodIn_r _ [11, 5, 3, 12, 13, 14, 15, 16, 17, 18, 19, 20, 21, 22, 23, 24, 25, 26, 27, 28, 29, 30, 31, 32, 33, 34, 35, 36, 37, 38, 39, 40, 41, 42, 43, 44, 45, 46, 47, 48, 49, 50, 51, 52, 53, 54, 55, 56, 57, 58, 59, 60, 61, 62, 63, 64, 65, 66, 67, 68, 69, 70, 71, 72, 73, 74, 75, 76, 77, 78, 79, 80, 81, 82, 10, 83, 84, 114, 115, 116, 117, 118, 119, 120, 121, 122, 123, 124, 125, 126, 127, 128, 129, 130, 131, 132, 133, 134, 135, 136, 137, 138, 139, 140, 141, 142, 143, 144, 145, 146, 147, 148, 149] (by decide +kernel) (by decide +kernel)
set_option maxRecDepth 20000 in
theorem gX3_layPlan_X3_lookAhead : GoodIn wsX3_layPlan (wsV RX3 91 RX3 yX3_lookAhead wsX3_lookAhead) := goodIn_app (goodIn_of _ (by decide +kernel)) ggX3_layPlan_X3_lookAhead
set_option maxRecDepth 20000 in
theorem ggX3_layPlan_J7_fill_53178 : GoodIn wsX3_layPlan wsJ7_fill_53178 := goodIn_r _ [88] (by decide +kernel) (by decide +kernel)
set_option maxRecDepth 20000 in
theorem gX3_layPlan_J7_fill_53178 : GoodIn wsX3_layPlan (va_wsS RX3 23 yJ7_fill_53178 wsJ7_fill_53178) := goodIn_app (goodIn_of _ (by decide +kernel)) ggX3_layPlan_J7_fill_53178
set_option maxRecDepth 20000 in
theorem ggX3_layPlan_X3_weighHour : GoodIn wsX3_layPlan wsX3_weighHour := goodIn_r _ [92, 12, 93, 94, 95, 10, 96, 13, 1, 4, 2, 97, 98, 99, 81, 82, 83, 84, 62, 47, 63, 100, 101, 102, 103, 104, 105, 106, 107, 114, 115, 116, 117, 118, 119, 120, 121, 122, 123, 124, 125, 126, 127] (by decide +kernel) (by decide +kernel)
set_option maxRecDepth 20000 in
theorem gX3_layPlan_X3_weighHour : GoodIn wsX3_layPlan (wsV RX3 94 RX3 yX3_weighHour wsX3_weighHour) := goodIn_app (goodIn_of _ (by decide +kernel)) ggX3_layPlan_X3_weighHour
set_option maxRecDepth 20000 in
theorem ggX3_layPlan_X3_followChoices : GoodIn wsX3_layPlan wsX3_followChoices := goodIn_r _ [111, 112, 3, 113, 5, 6, 2, 13, 97, 98, 10, 99, 81, 82, 83, 84, 62, 47, 63, 100, 101, 102, 114, 115, 116, 117, 118, 119, 120, 121, 122, 123, 124, 125, 126, 127] (by decide +kernel) (by decide +kernel)
set_option maxRecDepth 20000 in
theorem gX3_layPlan_X3_followChoices : GoodIn wsX3_layPlan (wsV RX3 98 RX3 yX3_followChoices wsX3_followChoices) := goodIn_app (goodIn_of _ (by decide +kernel)) ggX3_layPlan_X3_followChoices
set_option maxRecDepth 20000 in
theorem ggX3_layPlan_X3_stateOf : GoodIn wsX3_layPlan wsX3_stateOf := goodIn_r _ [99] (by decide +kernel) (by decide +kernel)
set_option maxRecDepth 20000 in
theorem gX3_layPlan_X3_stateOf : GoodIn wsX3_layPlan (va_wsS RX3 101 yX3_stateOf wsX3_stateOf) := goodIn_app (goodIn_of _ (by decide +kernel)) ggX3_layPlan_X3_stateOf
theorem dX3_layPlan_0 : decode cX3_layPlan 0 = .ok (.aload_n 0, 1) := by decide +kernel
theorem dX3_layPlan_1 : decode cX3_layPlan 1 = .ok (.invokevirtual 91, 3) := by decide +kernel
theorem dX3_layPlan_4 : decode cX3_layPlan 4 = .ok (.aload_n 0, 1) := by decide +kernel
theorem dX3_layPlan_5 : decode cX3_layPlan 5 = .ok (.getfield 29, 3) := by decide +kernel
theorem dX3_layPlan_8 : decode cX3_layPlan 8 = .ok (.iconst 0, 1) := by decide +kernel
theorem dX3_layPlan_9 : decode cX3_layPlan 9 = .ok (.invokestatic 23, 3) := by decide +kernel
theorem dX3_layPlan_12 : decode cX3_layPlan 12 = .ok (.aload_n 0, 1) := by decide +kernel
theorem dX3_layPlan_13 : decode cX3_layPlan 13 = .ok (.getfield 35, 3) := by decide +kernel
theorem dX3_layPlan_16 : decode cX3_layPlan 16 = .ok (.iconst 0, 1) := by decide +kernel
theorem dX3_layPlan_17 : decode cX3_layPlan 17 = .ok (.invokestatic 23, 3) := by decide +kernel
theorem dX3_layPlan_20 : decode cX3_layPlan 20 = .ok (.bipush 23, 2) := by decide +kernel
theorem dX3_layPlan_22 : decode cX3_layPlan 22 = .ok (.istore_n 1, 1) := by decide +kernel
theorem dX3_layPlan_23 : decode cX3_layPlan 23 = .ok (.iload_n 1, 1) := by decide +kernel
theorem dX3_layPlan_24 : decode cX3_layPlan 24 = .ok (.aload_n 0, 1) := by decide +kernel
theorem dX3_layPlan_25 : decode cX3_layPlan 25 = .ok (.getfield 48, 3) := by decide +kernel
theorem dX3_layPlan_28 : decode cX3_layPlan 28 = .ok (.if_icmp .lt 32, 3) := by decide +kernel
theorem dX3_layPlan_31 : decode cX3_layPlan 31 = .ok (.aload_n 0, 1) := by decide +kernel
theorem dX3_layPlan_32 : decode cX3_layPlan 32 = .ok (.getfield 29, 3) := by decide +kernel
theorem dX3_layPlan_35 : decode cX3_layPlan 35 = .ok (.astore_n 2, 1) := by decide +kernel
theorem dX3_layPlan_36 : decode cX3_layPlan 36 = .ok (.aload_n 0, 1) := by decide +kernel
theorem dX3_layPlan_37 : decode cX3_layPlan 37 = .ok (.aload_n 0, 1) := by decide +kernel
theorem dX3_layPlan_38 : decode cX3_layPlan 38 = .ok (.getfield 32, 3) := by decide +kernel
theorem dX3_layPlan_41 : decode cX3_layPlan 41 = .ok (.putfield 29, 3) := by decide +kernel
theorem dX3_layPlan_44 : decode cX3_layPlan 44 = .ok (.aload_n 0, 1) := by decide +kernel
theorem dX3_layPlan_45 : decode cX3_layPlan 45 = .ok (.aload_n 2, 1) := by decide +kernel
theorem dX3_layPlan_46 : decode cX3_layPlan 46 = .ok (.putfield 32, 3) := by decide +kernel
theorem dX3_layPlan_49 : decode cX3_layPlan 49 = .ok (.aload_n 0, 1) := by decide +kernel
theorem dX3_layPlan_50 : decode cX3_layPlan 50 = .ok (.iload_n 1, 1) := by decide +kernel
theorem dX3_layPlan_51 : decode cX3_layPlan 51 = .ok (.invokevirtual 94, 3) := by decide +kernel
theorem dX3_layPlan_54 : decode cX3_layPlan 54 = .ok (.iinc 1 (-1), 3) := by decide +kernel
theorem dX3_layPlan_57 : decode cX3_layPlan 57 = .ok (.goto (-34), 3) := by decide +kernel
theorem dX3_layPlan_60 : decode cX3_layPlan 60 = .ok (.aload_n 0, 1) := by decide +kernel
theorem dX3_layPlan_61 : decode cX3_layPlan 61 = .ok (.invokevirtual 98, 3) := by decide +kernel
theorem dX3_layPlan_64 : decode cX3_layPlan 64 = .ok (.aload_n 0, 1) := by decide +kernel
theorem dX3_layPlan_65 : decode cX3_layPlan 65 = .ok (.getfield 29, 3) := by decide +kernel
theorem dX3_layPlan_68 : decode cX3_layPlan 68 = .ok (.aload_n 0, 1) := by decide +kernel
theorem dX3_layPlan_69 : decode cX3_layPlan 69 = .ok (.getfield 51, 3) := by decide +kernel
theorem dX3_layPlan_72 : decode cX3_layPlan 72 = .ok (.aload_n 0, 1) := by decide +kernel
theorem dX3_layPlan_73 : decode cX3_layPlan 73 = .ok (.getfield 54, 3) := by decide +kernel
theorem dX3_layPlan_76 : decode cX3_layPlan 76 = .ok (.invokestatic 101, 3) := by decide +kernel
theorem dX3_layPlan_79 : decode cX3_layPlan 79 = .ok (.iaload, 1) := by decide +kernel
theorem dX3_layPlan_80 : decode cX3_layPlan 80 = .ok (.ireturn, 1) := by decide +kernel
set_option maxRecDepth 20000 in
theorem ggX3_lookAhead_X0_aimAll : GoodIn wsX3_lookAhead wsX0_aimAll := goodIn_r _ [10, 11, 12, 13, 14, 15, 16, 17, 18, 19, 20, 21, 22, 23, 9, 24, 25, 26, 27, 28, 29, 30, 31, 32, 33, 34, 35, 36, 37, 38, 39, 40, 41, 42, 43, 44, 45, 46, 47, 48, 49, 50, 51, 52, 53, 54, 55, 56, 57, 58, 59, 60, 61, 62, 63, 64, 65, 66, 67, 68, 69, 70, 71, 91, 92, 93, 94, 95, 96, 97, 98, 99, 100, 101, 102, 103, 104, 105, 106, 107, 108, 109, 110, 111, 112] (by decide +kernel) (by decide +kernel)
set_option maxRecDepth 20000 in
theorem gX3_lookAhead_X0_aimAll : GoodIn wsX3_lookAhead (wsV RX3 61 RX0 yX0_aimAll wsX0_aimAll) := goodIn_app (goodIn_of _ (by decide +kernel)) ggX3_lookAhead_X0_aimAll
set_option maxRecDepth 20000 in
theorem ggX3_lookAhead_X3_filled : GoodIn wsX3_lookAhead wsX3_filled := goodIn_r _ [75, 76, 53, 38, 54] (by decide +kernel) (by decide +kernel)
set_option maxRecDepth 20000 in
theorem gX3_lookAhead_X3_filled : GoodIn wsX3_lookAhead (va_wsS RX3 67 yX3_filled wsX3_filled) := goodIn_app (goodIn_of _ (by decide +kernel)) ggX3_lookAhead_X3_filled
theorem dX3_lookAhead_0 : decode cX3_lookAhead 0 = .ok (.aload_n 0, 1) := by decide +kernel
theorem dX3_lookAhead_1 : decode cX3_lookAhead 1 = .ok (.getfield 51, 3) := by decide +kernel
theorem dX3_lookAhead_4 : decode cX3_lookAhead 4 = .ok (.istore_n 1, 1) := by decide +kernel
theorem dX3_lookAhead_5 : decode cX3_lookAhead 5 = .ok (.aload_n 0, 1) := by decide +kernel
theorem dX3_lookAhead_6 : decode cX3_lookAhead 6 = .ok (.getfield 48, 3) := by decide +kernel
theorem dX3_lookAhead_9 : decode cX3_lookAhead 9 = .ok (.istore_n 2, 1) := by decide +kernel
theorem dX3_lookAhead_10 : decode cX3_lookAhead 10 = .ok (.iload_n 2, 1) := by decide +kernel
theorem dX3_lookAhead_11 : decode cX3_lookAhead 11 = .ok (.bipush 24, 2) := by decide +kernel
theorem dX3_lookAhead_13 : decode cX3_lookAhead 13 = .ok (.if_icmp .ge 50, 3) := by decide +kernel
theorem dX3_lookAhead_16 : decode cX3_lookAhead 16 = .ok (.aload_n 0, 1) := by decide +kernel
theorem dX3_lookAhead_17 : decode cX3_lookAhead 17 = .ok (.getfield 41, 3) := by decide +kernel
theorem dX3_lookAhead_20 : decode cX3_lookAhead 20 = .ok (.iload_n 2, 1) := by decide +kernel
theorem dX3_lookAhead_21 : decode cX3_lookAhead 21 = .ok (.iload_n 1, 1) := by decide +kernel
theorem dX3_lookAhead_22 : decode cX3_lookAhead 22 = .ok (.iastore, 1) := by decide +kernel
theorem dX3_lookAhead_23 : decode cX3_lookAhead 23 = .ok (.aload_n 0, 1) := by decide +kernel
theorem dX3_lookAhead_24 : decode cX3_lookAhead 24 = .ok (.getfield 38, 3) := by decide +kernel
theorem dX3_lookAhead_27 : decode cX3_lookAhead 27 = .ok (.iload_n 2, 1) := by decide +kernel
theorem dX3_lookAhead_28 : decode cX3_lookAhead 28 = .ok (.aload_n 0, 1) := by decide +kernel
theorem dX3_lookAhead_29 : decode cX3_lookAhead 29 = .ok (.getfield 15, 3) := by decide +kernel
theorem dX3_lookAhead_32 : decode cX3_lookAhead 32 = .ok (.iload_n 2, 1) := by decide +kernel
theorem dX3_lookAhead_33 : decode cX3_lookAhead 33 = .ok (.iload_n 2, 1) := by decide +kernel
theorem dX3_lookAhead_34 : decode cX3_lookAhead 34 = .ok (.aload_n 0, 1) := by decide +kernel
theorem dX3_lookAhead_35 : decode cX3_lookAhead 35 = .ok (.getfield 48, 3) := by decide +kernel
theorem dX3_lookAhead_38 : decode cX3_lookAhead 38 = .ok (.isub, 1) := by decide +kernel
theorem dX3_lookAhead_39 : decode cX3_lookAhead 39 = .ok (.invokevirtual 61, 3) := by decide +kernel
theorem dX3_lookAhead_42 : decode cX3_lookAhead 42 = .ok (.bipush 100, 2) := by decide +kernel
theorem dX3_lookAhead_44 : decode cX3_lookAhead 44 = .ok (.idiv, 1) := by decide +kernel
theorem dX3_lookAhead_45 : decode cX3_lookAhead 45 = .ok (.iastore, 1) := by decide +kernel
theorem dX3_lookAhead_46 : decode cX3_lookAhead 46 = .ok (.iload_n 1, 1) := by decide +kernel
theorem dX3_lookAhead_47 : decode cX3_lookAhead 47 = .ok (.aload_n 0, 1) := by decide +kernel
theorem dX3_lookAhead_48 : decode cX3_lookAhead 48 = .ok (.getfield 38, 3) := by decide +kernel
theorem dX3_lookAhead_51 : decode cX3_lookAhead 51 = .ok (.iload_n 2, 1) := by decide +kernel
theorem dX3_lookAhead_52 : decode cX3_lookAhead 52 = .ok (.iaload, 1) := by decide +kernel
theorem dX3_lookAhead_53 : decode cX3_lookAhead 53 = .ok (.invokestatic 67, 3) := by decide +kernel
theorem dX3_lookAhead_56 : decode cX3_lookAhead 56 = .ok (.istore_n 1, 1) := by decide +kernel
theorem dX3_lookAhead_57 : decode cX3_lookAhead 57 = .ok (.iinc 2 1, 3) := by decide +kernel
theorem dX3_lookAhead_60 : decode cX3_lookAhead 60 = .ok (.goto (-50), 3) := by decide +kernel
theorem dX3_lookAhead_63 : decode cX3_lookAhead 63 = .ok (.return_, 1) := by decide +kernel
set_option maxRecDepth 20000 in
theorem ggX3_weighHour_X3_weigh : GoodIn wsX3_weighHour wsX3_weigh := goodIn_r _ [6, 7, 8, 9, 10, 11, 12, 5, 13, 14, 15, 16, 17, 18, 19, 20, 21, 22, 23, 24, 25, 26, 27, 28, 29, 30, 31, 32, 33, 34, 35, 36, 37, 38, 39, 40, 41, 42] (by decide +kernel) (by decide +kernel)
set_option maxRecDepth 20000 in
theorem gX3_weighHour_X3_weigh : GoodIn wsX3_weighHour (wsV RX3 105 RX3 yX3_weigh wsX3_weigh) := goodIn_app (goodIn_of _ (by decide +kernel)) ggX3_weighHour_X3_weigh
theorem dX3_weighHour_0 : decode cX3_weighHour 0 = .ok (.iconst 0, 1) := by decide +kernel
theorem dX3_weighHour_1 : decode cX3_weighHour 1 = .ok (.istore_n 2, 1) := by decide +kernel
theorem dX3_weighHour_2 : decode cX3_weighHour 2 = .ok (.iload_n 2, 1) := by decide +kernel
theorem dX3_weighHour_3 : decode cX3_weighHour 3 = .ok (.aload_n 0, 1) := by decide +kernel
theorem dX3_weighHour_4 : decode cX3_weighHour 4 = .ok (.getfield 41, 3) := by decide +kernel
theorem dX3_weighHour_7 : decode cX3_weighHour 7 = .ok (.iload_n 1, 1) := by decide +kernel
theorem dX3_weighHour_8 : decode cX3_weighHour 8 = .ok (.iaload, 1) := by decide +kernel
theorem dX3_weighHour_9 : decode cX3_weighHour 9 = .ok (.if_icmp .gt 23, 3) := by decide +kernel
theorem dX3_weighHour_12 : decode cX3_weighHour 12 = .ok (.aload_n 0, 1) := by decide +kernel
theorem dX3_weighHour_13 : decode cX3_weighHour 13 = .ok (.iload_n 1, 1) := by decide +kernel
theorem dX3_weighHour_14 : decode cX3_weighHour 14 = .ok (.iload_n 2, 1) := by decide +kernel
theorem dX3_weighHour_15 : decode cX3_weighHour 15 = .ok (.iconst 0, 1) := by decide +kernel
theorem dX3_weighHour_16 : decode cX3_weighHour 16 = .ok (.invokevirtual 105, 3) := by decide +kernel
theorem dX3_weighHour_19 : decode cX3_weighHour 19 = .ok (.aload_n 0, 1) := by decide +kernel
theorem dX3_weighHour_20 : decode cX3_weighHour 20 = .ok (.iload_n 1, 1) := by decide +kernel
theorem dX3_weighHour_21 : decode cX3_weighHour 21 = .ok (.iload_n 2, 1) := by decide +kernel
theorem dX3_weighHour_22 : decode cX3_weighHour 22 = .ok (.iconst 1, 1) := by decide +kernel
theorem dX3_weighHour_23 : decode cX3_weighHour 23 = .ok (.invokevirtual 105, 3) := by decide +kernel
theorem dX3_weighHour_26 : decode cX3_weighHour 26 = .ok (.iinc 2 1, 3) := by decide +kernel
theorem dX3_weighHour_29 : decode cX3_weighHour 29 = .ok (.goto (-27), 3) := by decide +kernel
theorem dX3_weighHour_32 : decode cX3_weighHour 32 = .ok (.return_, 1) := by decide +kernel
set_option maxRecDepth 20000 in
theorem ggX3_weigh_X3_stateOf : GoodIn wsX3_weigh wsX3_stateOf := goodIn_r _ [8] (by decide +kernel) (by decide +kernel)
set_option maxRecDepth 20000 in
theorem gX3_weigh_X3_stateOf : GoodIn wsX3_weigh (va_wsS RX3 101 yX3_stateOf wsX3_stateOf) := goodIn_app (goodIn_of _ (by decide +kernel)) ggX3_weigh_X3_stateOf
set_option maxRecDepth 20000 in
theorem ggX3_weigh_X3_filled : GoodIn wsX3_weigh wsX3_filled := goodIn_r _ [11, 12, 13, 14, 15] (by decide +kernel) (by decide +kernel)
set_option maxRecDepth 20000 in
theorem gX3_weigh_X3_filled : GoodIn wsX3_weigh (va_wsS RX3 67 yX3_filled wsX3_filled) := goodIn_app (goodIn_of _ (by decide +kernel)) ggX3_weigh_X3_filled
set_option maxRecDepth 20000 in
theorem ggX3_weigh_X3_needed : GoodIn wsX3_weigh wsX3_needed := goodIn_r _ [18] (by decide +kernel) (by decide +kernel)
set_option maxRecDepth 20000 in
theorem gX3_weigh_X3_needed : GoodIn wsX3_weigh (va_wsS RX3 70 yX3_needed wsX3_needed) := goodIn_app (goodIn_of _ (by decide +kernel)) ggX3_weigh_X3_needed
set_option maxRecDepth 20000 in
theorem ggX3_weigh_X3_gainOf : GoodIn wsX3_weigh wsX3_gainOf := goodIn_r _ [22, 23, 24, 25, 26, 27, 28, 29, 30, 31, 32, 33, 34, 35, 36, 37] (by decide +kernel) (by decide +kernel)
set_option maxRecDepth 20000 in
theorem gX3_weigh_X3_gainOf : GoodIn wsX3_weigh (wsV RX3 74 RX3 yX3_gainOf wsX3_gainOf) := goodIn_app (goodIn_of _ (by decide +kernel)) ggX3_weigh_X3_gainOf
theorem dX3_weigh_0 : decode cX3_weigh 0 = .ok (.iload_n 2, 1) := by decide +kernel
theorem dX3_weigh_1 : decode cX3_weigh 1 = .ok (.iload_n 3, 1) := by decide +kernel
theorem dX3_weigh_2 : decode cX3_weigh 2 = .ok (.invokestatic 101, 3) := by decide +kernel
theorem dX3_weigh_5 : decode cX3_weigh 5 = .ok (.istore 4, 2) := by decide +kernel
theorem dX3_weigh_7 : decode cX3_weigh 7 = .ok (.iload_n 2, 1) := by decide +kernel
theorem dX3_weigh_8 : decode cX3_weigh 8 = .ok (.aload_n 0, 1) := by decide +kernel
theorem dX3_weigh_9 : decode cX3_weigh 9 = .ok (.getfield 38, 3) := by decide +kernel
theorem dX3_weigh_12 : decode cX3_weigh 12 = .ok (.iload_n 1, 1) := by decide +kernel
theorem dX3_weigh_13 : decode cX3_weigh 13 = .ok (.iaload, 1) := by decide +kernel
theorem dX3_weigh_14 : decode cX3_weigh 14 = .ok (.invokestatic 67, 3) := by decide +kernel
theorem dX3_weigh_17 : decode cX3_weigh 17 = .ok (.istore 5, 2) := by decide +kernel
theorem dX3_weigh_19 : decode cX3_weigh 19 = .ok (.iload_n 3, 1) := by decide +kernel
theorem dX3_weigh_20 : decode cX3_weigh 20 = .ok (.invokestatic 70, 3) := by decide +kernel
theorem dX3_weigh_23 : decode cX3_weigh 23 = .ok (.istore 6, 2) := by decide +kernel
theorem dX3_weigh_25 : decode cX3_weigh 25 = .ok (.aload_n 0, 1) := by decide +kernel
theorem dX3_weigh_26 : decode cX3_weigh 26 = .ok (.getfield 29, 3) := by decide +kernel
theorem dX3_weigh_29 : decode cX3_weigh 29 = .ok (.iload 4, 2) := by decide +kernel
theorem dX3_weigh_31 : decode cX3_weigh 31 = .ok (.aload_n 0, 1) := by decide +kernel
theorem dX3_weigh_32 : decode cX3_weigh 32 = .ok (.getfield 32, 3) := by decide +kernel
theorem dX3_weigh_35 : decode cX3_weigh 35 = .ok (.iload 5, 2) := by decide +kernel
theorem dX3_weigh_37 : decode cX3_weigh 37 = .ok (.iconst 0, 1) := by decide +kernel
theorem dX3_weigh_38 : decode cX3_weigh 38 = .ok (.invokestatic 101, 3) := by decide +kernel
theorem dX3_weigh_41 : decode cX3_weigh 41 = .ok (.iaload, 1) := by decide +kernel
theorem dX3_weigh_42 : decode cX3_weigh 42 = .ok (.iastore, 1) := by decide +kernel
theorem dX3_weigh_43 : decode cX3_weigh 43 = .ok (.iload 5, 2) := by decide +kernel
theorem dX3_weigh_45 : decode cX3_weigh 45 = .ok (.iload 6, 2) := by decide +kernel
theorem dX3_weigh_47 : decode cX3_weigh 47 = .ok (.if_icmp .lt 59, 3) := by decide +kernel
theorem dX3_weigh_50 : decode cX3_weigh 50 = .ok (.aload_n 0, 1) := by decide +kernel
theorem dX3_weigh_51 : decode cX3_weigh 51 = .ok (.iload_n 1, 1) := by decide +kernel
theorem dX3_weigh_52 : decode cX3_weigh 52 = .ok (.invokevirtual 74, 3) := by decide +kernel
theorem dX3_weigh_55 : decode cX3_weigh 55 = .ok (.aload_n 0, 1) := by decide +kernel
theorem dX3_weigh_56 : decode cX3_weigh 56 = .ok (.getfield 32, 3) := by decide +kernel
theorem dX3_weigh_59 : decode cX3_weigh 59 = .ok (.iload 5, 2) := by decide +kernel
theorem dX3_weigh_61 : decode cX3_weigh 61 = .ok (.iload 6, 2) := by decide +kernel
theorem dX3_weigh_63 : decode cX3_weigh 63 = .ok (.isub, 1) := by decide +kernel
theorem dX3_weigh_64 : decode cX3_weigh 64 = .ok (.iconst 1, 1) := by decide +kernel
theorem dX3_weigh_65 : decode cX3_weigh 65 = .ok (.invokestatic 101, 3) := by decide +kernel
theorem dX3_weigh_68 : decode cX3_weigh 68 = .ok (.iaload, 1) := by decide +kernel
theorem dX3_weigh_69 : decode cX3_weigh 69 = .ok (.iadd, 1) := by decide +kernel
theorem dX3_weigh_70 : decode cX3_weigh 70 = .ok (.istore 7, 2) := by decide +kernel
theorem dX3_weigh_72 : decode cX3_weigh 72 = .ok (.iload 7, 2) := by decide +kernel
theorem dX3_weigh_74 : decode cX3_weigh 74 = .ok (.aload_n 0, 1) := by decide +kernel
theorem dX3_weigh_75 : decode cX3_weigh 75 = .ok (.getfield 29, 3) := by decide +kernel
theorem dX3_weigh_78 : decode cX3_weigh 78 = .ok (.iload 4, 2) := by decide +kernel
theorem dX3_weigh_80 : decode cX3_weigh 80 = .ok (.iaload, 1) := by decide +kernel
theorem dX3_weigh_81 : decode cX3_weigh 81 = .ok (.if_icmp .le 25, 3) := by decide +kernel
theorem dX3_weigh_84 : decode cX3_weigh 84 = .ok (.aload_n 0, 1) := by decide +kernel
theorem dX3_weigh_85 : decode cX3_weigh 85 = .ok (.getfield 29, 3) := by decide +kernel
theorem dX3_weigh_88 : decode cX3_weigh 88 = .ok (.iload 4, 2) := by decide +kernel
theorem dX3_weigh_90 : decode cX3_weigh 90 = .ok (.iload 7, 2) := by decide +kernel
theorem dX3_weigh_92 : decode cX3_weigh 92 = .ok (.iastore, 1) := by decide +kernel
theorem dX3_weigh_93 : decode cX3_weigh 93 = .ok (.aload_n 0, 1) := by decide +kernel
theorem dX3_weigh_94 : decode cX3_weigh 94 = .ok (.getfield 35, 3) := by decide +kernel
theorem dX3_weigh_97 : decode cX3_weigh 97 = .ok (.iload 4, 2) := by decide +kernel
theorem dX3_weigh_99 : decode cX3_weigh 99 = .ok (.dup2, 1) := by decide +kernel
theorem dX3_weigh_100 : decode cX3_weigh 100 = .ok (.iaload, 1) := by decide +kernel
theorem dX3_weigh_101 : decode cX3_weigh 101 = .ok (.iconst 1, 1) := by decide +kernel
theorem dX3_weigh_102 : decode cX3_weigh 102 = .ok (.iload_n 1, 1) := by decide +kernel
theorem dX3_weigh_103 : decode cX3_weigh 103 = .ok (.ishl, 1) := by decide +kernel
theorem dX3_weigh_104 : decode cX3_weigh 104 = .ok (.ior, 1) := by decide +kernel
theorem dX3_weigh_105 : decode cX3_weigh 105 = .ok (.iastore, 1) := by decide +kernel
theorem dX3_weigh_106 : decode cX3_weigh 106 = .ok (.return_, 1) := by decide +kernel
set_option maxRecDepth 20000 in
theorem ggX3_followChoices_X3_stateOf : GoodIn wsX3_followChoices wsX3_stateOf := goodIn_r _ [11] (by decide +kernel) (by decide +kernel)
set_option maxRecDepth 20000 in
theorem gX3_followChoices_X3_stateOf : GoodIn wsX3_followChoices (va_wsS RX3 101 yX3_stateOf wsX3_stateOf) := goodIn_app (goodIn_of _ (by decide +kernel)) ggX3_followChoices_X3_stateOf
set_option maxRecDepth 20000 in
theorem ggX3_followChoices_X3_filled : GoodIn wsX3_followChoices wsX3_filled := goodIn_r _ [14, 15, 16, 17, 18] (by decide +kernel) (by decide +kernel)
set_option maxRecDepth 20000 in
theorem gX3_followChoices_X3_filled : GoodIn wsX3_followChoices (va_wsS RX3 67 yX3_filled wsX3_filled) := goodIn_app (goodIn_of _ (by decide +kernel)) ggX3_followChoices_X3_filled
set_option maxRecDepth 20000 in
theorem ggX3_followChoices_X3_needed : GoodIn wsX3_followChoices wsX3_needed := goodIn_r _ [21] (by decide +kernel) (by decide +kernel)
set_option maxRecDepth 20000 in
theorem gX3_followChoices_X3_needed : GoodIn wsX3_followChoices (va_wsS RX3 70 yX3_needed wsX3_needed) := goodIn_app (goodIn_of _ (by decide +kernel)) ggX3_followChoices_X3_needed
theorem dX3_followChoices_0 : decode cX3_followChoices 0 = .ok (.aload_n 0, 1) := by decide +kernel
theorem dX3_followChoices_1 : decode cX3_followChoices 1 = .ok (.iconst 0, 1) := by decide +kernel
theorem dX3_followChoices_2 : decode cX3_followChoices 2 = .ok (.putfield 88, 3) := by decide +kernel
theorem dX3_followChoices_5 : decode cX3_followChoices 5 = .ok (.aload_n 0, 1) := by decide +kernel
theorem dX3_followChoices_6 : decode cX3_followChoices 6 = .ok (.aload_n 0, 1) := by decide +kernel
theorem dX3_followChoices_7 : decode cX3_followChoices 7 = .ok (.getfield 48, 3) := by decide +kernel
theorem dX3_followChoices_10 : decode cX3_followChoices 10 = .ok (.putfield 44, 3) := by decide +kernel
theorem dX3_followChoices_13 : decode cX3_followChoices 13 = .ok (.aload_n 0, 1) := by decide +kernel
theorem dX3_followChoices_14 : decode cX3_followChoices 14 = .ok (.getfield 51, 3) := by decide +kernel
theorem dX3_followChoices_17 : decode cX3_followChoices 17 = .ok (.istore_n 1, 1) := by decide +kernel
theorem dX3_followChoices_18 : decode cX3_followChoices 18 = .ok (.aload_n 0, 1) := by decide +kernel
theorem dX3_followChoices_19 : decode cX3_followChoices 19 = .ok (.getfield 54, 3) := by decide +kernel
theorem dX3_followChoices_22 : decode cX3_followChoices 22 = .ok (.istore_n 2, 1) := by decide +kernel
theorem dX3_followChoices_23 : decode cX3_followChoices 23 = .ok (.aload_n 0, 1) := by decide +kernel
theorem dX3_followChoices_24 : decode cX3_followChoices 24 = .ok (.getfield 48, 3) := by decide +kernel
theorem dX3_followChoices_27 : decode cX3_followChoices 27 = .ok (.istore_n 3, 1) := by decide +kernel
theorem dX3_followChoices_28 : decode cX3_followChoices 28 = .ok (.iload_n 3, 1) := by decide +kernel
theorem dX3_followChoices_29 : decode cX3_followChoices 29 = .ok (.bipush 24, 2) := by decide +kernel
theorem dX3_followChoices_31 : decode cX3_followChoices 31 = .ok (.if_icmp .ge 71, 3) := by decide +kernel
theorem dX3_followChoices_34 : decode cX3_followChoices 34 = .ok (.aload_n 0, 1) := by decide +kernel
theorem dX3_followChoices_35 : decode cX3_followChoices 35 = .ok (.getfield 35, 3) := by decide +kernel
theorem dX3_followChoices_38 : decode cX3_followChoices 38 = .ok (.iload_n 1, 1) := by decide +kernel
theorem dX3_followChoices_39 : decode cX3_followChoices 39 = .ok (.iload_n 2, 1) := by decide +kernel
theorem dX3_followChoices_40 : decode cX3_followChoices 40 = .ok (.invokestatic 101, 3) := by decide +kernel
theorem dX3_followChoices_43 : decode cX3_followChoices 43 = .ok (.iaload, 1) := by decide +kernel
theorem dX3_followChoices_44 : decode cX3_followChoices 44 = .ok (.iload_n 3, 1) := by decide +kernel
theorem dX3_followChoices_45 : decode cX3_followChoices 45 = .ok (.ishr, 1) := by decide +kernel
theorem dX3_followChoices_46 : decode cX3_followChoices 46 = .ok (.iconst 1, 1) := by decide +kernel
theorem dX3_followChoices_47 : decode cX3_followChoices 47 = .ok (.iand, 1) := by decide +kernel
theorem dX3_followChoices_48 : decode cX3_followChoices 48 = .ok (.ifCond .eq 7, 3) := by decide +kernel
theorem dX3_followChoices_51 : decode cX3_followChoices 51 = .ok (.iconst 1, 1) := by decide +kernel
theorem dX3_followChoices_52 : decode cX3_followChoices 52 = .ok (.goto 4, 3) := by decide +kernel
theorem dX3_followChoices_55 : decode cX3_followChoices 55 = .ok (.iconst 0, 1) := by decide +kernel
theorem dX3_followChoices_56 : decode cX3_followChoices 56 = .ok (.istore 4, 2) := by decide +kernel
theorem dX3_followChoices_58 : decode cX3_followChoices 58 = .ok (.iload_n 1, 1) := by decide +kernel
theorem dX3_followChoices_59 : decode cX3_followChoices 59 = .ok (.aload_n 0, 1) := by decide +kernel
theorem dX3_followChoices_60 : decode cX3_followChoices 60 = .ok (.getfield 38, 3) := by decide +kernel
theorem dX3_followChoices_63 : decode cX3_followChoices 63 = .ok (.iload_n 3, 1) := by decide +kernel
theorem dX3_followChoices_64 : decode cX3_followChoices 64 = .ok (.iaload, 1) := by decide +kernel
theorem dX3_followChoices_65 : decode cX3_followChoices 65 = .ok (.invokestatic 67, 3) := by decide +kernel
theorem dX3_followChoices_68 : decode cX3_followChoices 68 = .ok (.istore_n 1, 1) := by decide +kernel
theorem dX3_followChoices_69 : decode cX3_followChoices 69 = .ok (.iload 4, 2) := by decide +kernel
theorem dX3_followChoices_71 : decode cX3_followChoices 71 = .ok (.ifCond .eq 22, 3) := by decide +kernel
theorem dX3_followChoices_74 : decode cX3_followChoices 74 = .ok (.iload_n 1, 1) := by decide +kernel
theorem dX3_followChoices_75 : decode cX3_followChoices 75 = .ok (.iload_n 2, 1) := by decide +kernel
theorem dX3_followChoices_76 : decode cX3_followChoices 76 = .ok (.invokestatic 70, 3) := by decide +kernel
theorem dX3_followChoices_79 : decode cX3_followChoices 79 = .ok (.isub, 1) := by decide +kernel
theorem dX3_followChoices_80 : decode cX3_followChoices 80 = .ok (.istore_n 1, 1) := by decide +kernel
theorem dX3_followChoices_81 : decode cX3_followChoices 81 = .ok (.aload_n 0, 1) := by decide +kernel
theorem dX3_followChoices_82 : decode cX3_followChoices 82 = .ok (.dup, 1) := by decide +kernel
theorem dX3_followChoices_83 : decode cX3_followChoices 83 = .ok (.getfield 88, 3) := by decide +kernel
theorem dX3_followChoices_86 : decode cX3_followChoices 86 = .ok (.iconst 1, 1) := by decide +kernel
theorem dX3_followChoices_87 : decode cX3_followChoices 87 = .ok (.iload_n 3, 1) := by decide +kernel
theorem dX3_followChoices_88 : decode cX3_followChoices 88 = .ok (.ishl, 1) := by decide +kernel
theorem dX3_followChoices_89 : decode cX3_followChoices 89 = .ok (.ior, 1) := by decide +kernel
theorem dX3_followChoices_90 : decode cX3_followChoices 90 = .ok (.putfield 88, 3) := by decide +kernel
theorem dX3_followChoices_93 : decode cX3_followChoices 93 = .ok (.iload 4, 2) := by decide +kernel
theorem dX3_followChoices_95 : decode cX3_followChoices 95 = .ok (.istore_n 2, 1) := by decide +kernel
theorem dX3_followChoices_96 : decode cX3_followChoices 96 = .ok (.iinc 3 1, 3) := by decide +kernel
theorem dX3_followChoices_99 : decode cX3_followChoices 99 = .ok (.goto (-71), 3) := by decide +kernel
theorem dX3_followChoices_102 : decode cX3_followChoices 102 = .ok (.return_, 1) := by decide +kernel
theorem dX3_stateOf_0 : decode cX3_stateOf 0 = .ok (.iconst 2, 1) := by decide +kernel
theorem dX3_stateOf_1 : decode cX3_stateOf 1 = .ok (.iload_n 0, 1) := by decide +kernel
theorem dX3_stateOf_2 : decode cX3_stateOf 2 = .ok (.imul, 1) := by decide +kernel
theorem dX3_stateOf_3 : decode cX3_stateOf 3 = .ok (.iload_n 1, 1) := by decide +kernel
theorem dX3_stateOf_4 : decode cX3_stateOf 4 = .ok (.ifCond .eq 7, 3) := by decide +kernel
theorem dX3_stateOf_7 : decode cX3_stateOf 7 = .ok (.iconst 1, 1) := by decide +kernel
theorem dX3_stateOf_8 : decode cX3_stateOf 8 = .ok (.goto 4, 3) := by decide +kernel
theorem dX3_stateOf_11 : decode cX3_stateOf 11 = .ok (.iconst 0, 1) := by decide +kernel
theorem dX3_stateOf_12 : decode cX3_stateOf 12 = .ok (.iadd, 1) := by decide +kernel
theorem dX3_stateOf_13 : decode cX3_stateOf 13 = .ok (.ireturn, 1) := by decide +kernel
set_option maxRecDepth 20000 in
theorem ggX4_init_X1_init : GoodIn wsX4_init wsX1_init := goodIn_r _ [23, 24, 2, 3, 25, 26, 27, 28, 29, 30, 31, 32, 33, 34, 35, 75, 76, 77, 78, 79, 80, 81, 82, 83, 84, 85] (by decide +kernel) (by decide +kernel)
set_option maxRecDepth 20000 in
theorem gX4_init_X1_init : GoodIn wsX4_init (wsX1_init) := ggX4_init_X1_init
set_option maxRecDepth 20000 in
theorem ggX4_init_X0_init : GoodIn wsX4_init wsX0_init := goodIn_r _ [38, 39, 2, 3, 40, 25, 41, 42, 43, 44, 45, 46, 47, 48, 49, 50, 51, 52, 53, 54, 91, 92, 93, 94, 95, 96, 97, 98, 99, 100, 101] (by decide +kernel) (by decide +kernel)
set_option maxRecDepth 20000 in
theorem gX4_init_X0_init : GoodIn wsX4_init (wsX0_init) := ggX4_init_X0_init
set_option maxRecDepth 20000 in
theorem ggX4_init_X3_init : GoodIn wsX4_init wsX3_init := goodIn_r _ [57, 58, 2, 3, 59, 60, 25, 61, 62, 63, 64, 65, 66, 67, 68, 52, 53, 54, 102, 103, 104, 105, 106, 107, 108, 109, 110, 111, 112, 113, 114, 115] (by decide +kernel) (by decide +kernel)
set_option maxRecDepth 20000 in
theorem gX4_init_X3_init : GoodIn wsX4_init (wsX3_init) := ggX4_init_X3_init
set_option maxRecDepth 20000 in
theorem ggX4_init_X2_init : GoodIn wsX4_init wsX2_init := goodIn_r _ [71, 72, 2, 3, 25, 73, 74, 116, 117, 118, 119, 120] (by decide +kernel) (by decide +kernel)
set_option maxRecDepth 20000 in
theorem gX4_init_X2_init : GoodIn wsX4_init (wsX2_init) := ggX4_init_X2_init
theorem dX4_init_0 : decode cX4_init 0 = .ok (.aload_n 0, 1) := by decide +kernel
theorem dX4_init_1 : decode cX4_init 1 = .ok (.invokespecial 1, 3) := by decide +kernel
theorem dX4_init_4 : decode cX4_init 4 = .ok (.aload_n 0, 1) := by decide +kernel
theorem dX4_init_5 : decode cX4_init 5 = .ok (.new 7, 3) := by decide +kernel
theorem dX4_init_8 : decode cX4_init 8 = .ok (.dup, 1) := by decide +kernel
theorem dX4_init_9 : decode cX4_init 9 = .ok (.invokespecial 9, 3) := by decide +kernel
theorem dX4_init_12 : decode cX4_init 12 = .ok (.putfield 10, 3) := by decide +kernel
theorem dX4_init_15 : decode cX4_init 15 = .ok (.aload_n 0, 1) := by decide +kernel
theorem dX4_init_16 : decode cX4_init 16 = .ok (.new 16, 3) := by decide +kernel
theorem dX4_init_19 : decode cX4_init 19 = .ok (.dup, 1) := by decide +kernel
theorem dX4_init_20 : decode cX4_init 20 = .ok (.aload_n 0, 1) := by decide +kernel
theorem dX4_init_21 : decode cX4_init 21 = .ok (.getfield 10, 3) := by decide +kernel
theorem dX4_init_24 : decode cX4_init 24 = .ok (.invokespecial 18, 3) := by decide +kernel
theorem dX4_init_27 : decode cX4_init 27 = .ok (.putfield 21, 3) := by decide +kernel
theorem dX4_init_30 : decode cX4_init 30 = .ok (.aload_n 0, 1) := by decide +kernel
theorem dX4_init_31 : decode cX4_init 31 = .ok (.new 25, 3) := by decide +kernel
theorem dX4_init_34 : decode cX4_init 34 = .ok (.dup, 1) := by decide +kernel
theorem dX4_init_35 : decode cX4_init 35 = .ok (.aload_n 0, 1) := by decide +kernel
theorem dX4_init_36 : decode cX4_init 36 = .ok (.getfield 10, 3) := by decide +kernel
theorem dX4_init_39 : decode cX4_init 39 = .ok (.aload_n 0, 1) := by decide +kernel
theorem dX4_init_40 : decode cX4_init 40 = .ok (.getfield 21, 3) := by decide +kernel
theorem dX4_init_43 : decode cX4_init 43 = .ok (.invokespecial 27, 3) := by decide +kernel
theorem dX4_init_46 : decode cX4_init 46 = .ok (.putfield 30, 3) := by decide +kernel
theorem dX4_init_49 : decode cX4_init 49 = .ok (.aload_n 0, 1) := by decide +kernel
theorem dX4_init_50 : decode cX4_init 50 = .ok (.new 34, 3) := by decide +kernel
theorem dX4_init_53 : decode cX4_init 53 = .ok (.dup, 1) := by decide +kernel
theorem dX4_init_54 : decode cX4_init 54 = .ok (.invokespecial 36, 3) := by decide +kernel
theorem dX4_init_57 : decode cX4_init 57 = .ok (.putfield 37, 3) := by decide +kernel
theorem dX4_init_60 : decode cX4_init 60 = .ok (.aload_n 0, 1) := by decide +kernel
theorem dX4_init_61 : decode cX4_init 61 = .ok (.iconst 0, 1) := by decide +kernel
theorem dX4_init_62 : decode cX4_init 62 = .ok (.putfield 41, 3) := by decide +kernel
theorem dX4_init_65 : decode cX4_init 65 = .ok (.return_, 1) := by decide +kernel
set_option maxRecDepth 20000 in
theorem ggX4_mirror_X4_isWithin : GoodIn wsX4_mirror wsX4_isWithin := goodIn_r _ [5] (by decide +kernel) (by decide +kernel)
set_option maxRecDepth 20000 in
theorem gX4_mirror_X4_isWithin : GoodIn wsX4_mirror (va_wsS RX4 45 yX4_isWithin wsX4_isWithin) := goodIn_app (goodIn_of _ (by decide +kernel)) ggX4_mirror_X4_isWithin
set_option maxRecDepth 20000 in
theorem ggX4_mirror_X4_refused : GoodIn wsX4_mirror wsX4_refused := goodIn_r _ [9, 10, 37, 38, 39, 40, 41] (by decide +kernel) (by decide +kernel)
set_option maxRecDepth 20000 in
theorem gX4_mirror_X4_refused : GoodIn wsX4_mirror (wsV RX4 49 RX4 yX4_refused wsX4_refused) := goodIn_app (goodIn_of _ (by decide +kernel)) ggX4_mirror_X4_refused
set_option maxRecDepth 20000 in
theorem ggX4_mirror_X1_isTaken : GoodIn wsX4_mirror wsX1_isTaken := goodIn_r _ [15, 16, 42, 43, 44, 45, 46, 47, 48, 49, 50, 51, 52] (by decide +kernel) (by decide +kernel)
set_option maxRecDepth 20000 in
theorem gX4_mirror_X1_isTaken : GoodIn wsX4_mirror (wsV RX4 53 RX1 yX1_isTaken wsX1_isTaken) := goodIn_app (goodIn_of _ (by decide +kernel)) ggX4_mirror_X1_isTaken
set_option maxRecDepth 20000 in
theorem ggX4_mirror_X1_size : GoodIn wsX4_mirror wsX1_size := goodIn_r _ [20, 21, 42, 43, 44, 45, 46, 47, 48, 49, 50, 51, 52] (by decide +kernel) (by decide +kernel)
set_option maxRecDepth 20000 in
theorem gX4_mirror_X1_size : GoodIn wsX4_mirror (wsV RX4 57 RX1 yX1_size wsX1_size) := goodIn_app (goodIn_of _ (by decide +kernel)) ggX4_mirror_X1_size
set_option maxRecDepth 20000 in
theorem ggX4_mirror_X1_place : GoodIn wsX4_mirror wsX1_place := goodIn_r _ [25, 21, 26, 27, 16, 28, 29, 30, 31, 14, 32, 42, 43, 44, 45, 46, 47, 48, 49, 50, 51, 52] (by decide +kernel) (by decide +kernel)
set_option maxRecDepth 20000 in
theorem gX4_mirror_X1_place : GoodIn wsX4_mirror (wsV RX4 61 RX1 yX1_place wsX1_place) := goodIn_app (goodIn_of _ (by decide +kernel)) ggX4_mirror_X1_place
set_option maxRecDepth 20000 in
theorem ggX4_mirror_X4_granted : GoodIn wsX4_mirror wsX4_granted := goodIn_r _ [36, 10, 37, 38, 39, 40, 41] (by decide +kernel) (by decide +kernel)
set_option maxRecDepth 20000 in
theorem gX4_mirror_X4_granted : GoodIn wsX4_mirror (wsV RX4 65 RX4 yX4_granted wsX4_granted) := goodIn_app (goodIn_of _ (by decide +kernel)) ggX4_mirror_X4_granted
theorem dX4_mirror_0 : decode cX4_mirror 0 = .ok (.iload_n 1, 1) := by decide +kernel
theorem dX4_mirror_1 : decode cX4_mirror 1 = .ok (.iconst 0, 1) := by decide +kernel
theorem dX4_mirror_2 : decode cX4_mirror 2 = .ok (.bipush 14, 2) := by decide +kernel
theorem dX4_mirror_4 : decode cX4_mirror 4 = .ok (.invokestatic 45, 3) := by decide +kernel
theorem dX4_mirror_7 : decode cX4_mirror 7 = .ok (.ifCond .eq 13, 3) := by decide +kernel
theorem dX4_mirror_10 : decode cX4_mirror 10 = .ok (.iload_n 2, 1) := by decide +kernel
theorem dX4_mirror_11 : decode cX4_mirror 11 = .ok (.iconst 0, 1) := by decide +kernel
theorem dX4_mirror_12 : decode cX4_mirror 12 = .ok (.bipush 14, 2) := by decide +kernel
theorem dX4_mirror_14 : decode cX4_mirror 14 = .ok (.invokestatic 45, 3) := by decide +kernel
theorem dX4_mirror_17 : decode cX4_mirror 17 = .ok (.ifCond .ne 9, 3) := by decide +kernel
theorem dX4_mirror_20 : decode cX4_mirror 20 = .ok (.aload_n 0, 1) := by decide +kernel
theorem dX4_mirror_21 : decode cX4_mirror 21 = .ok (.iconst 2, 1) := by decide +kernel
theorem dX4_mirror_22 : decode cX4_mirror 22 = .ok (.invokevirtual 49, 3) := by decide +kernel
theorem dX4_mirror_25 : decode cX4_mirror 25 = .ok (.ireturn, 1) := by decide +kernel
theorem dX4_mirror_26 : decode cX4_mirror 26 = .ok (.iload_n 1, 1) := by decide +kernel
theorem dX4_mirror_27 : decode cX4_mirror 27 = .ok (.bipush 7, 2) := by decide +kernel
theorem dX4_mirror_29 : decode cX4_mirror 29 = .ok (.if_icmp .ne 11, 3) := by decide +kernel
theorem dX4_mirror_32 : decode cX4_mirror 32 = .ok (.iload_n 2, 1) := by decide +kernel
theorem dX4_mirror_33 : decode cX4_mirror 33 = .ok (.ifCond .ne 7, 3) := by decide +kernel
theorem dX4_mirror_36 : decode cX4_mirror 36 = .ok (.iconst 1, 1) := by decide +kernel
theorem dX4_mirror_37 : decode cX4_mirror 37 = .ok (.goto 4, 3) := by decide +kernel
theorem dX4_mirror_40 : decode cX4_mirror 40 = .ok (.iconst 0, 1) := by decide +kernel
theorem dX4_mirror_41 : decode cX4_mirror 41 = .ok (.istore_n 3, 1) := by decide +kernel
theorem dX4_mirror_42 : decode cX4_mirror 42 = .ok (.iload_n 3, 1) := by decide +kernel
theorem dX4_mirror_43 : decode cX4_mirror 43 = .ok (.ifCond .ne 15, 3) := by decide +kernel
theorem dX4_mirror_46 : decode cX4_mirror 46 = .ok (.aload_n 0, 1) := by decide +kernel
theorem dX4_mirror_47 : decode cX4_mirror 47 = .ok (.getfield 10, 3) := by decide +kernel
theorem dX4_mirror_50 : decode cX4_mirror 50 = .ok (.iload_n 1, 1) := by decide +kernel
theorem dX4_mirror_51 : decode cX4_mirror 51 = .ok (.iload_n 2, 1) := by decide +kernel
theorem dX4_mirror_52 : decode cX4_mirror 52 = .ok (.invokevirtual 53, 3) := by decide +kernel
theorem dX4_mirror_55 : decode cX4_mirror 55 = .ok (.ifCond .eq 9, 3) := by decide +kernel
theorem dX4_mirror_58 : decode cX4_mirror 58 = .ok (.aload_n 0, 1) := by decide +kernel
theorem dX4_mirror_59 : decode cX4_mirror 59 = .ok (.iconst 4, 1) := by decide +kernel
theorem dX4_mirror_60 : decode cX4_mirror 60 = .ok (.invokevirtual 49, 3) := by decide +kernel
theorem dX4_mirror_63 : decode cX4_mirror 63 = .ok (.ireturn, 1) := by decide +kernel
theorem dX4_mirror_64 : decode cX4_mirror 64 = .ok (.aload_n 0, 1) := by decide +kernel
theorem dX4_mirror_65 : decode cX4_mirror 65 = .ok (.getfield 10, 3) := by decide +kernel
theorem dX4_mirror_68 : decode cX4_mirror 68 = .ok (.invokevirtual 57, 3) := by decide +kernel
theorem dX4_mirror_71 : decode cX4_mirror 71 = .ok (.bipush 40, 2) := by decide +kernel
theorem dX4_mirror_73 : decode cX4_mirror 73 = .ok (.if_icmp .lt 9, 3) := by decide +kernel
theorem dX4_mirror_76 : decode cX4_mirror 76 = .ok (.aload_n 0, 1) := by decide +kernel
theorem dX4_mirror_77 : decode cX4_mirror 77 = .ok (.iconst 3, 1) := by decide +kernel
theorem dX4_mirror_78 : decode cX4_mirror 78 = .ok (.invokevirtual 49, 3) := by decide +kernel
theorem dX4_mirror_81 : decode cX4_mirror 81 = .ok (.ireturn, 1) := by decide +kernel
theorem dX4_mirror_82 : decode cX4_mirror 82 = .ok (.aload_n 0, 1) := by decide +kernel
theorem dX4_mirror_83 : decode cX4_mirror 83 = .ok (.aload_n 0, 1) := by decide +kernel
theorem dX4_mirror_84 : decode cX4_mirror 84 = .ok (.getfield 10, 3) := by decide +kernel
theorem dX4_mirror_87 : decode cX4_mirror 87 = .ok (.iload_n 1, 1) := by decide +kernel
theorem dX4_mirror_88 : decode cX4_mirror 88 = .ok (.iload_n 2, 1) := by decide +kernel
theorem dX4_mirror_89 : decode cX4_mirror 89 = .ok (.invokevirtual 61, 3) := by decide +kernel
theorem dX4_mirror_92 : decode cX4_mirror 92 = .ok (.invokevirtual 65, 3) := by decide +kernel
theorem dX4_mirror_95 : decode cX4_mirror 95 = .ok (.ireturn, 1) := by decide +kernel
set_option maxRecDepth 20000 in
theorem ggX4_sun_X4_isWithin : GoodIn wsX4_sun wsX4_isWithin := goodIn_r _ [5] (by decide +kernel) (by decide +kernel)
set_option maxRecDepth 20000 in
theorem gX4_sun_X4_isWithin : GoodIn wsX4_sun (va_wsS RX4 45 yX4_isWithin wsX4_isWithin) := goodIn_app (goodIn_of _ (by decide +kernel)) ggX4_sun_X4_isWithin
set_option maxRecDepth 20000 in
theorem ggX4_sun_X4_isHour : GoodIn wsX4_sun wsX4_isHour := goodIn_r _ [8, 2, 3, 4, 5] (by decide +kernel) (by decide +kernel)
set_option maxRecDepth 20000 in
theorem gX4_sun_X4_isHour : GoodIn wsX4_sun (va_wsS RX4 68 yX4_isHour wsX4_isHour) := goodIn_app (goodIn_of _ (by decide +kernel)) ggX4_sun_X4_isHour
set_option maxRecDepth 20000 in
theorem ggX4_sun_X4_denied : GoodIn wsX4_sun wsX4_denied := goodIn_r _ [12, 13, 26, 27, 28, 29, 30] (by decide +kernel) (by decide +kernel)
set_option maxRecDepth 20000 in
theorem gX4_sun_X4_denied : GoodIn wsX4_sun (wsV RX4 72 RX4 yX4_denied wsX4_denied) := goodIn_app (goodIn_of _ (by decide +kernel)) ggX4_sun_X4_denied
set_option maxRecDepth 20000 in
theorem ggX4_sun_X1_setSun : GoodIn wsX4_sun wsX1_setSun := goodIn_r _ [18, 19, 20, 21, 31, 32, 33, 34, 35, 36, 37, 38, 39, 40, 41] (by decide +kernel) (by decide +kernel)
set_option maxRecDepth 20000 in
theorem gX4_sun_X1_setSun : GoodIn wsX4_sun (wsV RX4 75 RX1 yX1_setSun wsX1_setSun) := goodIn_app (goodIn_of _ (by decide +kernel)) ggX4_sun_X1_setSun
set_option maxRecDepth 20000 in
theorem ggX4_sun_X4_allowed : GoodIn wsX4_sun wsX4_allowed := goodIn_r _ [25, 13, 26, 27, 28, 29, 30] (by decide +kernel) (by decide +kernel)
set_option maxRecDepth 20000 in
theorem gX4_sun_X4_allowed : GoodIn wsX4_sun (wsV RX4 79 RX4 yX4_allowed wsX4_allowed) := goodIn_app (goodIn_of _ (by decide +kernel)) ggX4_sun_X4_allowed
theorem dX4_sun_0 : decode cX4_sun 0 = .ok (.iload_n 2, 1) := by decide +kernel
theorem dX4_sun_1 : decode cX4_sun 1 = .ok (.bipush (-2), 2) := by decide +kernel
theorem dX4_sun_3 : decode cX4_sun 3 = .ok (.iconst 2, 1) := by decide +kernel
theorem dX4_sun_4 : decode cX4_sun 4 = .ok (.invokestatic 45, 3) := by decide +kernel
theorem dX4_sun_7 : decode cX4_sun 7 = .ok (.ifCond .eq 25, 3) := by decide +kernel
theorem dX4_sun_10 : decode cX4_sun 10 = .ok (.iload_n 3, 1) := by decide +kernel
theorem dX4_sun_11 : decode cX4_sun 11 = .ok (.bipush (-2), 2) := by decide +kernel
theorem dX4_sun_13 : decode cX4_sun 13 = .ok (.iconst 2, 1) := by decide +kernel
theorem dX4_sun_14 : decode cX4_sun 14 = .ok (.invokestatic 45, 3) := by decide +kernel
theorem dX4_sun_17 : decode cX4_sun 17 = .ok (.ifCond .eq 15, 3) := by decide +kernel
theorem dX4_sun_20 : decode cX4_sun 20 = .ok (.iload_n 2, 1) := by decide +kernel
theorem dX4_sun_21 : decode cX4_sun 21 = .ok (.ifCond .ne 7, 3) := by decide +kernel
theorem dX4_sun_24 : decode cX4_sun 24 = .ok (.iload_n 3, 1) := by decide +kernel
theorem dX4_sun_25 : decode cX4_sun 25 = .ok (.ifCond .eq 7, 3) := by decide +kernel
theorem dX4_sun_28 : decode cX4_sun 28 = .ok (.iconst 1, 1) := by decide +kernel
theorem dX4_sun_29 : decode cX4_sun 29 = .ok (.goto 4, 3) := by decide +kernel
theorem dX4_sun_32 : decode cX4_sun 32 = .ok (.iconst 0, 1) := by decide +kernel
theorem dX4_sun_33 : decode cX4_sun 33 = .ok (.istore 5, 2) := by decide +kernel
theorem dX4_sun_35 : decode cX4_sun 35 = .ok (.iload_n 1, 1) := by decide +kernel
theorem dX4_sun_36 : decode cX4_sun 36 = .ok (.invokestatic 68, 3) := by decide +kernel
theorem dX4_sun_39 : decode cX4_sun 39 = .ok (.ifCond .eq 19, 3) := by decide +kernel
theorem dX4_sun_42 : decode cX4_sun 42 = .ok (.iload 5, 2) := by decide +kernel
theorem dX4_sun_44 : decode cX4_sun 44 = .ok (.ifCond .eq 14, 3) := by decide +kernel
theorem dX4_sun_47 : decode cX4_sun 47 = .ok (.iload 4, 2) := by decide +kernel
theorem dX4_sun_49 : decode cX4_sun 49 = .ok (.iconst 0, 1) := by decide +kernel
theorem dX4_sun_50 : decode cX4_sun 50 = .ok (.bipush 9, 2) := by decide +kernel
theorem dX4_sun_52 : decode cX4_sun 52 = .ok (.invokestatic 45, 3) := by decide +kernel
theorem dX4_sun_55 : decode cX4_sun 55 = .ok (.ifCond .ne 9, 3) := by decide +kernel
theorem dX4_sun_58 : decode cX4_sun 58 = .ok (.aload_n 0, 1) := by decide +kernel
theorem dX4_sun_59 : decode cX4_sun 59 = .ok (.iconst 2, 1) := by decide +kernel
theorem dX4_sun_60 : decode cX4_sun 60 = .ok (.invokevirtual 72, 3) := by decide +kernel
theorem dX4_sun_63 : decode cX4_sun 63 = .ok (.ireturn, 1) := by decide +kernel
theorem dX4_sun_64 : decode cX4_sun 64 = .ok (.aload_n 0, 1) := by decide +kernel
theorem dX4_sun_65 : decode cX4_sun 65 = .ok (.getfield 10, 3) := by decide +kernel
theorem dX4_sun_68 : decode cX4_sun 68 = .ok (.iload_n 1, 1) := by decide +kernel
theorem dX4_sun_69 : decode cX4_sun 69 = .ok (.iload_n 2, 1) := by decide +kernel
theorem dX4_sun_70 : decode cX4_sun 70 = .ok (.iload_n 3, 1) := by decide +kernel
theorem dX4_sun_71 : decode cX4_sun 71 = .ok (.iload 4, 2) := by decide +kernel
theorem dX4_sun_73 : decode cX4_sun 73 = .ok (.invokevirtual 75, 3) := by decide +kernel
theorem dX4_sun_76 : decode cX4_sun 76 = .ok (.aload_n 0, 1) := by decide +kernel
theorem dX4_sun_77 : decode cX4_sun 77 = .ok (.invokevirtual 79, 3) := by decide +kernel
theorem dX4_sun_80 : decode cX4_sun 80 = .ok (.ireturn, 1) := by decide +kernel
set_option maxRecDepth 20000 in
theorem ggX4_limit_X4_isCell : GoodIn wsX4_limit wsX4_isCell := goodIn_r _ [5, 6, 7, 4, 8] (by decide +kernel) (by decide +kernel)
set_option maxRecDepth 20000 in
theorem gX4_limit_X4_isCell : GoodIn wsX4_limit (va_wsS RX4 83 yX4_isCell wsX4_isCell) := goodIn_app (goodIn_of _ (by decide +kernel)) ggX4_limit_X4_isCell
set_option maxRecDepth 20000 in
theorem ggX4_limit_X4_denied : GoodIn wsX4_limit wsX4_denied := goodIn_r _ [12, 13, 24, 25, 26, 27, 28] (by decide +kernel) (by decide +kernel)
set_option maxRecDepth 20000 in
theorem gX4_limit_X4_denied : GoodIn wsX4_limit (wsV RX4 72 RX4 yX4_denied wsX4_denied) := goodIn_app (goodIn_of _ (by decide +kernel)) ggX4_limit_X4_denied
set_option maxRecDepth 20000 in
theorem ggX4_limit_X4_isWithin : GoodIn wsX4_limit wsX4_isWithin := goodIn_r _ [8] (by decide +kernel) (by decide +kernel)
set_option maxRecDepth 20000 in
theorem gX4_limit_X4_isWithin : GoodIn wsX4_limit (va_wsS RX4 45 yX4_isWithin wsX4_isWithin) := goodIn_app (goodIn_of _ (by decide +kernel)) ggX4_limit_X4_isWithin
set_option maxRecDepth 20000 in
theorem ggX4_limit_X0_setLimit : GoodIn wsX4_limit wsX0_setLimit := goodIn_r _ [18, 19, 29, 30, 31, 32, 33, 34, 35, 36, 37, 38, 39] (by decide +kernel) (by decide +kernel)
set_option maxRecDepth 20000 in
theorem gX4_limit_X0_setLimit : GoodIn wsX4_limit (wsV RX4 86 RX0 yX0_setLimit wsX0_setLimit) := goodIn_app (goodIn_of _ (by decide +kernel)) ggX4_limit_X0_setLimit
set_option maxRecDepth 20000 in
theorem ggX4_limit_X4_allowed : GoodIn wsX4_limit wsX4_allowed := goodIn_r _ [23, 13, 24, 25, 26, 27, 28] (by decide +kernel) (by decide +kernel)
set_option maxRecDepth 20000 in
theorem gX4_limit_X4_allowed : GoodIn wsX4_limit (wsV RX4 79 RX4 yX4_allowed wsX4_allowed) := goodIn_app (goodIn_of _ (by decide +kernel)) ggX4_limit_X4_allowed
theorem dX4_limit_0 : decode cX4_limit 0 = .ok (.iload_n 1, 1) := by decide +kernel
theorem dX4_limit_1 : decode cX4_limit 1 = .ok (.invokestatic 83, 3) := by decide +kernel
theorem dX4_limit_4 : decode cX4_limit 4 = .ok (.ifCond .ne 9, 3) := by decide +kernel
theorem dX4_limit_7 : decode cX4_limit 7 = .ok (.aload_n 0, 1) := by decide +kernel
theorem dX4_limit_8 : decode cX4_limit 8 = .ok (.iconst 1, 1) := by decide +kernel
theorem dX4_limit_9 : decode cX4_limit 9 = .ok (.invokevirtual 72, 3) := by decide +kernel
theorem dX4_limit_12 : decode cX4_limit 12 = .ok (.ireturn, 1) := by decide +kernel
theorem dX4_limit_13 : decode cX4_limit 13 = .ok (.iload_n 2, 1) := by decide +kernel
theorem dX4_limit_14 : decode cX4_limit 14 = .ok (.iconst 0, 1) := by decide +kernel
theorem dX4_limit_15 : decode cX4_limit 15 = .ok (.sipush 10000, 3) := by decide +kernel
theorem dX4_limit_18 : decode cX4_limit 18 = .ok (.invokestatic 45, 3) := by decide +kernel
theorem dX4_limit_21 : decode cX4_limit 21 = .ok (.ifCond .ne 9, 3) := by decide +kernel
theorem dX4_limit_24 : decode cX4_limit 24 = .ok (.aload_n 0, 1) := by decide +kernel
theorem dX4_limit_25 : decode cX4_limit 25 = .ok (.iconst 2, 1) := by decide +kernel
theorem dX4_limit_26 : decode cX4_limit 26 = .ok (.invokevirtual 72, 3) := by decide +kernel
theorem dX4_limit_29 : decode cX4_limit 29 = .ok (.ireturn, 1) := by decide +kernel
theorem dX4_limit_30 : decode cX4_limit 30 = .ok (.aload_n 0, 1) := by decide +kernel
theorem dX4_limit_31 : decode cX4_limit 31 = .ok (.getfield 21, 3) := by decide +kernel
theorem dX4_limit_34 : decode cX4_limit 34 = .ok (.iload_n 1, 1) := by decide +kernel
theorem dX4_limit_35 : decode cX4_limit 35 = .ok (.iload_n 2, 1) := by decide +kernel
theorem dX4_limit_36 : decode cX4_limit 36 = .ok (.invokevirtual 86, 3) := by decide +kernel
theorem dX4_limit_39 : decode cX4_limit 39 = .ok (.aload_n 0, 1) := by decide +kernel
theorem dX4_limit_40 : decode cX4_limit 40 = .ok (.invokevirtual 79, 3) := by decide +kernel
theorem dX4_limit_43 : decode cX4_limit 43 = .ok (.ireturn, 1) := by decide +kernel
set_option maxRecDepth 20000 in
theorem ggX4_wind_X4_isHour : GoodIn wsX4_wind wsX4_isHour := goodIn_r _ [5, 6, 7, 4, 8] (by decide +kernel) (by decide +kernel)
set_option maxRecDepth 20000 in
theorem gX4_wind_X4_isHour : GoodIn wsX4_wind (va_wsS RX4 68 yX4_isHour wsX4_isHour) := goodIn_app (goodIn_of _ (by decide +kernel)) ggX4_wind_X4_isHour
set_option maxRecDepth 20000 in
theorem ggX4_wind_X4_isWithin : GoodIn wsX4_wind wsX4_isWithin := goodIn_r _ [8] (by decide +kernel) (by decide +kernel)
set_option maxRecDepth 20000 in
theorem gX4_wind_X4_isWithin : GoodIn wsX4_wind (va_wsS RX4 45 yX4_isWithin wsX4_isWithin) := goodIn_app (goodIn_of _ (by decide +kernel)) ggX4_wind_X4_isWithin
set_option maxRecDepth 20000 in
theorem ggX4_wind_X4_denied : GoodIn wsX4_wind wsX4_denied := goodIn_r _ [12, 13, 24, 25, 26, 27, 28] (by decide +kernel) (by decide +kernel)
set_option maxRecDepth 20000 in
theorem gX4_wind_X4_denied : GoodIn wsX4_wind (wsV RX4 72 RX4 yX4_denied wsX4_denied) := goodIn_app (goodIn_of _ (by decide +kernel)) ggX4_wind_X4_denied
set_option maxRecDepth 20000 in
theorem ggX4_wind_X1_setWind : GoodIn wsX4_wind wsX1_setWind := goodIn_r _ [18, 19, 29, 30, 31, 32, 33, 34, 35, 36, 37, 38, 39] (by decide +kernel) (by decide +kernel)
set_option maxRecDepth 20000 in
theorem gX4_wind_X1_setWind : GoodIn wsX4_wind (wsV RX4 90 RX1 yX1_setWind wsX1_setWind) := goodIn_app (goodIn_of _ (by decide +kernel)) ggX4_wind_X1_setWind
set_option maxRecDepth 20000 in
theorem ggX4_wind_X4_allowed : GoodIn wsX4_wind wsX4_allowed := goodIn_r _ [23, 13, 24, 25, 26, 27, 28] (by decide +kernel) (by decide +kernel)
set_option maxRecDepth 20000 in
theorem gX4_wind_X4_allowed : GoodIn wsX4_wind (wsV RX4 79 RX4 yX4_allowed wsX4_allowed) := goodIn_app (goodIn_of _ (by decide +kernel)) ggX4_wind_X4_allowed
theorem dX4_wind_0 : decode cX4_wind 0 = .ok (.iload_n 1, 1) := by decide +kernel
theorem dX4_wind_1 : decode cX4_wind 1 = .ok (.invokestatic 68, 3) := by decide +kernel
theorem dX4_wind_4 : decode cX4_wind 4 = .ok (.ifCond .eq 13, 3) := by decide +kernel
theorem dX4_wind_7 : decode cX4_wind 7 = .ok (.iload_n 2, 1) := by decide +kernel
theorem dX4_wind_8 : decode cX4_wind 8 = .ok (.iconst 0, 1) := by decide +kernel
theorem dX4_wind_9 : decode cX4_wind 9 = .ok (.bipush 99, 2) := by decide +kernel
theorem dX4_wind_11 : decode cX4_wind 11 = .ok (.invokestatic 45, 3) := by decide +kernel
theorem dX4_wind_14 : decode cX4_wind 14 = .ok (.ifCond .ne 9, 3) := by decide +kernel
theorem dX4_wind_17 : decode cX4_wind 17 = .ok (.aload_n 0, 1) := by decide +kernel
theorem dX4_wind_18 : decode cX4_wind 18 = .ok (.iconst 2, 1) := by decide +kernel
theorem dX4_wind_19 : decode cX4_wind 19 = .ok (.invokevirtual 72, 3) := by decide +kernel
theorem dX4_wind_22 : decode cX4_wind 22 = .ok (.ireturn, 1) := by decide +kernel
theorem dX4_wind_23 : decode cX4_wind 23 = .ok (.aload_n 0, 1) := by decide +kernel
theorem dX4_wind_24 : decode cX4_wind 24 = .ok (.getfield 10, 3) := by decide +kernel
theorem dX4_wind_27 : decode cX4_wind 27 = .ok (.iload_n 1, 1) := by decide +kernel
theorem dX4_wind_28 : decode cX4_wind 28 = .ok (.iload_n 2, 1) := by decide +kernel
theorem dX4_wind_29 : decode cX4_wind 29 = .ok (.invokevirtual 90, 3) := by decide +kernel
theorem dX4_wind_32 : decode cX4_wind 32 = .ok (.aload_n 0, 1) := by decide +kernel
theorem dX4_wind_33 : decode cX4_wind 33 = .ok (.invokevirtual 79, 3) := by decide +kernel
theorem dX4_wind_36 : decode cX4_wind 36 = .ok (.ireturn, 1) := by decide +kernel
set_option maxRecDepth 20000 in
theorem ggX4_price_X4_isHour : GoodIn wsX4_price wsX4_isHour := goodIn_r _ [5, 6, 7, 4, 8] (by decide +kernel) (by decide +kernel)
set_option maxRecDepth 20000 in
theorem gX4_price_X4_isHour : GoodIn wsX4_price (va_wsS RX4 68 yX4_isHour wsX4_isHour) := goodIn_app (goodIn_of _ (by decide +kernel)) ggX4_price_X4_isHour
set_option maxRecDepth 20000 in
theorem ggX4_price_X4_isWithin : GoodIn wsX4_price wsX4_isWithin := goodIn_r _ [8] (by decide +kernel) (by decide +kernel)
set_option maxRecDepth 20000 in
theorem gX4_price_X4_isWithin : GoodIn wsX4_price (va_wsS RX4 45 yX4_isWithin wsX4_isWithin) := goodIn_app (goodIn_of _ (by decide +kernel)) ggX4_price_X4_isWithin
set_option maxRecDepth 20000 in
theorem ggX4_price_X4_denied : GoodIn wsX4_price wsX4_denied := goodIn_r _ [12, 13, 24, 25, 26, 27, 28] (by decide +kernel) (by decide +kernel)
set_option maxRecDepth 20000 in
theorem gX4_price_X4_denied : GoodIn wsX4_price (wsV RX4 72 RX4 yX4_denied wsX4_denied) := goodIn_app (goodIn_of _ (by decide +kernel)) ggX4_price_X4_denied
set_option maxRecDepth 20000 in
theorem ggX4_price_X3_setPrice : GoodIn wsX4_price wsX3_setPrice := goodIn_r _ [18, 19, 29, 30, 31, 32, 33, 34, 35, 36, 37, 38, 39, 40, 41, 42] (by decide +kernel) (by decide +kernel)
set_option maxRecDepth 20000 in
theorem gX4_price_X3_setPrice : GoodIn wsX4_price (wsV RX4 93 RX3 yX3_setPrice wsX3_setPrice) := goodIn_app (goodIn_of _ (by decide +kernel)) ggX4_price_X3_setPrice
set_option maxRecDepth 20000 in
theorem ggX4_price_X4_allowed : GoodIn wsX4_price wsX4_allowed := goodIn_r _ [23, 13, 24, 25, 26, 27, 28] (by decide +kernel) (by decide +kernel)
set_option maxRecDepth 20000 in
theorem gX4_price_X4_allowed : GoodIn wsX4_price (wsV RX4 79 RX4 yX4_allowed wsX4_allowed) := goodIn_app (goodIn_of _ (by decide +kernel)) ggX4_price_X4_allowed
theorem dX4_price_0 : decode cX4_price 0 = .ok (.iload_n 1, 1) := by decide +kernel
theorem dX4_price_1 : decode cX4_price 1 = .ok (.invokestatic 68, 3) := by decide +kernel
theorem dX4_price_4 : decode cX4_price 4 = .ok (.ifCond .eq 14, 3) := by decide +kernel
theorem dX4_price_7 : decode cX4_price 7 = .ok (.iload_n 2, 1) := by decide +kernel
theorem dX4_price_8 : decode cX4_price 8 = .ok (.iconst 0, 1) := by decide +kernel
theorem dX4_price_9 : decode cX4_price 9 = .ok (.sipush 999, 3) := by decide +kernel
theorem dX4_price_12 : decode cX4_price 12 = .ok (.invokestatic 45, 3) := by decide +kernel
theorem dX4_price_15 : decode cX4_price 15 = .ok (.ifCond .ne 9, 3) := by decide +kernel
theorem dX4_price_18 : decode cX4_price 18 = .ok (.aload_n 0, 1) := by decide +kernel
theorem dX4_price_19 : decode cX4_price 19 = .ok (.iconst 2, 1) := by decide +kernel
theorem dX4_price_20 : decode cX4_price 20 = .ok (.invokevirtual 72, 3) := by decide +kernel
theorem dX4_price_23 : decode cX4_price 23 = .ok (.ireturn, 1) := by decide +kernel
theorem dX4_price_24 : decode cX4_price 24 = .ok (.aload_n 0, 1) := by decide +kernel
theorem dX4_price_25 : decode cX4_price 25 = .ok (.getfield 30, 3) := by decide +kernel
theorem dX4_price_28 : decode cX4_price 28 = .ok (.iload_n 1, 1) := by decide +kernel
theorem dX4_price_29 : decode cX4_price 29 = .ok (.iload_n 2, 1) := by decide +kernel
theorem dX4_price_30 : decode cX4_price 30 = .ok (.invokevirtual 93, 3) := by decide +kernel
theorem dX4_price_33 : decode cX4_price 33 = .ok (.aload_n 0, 1) := by decide +kernel
theorem dX4_price_34 : decode cX4_price 34 = .ok (.invokevirtual 79, 3) := by decide +kernel
theorem dX4_price_37 : decode cX4_price 37 = .ok (.ireturn, 1) := by decide +kernel
set_option maxRecDepth 20000 in
theorem ggX4_dust_X4_isWithin : GoodIn wsX4_dust wsX4_isWithin := goodIn_r _ [5] (by decide +kernel) (by decide +kernel)
set_option maxRecDepth 20000 in
theorem gX4_dust_X4_isWithin : GoodIn wsX4_dust (va_wsS RX4 45 yX4_isWithin wsX4_isWithin) := goodIn_app (goodIn_of _ (by decide +kernel)) ggX4_dust_X4_isWithin
set_option maxRecDepth 20000 in
theorem ggX4_dust_X4_denied : GoodIn wsX4_dust wsX4_denied := goodIn_r _ [9, 10, 21, 22, 23, 24, 25] (by decide +kernel) (by decide +kernel)
set_option maxRecDepth 20000 in
theorem gX4_dust_X4_denied : GoodIn wsX4_dust (wsV RX4 72 RX4 yX4_denied wsX4_denied) := goodIn_app (goodIn_of _ (by decide +kernel)) ggX4_dust_X4_denied
set_option maxRecDepth 20000 in
theorem ggX4_dust_X1_setDust : GoodIn wsX4_dust wsX1_setDust := goodIn_r _ [15, 16, 26, 27, 28, 29, 30, 31, 32, 33, 34, 35, 36] (by decide +kernel) (by decide +kernel)
set_option maxRecDepth 20000 in
theorem gX4_dust_X1_setDust : GoodIn wsX4_dust (wsV RX4 96 RX1 yX1_setDust wsX1_setDust) := goodIn_app (goodIn_of _ (by decide +kernel)) ggX4_dust_X1_setDust
set_option maxRecDepth 20000 in
theorem ggX4_dust_X4_allowed : GoodIn wsX4_dust wsX4_allowed := goodIn_r _ [20, 10, 21, 22, 23, 24, 25] (by decide +kernel) (by decide +kernel)
set_option maxRecDepth 20000 in
theorem gX4_dust_X4_allowed : GoodIn wsX4_dust (wsV RX4 79 RX4 yX4_allowed wsX4_allowed) := goodIn_app (goodIn_of _ (by decide +kernel)) ggX4_dust_X4_allowed
theorem dX4_dust_0 : decode cX4_dust 0 = .ok (.iload_n 1, 1) := by decide +kernel
theorem dX4_dust_1 : decode cX4_dust 1 = .ok (.iconst 0, 1) := by decide +kernel
theorem dX4_dust_2 : decode cX4_dust 2 = .ok (.bipush 20, 2) := by decide +kernel
theorem dX4_dust_4 : decode cX4_dust 4 = .ok (.invokestatic 45, 3) := by decide +kernel
theorem dX4_dust_7 : decode cX4_dust 7 = .ok (.ifCond .ne 9, 3) := by decide +kernel
theorem dX4_dust_10 : decode cX4_dust 10 = .ok (.aload_n 0, 1) := by decide +kernel
theorem dX4_dust_11 : decode cX4_dust 11 = .ok (.iconst 2, 1) := by decide +kernel
theorem dX4_dust_12 : decode cX4_dust 12 = .ok (.invokevirtual 72, 3) := by decide +kernel
theorem dX4_dust_15 : decode cX4_dust 15 = .ok (.ireturn, 1) := by decide +kernel
theorem dX4_dust_16 : decode cX4_dust 16 = .ok (.aload_n 0, 1) := by decide +kernel
theorem dX4_dust_17 : decode cX4_dust 17 = .ok (.getfield 10, 3) := by decide +kernel
theorem dX4_dust_20 : decode cX4_dust 20 = .ok (.iload_n 1, 1) := by decide +kernel
theorem dX4_dust_21 : decode cX4_dust 21 = .ok (.invokevirtual 96, 3) := by decide +kernel
theorem dX4_dust_24 : decode cX4_dust 24 = .ok (.aload_n 0, 1) := by decide +kernel
theorem dX4_dust_25 : decode cX4_dust 25 = .ok (.invokevirtual 79, 3) := by decide +kernel
theorem dX4_dust_28 : decode cX4_dust 28 = .ok (.ireturn, 1) := by decide +kernel
set_option maxRecDepth 20000 in
theorem ggX4_shaded_X4_isMirror : GoodIn wsX4_shaded wsX4_isMirror := goodIn_r _ [6, 1, 7, 8, 9, 10, 11, 12, 13, 14, 5, 15, 34, 35, 36, 37, 38, 39, 40, 41, 42, 43, 44, 45, 46, 47, 48, 49] (by decide +kernel) (by decide +kernel)
set_option maxRecDepth 20000 in
theorem gX4_shaded_X4_isMirror : GoodIn wsX4_shaded (wsV RX4 100 RX4 yX4_isMirror wsX4_isMirror) := goodIn_app (goodIn_of _ (by decide +kernel)) ggX4_shaded_X4_isMirror
set_option maxRecDepth 20000 in
theorem ggX4_shaded_X4_isHour : GoodIn wsX4_shaded wsX4_isHour := goodIn_r _ [18, 13, 14, 5, 15] (by decide +kernel) (by decide +kernel)
set_option maxRecDepth 20000 in
theorem gX4_shaded_X4_isHour : GoodIn wsX4_shaded (va_wsS RX4 68 yX4_isHour wsX4_isHour) := goodIn_app (goodIn_of _ (by decide +kernel)) ggX4_shaded_X4_isHour
set_option maxRecDepth 20000 in
theorem ggX4_shaded_X1_blockersOf : GoodIn wsX4_shaded wsX1_blockersOf := goodIn_r _ [22, 23, 39, 40, 41, 42, 43, 44, 45, 46, 47, 48, 49] (by decide +kernel) (by decide +kernel)
set_option maxRecDepth 20000 in
theorem gX4_shaded_X1_blockersOf : GoodIn wsX4_shaded (wsV RX4 103 RX1 yX1_blockersOf wsX1_blockersOf) := goodIn_app (goodIn_of _ (by decide +kernel)) ggX4_shaded_X1_blockersOf
set_option maxRecDepth 20000 in
theorem ggX4_shaded_X1_shadersOf : GoodIn wsX4_shaded wsX1_shadersOf := goodIn_r _ [27, 28, 29, 30, 31, 32, 33, 39, 40, 41, 42, 43, 44, 45, 46, 47, 48, 49] (by decide +kernel) (by decide +kernel)
set_option maxRecDepth 20000 in
theorem gX4_shaded_X1_shadersOf : GoodIn wsX4_shaded (wsV RX4 106 RX1 yX1_shadersOf wsX1_shadersOf) := goodIn_app (goodIn_of _ (by decide +kernel)) ggX4_shaded_X1_shadersOf
theorem dX4_shaded_0 : decode cX4_shaded 0 = .ok (.aload_n 0, 1) := by decide +kernel
theorem dX4_shaded_1 : decode cX4_shaded 1 = .ok (.iload_n 1, 1) := by decide +kernel
theorem dX4_shaded_2 : decode cX4_shaded 2 = .ok (.invokevirtual 100, 3) := by decide +kernel
theorem dX4_shaded_5 : decode cX4_shaded 5 = .ok (.ifCond .eq 10, 3) := by decide +kernel
theorem dX4_shaded_8 : decode cX4_shaded 8 = .ok (.iload_n 2, 1) := by decide +kernel
theorem dX4_shaded_9 : decode cX4_shaded 9 = .ok (.invokestatic 68, 3) := by decide +kernel
theorem dX4_shaded_12 : decode cX4_shaded 12 = .ok (.ifCond .ne 5, 3) := by decide +kernel
theorem dX4_shaded_15 : decode cX4_shaded 15 = .ok (.iconst (-1), 1) := by decide +kernel
theorem dX4_shaded_16 : decode cX4_shaded 16 = .ok (.ireturn, 1) := by decide +kernel
theorem dX4_shaded_17 : decode cX4_shaded 17 = .ok (.iload_n 3, 1) := by decide +kernel
theorem dX4_shaded_18 : decode cX4_shaded 18 = .ok (.ifCond .eq 14, 3) := by decide +kernel
theorem dX4_shaded_21 : decode cX4_shaded 21 = .ok (.aload_n 0, 1) := by decide +kernel
theorem dX4_shaded_22 : decode cX4_shaded 22 = .ok (.getfield 10, 3) := by decide +kernel
theorem dX4_shaded_25 : decode cX4_shaded 25 = .ok (.iload_n 1, 1) := by decide +kernel
theorem dX4_shaded_26 : decode cX4_shaded 26 = .ok (.invokevirtual 103, 3) := by decide +kernel
theorem dX4_shaded_29 : decode cX4_shaded 29 = .ok (.goto 12, 3) := by decide +kernel
theorem dX4_shaded_32 : decode cX4_shaded 32 = .ok (.aload_n 0, 1) := by decide +kernel
theorem dX4_shaded_33 : decode cX4_shaded 33 = .ok (.getfield 10, 3) := by decide +kernel
theorem dX4_shaded_36 : decode cX4_shaded 36 = .ok (.iload_n 1, 1) := by decide +kernel
theorem dX4_shaded_37 : decode cX4_shaded 37 = .ok (.iload_n 2, 1) := by decide +kernel
theorem dX4_shaded_38 : decode cX4_shaded 38 = .ok (.invokevirtual 106, 3) := by decide +kernel
theorem dX4_shaded_41 : decode cX4_shaded 41 = .ok (.ireturn, 1) := by decide +kernel
set_option maxRecDepth 20000 in
theorem ggX4_power_X4_isMirror : GoodIn wsX4_power wsX4_isMirror := goodIn_r _ [6, 1, 7, 8, 9, 10, 11, 12, 13, 14, 5, 15, 52, 53, 54, 55, 56, 57, 58, 59, 60, 61, 62, 63, 64, 65, 66, 67] (by decide +kernel) (by decide +kernel)
set_option maxRecDepth 20000 in
theorem gX4_power_X4_isMirror : GoodIn wsX4_power (wsV RX4 100 RX4 yX4_isMirror wsX4_isMirror) := goodIn_app (goodIn_of _ (by decide +kernel)) ggX4_power_X4_isMirror
set_option maxRecDepth 20000 in
theorem ggX4_power_X4_isHour : GoodIn wsX4_power wsX4_isHour := goodIn_r _ [18, 13, 14, 5, 15] (by decide +kernel) (by decide +kernel)
set_option maxRecDepth 20000 in
theorem gX4_power_X4_isHour : GoodIn wsX4_power (va_wsS RX4 68 yX4_isHour wsX4_isHour) := goodIn_app (goodIn_of _ (by decide +kernel)) ggX4_power_X4_isHour
set_option maxRecDepth 20000 in
theorem ggX4_power_X1_powerOf : GoodIn wsX4_power wsX1_powerOf := goodIn_r _ [22, 23, 24, 25, 26, 27, 28, 29, 30, 31, 10, 32, 33, 34, 35, 36, 37, 38, 39, 40, 41, 42, 43, 44, 45, 46, 47, 48, 49, 50, 51, 57, 58, 59, 60, 61, 62, 63, 64, 65, 66, 67] (by decide +kernel) (by decide +kernel)
set_option maxRecDepth 20000 in
theorem gX4_power_X1_powerOf : GoodIn wsX4_power (wsV RX4 109 RX1 yX1_powerOf wsX1_powerOf) := goodIn_app (goodIn_of _ (by decide +kernel)) ggX4_power_X1_powerOf
theorem dX4_power_0 : decode cX4_power 0 = .ok (.aload_n 0, 1) := by decide +kernel
theorem dX4_power_1 : decode cX4_power 1 = .ok (.iload_n 1, 1) := by decide +kernel
theorem dX4_power_2 : decode cX4_power 2 = .ok (.invokevirtual 100, 3) := by decide +kernel
theorem dX4_power_5 : decode cX4_power 5 = .ok (.ifCond .eq 10, 3) := by decide +kernel
theorem dX4_power_8 : decode cX4_power 8 = .ok (.iload_n 2, 1) := by decide +kernel
theorem dX4_power_9 : decode cX4_power 9 = .ok (.invokestatic 68, 3) := by decide +kernel
theorem dX4_power_12 : decode cX4_power 12 = .ok (.ifCond .ne 5, 3) := by decide +kernel
theorem dX4_power_15 : decode cX4_power 15 = .ok (.iconst (-1), 1) := by decide +kernel
theorem dX4_power_16 : decode cX4_power 16 = .ok (.ireturn, 1) := by decide +kernel
theorem dX4_power_17 : decode cX4_power 17 = .ok (.aload_n 0, 1) := by decide +kernel
theorem dX4_power_18 : decode cX4_power 18 = .ok (.getfield 10, 3) := by decide +kernel
theorem dX4_power_21 : decode cX4_power 21 = .ok (.iload_n 1, 1) := by decide +kernel
theorem dX4_power_22 : decode cX4_power 22 = .ok (.iload_n 2, 1) := by decide +kernel
theorem dX4_power_23 : decode cX4_power 23 = .ok (.iconst 0, 1) := by decide +kernel
theorem dX4_power_24 : decode cX4_power 24 = .ok (.invokevirtual 109, 3) := by decide +kernel
theorem dX4_power_27 : decode cX4_power 27 = .ok (.ireturn, 1) := by decide +kernel
set_option maxRecDepth 20000 in
theorem ggX4_stowed_X4_isHour : GoodIn wsX4_stowed wsX4_isHour := goodIn_r _ [5, 6, 7, 4, 8] (by decide +kernel) (by decide +kernel)
set_option maxRecDepth 20000 in
theorem gX4_stowed_X4_isHour : GoodIn wsX4_stowed (va_wsS RX4 68 yX4_isHour wsX4_isHour) := goodIn_app (goodIn_of _ (by decide +kernel)) ggX4_stowed_X4_isHour
set_option maxRecDepth 20000 in
theorem ggX4_stowed_X1_isStowed : GoodIn wsX4_stowed wsX1_isStowed := goodIn_r _ [13, 14, 20, 21, 22, 23, 24, 25, 26, 27, 28, 29, 30] (by decide +kernel) (by decide +kernel)
set_option maxRecDepth 20000 in
theorem gX4_stowed_X1_isStowed : GoodIn wsX4_stowed (wsV RX4 113 RX1 yX1_isStowed wsX1_isStowed) := goodIn_app (goodIn_of _ (by decide +kernel)) ggX4_stowed_X1_isStowed
theorem dX4_stowed_0 : decode cX4_stowed 0 = .ok (.iload_n 1, 1) := by decide +kernel
theorem dX4_stowed_1 : decode cX4_stowed 1 = .ok (.invokestatic 68, 3) := by decide +kernel
theorem dX4_stowed_4 : decode cX4_stowed 4 = .ok (.ifCond .ne 5, 3) := by decide +kernel
theorem dX4_stowed_7 : decode cX4_stowed 7 = .ok (.iconst (-1), 1) := by decide +kernel
theorem dX4_stowed_8 : decode cX4_stowed 8 = .ok (.ireturn, 1) := by decide +kernel
theorem dX4_stowed_9 : decode cX4_stowed 9 = .ok (.aload_n 0, 1) := by decide +kernel
theorem dX4_stowed_10 : decode cX4_stowed 10 = .ok (.getfield 10, 3) := by decide +kernel
theorem dX4_stowed_13 : decode cX4_stowed 13 = .ok (.iload_n 1, 1) := by decide +kernel
theorem dX4_stowed_14 : decode cX4_stowed 14 = .ok (.invokevirtual 113, 3) := by decide +kernel
theorem dX4_stowed_17 : decode cX4_stowed 17 = .ok (.ifCond .eq 7, 3) := by decide +kernel
theorem dX4_stowed_20 : decode cX4_stowed 20 = .ok (.iconst 1, 1) := by decide +kernel
theorem dX4_stowed_21 : decode cX4_stowed 21 = .ok (.goto 4, 3) := by decide +kernel
theorem dX4_stowed_24 : decode cX4_stowed 24 = .ok (.iconst 0, 1) := by decide +kernel
theorem dX4_stowed_25 : decode cX4_stowed 25 = .ok (.ireturn, 1) := by decide +kernel
set_option maxRecDepth 20000 in
theorem ggX4_soil_X4_isMirror : GoodIn wsX4_soil wsX4_isMirror := goodIn_r _ [6, 1, 7, 8, 9, 10, 11, 12, 13, 14, 5, 15, 26, 27, 28, 29, 30, 31, 32, 33, 34, 35, 36, 37, 38, 39, 40, 41] (by decide +kernel) (by decide +kernel)
set_option maxRecDepth 20000 in
theorem gX4_soil_X4_isMirror : GoodIn wsX4_soil (wsV RX4 100 RX4 yX4_isMirror wsX4_isMirror) := goodIn_app (goodIn_of _ (by decide +kernel)) ggX4_soil_X4_isMirror
set_option maxRecDepth 20000 in
theorem ggX4_soil_X1_soilOf : GoodIn wsX4_soil wsX1_soilOf := goodIn_r _ [19, 20, 21, 22, 23, 24, 25, 31, 32, 33, 34, 35, 36, 37, 38, 39, 40, 41] (by decide +kernel) (by decide +kernel)
set_option maxRecDepth 20000 in
theorem gX4_soil_X1_soilOf : GoodIn wsX4_soil (wsV RX4 116 RX1 yX1_soilOf wsX1_soilOf) := goodIn_app (goodIn_of _ (by decide +kernel)) ggX4_soil_X1_soilOf
theorem dX4_soil_0 : decode cX4_soil 0 = .ok (.aload_n 0, 1) := by decide +kernel
theorem dX4_soil_1 : decode cX4_soil 1 = .ok (.iload_n 1, 1) := by decide +kernel
theorem dX4_soil_2 : decode cX4_soil 2 = .ok (.invokevirtual 100, 3) := by decide +kernel
theorem dX4_soil_5 : decode cX4_soil 5 = .ok (.ifCond .eq 15, 3) := by decide +kernel
theorem dX4_soil_8 : decode cX4_soil 8 = .ok (.aload_n 0, 1) := by decide +kernel
theorem dX4_soil_9 : decode cX4_soil 9 = .ok (.getfield 10, 3) := by decide +kernel
theorem dX4_soil_12 : decode cX4_soil 12 = .ok (.iload_n 1, 1) := by decide +kernel
theorem dX4_soil_13 : decode cX4_soil 13 = .ok (.iconst 0, 1) := by decide +kernel
theorem dX4_soil_14 : decode cX4_soil 14 = .ok (.invokevirtual 116, 3) := by decide +kernel
theorem dX4_soil_17 : decode cX4_soil 17 = .ok (.goto 4, 3) := by decide +kernel
theorem dX4_soil_20 : decode cX4_soil 20 = .ok (.iconst (-1), 1) := by decide +kernel
theorem dX4_soil_21 : decode cX4_soil 21 = .ok (.ireturn, 1) := by decide +kernel
set_option maxRecDepth 20000 in
theorem ggX4_wash_X4_isWithin : GoodIn wsX4_wash wsX4_isWithin := goodIn_r _ [5] (by decide +kernel) (by decide +kernel)
set_option maxRecDepth 20000 in
theorem gX4_wash_X4_isWithin : GoodIn wsX4_wash (va_wsS RX4 45 yX4_isWithin wsX4_isWithin) := goodIn_app (goodIn_of _ (by decide +kernel)) ggX4_wash_X4_isWithin
set_option maxRecDepth 20000 in
theorem ggX4_wash_X4_refused : GoodIn wsX4_wash wsX4_refused := goodIn_r _ [9, 10, 30, 31, 32, 33, 34] (by decide +kernel) (by decide +kernel)
set_option maxRecDepth 20000 in
theorem gX4_wash_X4_refused : GoodIn wsX4_wash (wsV RX4 49 RX4 yX4_refused wsX4_refused) := goodIn_app (goodIn_of _ (by decide +kernel)) ggX4_wash_X4_refused
set_option maxRecDepth 20000 in
theorem ggX4_wash_X1_washMost : GoodIn wsX4_wash wsX1_washMost := goodIn_r _ [15, 16, 17, 18, 19, 20, 21, 22, 23, 24, 14, 25, 35, 36, 37, 38, 39, 40, 41, 42, 43, 44, 45] (by decide +kernel) (by decide +kernel)
set_option maxRecDepth 20000 in
theorem gX4_wash_X1_washMost : GoodIn wsX4_wash (wsV RX4 119 RX1 yX1_washMost wsX1_washMost) := goodIn_app (goodIn_of _ (by decide +kernel)) ggX4_wash_X1_washMost
set_option maxRecDepth 20000 in
theorem ggX4_wash_X4_granted : GoodIn wsX4_wash wsX4_granted := goodIn_r _ [29, 10, 30, 31, 32, 33, 34] (by decide +kernel) (by decide +kernel)
set_option maxRecDepth 20000 in
theorem gX4_wash_X4_granted : GoodIn wsX4_wash (wsV RX4 65 RX4 yX4_granted wsX4_granted) := goodIn_app (goodIn_of _ (by decide +kernel)) ggX4_wash_X4_granted
theorem dX4_wash_0 : decode cX4_wash 0 = .ok (.iload_n 1, 1) := by decide +kernel
theorem dX4_wash_1 : decode cX4_wash 1 = .ok (.iconst 1, 1) := by decide +kernel
theorem dX4_wash_2 : decode cX4_wash 2 = .ok (.bipush 40, 2) := by decide +kernel
theorem dX4_wash_4 : decode cX4_wash 4 = .ok (.invokestatic 45, 3) := by decide +kernel
theorem dX4_wash_7 : decode cX4_wash 7 = .ok (.ifCond .ne 9, 3) := by decide +kernel
theorem dX4_wash_10 : decode cX4_wash 10 = .ok (.aload_n 0, 1) := by decide +kernel
theorem dX4_wash_11 : decode cX4_wash 11 = .ok (.iconst 2, 1) := by decide +kernel
theorem dX4_wash_12 : decode cX4_wash 12 = .ok (.invokevirtual 49, 3) := by decide +kernel
theorem dX4_wash_15 : decode cX4_wash 15 = .ok (.ireturn, 1) := by decide +kernel
theorem dX4_wash_16 : decode cX4_wash 16 = .ok (.aload_n 0, 1) := by decide +kernel
theorem dX4_wash_17 : decode cX4_wash 17 = .ok (.aload_n 0, 1) := by decide +kernel
theorem dX4_wash_18 : decode cX4_wash 18 = .ok (.getfield 10, 3) := by decide +kernel
theorem dX4_wash_21 : decode cX4_wash 21 = .ok (.iload_n 1, 1) := by decide +kernel
theorem dX4_wash_22 : decode cX4_wash 22 = .ok (.invokevirtual 119, 3) := by decide +kernel
theorem dX4_wash_25 : decode cX4_wash 25 = .ok (.invokevirtual 65, 3) := by decide +kernel
theorem dX4_wash_28 : decode cX4_wash 28 = .ok (.ireturn, 1) := by decide +kernel
set_option maxRecDepth 20000 in
theorem ggX4_aim_X4_isHour : GoodIn wsX4_aim wsX4_isHour := goodIn_r _ [5, 6, 7, 4, 8] (by decide +kernel) (by decide +kernel)
set_option maxRecDepth 20000 in
theorem gX4_aim_X4_isHour : GoodIn wsX4_aim (va_wsS RX4 68 yX4_isHour wsX4_isHour) := goodIn_app (goodIn_of _ (by decide +kernel)) ggX4_aim_X4_isHour
set_option maxRecDepth 20000 in
theorem ggX4_aim_X4_refused : GoodIn wsX4_aim wsX4_refused := goodIn_r _ [12, 13, 91, 92, 93, 94, 95] (by decide +kernel) (by decide +kernel)
set_option maxRecDepth 20000 in
theorem gX4_aim_X4_refused : GoodIn wsX4_aim (wsV RX4 49 RX4 yX4_refused wsX4_refused) := goodIn_app (goodIn_of _ (by decide +kernel)) ggX4_aim_X4_refused
set_option maxRecDepth 20000 in
theorem ggX4_aim_X0_keepAims : GoodIn wsX4_aim wsX0_keepAims := goodIn_r _ [18, 19, 20, 21, 22, 23, 24, 25, 26, 27, 28, 29, 30, 31, 32, 17, 33, 34, 35, 36, 37, 38, 39, 40, 41, 42, 43, 44, 45, 46, 47, 48, 49, 50, 51, 52, 53, 54, 55, 56, 57, 58, 59, 60, 61, 62, 63, 64, 65, 66, 67, 68, 69, 70, 71, 72, 73, 74, 75, 76, 77, 78, 79, 80, 81, 82, 83, 84, 85, 86, 96, 97, 98, 99, 100, 101, 102, 103, 104, 105, 106, 107, 108, 109, 110, 111, 112, 113, 114, 115, 116, 117] (by decide +kernel) (by decide +kernel)
set_option maxRecDepth 20000 in
theorem gX4_aim_X0_keepAims : GoodIn wsX4_aim (wsV RX4 122 RX0 yX0_keepAims wsX0_keepAims) := goodIn_app (goodIn_of _ (by decide +kernel)) ggX4_aim_X0_keepAims
set_option maxRecDepth 20000 in
theorem ggX4_aim_X4_granted : GoodIn wsX4_aim wsX4_granted := goodIn_r _ [90, 13, 91, 92, 93, 94, 95] (by decide +kernel) (by decide +kernel)
set_option maxRecDepth 20000 in
theorem gX4_aim_X4_granted : GoodIn wsX4_aim (wsV RX4 65 RX4 yX4_granted wsX4_granted) := goodIn_app (goodIn_of _ (by decide +kernel)) ggX4_aim_X4_granted
theorem dX4_aim_0 : decode cX4_aim 0 = .ok (.iload_n 1, 1) := by decide +kernel
theorem dX4_aim_1 : decode cX4_aim 1 = .ok (.invokestatic 68, 3) := by decide +kernel
theorem dX4_aim_4 : decode cX4_aim 4 = .ok (.ifCond .ne 9, 3) := by decide +kernel
theorem dX4_aim_7 : decode cX4_aim 7 = .ok (.aload_n 0, 1) := by decide +kernel
theorem dX4_aim_8 : decode cX4_aim 8 = .ok (.iconst 2, 1) := by decide +kernel
theorem dX4_aim_9 : decode cX4_aim 9 = .ok (.invokevirtual 49, 3) := by decide +kernel
theorem dX4_aim_12 : decode cX4_aim 12 = .ok (.ireturn, 1) := by decide +kernel
theorem dX4_aim_13 : decode cX4_aim 13 = .ok (.aload_n 0, 1) := by decide +kernel
theorem dX4_aim_14 : decode cX4_aim 14 = .ok (.aload_n 0, 1) := by decide +kernel
theorem dX4_aim_15 : decode cX4_aim 15 = .ok (.getfield 21, 3) := by decide +kernel
theorem dX4_aim_18 : decode cX4_aim 18 = .ok (.iload_n 1, 1) := by decide +kernel
theorem dX4_aim_19 : decode cX4_aim 19 = .ok (.invokevirtual 122, 3) := by decide +kernel
theorem dX4_aim_22 : decode cX4_aim 22 = .ok (.invokevirtual 65, 3) := by decide +kernel
theorem dX4_aim_25 : decode cX4_aim 25 = .ok (.ireturn, 1) := by decide +kernel
set_option maxRecDepth 20000 in
theorem ggX4_aimed_X4_isMirror : GoodIn wsX4_aimed wsX4_isMirror := goodIn_r _ [6, 7, 8, 9, 10, 11, 12, 13, 14, 15, 5, 16, 24, 25, 26, 27, 28, 29, 30, 31, 32, 33, 34, 35, 36, 37, 38, 39] (by decide +kernel) (by decide +kernel)
set_option maxRecDepth 20000 in
theorem gX4_aimed_X4_isMirror : GoodIn wsX4_aimed (wsV RX4 100 RX4 yX4_isMirror wsX4_isMirror) := goodIn_app (goodIn_of _ (by decide +kernel)) ggX4_aimed_X4_isMirror
set_option maxRecDepth 20000 in
theorem ggX4_aimed_X0_keptCellOf : GoodIn wsX4_aimed wsX0_keptCellOf := goodIn_r _ [21, 22, 23, 40, 41, 42, 43, 44, 45, 46, 47, 48, 49, 50] (by decide +kernel) (by decide +kernel)
set_option maxRecDepth 20000 in
theorem gX4_aimed_X0_keptCellOf : GoodIn wsX4_aimed (wsV RX4 125 RX0 yX0_keptCellOf wsX0_keptCellOf) := goodIn_app (goodIn_of _ (by decide +kernel)) ggX4_aimed_X0_keptCellOf
theorem dX4_aimed_0 : decode cX4_aimed 0 = .ok (.aload_n 0, 1) := by decide +kernel
theorem dX4_aimed_1 : decode cX4_aimed 1 = .ok (.iload_n 1, 1) := by decide +kernel
theorem dX4_aimed_2 : decode cX4_aimed 2 = .ok (.invokevirtual 100, 3) := by decide +kernel
theorem dX4_aimed_5 : decode cX4_aimed 5 = .ok (.ifCond .eq 14, 3) := by decide +kernel
theorem dX4_aimed_8 : decode cX4_aimed 8 = .ok (.aload_n 0, 1) := by decide +kernel
theorem dX4_aimed_9 : decode cX4_aimed 9 = .ok (.getfield 21, 3) := by decide +kernel
theorem dX4_aimed_12 : decode cX4_aimed 12 = .ok (.iload_n 1, 1) := by decide +kernel
theorem dX4_aimed_13 : decode cX4_aimed 13 = .ok (.invokevirtual 125, 3) := by decide +kernel
theorem dX4_aimed_16 : decode cX4_aimed 16 = .ok (.goto 4, 3) := by decide +kernel
theorem dX4_aimed_19 : decode cX4_aimed 19 = .ok (.iconst (-1), 1) := by decide +kernel
theorem dX4_aimed_20 : decode cX4_aimed 20 = .ok (.ireturn, 1) := by decide +kernel
set_option maxRecDepth 20000 in
theorem ggX4_face_X4_isCell : GoodIn wsX4_face wsX4_isCell := goodIn_r _ [5, 6, 7, 4, 8] (by decide +kernel) (by decide +kernel)
set_option maxRecDepth 20000 in
theorem gX4_face_X4_isCell : GoodIn wsX4_face (va_wsS RX4 83 yX4_isCell wsX4_isCell) := goodIn_app (goodIn_of _ (by decide +kernel)) ggX4_face_X4_isCell
set_option maxRecDepth 20000 in
theorem ggX4_face_X0_keptPowerAt : GoodIn wsX4_face wsX0_keptPowerAt := goodIn_r _ [13, 14, 20, 21, 22, 23, 24, 25, 26, 27, 28, 29, 30] (by decide +kernel) (by decide +kernel)
set_option maxRecDepth 20000 in
theorem gX4_face_X0_keptPowerAt : GoodIn wsX4_face (wsV RX4 128 RX0 yX0_keptPowerAt wsX0_keptPowerAt) := goodIn_app (goodIn_of _ (by decide +kernel)) ggX4_face_X0_keptPowerAt
theorem dX4_face_0 : decode cX4_face 0 = .ok (.iload_n 1, 1) := by decide +kernel
theorem dX4_face_1 : decode cX4_face 1 = .ok (.invokestatic 83, 3) := by decide +kernel
theorem dX4_face_4 : decode cX4_face 4 = .ok (.ifCond .eq 14, 3) := by decide +kernel
theorem dX4_face_7 : decode cX4_face 7 = .ok (.aload_n 0, 1) := by decide +kernel
theorem dX4_face_8 : decode cX4_face 8 = .ok (.getfield 21, 3) := by decide +kernel
theorem dX4_face_11 : decode cX4_face 11 = .ok (.iload_n 1, 1) := by decide +kernel
theorem dX4_face_12 : decode cX4_face 12 = .ok (.invokevirtual 128, 3) := by decide +kernel
theorem dX4_face_15 : decode cX4_face 15 = .ok (.goto 4, 3) := by decide +kernel
theorem dX4_face_18 : decode cX4_face 18 = .ok (.iconst (-1), 1) := by decide +kernel
theorem dX4_face_19 : decode cX4_face 19 = .ok (.ireturn, 1) := by decide +kernel
set_option maxRecDepth 20000 in
theorem ggX4_best_X4_isHour : GoodIn wsX4_best wsX4_isHour := goodIn_r _ [5, 6, 7, 4, 8] (by decide +kernel) (by decide +kernel)
set_option maxRecDepth 20000 in
theorem gX4_best_X4_isHour : GoodIn wsX4_best (va_wsS RX4 68 yX4_isHour wsX4_isHour) := goodIn_app (goodIn_of _ (by decide +kernel)) ggX4_best_X4_isHour
set_option maxRecDepth 20000 in
theorem ggX4_best_X4_refused : GoodIn wsX4_best wsX4_refused := goodIn_r _ [12, 13, 86, 87, 88, 89, 90] (by decide +kernel) (by decide +kernel)
set_option maxRecDepth 20000 in
theorem gX4_best_X4_refused : GoodIn wsX4_best (wsV RX4 49 RX4 yX4_refused wsX4_refused) := goodIn_app (goodIn_of _ (by decide +kernel)) ggX4_best_X4_refused
set_option maxRecDepth 20000 in
theorem ggX4_best_X0_bestHeat : GoodIn wsX4_best wsX0_bestHeat := goodIn_r _ [18, 19, 20, 21, 22, 23, 24, 25, 26, 27, 28, 29, 30, 31, 32, 17, 33, 34, 35, 36, 37, 38, 39, 40, 41, 42, 43, 44, 45, 46, 47, 48, 49, 50, 51, 52, 53, 54, 55, 56, 57, 58, 59, 60, 61, 62, 63, 64, 65, 66, 67, 68, 69, 70, 71, 72, 73, 74, 75, 76, 77, 78, 79, 80, 81, 91, 92, 93, 94, 95, 96, 97, 98, 99, 100, 101, 102, 103, 104, 105, 106, 107, 108, 109, 110, 111, 112] (by decide +kernel) (by decide +kernel)
set_option maxRecDepth 20000 in
theorem gX4_best_X0_bestHeat : GoodIn wsX4_best (wsV RX4 131 RX0 yX0_bestHeat wsX0_bestHeat) := goodIn_app (goodIn_of _ (by decide +kernel)) ggX4_best_X0_bestHeat
set_option maxRecDepth 20000 in
theorem ggX4_best_X4_granted : GoodIn wsX4_best wsX4_granted := goodIn_r _ [85, 13, 86, 87, 88, 89, 90] (by decide +kernel) (by decide +kernel)
set_option maxRecDepth 20000 in
theorem gX4_best_X4_granted : GoodIn wsX4_best (wsV RX4 65 RX4 yX4_granted wsX4_granted) := goodIn_app (goodIn_of _ (by decide +kernel)) ggX4_best_X4_granted
theorem dX4_best_0 : decode cX4_best 0 = .ok (.iload_n 1, 1) := by decide +kernel
theorem dX4_best_1 : decode cX4_best 1 = .ok (.invokestatic 68, 3) := by decide +kernel
theorem dX4_best_4 : decode cX4_best 4 = .ok (.ifCond .ne 9, 3) := by decide +kernel
theorem dX4_best_7 : decode cX4_best 7 = .ok (.aload_n 0, 1) := by decide +kernel
theorem dX4_best_8 : decode cX4_best 8 = .ok (.iconst 2, 1) := by decide +kernel
theorem dX4_best_9 : decode cX4_best 9 = .ok (.invokevirtual 49, 3) := by decide +kernel
theorem dX4_best_12 : decode cX4_best 12 = .ok (.ireturn, 1) := by decide +kernel
theorem dX4_best_13 : decode cX4_best 13 = .ok (.aload_n 0, 1) := by decide +kernel
theorem dX4_best_14 : decode cX4_best 14 = .ok (.aload_n 0, 1) := by decide +kernel
theorem dX4_best_15 : decode cX4_best 15 = .ok (.getfield 21, 3) := by decide +kernel
theorem dX4_best_18 : decode cX4_best 18 = .ok (.iload_n 1, 1) := by decide +kernel
theorem dX4_best_19 : decode cX4_best 19 = .ok (.invokevirtual 131, 3) := by decide +kernel
theorem dX4_best_22 : decode cX4_best 22 = .ok (.invokevirtual 65, 3) := by decide +kernel
theorem dX4_best_25 : decode cX4_best 25 = .ok (.ireturn, 1) := by decide +kernel
set_option maxRecDepth 20000 in
theorem ggX4_comes_X3_hourNow : GoodIn wsX4_comes wsX3_hourNow := goodIn_r _ [7, 8, 84, 85, 86, 87, 88, 89, 90, 91, 92, 93, 94, 95, 96, 97] (by decide +kernel) (by decide +kernel)
set_option maxRecDepth 20000 in
theorem gX4_comes_X3_hourNow : GoodIn wsX4_comes (wsV RX4 134 RX3 yX3_hourNow wsX3_hourNow) := goodIn_app (goodIn_of _ (by decide +kernel)) ggX4_comes_X3_hourNow
set_option maxRecDepth 20000 in
theorem ggX4_comes_X4_isWithin : GoodIn wsX4_comes wsX4_isWithin := goodIn_r _ [12] (by decide +kernel) (by decide +kernel)
set_option maxRecDepth 20000 in
theorem gX4_comes_X4_isWithin : GoodIn wsX4_comes (va_wsS RX4 45 yX4_isWithin wsX4_isWithin) := goodIn_app (goodIn_of _ (by decide +kernel)) ggX4_comes_X4_isWithin
set_option maxRecDepth 20000 in
theorem ggX4_comes_X0_aimAll : GoodIn wsX4_comes wsX0_aimAll := goodIn_r _ [17, 18, 19, 20, 21, 22, 23, 24, 25, 26, 27, 28, 29, 30, 16, 31, 32, 33, 34, 35, 36, 37, 38, 39, 40, 41, 42, 43, 44, 45, 46, 47, 48, 49, 50, 51, 52, 53, 54, 55, 56, 57, 58, 59, 60, 61, 62, 63, 64, 65, 66, 67, 68, 69, 70, 71, 72, 73, 74, 75, 76, 77, 78, 98, 99, 100, 101, 102, 103, 104, 105, 106, 107, 108, 109, 110, 111, 112, 113, 114, 115, 116, 117, 118, 119] (by decide +kernel) (by decide +kernel)
set_option maxRecDepth 20000 in
theorem gX4_comes_X0_aimAll : GoodIn wsX4_comes (wsV RX4 137 RX0 yX0_aimAll wsX0_aimAll) := goodIn_app (goodIn_of _ (by decide +kernel)) ggX4_comes_X0_aimAll
theorem dX4_comes_0 : decode cX4_comes 0 = .ok (.aload_n 0, 1) := by decide +kernel
theorem dX4_comes_1 : decode cX4_comes 1 = .ok (.getfield 30, 3) := by decide +kernel
theorem dX4_comes_4 : decode cX4_comes 4 = .ok (.invokevirtual 134, 3) := by decide +kernel
theorem dX4_comes_7 : decode cX4_comes 7 = .ok (.istore_n 2, 1) := by decide +kernel
theorem dX4_comes_8 : decode cX4_comes 8 = .ok (.iload_n 1, 1) := by decide +kernel
theorem dX4_comes_9 : decode cX4_comes 9 = .ok (.iload_n 2, 1) := by decide +kernel
theorem dX4_comes_10 : decode cX4_comes 10 = .ok (.bipush 23, 2) := by decide +kernel
theorem dX4_comes_12 : decode cX4_comes 12 = .ok (.invokestatic 45, 3) := by decide +kernel
theorem dX4_comes_15 : decode cX4_comes 15 = .ok (.ifCond .ne 5, 3) := by decide +kernel
theorem dX4_comes_18 : decode cX4_comes 18 = .ok (.iconst (-1), 1) := by decide +kernel
theorem dX4_comes_19 : decode cX4_comes 19 = .ok (.ireturn, 1) := by decide +kernel
theorem dX4_comes_20 : decode cX4_comes 20 = .ok (.aload_n 0, 1) := by decide +kernel
theorem dX4_comes_21 : decode cX4_comes 21 = .ok (.getfield 21, 3) := by decide +kernel
theorem dX4_comes_24 : decode cX4_comes 24 = .ok (.iload_n 1, 1) := by decide +kernel
theorem dX4_comes_25 : decode cX4_comes 25 = .ok (.iload_n 1, 1) := by decide +kernel
theorem dX4_comes_26 : decode cX4_comes 26 = .ok (.iload_n 2, 1) := by decide +kernel
theorem dX4_comes_27 : decode cX4_comes 27 = .ok (.isub, 1) := by decide +kernel
theorem dX4_comes_28 : decode cX4_comes 28 = .ok (.invokevirtual 137, 3) := by decide +kernel
theorem dX4_comes_31 : decode cX4_comes 31 = .ok (.ireturn, 1) := by decide +kernel
set_option maxRecDepth 20000 in
theorem ggX4_plan_X3_layPlan : GoodIn wsX4_plan wsX3_layPlan := goodIn_r _ [6, 7, 8, 9, 10, 11, 12, 13, 14, 15, 5, 16, 17, 18, 19, 20, 21, 22, 23, 24, 25, 26, 27, 28, 29, 30, 31, 32, 33, 34, 35, 36, 37, 38, 39, 40, 41, 42, 43, 44, 45, 46, 47, 48, 49, 50, 51, 52, 53, 54, 55, 56, 57, 58, 59, 60, 61, 62, 63, 64, 65, 66, 67, 68, 69, 70, 71, 72, 73, 74, 75, 76, 77, 78, 79, 80, 81, 82, 83, 84, 85, 86, 87, 88, 89, 90, 91, 92, 93, 94, 95, 96, 97, 98, 99, 100, 101, 102, 103, 104, 105, 106, 107, 108, 109, 110, 111, 112, 113, 114, 115, 116, 117, 118, 124, 125, 126, 127, 128, 129, 130, 131, 132, 133, 134, 135, 136, 137, 138, 139, 140, 141, 142, 143, 144, 145, 146, 147, 148, 149, 150, 151, 152, 153, 154, 155, 156, 157, 158, 159] (by decide +kernel) (by decide +kernel)
set_option maxRecDepth 20000 in
theorem gX4_plan_X3_layPlan : GoodIn wsX4_plan (wsV RX4 140 RX3 yX3_layPlan wsX3_layPlan) := goodIn_app (goodIn_of _ (by decide +kernel)) ggX4_plan_X3_layPlan
theorem dX4_plan_0 : decode cX4_plan 0 = .ok (.aload_n 0, 1) := by decide +kernel
theorem dX4_plan_1 : decode cX4_plan 1 = .ok (.getfield 30, 3) := by decide +kernel
theorem dX4_plan_4 : decode cX4_plan 4 = .ok (.invokevirtual 140, 3) := by decide +kernel
theorem dX4_plan_7 : decode cX4_plan 7 = .ok (.ireturn, 1) := by decide +kernel
set_option maxRecDepth 20000 in
theorem ggX4_runs_X4_isHour : GoodIn wsX4_runs wsX4_isHour := goodIn_r _ [5, 6, 7, 4, 8] (by decide +kernel) (by decide +kernel)
set_option maxRecDepth 20000 in
theorem gX4_runs_X4_isHour : GoodIn wsX4_runs (va_wsS RX4 68 yX4_isHour wsX4_isHour) := goodIn_app (goodIn_of _ (by decide +kernel)) ggX4_runs_X4_isHour
set_option maxRecDepth 20000 in
theorem ggX4_runs_X3_plannedRun : GoodIn wsX4_runs wsX3_plannedRun := goodIn_r _ [13, 14, 15, 21, 22, 23, 24, 25, 26, 27, 28, 29, 30, 31, 32, 33, 34] (by decide +kernel) (by decide +kernel)
set_option maxRecDepth 20000 in
theorem gX4_runs_X3_plannedRun : GoodIn wsX4_runs (wsV RX4 143 RX3 yX3_plannedRun wsX3_plannedRun) := goodIn_app (goodIn_of _ (by decide +kernel)) ggX4_runs_X3_plannedRun
theorem dX4_runs_0 : decode cX4_runs 0 = .ok (.iload_n 1, 1) := by decide +kernel
theorem dX4_runs_1 : decode cX4_runs 1 = .ok (.invokestatic 68, 3) := by decide +kernel
theorem dX4_runs_4 : decode cX4_runs 4 = .ok (.ifCond .eq 14, 3) := by decide +kernel
theorem dX4_runs_7 : decode cX4_runs 7 = .ok (.aload_n 0, 1) := by decide +kernel
theorem dX4_runs_8 : decode cX4_runs 8 = .ok (.getfield 30, 3) := by decide +kernel
theorem dX4_runs_11 : decode cX4_runs 11 = .ok (.iload_n 1, 1) := by decide +kernel
theorem dX4_runs_12 : decode cX4_runs 12 = .ok (.invokevirtual 143, 3) := by decide +kernel
theorem dX4_runs_15 : decode cX4_runs 15 = .ok (.goto 4, 3) := by decide +kernel
theorem dX4_runs_18 : decode cX4_runs 18 = .ok (.iconst (-1), 1) := by decide +kernel
theorem dX4_runs_19 : decode cX4_runs 19 = .ok (.ireturn, 1) := by decide +kernel
set_option maxRecDepth 20000 in
theorem ggX4_step_X3_passHour : GoodIn wsX4_step wsX3_passHour := goodIn_r _ [6, 7, 8, 9, 10, 11, 12, 13, 14, 15, 16, 17, 18, 19, 20, 21, 22, 23, 24, 25, 26, 27, 28, 29, 30, 31, 32, 33, 34, 35, 36, 37, 38, 39, 40, 41, 42, 43, 44, 45, 46, 47, 48, 49, 50, 51, 52, 53, 54, 55, 56, 57, 58, 59, 60, 61, 62, 63, 64, 65, 66, 67, 68, 69, 70, 71, 72, 73, 74, 75, 76, 77, 78, 79, 80, 5, 81, 82, 83, 84, 85, 86, 87, 88, 89, 90, 91, 92, 93, 94, 110, 111, 112, 113, 114, 115, 116, 117, 118, 119, 120, 121, 122, 123, 124, 125, 126, 127, 128, 129, 130, 131, 132, 133, 134, 135, 136, 137, 138, 139, 140, 141, 142, 143, 144, 145] (by decide +kernel) (by decide +kernel)
set_option maxRecDepth 20000 in
theorem gX4_step_X3_passHour : GoodIn wsX4_step (wsV RX4 146 RX3 yX3_passHour wsX3_passHour) := goodIn_app (goodIn_of _ (by decide +kernel)) ggX4_step_X3_passHour
set_option maxRecDepth 20000 in
theorem ggX4_step_X4_refused : GoodIn wsX4_step wsX4_refused := goodIn_r _ [99, 100, 105, 106, 107, 108, 109] (by decide +kernel) (by decide +kernel)
set_option maxRecDepth 20000 in
theorem gX4_step_X4_refused : GoodIn wsX4_step (wsV RX4 49 RX4 yX4_refused wsX4_refused) := goodIn_app (goodIn_of _ (by decide +kernel)) ggX4_step_X4_refused
set_option maxRecDepth 20000 in
theorem ggX4_step_X4_granted : GoodIn wsX4_step wsX4_granted := goodIn_r _ [104, 100, 105, 106, 107, 108, 109] (by decide +kernel) (by decide +kernel)
set_option maxRecDepth 20000 in
theorem gX4_step_X4_granted : GoodIn wsX4_step (wsV RX4 65 RX4 yX4_granted wsX4_granted) := goodIn_app (goodIn_of _ (by decide +kernel)) ggX4_step_X4_granted
theorem dX4_step_0 : decode cX4_step 0 = .ok (.aload_n 0, 1) := by decide +kernel
theorem dX4_step_1 : decode cX4_step 1 = .ok (.getfield 30, 3) := by decide +kernel
theorem dX4_step_4 : decode cX4_step 4 = .ok (.iload_n 1, 1) := by decide +kernel
theorem dX4_step_5 : decode cX4_step 5 = .ok (.invokevirtual 146, 3) := by decide +kernel
theorem dX4_step_8 : decode cX4_step 8 = .ok (.istore_n 2, 1) := by decide +kernel
theorem dX4_step_9 : decode cX4_step 9 = .ok (.iload_n 2, 1) := by decide +kernel
theorem dX4_step_10 : decode cX4_step 10 = .ok (.iconst (-1), 1) := by decide +kernel
theorem dX4_step_11 : decode cX4_step 11 = .ok (.if_icmp .ne 11, 3) := by decide +kernel
theorem dX4_step_14 : decode cX4_step 14 = .ok (.aload_n 0, 1) := by decide +kernel
theorem dX4_step_15 : decode cX4_step 15 = .ok (.iconst 2, 1) := by decide +kernel
theorem dX4_step_16 : decode cX4_step 16 = .ok (.invokevirtual 49, 3) := by decide +kernel
theorem dX4_step_19 : decode cX4_step 19 = .ok (.goto 8, 3) := by decide +kernel
theorem dX4_step_22 : decode cX4_step 22 = .ok (.aload_n 0, 1) := by decide +kernel
theorem dX4_step_23 : decode cX4_step 23 = .ok (.iload_n 2, 1) := by decide +kernel
theorem dX4_step_24 : decode cX4_step 24 = .ok (.invokevirtual 65, 3) := by decide +kernel
theorem dX4_step_27 : decode cX4_step 27 = .ok (.ireturn, 1) := by decide +kernel
set_option maxRecDepth 20000 in
theorem ggX4_earned_X3_earnedInAll : GoodIn wsX4_earned wsX3_earnedInAll := goodIn_r _ [6, 7, 13, 14, 15, 16, 17, 18, 19, 20, 21, 22, 23, 24, 25, 26] (by decide +kernel) (by decide +kernel)
set_option maxRecDepth 20000 in
theorem gX4_earned_X3_earnedInAll : GoodIn wsX4_earned (wsV RX4 150 RX3 yX3_earnedInAll wsX3_earnedInAll) := goodIn_app (goodIn_of _ (by decide +kernel)) ggX4_earned_X3_earnedInAll
theorem dX4_earned_0 : decode cX4_earned 0 = .ok (.aload_n 0, 1) := by decide +kernel
theorem dX4_earned_1 : decode cX4_earned 1 = .ok (.getfield 30, 3) := by decide +kernel
theorem dX4_earned_4 : decode cX4_earned 4 = .ok (.invokevirtual 150, 3) := by decide +kernel
theorem dX4_earned_7 : decode cX4_earned 7 = .ok (.ireturn, 1) := by decide +kernel
set_option maxRecDepth 20000 in
theorem ggX4_shot_J13_bitCount_95d88 : GoodIn wsX4_shot wsJ13_bitCount_95d88 := goodIn_r _ [11, 12, 13, 14] (by decide +kernel) (by decide +kernel)
set_option maxRecDepth 20000 in
theorem gX4_shot_J13_bitCount_95d88 : GoodIn wsX4_shot (va_wsS RX4 155 yJ13_bitCount_95d88 wsJ13_bitCount_95d88) := goodIn_app (goodIn_of _ (by decide +kernel)) ggX4_shot_J13_bitCount_95d88
set_option maxRecDepth 20000 in
theorem ggX4_shot_X4_isWithin : GoodIn wsX4_shot wsX4_isWithin := goodIn_r _ [18] (by decide +kernel) (by decide +kernel)
set_option maxRecDepth 20000 in
theorem gX4_shot_X4_isWithin : GoodIn wsX4_shot (va_wsS RX4 45 yX4_isWithin wsX4_isWithin) := goodIn_app (goodIn_of _ (by decide +kernel)) ggX4_shot_X4_isWithin
set_option maxRecDepth 20000 in
theorem ggX4_shot_X4_refused : GoodIn wsX4_shot wsX4_refused := goodIn_r _ [22, 23, 48, 49, 50, 51, 52] (by decide +kernel) (by decide +kernel)
set_option maxRecDepth 20000 in
theorem gX4_shot_X4_refused : GoodIn wsX4_shot (wsV RX4 49 RX4 yX4_refused wsX4_refused) := goodIn_app (goodIn_of _ (by decide +kernel)) ggX4_shot_X4_refused
set_option maxRecDepth 20000 in
theorem ggX4_shot_X1_size : GoodIn wsX4_shot wsX1_size := goodIn_r _ [28, 29, 53, 54, 55, 56, 57, 58, 59, 60, 61, 62, 63] (by decide +kernel) (by decide +kernel)
set_option maxRecDepth 20000 in
theorem gX4_shot_X1_size : GoodIn wsX4_shot (wsV RX4 57 RX1 yX1_size wsX1_size) := goodIn_app (goodIn_of _ (by decide +kernel)) ggX4_shot_X1_size
set_option maxRecDepth 20000 in
theorem ggX4_shot_X2_size : GoodIn wsX4_shot wsX2_size := goodIn_r _ [34, 35, 64, 65, 66, 67, 68] (by decide +kernel) (by decide +kernel)
set_option maxRecDepth 20000 in
theorem gX4_shot_X2_size : GoodIn wsX4_shot (wsV RX4 166 RX2 yX2_size wsX2_size) := goodIn_app (goodIn_of _ (by decide +kernel)) ggX4_shot_X2_size
set_option maxRecDepth 20000 in
theorem ggX4_shot_X2_note : GoodIn wsX4_shot wsX2_note := goodIn_r _ [39, 35, 40, 41, 42, 3, 4, 5, 43, 9, 10, 11, 12, 13, 14, 64, 65, 66, 67, 68] (by decide +kernel) (by decide +kernel)
set_option maxRecDepth 20000 in
theorem gX4_shot_X2_note : GoodIn wsX4_shot (wsV RX4 167 RX2 yX2_note wsX2_note) := goodIn_app (goodIn_of _ (by decide +kernel)) ggX4_shot_X2_note
set_option maxRecDepth 20000 in
theorem ggX4_shot_X4_granted : GoodIn wsX4_shot wsX4_granted := goodIn_r _ [47, 23, 48, 49, 50, 51, 52] (by decide +kernel) (by decide +kernel)
set_option maxRecDepth 20000 in
theorem gX4_shot_X4_granted : GoodIn wsX4_shot (wsV RX4 65 RX4 yX4_granted wsX4_granted) := goodIn_app (goodIn_of _ (by decide +kernel)) ggX4_shot_X4_granted
theorem dX4_shot_0 : decode cX4_shot 0 = .ok (.iload_n 2, 1) := by decide +kernel
theorem dX4_shot_1 : decode cX4_shot 1 = .ok (.i2l, 1) := by decide +kernel
theorem dX4_shot_2 : decode cX4_shot 2 = .ok (.bipush 32, 2) := by decide +kernel
theorem dX4_shot_4 : decode cX4_shot 4 = .ok (.lshl, 1) := by decide +kernel
theorem dX4_shot_5 : decode cX4_shot 5 = .ok (.iload_n 1, 1) := by decide +kernel
theorem dX4_shot_6 : decode cX4_shot 6 = .ok (.i2l, 1) := by decide +kernel
theorem dX4_shot_7 : decode cX4_shot 7 = .ok (.ldc2_w 153, 3) := by decide +kernel
theorem dX4_shot_10 : decode cX4_shot 10 = .ok (.land, 1) := by decide +kernel
theorem dX4_shot_11 : decode cX4_shot 11 = .ok (.lor, 1) := by decide +kernel
theorem dX4_shot_12 : decode cX4_shot 12 = .ok (.lstore 4, 2) := by decide +kernel
theorem dX4_shot_14 : decode cX4_shot 14 = .ok (.iload_n 3, 1) := by decide +kernel
theorem dX4_shot_15 : decode cX4_shot 15 = .ok (.iconst 0, 1) := by decide +kernel
theorem dX4_shot_16 : decode cX4_shot 16 = .ok (.bipush 40, 2) := by decide +kernel
theorem dX4_shot_18 : decode cX4_shot 18 = .ok (.lload 4, 2) := by decide +kernel
theorem dX4_shot_20 : decode cX4_shot 20 = .ok (.invokestatic 155, 3) := by decide +kernel
theorem dX4_shot_23 : decode cX4_shot 23 = .ok (.invokestatic 161, 3) := by decide +kernel
theorem dX4_shot_26 : decode cX4_shot 26 = .ok (.invokestatic 45, 3) := by decide +kernel
theorem dX4_shot_29 : decode cX4_shot 29 = .ok (.ifCond .ne 9, 3) := by decide +kernel
theorem dX4_shot_32 : decode cX4_shot 32 = .ok (.aload_n 0, 1) := by decide +kernel
theorem dX4_shot_33 : decode cX4_shot 33 = .ok (.iconst 2, 1) := by decide +kernel
theorem dX4_shot_34 : decode cX4_shot 34 = .ok (.invokevirtual 49, 3) := by decide +kernel
theorem dX4_shot_37 : decode cX4_shot 37 = .ok (.ireturn, 1) := by decide +kernel
theorem dX4_shot_38 : decode cX4_shot 38 = .ok (.lload 4, 2) := by decide +kernel
theorem dX4_shot_40 : decode cX4_shot 40 = .ok (.lconst 0, 1) := by decide +kernel
theorem dX4_shot_41 : decode cX4_shot 41 = .ok (.lcmp, 1) := by decide +kernel
theorem dX4_shot_42 : decode cX4_shot 42 = .ok (.ifCond .eq 18, 3) := by decide +kernel
theorem dX4_shot_45 : decode cX4_shot 45 = .ok (.lload 4, 2) := by decide +kernel
theorem dX4_shot_47 : decode cX4_shot 47 = .ok (.aload_n 0, 1) := by decide +kernel
theorem dX4_shot_48 : decode cX4_shot 48 = .ok (.getfield 10, 3) := by decide +kernel
theorem dX4_shot_51 : decode cX4_shot 51 = .ok (.invokevirtual 57, 3) := by decide +kernel
theorem dX4_shot_54 : decode cX4_shot 54 = .ok (.lushr, 1) := by decide +kernel
theorem dX4_shot_55 : decode cX4_shot 55 = .ok (.lconst 0, 1) := by decide +kernel
theorem dX4_shot_56 : decode cX4_shot 56 = .ok (.lcmp, 1) := by decide +kernel
theorem dX4_shot_57 : decode cX4_shot 57 = .ok (.ifCond .eq 9, 3) := by decide +kernel
theorem dX4_shot_60 : decode cX4_shot 60 = .ok (.aload_n 0, 1) := by decide +kernel
theorem dX4_shot_61 : decode cX4_shot 61 = .ok (.iconst 4, 1) := by decide +kernel
theorem dX4_shot_62 : decode cX4_shot 62 = .ok (.invokevirtual 49, 3) := by decide +kernel
theorem dX4_shot_65 : decode cX4_shot 65 = .ok (.ireturn, 1) := by decide +kernel
theorem dX4_shot_66 : decode cX4_shot 66 = .ok (.aload_n 0, 1) := by decide +kernel
theorem dX4_shot_67 : decode cX4_shot 67 = .ok (.getfield 37, 3) := by decide +kernel
theorem dX4_shot_70 : decode cX4_shot 70 = .ok (.invokevirtual 166, 3) := by decide +kernel
theorem dX4_shot_73 : decode cX4_shot 73 = .ok (.bipush 12, 2) := by decide +kernel
theorem dX4_shot_75 : decode cX4_shot 75 = .ok (.if_icmp .lt 9, 3) := by decide +kernel
theorem dX4_shot_78 : decode cX4_shot 78 = .ok (.aload_n 0, 1) := by decide +kernel
theorem dX4_shot_79 : decode cX4_shot 79 = .ok (.iconst 3, 1) := by decide +kernel
theorem dX4_shot_80 : decode cX4_shot 80 = .ok (.invokevirtual 49, 3) := by decide +kernel
theorem dX4_shot_83 : decode cX4_shot 83 = .ok (.ireturn, 1) := by decide +kernel
theorem dX4_shot_84 : decode cX4_shot 84 = .ok (.aload_n 0, 1) := by decide +kernel
theorem dX4_shot_85 : decode cX4_shot 85 = .ok (.aload_n 0, 1) := by decide +kernel
theorem dX4_shot_86 : decode cX4_shot 86 = .ok (.getfield 37, 3) := by decide +kernel
theorem dX4_shot_89 : decode cX4_shot 89 = .ok (.lload 4, 2) := by decide +kernel
theorem dX4_shot_91 : decode cX4_shot 91 = .ok (.iload_n 3, 1) := by decide +kernel
theorem dX4_shot_92 : decode cX4_shot 92 = .ok (.invokevirtual 167, 3) := by decide +kernel
theorem dX4_shot_95 : decode cX4_shot 95 = .ok (.invokevirtual 65, 3) := by decide +kernel
theorem dX4_shot_98 : decode cX4_shot 98 = .ok (.ireturn, 1) := by decide +kernel
set_option maxRecDepth 20000 in
theorem ggX4_forget_X2_drop : GoodIn wsX4_forget wsX2_drop := goodIn_r _ [6, 7, 8, 9, 10, 11, 12, 13, 19, 20, 21, 22, 23] (by decide +kernel) (by decide +kernel)
set_option maxRecDepth 20000 in
theorem gX4_forget_X2_drop : GoodIn wsX4_forget (wsV RX4 171 RX2 yX2_drop wsX2_drop) := goodIn_app (goodIn_of _ (by decide +kernel)) ggX4_forget_X2_drop
theorem dX4_forget_0 : decode cX4_forget 0 = .ok (.aload_n 0, 1) := by decide +kernel
theorem dX4_forget_1 : decode cX4_forget 1 = .ok (.getfield 37, 3) := by decide +kernel
theorem dX4_forget_4 : decode cX4_forget 4 = .ok (.invokevirtual 171, 3) := by decide +kernel
theorem dX4_forget_7 : decode cX4_forget 7 = .ok (.ireturn, 1) := by decide +kernel
set_option maxRecDepth 20000 in
theorem ggX4_agree_X1_size : GoodIn wsX4_agree wsX1_size := goodIn_r _ [7, 8, 31, 32, 33, 34, 35, 36, 37, 38, 39, 40, 41] (by decide +kernel) (by decide +kernel)
set_option maxRecDepth 20000 in
theorem gX4_agree_X1_size : GoodIn wsX4_agree (wsV RX4 57 RX1 yX1_size wsX1_size) := goodIn_app (goodIn_of _ (by decide +kernel)) ggX4_agree_X1_size
set_option maxRecDepth 20000 in
theorem ggX4_agree_X2_setsOf : GoodIn wsX4_agree wsX2_setsOf := goodIn_r _ [13, 14, 15, 16, 17, 12, 18, 19, 20, 21, 22, 23, 24, 25, 42, 43, 44, 45, 46] (by decide +kernel) (by decide +kernel)
set_option maxRecDepth 20000 in
theorem gX4_agree_X2_setsOf : GoodIn wsX4_agree (wsV RX4 174 RX2 yX2_setsOf wsX2_setsOf) := goodIn_app (goodIn_of _ (by decide +kernel)) ggX4_agree_X2_setsOf
theorem dX4_agree_0 : decode cX4_agree 0 = .ok (.aload_n 0, 1) := by decide +kernel
theorem dX4_agree_1 : decode cX4_agree 1 = .ok (.getfield 37, 3) := by decide +kernel
theorem dX4_agree_4 : decode cX4_agree 4 = .ok (.aload_n 0, 1) := by decide +kernel
theorem dX4_agree_5 : decode cX4_agree 5 = .ok (.getfield 10, 3) := by decide +kernel
theorem dX4_agree_8 : decode cX4_agree 8 = .ok (.invokevirtual 57, 3) := by decide +kernel
theorem dX4_agree_11 : decode cX4_agree 11 = .ok (.invokevirtual 174, 3) := by decide +kernel
theorem dX4_agree_14 : decode cX4_agree 14 = .ok (.ireturn, 1) := by decide +kernel
set_option maxRecDepth 20000 in
theorem ggX4_stuck_X4_isMirror : GoodIn wsX4_stuck wsX4_isMirror := goodIn_r _ [7, 2, 8, 9, 10, 11, 12, 13, 14, 15, 6, 16, 38, 39, 40, 41, 42, 43, 44, 45, 46, 47, 48, 49, 50, 51, 52, 53] (by decide +kernel) (by decide +kernel)
set_option maxRecDepth 20000 in
theorem gX4_stuck_X4_isMirror : GoodIn wsX4_stuck (wsV RX4 100 RX4 yX4_isMirror wsX4_isMirror) := goodIn_app (goodIn_of _ (by decide +kernel)) ggX4_stuck_X4_isMirror
set_option maxRecDepth 20000 in
theorem ggX4_stuck_X1_size : GoodIn wsX4_stuck wsX1_size := goodIn_r _ [12, 13, 43, 44, 45, 46, 47, 48, 49, 50, 51, 52, 53] (by decide +kernel) (by decide +kernel)
set_option maxRecDepth 20000 in
theorem gX4_stuck_X1_size : GoodIn wsX4_stuck (wsV RX4 57 RX1 yX1_size wsX1_size) := goodIn_app (goodIn_of _ (by decide +kernel)) ggX4_stuck_X1_size
set_option maxRecDepth 20000 in
theorem ggX4_stuck_X2_verdictOn : GoodIn wsX4_stuck wsX2_verdictOn := goodIn_r _ [21, 22, 23, 24, 25, 20, 26, 27, 28, 29, 30, 31, 32, 33, 34, 35, 36, 37, 54, 55, 56, 57, 58] (by decide +kernel) (by decide +kernel)
set_option maxRecDepth 20000 in
theorem gX4_stuck_X2_verdictOn : GoodIn wsX4_stuck (wsV RX4 177 RX2 yX2_verdictOn wsX2_verdictOn) := goodIn_app (goodIn_of _ (by decide +kernel)) ggX4_stuck_X2_verdictOn
theorem dX4_stuck_0 : decode cX4_stuck 0 = .ok (.aload_n 0, 1) := by decide +kernel
theorem dX4_stuck_1 : decode cX4_stuck 1 = .ok (.iload_n 1, 1) := by decide +kernel
theorem dX4_stuck_2 : decode cX4_stuck 2 = .ok (.invokevirtual 100, 3) := by decide +kernel
theorem dX4_stuck_5 : decode cX4_stuck 5 = .ok (.ifCond .eq 21, 3) := by decide +kernel
theorem dX4_stuck_8 : decode cX4_stuck 8 = .ok (.aload_n 0, 1) := by decide +kernel
theorem dX4_stuck_9 : decode cX4_stuck 9 = .ok (.getfield 37, 3) := by decide +kernel
