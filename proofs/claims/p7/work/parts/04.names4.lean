theorem dX2_tally_25 : decode cX2_tally 25 = .ok (.istore_n 2, 1) := by decide +kernel
theorem dX2_tally_26 : decode cX2_tally 26 = .ok (.iload_n 2, 1) := by decide +kernel
theorem dX2_tally_27 : decode cX2_tally 27 = .ok (.iload_n 1, 1) := by decide +kernel
theorem dX2_tally_28 : decode cX2_tally 28 = .ok (.if_icmp .ge 105, 3) := by decide +kernel
theorem dX2_tally_31 : decode cX2_tally 31 = .ok (.aload_n 0, 1) := by decide +kernel
theorem dX2_tally_32 : decode cX2_tally 32 = .ok (.getfield 9, 3) := by decide +kernel
theorem dX2_tally_35 : decode cX2_tally 35 = .ok (.iload_n 2, 1) := by decide +kernel
theorem dX2_tally_36 : decode cX2_tally 36 = .ok (.iaload, 1) := by decide +kernel
theorem dX2_tally_37 : decode cX2_tally 37 = .ok (.aload_n 0, 1) := by decide +kernel
theorem dX2_tally_38 : decode cX2_tally 38 = .ok (.getfield 22, 3) := by decide +kernel
theorem dX2_tally_41 : decode cX2_tally 41 = .ok (.if_icmp .ne 23, 3) := by decide +kernel
theorem dX2_tally_44 : decode cX2_tally 44 = .ok (.aload_n 0, 1) := by decide +kernel
theorem dX2_tally_45 : decode cX2_tally 45 = .ok (.dup, 1) := by decide +kernel
theorem dX2_tally_46 : decode cX2_tally 46 = .ok (.getfield 47, 3) := by decide +kernel
theorem dX2_tally_49 : decode cX2_tally 49 = .ok (.iconst 1, 1) := by decide +kernel
theorem dX2_tally_50 : decode cX2_tally 50 = .ok (.iadd, 1) := by decide +kernel
theorem dX2_tally_51 : decode cX2_tally 51 = .ok (.putfield 47, 3) := by decide +kernel
theorem dX2_tally_54 : decode cX2_tally 54 = .ok (.aload_n 0, 1) := by decide +kernel
theorem dX2_tally_55 : decode cX2_tally 55 = .ok (.getfield 15, 3) := by decide +kernel
theorem dX2_tally_58 : decode cX2_tally 58 = .ok (.iload_n 2, 1) := by decide +kernel
theorem dX2_tally_59 : decode cX2_tally 59 = .ok (.dup2, 1) := by decide +kernel
theorem dX2_tally_60 : decode cX2_tally 60 = .ok (.iaload, 1) := by decide +kernel
theorem dX2_tally_61 : decode cX2_tally 61 = .ok (.iconst 1, 1) := by decide +kernel
theorem dX2_tally_62 : decode cX2_tally 62 = .ok (.iadd, 1) := by decide +kernel
theorem dX2_tally_63 : decode cX2_tally 63 = .ok (.iastore, 1) := by decide +kernel
theorem dX2_tally_64 : decode cX2_tally 64 = .ok (.iconst 0, 1) := by decide +kernel
theorem dX2_tally_65 : decode cX2_tally 65 = .ok (.istore_n 3, 1) := by decide +kernel
theorem dX2_tally_66 : decode cX2_tally 66 = .ok (.iload_n 3, 1) := by decide +kernel
theorem dX2_tally_67 : decode cX2_tally 67 = .ok (.iload_n 2, 1) := by decide +kernel
theorem dX2_tally_68 : decode cX2_tally 68 = .ok (.if_icmp .ge 59, 3) := by decide +kernel
theorem dX2_tally_71 : decode cX2_tally 71 = .ok (.aload_n 0, 1) := by decide +kernel
theorem dX2_tally_72 : decode cX2_tally 72 = .ok (.getfield 9, 3) := by decide +kernel
theorem dX2_tally_75 : decode cX2_tally 75 = .ok (.iload_n 2, 1) := by decide +kernel
theorem dX2_tally_76 : decode cX2_tally 76 = .ok (.iaload, 1) := by decide +kernel
theorem dX2_tally_77 : decode cX2_tally 77 = .ok (.aload_n 0, 1) := by decide +kernel
theorem dX2_tally_78 : decode cX2_tally 78 = .ok (.getfield 9, 3) := by decide +kernel
theorem dX2_tally_81 : decode cX2_tally 81 = .ok (.iload_n 3, 1) := by decide +kernel
theorem dX2_tally_82 : decode cX2_tally 82 = .ok (.iaload, 1) := by decide +kernel
theorem dX2_tally_83 : decode cX2_tally 83 = .ok (.iadd, 1) := by decide +kernel
theorem dX2_tally_84 : decode cX2_tally 84 = .ok (.aload_n 0, 1) := by decide +kernel
theorem dX2_tally_85 : decode cX2_tally 85 = .ok (.getfield 22, 3) := by decide +kernel
theorem dX2_tally_88 : decode cX2_tally 88 = .ok (.if_icmp .ne 33, 3) := by decide +kernel
theorem dX2_tally_91 : decode cX2_tally 91 = .ok (.aload_n 0, 1) := by decide +kernel
theorem dX2_tally_92 : decode cX2_tally 92 = .ok (.dup, 1) := by decide +kernel
theorem dX2_tally_93 : decode cX2_tally 93 = .ok (.getfield 47, 3) := by decide +kernel
theorem dX2_tally_96 : decode cX2_tally 96 = .ok (.iconst 1, 1) := by decide +kernel
theorem dX2_tally_97 : decode cX2_tally 97 = .ok (.iadd, 1) := by decide +kernel
theorem dX2_tally_98 : decode cX2_tally 98 = .ok (.putfield 47, 3) := by decide +kernel
theorem dX2_tally_101 : decode cX2_tally 101 = .ok (.aload_n 0, 1) := by decide +kernel
theorem dX2_tally_102 : decode cX2_tally 102 = .ok (.getfield 15, 3) := by decide +kernel
theorem dX2_tally_105 : decode cX2_tally 105 = .ok (.iload_n 2, 1) := by decide +kernel
theorem dX2_tally_106 : decode cX2_tally 106 = .ok (.dup2, 1) := by decide +kernel
theorem dX2_tally_107 : decode cX2_tally 107 = .ok (.iaload, 1) := by decide +kernel
theorem dX2_tally_108 : decode cX2_tally 108 = .ok (.iconst 1, 1) := by decide +kernel
theorem dX2_tally_109 : decode cX2_tally 109 = .ok (.iadd, 1) := by decide +kernel
theorem dX2_tally_110 : decode cX2_tally 110 = .ok (.iastore, 1) := by decide +kernel
theorem dX2_tally_111 : decode cX2_tally 111 = .ok (.aload_n 0, 1) := by decide +kernel
theorem dX2_tally_112 : decode cX2_tally 112 = .ok (.getfield 15, 3) := by decide +kernel
theorem dX2_tally_115 : decode cX2_tally 115 = .ok (.iload_n 3, 1) := by decide +kernel
theorem dX2_tally_116 : decode cX2_tally 116 = .ok (.dup2, 1) := by decide +kernel
theorem dX2_tally_117 : decode cX2_tally 117 = .ok (.iaload, 1) := by decide +kernel
theorem dX2_tally_118 : decode cX2_tally 118 = .ok (.iconst 1, 1) := by decide +kernel
theorem dX2_tally_119 : decode cX2_tally 119 = .ok (.iadd, 1) := by decide +kernel
theorem dX2_tally_120 : decode cX2_tally 120 = .ok (.iastore, 1) := by decide +kernel
theorem dX2_tally_121 : decode cX2_tally 121 = .ok (.iinc 3 1, 3) := by decide +kernel
theorem dX2_tally_124 : decode cX2_tally 124 = .ok (.goto (-58), 3) := by decide +kernel
theorem dX2_tally_127 : decode cX2_tally 127 = .ok (.iinc 2 1, 3) := by decide +kernel
theorem dX2_tally_130 : decode cX2_tally 130 = .ok (.goto (-104), 3) := by decide +kernel
theorem dX2_tally_133 : decode cX2_tally 133 = .ok (.return_, 1) := by decide +kernel
set_option maxRecDepth 20000 in
theorem ggX3_init_J7_fill_53178 : GoodIn wsX3_init wsJ7_fill_53178 := goodIn_r _ [17] rfl (by decide +kernel)
set_option maxRecDepth 20000 in
theorem gX3_init_J7_fill_53178 : GoodIn wsX3_init (va_wsS RX3 23 yJ7_fill_53178 wsJ7_fill_53178) := goodIn_app (goodIn_of _ (by decide +kernel)) ggX3_init_J7_fill_53178
theorem dX3_init_0 : decode cX3_init 0 = .ok (.aload_n 0, 1) := by decide +kernel
theorem dX3_init_1 : decode cX3_init 1 = .ok (.invokespecial 3, 3) := by decide +kernel
theorem dX3_init_4 : decode cX3_init 4 = .ok (.aload_n 0, 1) := by decide +kernel
theorem dX3_init_5 : decode cX3_init 5 = .ok (.aload_n 1, 1) := by decide +kernel
theorem dX3_init_6 : decode cX3_init 6 = .ok (.putfield 9, 3) := by decide +kernel
theorem dX3_init_9 : decode cX3_init 9 = .ok (.aload_n 0, 1) := by decide +kernel
theorem dX3_init_10 : decode cX3_init 10 = .ok (.aload_n 2, 1) := by decide +kernel
theorem dX3_init_11 : decode cX3_init 11 = .ok (.putfield 15, 3) := by decide +kernel
theorem dX3_init_14 : decode cX3_init 14 = .ok (.aload_n 0, 1) := by decide +kernel
theorem dX3_init_15 : decode cX3_init 15 = .ok (.bipush 24, 2) := by decide +kernel
theorem dX3_init_17 : decode cX3_init 17 = .ok (.newarray .int, 2) := by decide +kernel
theorem dX3_init_19 : decode cX3_init 19 = .ok (.putfield 19, 3) := by decide +kernel
theorem dX3_init_22 : decode cX3_init 22 = .ok (.aload_n 0, 1) := by decide +kernel
theorem dX3_init_23 : decode cX3_init 23 = .ok (.getfield 19, 3) := by decide +kernel
theorem dX3_init_26 : decode cX3_init 26 = .ok (.bipush 10, 2) := by decide +kernel
theorem dX3_init_28 : decode cX3_init 28 = .ok (.invokestatic 23, 3) := by decide +kernel
theorem dX3_init_31 : decode cX3_init 31 = .ok (.aload_n 0, 1) := by decide +kernel
theorem dX3_init_32 : decode cX3_init 32 = .ok (.sipush 402, 3) := by decide +kernel
theorem dX3_init_35 : decode cX3_init 35 = .ok (.newarray .int, 2) := by decide +kernel
theorem dX3_init_37 : decode cX3_init 37 = .ok (.putfield 29, 3) := by decide +kernel
theorem dX3_init_40 : decode cX3_init 40 = .ok (.aload_n 0, 1) := by decide +kernel
theorem dX3_init_41 : decode cX3_init 41 = .ok (.sipush 402, 3) := by decide +kernel
theorem dX3_init_44 : decode cX3_init 44 = .ok (.newarray .int, 2) := by decide +kernel
theorem dX3_init_46 : decode cX3_init 46 = .ok (.putfield 32, 3) := by decide +kernel
theorem dX3_init_49 : decode cX3_init 49 = .ok (.aload_n 0, 1) := by decide +kernel
theorem dX3_init_50 : decode cX3_init 50 = .ok (.sipush 402, 3) := by decide +kernel
theorem dX3_init_53 : decode cX3_init 53 = .ok (.newarray .int, 2) := by decide +kernel
theorem dX3_init_55 : decode cX3_init 55 = .ok (.putfield 35, 3) := by decide +kernel
theorem dX3_init_58 : decode cX3_init 58 = .ok (.aload_n 0, 1) := by decide +kernel
theorem dX3_init_59 : decode cX3_init 59 = .ok (.bipush 24, 2) := by decide +kernel
theorem dX3_init_61 : decode cX3_init 61 = .ok (.newarray .int, 2) := by decide +kernel
theorem dX3_init_63 : decode cX3_init 63 = .ok (.putfield 38, 3) := by decide +kernel
theorem dX3_init_66 : decode cX3_init 66 = .ok (.aload_n 0, 1) := by decide +kernel
theorem dX3_init_67 : decode cX3_init 67 = .ok (.bipush 24, 2) := by decide +kernel
theorem dX3_init_69 : decode cX3_init 69 = .ok (.newarray .int, 2) := by decide +kernel
theorem dX3_init_71 : decode cX3_init 71 = .ok (.putfield 41, 3) := by decide +kernel
theorem dX3_init_74 : decode cX3_init 74 = .ok (.aload_n 0, 1) := by decide +kernel
theorem dX3_init_75 : decode cX3_init 75 = .ok (.bipush 24, 2) := by decide +kernel
theorem dX3_init_77 : decode cX3_init 77 = .ok (.putfield 44, 3) := by decide +kernel
theorem dX3_init_80 : decode cX3_init 80 = .ok (.return_, 1) := by decide +kernel
theorem dX3_setPrice_0 : decode cX3_setPrice 0 = .ok (.aload_n 0, 1) := by decide +kernel
theorem dX3_setPrice_1 : decode cX3_setPrice 1 = .ok (.getfield 19, 3) := by decide +kernel
theorem dX3_setPrice_4 : decode cX3_setPrice 4 = .ok (.iload_n 1, 1) := by decide +kernel
theorem dX3_setPrice_5 : decode cX3_setPrice 5 = .ok (.iload_n 2, 1) := by decide +kernel
theorem dX3_setPrice_6 : decode cX3_setPrice 6 = .ok (.iastore, 1) := by decide +kernel
theorem dX3_setPrice_7 : decode cX3_setPrice 7 = .ok (.return_, 1) := by decide +kernel
theorem dX3_hourNow_0 : decode cX3_hourNow 0 = .ok (.aload_n 0, 1) := by decide +kernel
theorem dX3_hourNow_1 : decode cX3_hourNow 1 = .ok (.getfield 48, 3) := by decide +kernel
theorem dX3_hourNow_4 : decode cX3_hourNow 4 = .ok (.ireturn, 1) := by decide +kernel
theorem dX3_unitsHeld_0 : decode cX3_unitsHeld 0 = .ok (.aload_n 0, 1) := by decide +kernel
theorem dX3_unitsHeld_1 : decode cX3_unitsHeld 1 = .ok (.getfield 51, 3) := by decide +kernel
theorem dX3_unitsHeld_4 : decode cX3_unitsHeld 4 = .ok (.ireturn, 1) := by decide +kernel
theorem dX3_isWarm_0 : decode cX3_isWarm 0 = .ok (.aload_n 0, 1) := by decide +kernel
theorem dX3_isWarm_1 : decode cX3_isWarm 1 = .ok (.getfield 54, 3) := by decide +kernel
theorem dX3_isWarm_4 : decode cX3_isWarm 4 = .ok (.ireturn, 1) := by decide +kernel
theorem dX3_earnedInAll_0 : decode cX3_earnedInAll 0 = .ok (.aload_n 0, 1) := by decide +kernel
theorem dX3_earnedInAll_1 : decode cX3_earnedInAll 1 = .ok (.getfield 58, 3) := by decide +kernel
theorem dX3_earnedInAll_4 : decode cX3_earnedInAll 4 = .ok (.ireturn, 1) := by decide +kernel
set_option maxRecDepth 20000 in
theorem ggX3_passHour_X0_aimAll : GoodIn wsX3_passHour wsX0_aimAll := goodIn_r _ [11, 12, 13, 14, 15, 16, 17, 18, 19, 20, 21, 22, 23, 24, 10, 25, 26, 27, 28, 29, 30, 31, 32, 33, 34, 35, 36, 37, 38, 39, 40, 41, 42, 43, 44, 45, 46, 47, 48, 49, 50, 51, 52, 53, 54, 55, 56, 57, 58, 59, 60, 61, 62, 63, 64, 65, 66, 67, 68, 69, 70, 71, 72, 104, 105, 106, 107, 108, 109, 110, 111, 112, 113, 114, 115, 116, 117, 118, 119, 120, 121, 122, 123, 124, 125] rfl (by decide +kernel)
set_option maxRecDepth 20000 in
theorem gX3_passHour_X0_aimAll : GoodIn wsX3_passHour (wsV RX3 61 RX0 yX0_aimAll wsX0_aimAll) := goodIn_app (goodIn_of _ (by decide +kernel)) ggX3_passHour_X0_aimAll
set_option maxRecDepth 20000 in
theorem ggX3_passHour_X3_filled : GoodIn wsX3_passHour wsX3_filled := goodIn_r _ [76, 77, 54, 39, 55] rfl (by decide +kernel)
set_option maxRecDepth 20000 in
theorem gX3_passHour_X3_filled : GoodIn wsX3_passHour (va_wsS RX3 67 yX3_filled wsX3_filled) := goodIn_app (goodIn_of _ (by decide +kernel)) ggX3_passHour_X3_filled
set_option maxRecDepth 20000 in
theorem ggX3_passHour_X3_needed : GoodIn wsX3_passHour wsX3_needed := goodIn_r _ [80] rfl (by decide +kernel)
set_option maxRecDepth 20000 in
theorem gX3_passHour_X3_needed : GoodIn wsX3_passHour (va_wsS RX3 70 yX3_needed wsX3_needed) := goodIn_app (goodIn_of _ (by decide +kernel)) ggX3_passHour_X3_needed
set_option maxRecDepth 20000 in
theorem ggX3_passHour_X3_gainOf : GoodIn wsX3_passHour wsX3_gainOf := goodIn_r _ [84, 85, 90, 91, 92, 93, 94, 95, 96, 97, 98, 99, 100, 101, 102, 103] rfl (by decide +kernel)
set_option maxRecDepth 20000 in
theorem gX3_passHour_X3_gainOf : GoodIn wsX3_passHour (wsV RX3 74 RX3 yX3_gainOf wsX3_gainOf) := goodIn_app (goodIn_of _ (by decide +kernel)) ggX3_passHour_X3_gainOf
set_option maxRecDepth 20000 in
theorem ggX3_passHour_X1_growSoil : GoodIn wsX3_passHour wsX1_growSoil := goodIn_r _ [89, 31, 51, 47, 48, 49, 29, 50, 52, 53, 54, 39, 55, 115, 116, 117, 118, 119, 120, 121, 122, 123, 124, 125] rfl (by decide +kernel)
set_option maxRecDepth 20000 in
theorem gX3_passHour_X1_growSoil : GoodIn wsX3_passHour (wsV RX3 78 RX1 yX1_growSoil wsX1_growSoil) := goodIn_app (goodIn_of _ (by decide +kernel)) ggX3_passHour_X1_growSoil
theorem dX3_passHour_0 : decode cX3_passHour 0 = .ok (.aload_n 0, 1) := by decide +kernel
theorem dX3_passHour_1 : decode cX3_passHour 1 = .ok (.getfield 51, 3) := by decide +kernel
theorem dX3_passHour_4 : decode cX3_passHour 4 = .ok (.aload_n 0, 1) := by decide +kernel
theorem dX3_passHour_5 : decode cX3_passHour 5 = .ok (.getfield 15, 3) := by decide +kernel
theorem dX3_passHour_8 : decode cX3_passHour 8 = .ok (.aload_n 0, 1) := by decide +kernel
theorem dX3_passHour_9 : decode cX3_passHour 9 = .ok (.getfield 48, 3) := by decide +kernel
theorem dX3_passHour_12 : decode cX3_passHour 12 = .ok (.iconst 0, 1) := by decide +kernel
theorem dX3_passHour_13 : decode cX3_passHour 13 = .ok (.invokevirtual 61, 3) := by decide +kernel
theorem dX3_passHour_16 : decode cX3_passHour 16 = .ok (.bipush 100, 2) := by decide +kernel
theorem dX3_passHour_18 : decode cX3_passHour 18 = .ok (.idiv, 1) := by decide +kernel
theorem dX3_passHour_19 : decode cX3_passHour 19 = .ok (.invokestatic 67, 3) := by decide +kernel
theorem dX3_passHour_22 : decode cX3_passHour 22 = .ok (.istore_n 2, 1) := by decide +kernel
theorem dX3_passHour_23 : decode cX3_passHour 23 = .ok (.iload_n 1, 1) := by decide +kernel
theorem dX3_passHour_24 : decode cX3_passHour 24 = .ok (.ifCond .eq 13, 3) := by decide +kernel
theorem dX3_passHour_27 : decode cX3_passHour 27 = .ok (.aload_n 0, 1) := by decide +kernel
theorem dX3_passHour_28 : decode cX3_passHour 28 = .ok (.getfield 54, 3) := by decide +kernel
theorem dX3_passHour_31 : decode cX3_passHour 31 = .ok (.invokestatic 70, 3) := by decide +kernel
theorem dX3_passHour_34 : decode cX3_passHour 34 = .ok (.goto 4, 3) := by decide +kernel
theorem dX3_passHour_37 : decode cX3_passHour 37 = .ok (.iconst 0, 1) := by decide +kernel
theorem dX3_passHour_38 : decode cX3_passHour 38 = .ok (.istore_n 3, 1) := by decide +kernel
theorem dX3_passHour_39 : decode cX3_passHour 39 = .ok (.iload_n 2, 1) := by decide +kernel
theorem dX3_passHour_40 : decode cX3_passHour 40 = .ok (.iload_n 3, 1) := by decide +kernel
theorem dX3_passHour_41 : decode cX3_passHour 41 = .ok (.if_icmp .ge 5, 3) := by decide +kernel
theorem dX3_passHour_44 : decode cX3_passHour 44 = .ok (.iconst (-1), 1) := by decide +kernel
theorem dX3_passHour_45 : decode cX3_passHour 45 = .ok (.ireturn, 1) := by decide +kernel
theorem dX3_passHour_46 : decode cX3_passHour 46 = .ok (.iload_n 1, 1) := by decide +kernel
theorem dX3_passHour_47 : decode cX3_passHour 47 = .ok (.ifCond .eq 14, 3) := by decide +kernel
theorem dX3_passHour_50 : decode cX3_passHour 50 = .ok (.aload_n 0, 1) := by decide +kernel
theorem dX3_passHour_51 : decode cX3_passHour 51 = .ok (.aload_n 0, 1) := by decide +kernel
theorem dX3_passHour_52 : decode cX3_passHour 52 = .ok (.getfield 48, 3) := by decide +kernel
theorem dX3_passHour_55 : decode cX3_passHour 55 = .ok (.invokevirtual 74, 3) := by decide +kernel
theorem dX3_passHour_58 : decode cX3_passHour 58 = .ok (.goto 4, 3) := by decide +kernel
theorem dX3_passHour_61 : decode cX3_passHour 61 = .ok (.iconst 0, 1) := by decide +kernel
theorem dX3_passHour_62 : decode cX3_passHour 62 = .ok (.istore 4, 2) := by decide +kernel
theorem dX3_passHour_64 : decode cX3_passHour 64 = .ok (.aload_n 0, 1) := by decide +kernel
theorem dX3_passHour_65 : decode cX3_passHour 65 = .ok (.iload_n 2, 1) := by decide +kernel
theorem dX3_passHour_66 : decode cX3_passHour 66 = .ok (.iload_n 3, 1) := by decide +kernel
theorem dX3_passHour_67 : decode cX3_passHour 67 = .ok (.isub, 1) := by decide +kernel
theorem dX3_passHour_68 : decode cX3_passHour 68 = .ok (.putfield 51, 3) := by decide +kernel
theorem dX3_passHour_71 : decode cX3_passHour 71 = .ok (.aload_n 0, 1) := by decide +kernel
theorem dX3_passHour_72 : decode cX3_passHour 72 = .ok (.iload_n 1, 1) := by decide +kernel
theorem dX3_passHour_73 : decode cX3_passHour 73 = .ok (.putfield 54, 3) := by decide +kernel
theorem dX3_passHour_76 : decode cX3_passHour 76 = .ok (.aload_n 0, 1) := by decide +kernel
theorem dX3_passHour_77 : decode cX3_passHour 77 = .ok (.dup, 1) := by decide +kernel
theorem dX3_passHour_78 : decode cX3_passHour 78 = .ok (.getfield 58, 3) := by decide +kernel
theorem dX3_passHour_81 : decode cX3_passHour 81 = .ok (.iload 4, 2) := by decide +kernel
theorem dX3_passHour_83 : decode cX3_passHour 83 = .ok (.iadd, 1) := by decide +kernel
theorem dX3_passHour_84 : decode cX3_passHour 84 = .ok (.putfield 58, 3) := by decide +kernel
theorem dX3_passHour_87 : decode cX3_passHour 87 = .ok (.aload_n 0, 1) := by decide +kernel
theorem dX3_passHour_88 : decode cX3_passHour 88 = .ok (.getfield 9, 3) := by decide +kernel
theorem dX3_passHour_91 : decode cX3_passHour 91 = .ok (.invokevirtual 78, 3) := by decide +kernel
theorem dX3_passHour_94 : decode cX3_passHour 94 = .ok (.aload_n 0, 1) := by decide +kernel
theorem dX3_passHour_95 : decode cX3_passHour 95 = .ok (.aload_n 0, 1) := by decide +kernel
theorem dX3_passHour_96 : decode cX3_passHour 96 = .ok (.getfield 48, 3) := by decide +kernel
theorem dX3_passHour_99 : decode cX3_passHour 99 = .ok (.iconst 1, 1) := by decide +kernel
theorem dX3_passHour_100 : decode cX3_passHour 100 = .ok (.iadd, 1) := by decide +kernel
theorem dX3_passHour_101 : decode cX3_passHour 101 = .ok (.bipush 24, 2) := by decide +kernel
theorem dX3_passHour_103 : decode cX3_passHour 103 = .ok (.irem, 1) := by decide +kernel
theorem dX3_passHour_104 : decode cX3_passHour 104 = .ok (.putfield 48, 3) := by decide +kernel
theorem dX3_passHour_107 : decode cX3_passHour 107 = .ok (.iload 4, 2) := by decide +kernel
theorem dX3_passHour_109 : decode cX3_passHour 109 = .ok (.ireturn, 1) := by decide +kernel
theorem dX3_filled_0 : decode cX3_filled 0 = .ok (.sipush 200, 3) := by decide +kernel
theorem dX3_filled_3 : decode cX3_filled 3 = .ok (.iload_n 0, 1) := by decide +kernel
theorem dX3_filled_4 : decode cX3_filled 4 = .ok (.iload_n 1, 1) := by decide +kernel
theorem dX3_filled_5 : decode cX3_filled 5 = .ok (.iadd, 1) := by decide +kernel
theorem dX3_filled_6 : decode cX3_filled 6 = .ok (.invokestatic 83, 3) := by decide +kernel
theorem dX3_filled_9 : decode cX3_filled 9 = .ok (.ireturn, 1) := by decide +kernel
theorem dX3_needed_0 : decode cX3_needed 0 = .ok (.iload_n 0, 1) := by decide +kernel
theorem dX3_needed_1 : decode cX3_needed 1 = .ok (.ifCond .eq 7, 3) := by decide +kernel
theorem dX3_needed_4 : decode cX3_needed 4 = .ok (.iconst 5, 1) := by decide +kernel
theorem dX3_needed_5 : decode cX3_needed 5 = .ok (.goto 5, 3) := by decide +kernel
theorem dX3_needed_8 : decode cX3_needed 8 = .ok (.bipush 7, 2) := by decide +kernel
theorem dX3_needed_10 : decode cX3_needed 10 = .ok (.ireturn, 1) := by decide +kernel
theorem dX3_gainOf_0 : decode cX3_gainOf 0 = .ok (.iconst 5, 1) := by decide +kernel
theorem dX3_gainOf_1 : decode cX3_gainOf 1 = .ok (.aload_n 0, 1) := by decide +kernel
theorem dX3_gainOf_2 : decode cX3_gainOf 2 = .ok (.getfield 19, 3) := by decide +kernel
theorem dX3_gainOf_5 : decode cX3_gainOf 5 = .ok (.iload_n 1, 1) := by decide +kernel
theorem dX3_gainOf_6 : decode cX3_gainOf 6 = .ok (.iaload, 1) := by decide +kernel
theorem dX3_gainOf_7 : decode cX3_gainOf 7 = .ok (.imul, 1) := by decide +kernel
theorem dX3_gainOf_8 : decode cX3_gainOf 8 = .ok (.ireturn, 1) := by decide +kernel
theorem dX3_plannedRun_0 : decode cX3_plannedRun 0 = .ok (.iload_n 1, 1) := by decide +kernel
theorem dX3_plannedRun_1 : decode cX3_plannedRun 1 = .ok (.aload_n 0, 1) := by decide +kernel
theorem dX3_plannedRun_2 : decode cX3_plannedRun 2 = .ok (.getfield 44, 3) := by decide +kernel
theorem dX3_plannedRun_5 : decode cX3_plannedRun 5 = .ok (.if_icmp .ge 7, 3) := by decide +kernel
theorem dX3_plannedRun_8 : decode cX3_plannedRun 8 = .ok (.iconst (-1), 1) := by decide +kernel
theorem dX3_plannedRun_9 : decode cX3_plannedRun 9 = .ok (.goto 11, 3) := by decide +kernel
theorem dX3_plannedRun_12 : decode cX3_plannedRun 12 = .ok (.aload_n 0, 1) := by decide +kernel
theorem dX3_plannedRun_13 : decode cX3_plannedRun 13 = .ok (.getfield 88, 3) := by decide +kernel
theorem dX3_plannedRun_16 : decode cX3_plannedRun 16 = .ok (.iload_n 1, 1) := by decide +kernel
theorem dX3_plannedRun_17 : decode cX3_plannedRun 17 = .ok (.ishr, 1) := by decide +kernel
theorem dX3_plannedRun_18 : decode cX3_plannedRun 18 = .ok (.iconst 1, 1) := by decide +kernel
theorem dX3_plannedRun_19 : decode cX3_plannedRun 19 = .ok (.iand, 1) := by decide +kernel
theorem dX3_plannedRun_20 : decode cX3_plannedRun 20 = .ok (.ireturn, 1) := by decide +kernel
set_option maxRecDepth 20000 in
theorem ggX3_layPlan_X3_lookAhead : GoodIn wsX3_layPlan wsX3_lookAhead := goodIn_r _ [11, 5, 3, 12, 13, 14, 15, 16, 17, 18, 19, 20, 21, 22, 23, 24, 25, 26, 27, 28, 29, 30, 31, 32, 33, 34, 35, 36, 37, 38, 39, 40, 41, 42, 43, 44, 45, 46, 47, 48, 49, 50, 51, 52, 53, 54, 55, 56, 57, 58, 59, 60, 61, 62, 63, 64, 65, 66, 67, 68, 69, 70, 71, 72, 73, 74, 75, 76, 77, 78, 79, 80, 81, 82, 10, 83, 84, 114, 115, 116, 117, 118, 119, 120, 121, 122, 123, 124, 125, 126, 127, 128, 129, 130, 131, 132, 133, 134, 135, 136, 137, 138, 139, 140, 141, 142, 143, 144, 145, 146, 147, 148, 149] rfl (by decide +kernel)
set_option maxRecDepth 20000 in
theorem gX3_layPlan_X3_lookAhead : GoodIn wsX3_layPlan (wsV RX3 91 RX3 yX3_lookAhead wsX3_lookAhead) := goodIn_app (goodIn_of _ (by decide +kernel)) ggX3_layPlan_X3_lookAhead
set_option maxRecDepth 20000 in
theorem ggX3_layPlan_J7_fill_53178 : GoodIn wsX3_layPlan wsJ7_fill_53178 := goodIn_r _ [88] rfl (by decide +kernel)
set_option maxRecDepth 20000 in
theorem gX3_layPlan_J7_fill_53178 : GoodIn wsX3_layPlan (va_wsS RX3 23 yJ7_fill_53178 wsJ7_fill_53178) := goodIn_app (goodIn_of _ (by decide +kernel)) ggX3_layPlan_J7_fill_53178
set_option maxRecDepth 20000 in
theorem ggX3_layPlan_X3_weighHour : GoodIn wsX3_layPlan wsX3_weighHour := goodIn_r _ [92, 12, 93, 94, 95, 10, 96, 13, 1, 4, 2, 97, 98, 99, 81, 82, 83, 84, 62, 47, 63, 100, 101, 102, 103, 104, 105, 106, 107, 114, 115, 116, 117, 118, 119, 120, 121, 122, 123, 124, 125, 126, 127] rfl (by decide +kernel)
set_option maxRecDepth 20000 in
theorem gX3_layPlan_X3_weighHour : GoodIn wsX3_layPlan (wsV RX3 94 RX3 yX3_weighHour wsX3_weighHour) := goodIn_app (goodIn_of _ (by decide +kernel)) ggX3_layPlan_X3_weighHour
set_option maxRecDepth 20000 in
theorem ggX3_layPlan_X3_followChoices : GoodIn wsX3_layPlan wsX3_followChoices := goodIn_r _ [111, 112, 3, 113, 5, 6, 2, 13, 97, 98, 10, 99, 81, 82, 83, 84, 62, 47, 63, 100, 101, 102, 114, 115, 116, 117, 118, 119, 120, 121, 122, 123, 124, 125, 126, 127] rfl (by decide +kernel)
set_option maxRecDepth 20000 in
theorem gX3_layPlan_X3_followChoices : GoodIn wsX3_layPlan (wsV RX3 98 RX3 yX3_followChoices wsX3_followChoices) := goodIn_app (goodIn_of _ (by decide +kernel)) ggX3_layPlan_X3_followChoices
set_option maxRecDepth 20000 in
theorem ggX3_layPlan_X3_stateOf : GoodIn wsX3_layPlan wsX3_stateOf := goodIn_r _ [99] rfl (by decide +kernel)
set_option maxRecDepth 20000 in
theorem gX3_layPlan_X3_stateOf : GoodIn wsX3_layPlan (va_wsS RX3 101 yX3_stateOf wsX3_stateOf) := goodIn_app (goodIn_of _ (by decide +kernel)) ggX3_layPlan_X3_stateOf
theorem dX3_layPlan_0 : decode cX3_layPlan 0 = .ok (.aload_n 0, 1) := by decide +kernel
theorem dX3_layPlan_1 : decode cX3_layPlan 1 = .ok (.invokevirtual 91, 3) := by decide +kernel
theorem dX3_layPlan_4 : decode cX3_layPlan 4 = .ok (.aload_n 0, 1) := by decide +kernel
theorem dX3_layPlan_5 : decode cX3_layPlan 5 = .ok (.getfield 29, 3) := by decide +kernel
theorem dX3_layPlan_8 : decode cX3_layPlan 8 = .ok (.iconst 0, 1) := by decide +kernel
theorem dX3_layPlan_9 : decode cX3_layPlan 9 = .ok (.invokestatic 23, 3) := by decide +kernel
theorem dX3_layPlan_12 : decode cX3_layPlan 12 = .ok (.aload_n 0, 1) := by decide +kernel
theorem dX3_layPlan_13 : decode cX3_layPlan 13 = .ok (.getfield 35, 3) := by decide +kernel
theorem dX3_layPlan_16 : decode cX3_layPlan 16 = .ok (.iconst 0, 1) := by decide +kernel
theorem dX3_layPlan_17 : decode cX3_layPlan 17 = .ok (.invokestatic 23, 3) := by decide +kernel
theorem dX3_layPlan_20 : decode cX3_layPlan 20 = .ok (.bipush 23, 2) := by decide +kernel
theorem dX3_layPlan_22 : decode cX3_layPlan 22 = .ok (.istore_n 1, 1) := by decide +kernel
theorem dX3_layPlan_23 : decode cX3_layPlan 23 = .ok (.iload_n 1, 1) := by decide +kernel
theorem dX3_layPlan_24 : decode cX3_layPlan 24 = .ok (.aload_n 0, 1) := by decide +kernel
theorem dX3_layPlan_25 : decode cX3_layPlan 25 = .ok (.getfield 48, 3) := by decide +kernel
theorem dX3_layPlan_28 : decode cX3_layPlan 28 = .ok (.if_icmp .lt 32, 3) := by decide +kernel
theorem dX3_layPlan_31 : decode cX3_layPlan 31 = .ok (.aload_n 0, 1) := by decide +kernel
theorem dX3_layPlan_32 : decode cX3_layPlan 32 = .ok (.getfield 29, 3) := by decide +kernel
theorem dX3_layPlan_35 : decode cX3_layPlan 35 = .ok (.astore_n 2, 1) := by decide +kernel
theorem dX3_layPlan_36 : decode cX3_layPlan 36 = .ok (.aload_n 0, 1) := by decide +kernel
theorem dX3_layPlan_37 : decode cX3_layPlan 37 = .ok (.aload_n 0, 1) := by decide +kernel
theorem dX3_layPlan_38 : decode cX3_layPlan 38 = .ok (.getfield 32, 3) := by decide +kernel
theorem dX3_layPlan_41 : decode cX3_layPlan 41 = .ok (.putfield 29, 3) := by decide +kernel
theorem dX3_layPlan_44 : decode cX3_layPlan 44 = .ok (.aload_n 0, 1) := by decide +kernel
theorem dX3_layPlan_45 : decode cX3_layPlan 45 = .ok (.aload_n 2, 1) := by decide +kernel
theorem dX3_layPlan_46 : decode cX3_layPlan 46 = .ok (.putfield 32, 3) := by decide +kernel
theorem dX3_layPlan_49 : decode cX3_layPlan 49 = .ok (.aload_n 0, 1) := by decide +kernel
theorem dX3_layPlan_50 : decode cX3_layPlan 50 = .ok (.iload_n 1, 1) := by decide +kernel
theorem dX3_layPlan_51 : decode cX3_layPlan 51 = .ok (.invokevirtual 94, 3) := by decide +kernel
theorem dX3_layPlan_54 : decode cX3_layPlan 54 = .ok (.iinc 1 (-1), 3) := by decide +kernel
theorem dX3_layPlan_57 : decode cX3_layPlan 57 = .ok (.goto (-34), 3) := by decide +kernel
theorem dX3_layPlan_60 : decode cX3_layPlan 60 = .ok (.aload_n 0, 1) := by decide +kernel
theorem dX3_layPlan_61 : decode cX3_layPlan 61 = .ok (.invokevirtual 98, 3) := by decide +kernel
theorem dX3_layPlan_64 : decode cX3_layPlan 64 = .ok (.aload_n 0, 1) := by decide +kernel
theorem dX3_layPlan_65 : decode cX3_layPlan 65 = .ok (.getfield 29, 3) := by decide +kernel
theorem dX3_layPlan_68 : decode cX3_layPlan 68 = .ok (.aload_n 0, 1) := by decide +kernel
theorem dX3_layPlan_69 : decode cX3_layPlan 69 = .ok (.getfield 51, 3) := by decide +kernel
theorem dX3_layPlan_72 : decode cX3_layPlan 72 = .ok (.aload_n 0, 1) := by decide +kernel
theorem dX3_layPlan_73 : decode cX3_layPlan 73 = .ok (.getfield 54, 3) := by decide +kernel
theorem dX3_layPlan_76 : decode cX3_layPlan 76 = .ok (.invokestatic 101, 3) := by decide +kernel
theorem dX3_layPlan_79 : decode cX3_layPlan 79 = .ok (.iaload, 1) := by decide +kernel
theorem dX3_layPlan_80 : decode cX3_layPlan 80 = .ok (.ireturn, 1) := by decide +kernel
set_option maxRecDepth 20000 in
theorem ggX3_lookAhead_X0_aimAll : GoodIn wsX3_lookAhead wsX0_aimAll := goodIn_r _ [10, 11, 12, 13, 14, 15, 16, 17, 18, 19, 20, 21, 22, 23, 9, 24, 25, 26, 27, 28, 29, 30, 31, 32, 33, 34, 35, 36, 37, 38, 39, 40, 41, 42, 43, 44, 45, 46, 47, 48, 49, 50, 51, 52, 53, 54, 55, 56, 57, 58, 59, 60, 61, 62, 63, 64, 65, 66, 67, 68, 69, 70, 71, 91, 92, 93, 94, 95, 96, 97, 98, 99, 100, 101, 102, 103, 104, 105, 106, 107, 108, 109, 110, 111, 112] rfl (by decide +kernel)
set_option maxRecDepth 20000 in
theorem gX3_lookAhead_X0_aimAll : GoodIn wsX3_lookAhead (wsV RX3 61 RX0 yX0_aimAll wsX0_aimAll) := goodIn_app (goodIn_of _ (by decide +kernel)) ggX3_lookAhead_X0_aimAll
set_option maxRecDepth 20000 in
theorem ggX3_lookAhead_X3_filled : GoodIn wsX3_lookAhead wsX3_filled := goodIn_r _ [75, 76, 53, 38, 54] rfl (by decide +kernel)
set_option maxRecDepth 20000 in
theorem gX3_lookAhead_X3_filled : GoodIn wsX3_lookAhead (va_wsS RX3 67 yX3_filled wsX3_filled) := goodIn_app (goodIn_of _ (by decide +kernel)) ggX3_lookAhead_X3_filled
theorem dX3_lookAhead_0 : decode cX3_lookAhead 0 = .ok (.aload_n 0, 1) := by decide +kernel
theorem dX3_lookAhead_1 : decode cX3_lookAhead 1 = .ok (.getfield 51, 3) := by decide +kernel
theorem dX3_lookAhead_4 : decode cX3_lookAhead 4 = .ok (.istore_n 1, 1) := by decide +kernel
theorem dX3_lookAhead_5 : decode cX3_lookAhead 5 = .ok (.aload_n 0, 1) := by decide +kernel
theorem dX3_lookAhead_6 : decode cX3_lookAhead 6 = .ok (.getfield 48, 3) := by decide +kernel
theorem dX3_lookAhead_9 : decode cX3_lookAhead 9 = .ok (.istore_n 2, 1) := by decide +kernel
theorem dX3_lookAhead_10 : decode cX3_lookAhead 10 = .ok (.iload_n 2, 1) := by decide +kernel
theorem dX3_lookAhead_11 : decode cX3_lookAhead 11 = .ok (.bipush 24, 2) := by decide +kernel
theorem dX3_lookAhead_13 : decode cX3_lookAhead 13 = .ok (.if_icmp .ge 50, 3) := by decide +kernel
theorem dX3_lookAhead_16 : decode cX3_lookAhead 16 = .ok (.aload_n 0, 1) := by decide +kernel
theorem dX3_lookAhead_17 : decode cX3_lookAhead 17 = .ok (.getfield 41, 3) := by decide +kernel
theorem dX3_lookAhead_20 : decode cX3_lookAhead 20 = .ok (.iload_n 2, 1) := by decide +kernel
theorem dX3_lookAhead_21 : decode cX3_lookAhead 21 = .ok (.iload_n 1, 1) := by decide +kernel
theorem dX3_lookAhead_22 : decode cX3_lookAhead 22 = .ok (.iastore, 1) := by decide +kernel
theorem dX3_lookAhead_23 : decode cX3_lookAhead 23 = .ok (.aload_n 0, 1) := by decide +kernel
theorem dX3_lookAhead_24 : decode cX3_lookAhead 24 = .ok (.getfield 38, 3) := by decide +kernel
theorem dX3_lookAhead_27 : decode cX3_lookAhead 27 = .ok (.iload_n 2, 1) := by decide +kernel
theorem dX3_lookAhead_28 : decode cX3_lookAhead 28 = .ok (.aload_n 0, 1) := by decide +kernel
theorem dX3_lookAhead_29 : decode cX3_lookAhead 29 = .ok (.getfield 15, 3) := by decide +kernel
theorem dX3_lookAhead_32 : decode cX3_lookAhead 32 = .ok (.iload_n 2, 1) := by decide +kernel
theorem dX3_lookAhead_33 : decode cX3_lookAhead 33 = .ok (.iload_n 2, 1) := by decide +kernel
theorem dX3_lookAhead_34 : decode cX3_lookAhead 34 = .ok (.aload_n 0, 1) := by decide +kernel
theorem dX3_lookAhead_35 : decode cX3_lookAhead 35 = .ok (.getfield 48, 3) := by decide +kernel
theorem dX3_lookAhead_38 : decode cX3_lookAhead 38 = .ok (.isub, 1) := by decide +kernel
theorem dX3_lookAhead_39 : decode cX3_lookAhead 39 = .ok (.invokevirtual 61, 3) := by decide +kernel
theorem dX3_lookAhead_42 : decode cX3_lookAhead 42 = .ok (.bipush 100, 2) := by decide +kernel
theorem dX3_lookAhead_44 : decode cX3_lookAhead 44 = .ok (.idiv, 1) := by decide +kernel
theorem dX3_lookAhead_45 : decode cX3_lookAhead 45 = .ok (.iastore, 1) := by decide +kernel
theorem dX3_lookAhead_46 : decode cX3_lookAhead 46 = .ok (.iload_n 1, 1) := by decide +kernel
theorem dX3_lookAhead_47 : decode cX3_lookAhead 47 = .ok (.aload_n 0, 1) := by decide +kernel
theorem dX3_lookAhead_48 : decode cX3_lookAhead 48 = .ok (.getfield 38, 3) := by decide +kernel
theorem dX3_lookAhead_51 : decode cX3_lookAhead 51 = .ok (.iload_n 2, 1) := by decide +kernel
theorem dX3_lookAhead_52 : decode cX3_lookAhead 52 = .ok (.iaload, 1) := by decide +kernel
theorem dX3_lookAhead_53 : decode cX3_lookAhead 53 = .ok (.invokestatic 67, 3) := by decide +kernel
theorem dX3_lookAhead_56 : decode cX3_lookAhead 56 = .ok (.istore_n 1, 1) := by decide +kernel
theorem dX3_lookAhead_57 : decode cX3_lookAhead 57 = .ok (.iinc 2 1, 3) := by decide +kernel
theorem dX3_lookAhead_60 : decode cX3_lookAhead 60 = .ok (.goto (-50), 3) := by decide +kernel
theorem dX3_lookAhead_63 : decode cX3_lookAhead 63 = .ok (.return_, 1) := by decide +kernel
set_option maxRecDepth 20000 in
theorem ggX3_weighHour_X3_weigh : GoodIn wsX3_weighHour wsX3_weigh := goodIn_r _ [6, 7, 8, 9, 10, 11, 12, 5, 13, 14, 15, 16, 17, 18, 19, 20, 21, 22, 23, 24, 25, 26, 27, 28, 29, 30, 31, 32, 33, 34, 35, 36, 37, 38, 39, 40, 41, 42] rfl (by decide +kernel)
set_option maxRecDepth 20000 in
theorem gX3_weighHour_X3_weigh : GoodIn wsX3_weighHour (wsV RX3 105 RX3 yX3_weigh wsX3_weigh) := goodIn_app (goodIn_of _ (by decide +kernel)) ggX3_weighHour_X3_weigh
theorem dX3_weighHour_0 : decode cX3_weighHour 0 = .ok (.iconst 0, 1) := by decide +kernel
theorem dX3_weighHour_1 : decode cX3_weighHour 1 = .ok (.istore_n 2, 1) := by decide +kernel
theorem dX3_weighHour_2 : decode cX3_weighHour 2 = .ok (.iload_n 2, 1) := by decide +kernel
theorem dX3_weighHour_3 : decode cX3_weighHour 3 = .ok (.aload_n 0, 1) := by decide +kernel
theorem dX3_weighHour_4 : decode cX3_weighHour 4 = .ok (.getfield 41, 3) := by decide +kernel
theorem dX3_weighHour_7 : decode cX3_weighHour 7 = .ok (.iload_n 1, 1) := by decide +kernel
theorem dX3_weighHour_8 : decode cX3_weighHour 8 = .ok (.iaload, 1) := by decide +kernel
theorem dX3_weighHour_9 : decode cX3_weighHour 9 = .ok (.if_icmp .gt 23, 3) := by decide +kernel
theorem dX3_weighHour_12 : decode cX3_weighHour 12 = .ok (.aload_n 0, 1) := by decide +kernel
theorem dX3_weighHour_13 : decode cX3_weighHour 13 = .ok (.iload_n 1, 1) := by decide +kernel
theorem dX3_weighHour_14 : decode cX3_weighHour 14 = .ok (.iload_n 2, 1) := by decide +kernel
theorem dX3_weighHour_15 : decode cX3_weighHour 15 = .ok (.iconst 0, 1) := by decide +kernel
theorem dX3_weighHour_16 : decode cX3_weighHour 16 = .ok (.invokevirtual 105, 3) := by decide +kernel
theorem dX3_weighHour_19 : decode cX3_weighHour 19 = .ok (.aload_n 0, 1) := by decide +kernel
theorem dX3_weighHour_20 : decode cX3_weighHour 20 = .ok (.iload_n 1, 1) := by decide +kernel
theorem dX3_weighHour_21 : decode cX3_weighHour 21 = .ok (.iload_n 2, 1) := by decide +kernel
theorem dX3_weighHour_22 : decode cX3_weighHour 22 = .ok (.iconst 1, 1) := by decide +kernel
theorem dX3_weighHour_23 : decode cX3_weighHour 23 = .ok (.invokevirtual 105, 3) := by decide +kernel
theorem dX3_weighHour_26 : decode cX3_weighHour 26 = .ok (.iinc 2 1, 3) := by decide +kernel
theorem dX3_weighHour_29 : decode cX3_weighHour 29 = .ok (.goto (-27), 3) := by decide +kernel
theorem dX3_weighHour_32 : decode cX3_weighHour 32 = .ok (.return_, 1) := by decide +kernel
set_option maxRecDepth 20000 in
theorem ggX3_weigh_X3_stateOf : GoodIn wsX3_weigh wsX3_stateOf := goodIn_r _ [8] rfl (by decide +kernel)
set_option maxRecDepth 20000 in
theorem gX3_weigh_X3_stateOf : GoodIn wsX3_weigh (va_wsS RX3 101 yX3_stateOf wsX3_stateOf) := goodIn_app (goodIn_of _ (by decide +kernel)) ggX3_weigh_X3_stateOf
set_option maxRecDepth 20000 in
theorem ggX3_weigh_X3_filled : GoodIn wsX3_weigh wsX3_filled := goodIn_r _ [11, 12, 13, 14, 15] rfl (by decide +kernel)
set_option maxRecDepth 20000 in
theorem gX3_weigh_X3_filled : GoodIn wsX3_weigh (va_wsS RX3 67 yX3_filled wsX3_filled) := goodIn_app (goodIn_of _ (by decide +kernel)) ggX3_weigh_X3_filled
set_option maxRecDepth 20000 in
theorem ggX3_weigh_X3_needed : GoodIn wsX3_weigh wsX3_needed := goodIn_r _ [18] rfl (by decide +kernel)
set_option maxRecDepth 20000 in
theorem gX3_weigh_X3_needed : GoodIn wsX3_weigh (va_wsS RX3 70 yX3_needed wsX3_needed) := goodIn_app (goodIn_of _ (by decide +kernel)) ggX3_weigh_X3_needed
set_option maxRecDepth 20000 in
theorem ggX3_weigh_X3_gainOf : GoodIn wsX3_weigh wsX3_gainOf := goodIn_r _ [22, 23, 24, 25, 26, 27, 28, 29, 30, 31, 32, 33, 34, 35, 36, 37] rfl (by decide +kernel)
set_option maxRecDepth 20000 in
theorem gX3_weigh_X3_gainOf : GoodIn wsX3_weigh (wsV RX3 74 RX3 yX3_gainOf wsX3_gainOf) := goodIn_app (goodIn_of _ (by decide +kernel)) ggX3_weigh_X3_gainOf
theorem dX3_weigh_0 : decode cX3_weigh 0 = .ok (.iload_n 2, 1) := by decide +kernel
theorem dX3_weigh_1 : decode cX3_weigh 1 = .ok (.iload_n 3, 1) := by decide +kernel
theorem dX3_weigh_2 : decode cX3_weigh 2 = .ok (.invokestatic 101, 3) := by decide +kernel
theorem dX3_weigh_5 : decode cX3_weigh 5 = .ok (.istore 4, 2) := by decide +kernel
theorem dX3_weigh_7 : decode cX3_weigh 7 = .ok (.iload_n 2, 1) := by decide +kernel
theorem dX3_weigh_8 : decode cX3_weigh 8 = .ok (.aload_n 0, 1) := by decide +kernel
theorem dX3_weigh_9 : decode cX3_weigh 9 = .ok (.getfield 38, 3) := by decide +kernel
theorem dX3_weigh_12 : decode cX3_weigh 12 = .ok (.iload_n 1, 1) := by decide +kernel
theorem dX3_weigh_13 : decode cX3_weigh 13 = .ok (.iaload, 1) := by decide +kernel
theorem dX3_weigh_14 : decode cX3_weigh 14 = .ok (.invokestatic 67, 3) := by decide +kernel
theorem dX3_weigh_17 : decode cX3_weigh 17 = .ok (.istore 5, 2) := by decide +kernel
theorem dX3_weigh_19 : decode cX3_weigh 19 = .ok (.iload_n 3, 1) := by decide +kernel
theorem dX3_weigh_20 : decode cX3_weigh 20 = .ok (.invokestatic 70, 3) := by decide +kernel
theorem dX3_weigh_23 : decode cX3_weigh 23 = .ok (.istore 6, 2) := by decide +kernel
theorem dX3_weigh_25 : decode cX3_weigh 25 = .ok (.aload_n 0, 1) := by decide +kernel
theorem dX3_weigh_26 : decode cX3_weigh 26 = .ok (.getfield 29, 3) := by decide +kernel
theorem dX3_weigh_29 : decode cX3_weigh 29 = .ok (.iload 4, 2) := by decide +kernel
theorem dX3_weigh_31 : decode cX3_weigh 31 = .ok (.aload_n 0, 1) := by decide +kernel
theorem dX3_weigh_32 : decode cX3_weigh 32 = .ok (.getfield 32, 3) := by decide +kernel
theorem dX3_weigh_35 : decode cX3_weigh 35 = .ok (.iload 5, 2) := by decide +kernel
theorem dX3_weigh_37 : decode cX3_weigh 37 = .ok (.iconst 0, 1) := by decide +kernel
theorem dX3_weigh_38 : decode cX3_weigh 38 = .ok (.invokestatic 101, 3) := by decide +kernel
theorem dX3_weigh_41 : decode cX3_weigh 41 = .ok (.iaload, 1) := by decide +kernel
theorem dX3_weigh_42 : decode cX3_weigh 42 = .ok (.iastore, 1) := by decide +kernel
theorem dX3_weigh_43 : decode cX3_weigh 43 = .ok (.iload 5, 2) := by decide +kernel
theorem dX3_weigh_45 : decode cX3_weigh 45 = .ok (.iload 6, 2) := by decide +kernel
theorem dX3_weigh_47 : decode cX3_weigh 47 = .ok (.if_icmp .lt 59, 3) := by decide +kernel
theorem dX3_weigh_50 : decode cX3_weigh 50 = .ok (.aload_n 0, 1) := by decide +kernel
theorem dX3_weigh_51 : decode cX3_weigh 51 = .ok (.iload_n 1, 1) := by decide +kernel
theorem dX3_weigh_52 : decode cX3_weigh 52 = .ok (.invokevirtual 74, 3) := by decide +kernel
theorem dX3_weigh_55 : decode cX3_weigh 55 = .ok (.aload_n 0, 1) := by decide +kernel
theorem dX3_weigh_56 : decode cX3_weigh 56 = .ok (.getfield 32, 3) := by decide +kernel
theorem dX3_weigh_59 : decode cX3_weigh 59 = .ok (.iload 5, 2) := by decide +kernel
theorem dX3_weigh_61 : decode cX3_weigh 61 = .ok (.iload 6, 2) := by decide +kernel
theorem dX3_weigh_63 : decode cX3_weigh 63 = .ok (.isub, 1) := by decide +kernel
theorem dX3_weigh_64 : decode cX3_weigh 64 = .ok (.iconst 1, 1) := by decide +kernel
theorem dX3_weigh_65 : decode cX3_weigh 65 = .ok (.invokestatic 101, 3) := by decide +kernel
theorem dX3_weigh_68 : decode cX3_weigh 68 = .ok (.iaload, 1) := by decide +kernel
theorem dX3_weigh_69 : decode cX3_weigh 69 = .ok (.iadd, 1) := by decide +kernel
theorem dX3_weigh_70 : decode cX3_weigh 70 = .ok (.istore 7, 2) := by decide +kernel
theorem dX3_weigh_72 : decode cX3_weigh 72 = .ok (.iload 7, 2) := by decide +kernel
theorem dX3_weigh_74 : decode cX3_weigh 74 = .ok (.aload_n 0, 1) := by decide +kernel
theorem dX3_weigh_75 : decode cX3_weigh 75 = .ok (.getfield 29, 3) := by decide +kernel
theorem dX3_weigh_78 : decode cX3_weigh 78 = .ok (.iload 4, 2) := by decide +kernel
theorem dX3_weigh_80 : decode cX3_weigh 80 = .ok (.iaload, 1) := by decide +kernel
theorem dX3_weigh_81 : decode cX3_weigh 81 = .ok (.if_icmp .le 25, 3) := by decide +kernel
theorem dX3_weigh_84 : decode cX3_weigh 84 = .ok (.aload_n 0, 1) := by decide +kernel
theorem dX3_weigh_85 : decode cX3_weigh 85 = .ok (.getfield 29, 3) := by decide +kernel
theorem dX3_weigh_88 : decode cX3_weigh 88 = .ok (.iload 4, 2) := by decide +kernel
theorem dX3_weigh_90 : decode cX3_weigh 90 = .ok (.iload 7, 2) := by decide +kernel
theorem dX3_weigh_92 : decode cX3_weigh 92 = .ok (.iastore, 1) := by decide +kernel
theorem dX3_weigh_93 : decode cX3_weigh 93 = .ok (.aload_n 0, 1) := by decide +kernel
theorem dX3_weigh_94 : decode cX3_weigh 94 = .ok (.getfield 35, 3) := by decide +kernel
theorem dX3_weigh_97 : decode cX3_weigh 97 = .ok (.iload 4, 2) := by decide +kernel
theorem dX3_weigh_99 : decode cX3_weigh 99 = .ok (.dup2, 1) := by decide +kernel
theorem dX3_weigh_100 : decode cX3_weigh 100 = .ok (.iaload, 1) := by decide +kernel
theorem dX3_weigh_101 : decode cX3_weigh 101 = .ok (.iconst 1, 1) := by decide +kernel
theorem dX3_weigh_102 : decode cX3_weigh 102 = .ok (.iload_n 1, 1) := by decide +kernel
theorem dX3_weigh_103 : decode cX3_weigh 103 = .ok (.ishl, 1) := by decide +kernel
theorem dX3_weigh_104 : decode cX3_weigh 104 = .ok (.ior, 1) := by decide +kernel
theorem dX3_weigh_105 : decode cX3_weigh 105 = .ok (.iastore, 1) := by decide +kernel
theorem dX3_weigh_106 : decode cX3_weigh 106 = .ok (.return_, 1) := by decide +kernel
set_option maxRecDepth 20000 in
theorem ggX3_followChoices_X3_stateOf : GoodIn wsX3_followChoices wsX3_stateOf := goodIn_r _ [11] rfl (by decide +kernel)
set_option maxRecDepth 20000 in
theorem gX3_followChoices_X3_stateOf : GoodIn wsX3_followChoices (va_wsS RX3 101 yX3_stateOf wsX3_stateOf) := goodIn_app (goodIn_of _ (by decide +kernel)) ggX3_followChoices_X3_stateOf
set_option maxRecDepth 20000 in
theorem ggX3_followChoices_X3_filled : GoodIn wsX3_followChoices wsX3_filled := goodIn_r _ [14, 15, 16, 17, 18] rfl (by decide +kernel)
set_option maxRecDepth 20000 in
theorem gX3_followChoices_X3_filled : GoodIn wsX3_followChoices (va_wsS RX3 67 yX3_filled wsX3_filled) := goodIn_app (goodIn_of _ (by decide +kernel)) ggX3_followChoices_X3_filled
set_option maxRecDepth 20000 in
theorem ggX3_followChoices_X3_needed : GoodIn wsX3_followChoices wsX3_needed := goodIn_r _ [21] rfl (by decide +kernel)
set_option maxRecDepth 20000 in
theorem gX3_followChoices_X3_needed : GoodIn wsX3_followChoices (va_wsS RX3 70 yX3_needed wsX3_needed) := goodIn_app (goodIn_of _ (by decide +kernel)) ggX3_followChoices_X3_needed
theorem dX3_followChoices_0 : decode cX3_followChoices 0 = .ok (.aload_n 0, 1) := by decide +kernel
theorem dX3_followChoices_1 : decode cX3_followChoices 1 = .ok (.iconst 0, 1) := by decide +kernel
theorem dX3_followChoices_2 : decode cX3_followChoices 2 = .ok (.putfield 88, 3) := by decide +kernel
theorem dX3_followChoices_5 : decode cX3_followChoices 5 = .ok (.aload_n 0, 1) := by decide +kernel
theorem dX3_followChoices_6 : decode cX3_followChoices 6 = .ok (.aload_n 0, 1) := by decide +kernel
theorem dX3_followChoices_7 : decode cX3_followChoices 7 = .ok (.getfield 48, 3) := by decide +kernel
theorem dX3_followChoices_10 : decode cX3_followChoices 10 = .ok (.putfield 44, 3) := by decide +kernel
theorem dX3_followChoices_13 : decode cX3_followChoices 13 = .ok (.aload_n 0, 1) := by decide +kernel
theorem dX3_followChoices_14 : decode cX3_followChoices 14 = .ok (.getfield 51, 3) := by decide +kernel
theorem dX3_followChoices_17 : decode cX3_followChoices 17 = .ok (.istore_n 1, 1) := by decide +kernel
theorem dX3_followChoices_18 : decode cX3_followChoices 18 = .ok (.aload_n 0, 1) := by decide +kernel
theorem dX3_followChoices_19 : decode cX3_followChoices 19 = .ok (.getfield 54, 3) := by decide +kernel
theorem dX3_followChoices_22 : decode cX3_followChoices 22 = .ok (.istore_n 2, 1) := by decide +kernel
theorem dX3_followChoices_23 : decode cX3_followChoices 23 = .ok (.aload_n 0, 1) := by decide +kernel
theorem dX3_followChoices_24 : decode cX3_followChoices 24 = .ok (.getfield 48, 3) := by decide +kernel
theorem dX3_followChoices_27 : decode cX3_followChoices 27 = .ok (.istore_n 3, 1) := by decide +kernel
theorem dX3_followChoices_28 : decode cX3_followChoices 28 = .ok (.iload_n 3, 1) := by decide +kernel
theorem dX3_followChoices_29 : decode cX3_followChoices 29 = .ok (.bipush 24, 2) := by decide +kernel
theorem dX3_followChoices_31 : decode cX3_followChoices 31 = .ok (.if_icmp .ge 71, 3) := by decide +kernel
theorem dX3_followChoices_34 : decode cX3_followChoices 34 = .ok (.aload_n 0, 1) := by decide +kernel
theorem dX3_followChoices_35 : decode cX3_followChoices 35 = .ok (.getfield 35, 3) := by decide +kernel
theorem dX3_followChoices_38 : decode cX3_followChoices 38 = .ok (.iload_n 1, 1) := by decide +kernel
theorem dX3_followChoices_39 : decode cX3_followChoices 39 = .ok (.iload_n 2, 1) := by decide +kernel
theorem dX3_followChoices_40 : decode cX3_followChoices 40 = .ok (.invokestatic 101, 3) := by decide +kernel
theorem dX3_followChoices_43 : decode cX3_followChoices 43 = .ok (.iaload, 1) := by decide +kernel
theorem dX3_followChoices_44 : decode cX3_followChoices 44 = .ok (.iload_n 3, 1) := by decide +kernel
theorem dX3_followChoices_45 : decode cX3_followChoices 45 = .ok (.ishr, 1) := by decide +kernel
theorem dX3_followChoices_46 : decode cX3_followChoices 46 = .ok (.iconst 1, 1) := by decide +kernel
theorem dX3_followChoices_47 : decode cX3_followChoices 47 = .ok (.iand, 1) := by decide +kernel
theorem dX3_followChoices_48 : decode cX3_followChoices 48 = .ok (.ifCond .eq 7, 3) := by decide +kernel
theorem dX3_followChoices_51 : decode cX3_followChoices 51 = .ok (.iconst 1, 1) := by decide +kernel
theorem dX3_followChoices_52 : decode cX3_followChoices 52 = .ok (.goto 4, 3) := by decide +kernel
theorem dX3_followChoices_55 : decode cX3_followChoices 55 = .ok (.iconst 0, 1) := by decide +kernel
theorem dX3_followChoices_56 : decode cX3_followChoices 56 = .ok (.istore 4, 2) := by decide +kernel
theorem dX3_followChoices_58 : decode cX3_followChoices 58 = .ok (.iload_n 1, 1) := by decide +kernel
theorem dX3_followChoices_59 : decode cX3_followChoices 59 = .ok (.aload_n 0, 1) := by decide +kernel
theorem dX3_followChoices_60 : decode cX3_followChoices 60 = .ok (.getfield 38, 3) := by decide +kernel
theorem dX3_followChoices_63 : decode cX3_followChoices 63 = .ok (.iload_n 3, 1) := by decide +kernel
theorem dX3_followChoices_64 : decode cX3_followChoices 64 = .ok (.iaload, 1) := by decide +kernel
theorem dX3_followChoices_65 : decode cX3_followChoices 65 = .ok (.invokestatic 67, 3) := by decide +kernel
theorem dX3_followChoices_68 : decode cX3_followChoices 68 = .ok (.istore_n 1, 1) := by decide +kernel
theorem dX3_followChoices_69 : decode cX3_followChoices 69 = .ok (.iload 4, 2) := by decide +kernel
theorem dX3_followChoices_71 : decode cX3_followChoices 71 = .ok (.ifCond .eq 22, 3) := by decide +kernel
theorem dX3_followChoices_74 : decode cX3_followChoices 74 = .ok (.iload_n 1, 1) := by decide +kernel
theorem dX3_followChoices_75 : decode cX3_followChoices 75 = .ok (.iload_n 2, 1) := by decide +kernel
theorem dX3_followChoices_76 : decode cX3_followChoices 76 = .ok (.invokestatic 70, 3) := by decide +kernel
theorem dX3_followChoices_79 : decode cX3_followChoices 79 = .ok (.isub, 1) := by decide +kernel
theorem dX3_followChoices_80 : decode cX3_followChoices 80 = .ok (.istore_n 1, 1) := by decide +kernel
theorem dX3_followChoices_81 : decode cX3_followChoices 81 = .ok (.aload_n 0, 1) := by decide +kernel
theorem dX3_followChoices_82 : decode cX3_followChoices 82 = .ok (.dup, 1) := by decide +kernel
theorem dX3_followChoices_83 : decode cX3_followChoices 83 = .ok (.getfield 88, 3) := by decide +kernel
theorem dX3_followChoices_86 : decode cX3_followChoices 86 = .ok (.iconst 1, 1) := by decide +kernel
theorem dX3_followChoices_87 : decode cX3_followChoices 87 = .ok (.iload_n 3, 1) := by decide +kernel
theorem dX3_followChoices_88 : decode cX3_followChoices 88 = .ok (.ishl, 1) := by decide +kernel
theorem dX3_followChoices_89 : decode cX3_followChoices 89 = .ok (.ior, 1) := by decide +kernel
theorem dX3_followChoices_90 : decode cX3_followChoices 90 = .ok (.putfield 88, 3) := by decide +kernel
theorem dX3_followChoices_93 : decode cX3_followChoices 93 = .ok (.iload 4, 2) := by decide +kernel
theorem dX3_followChoices_95 : decode cX3_followChoices 95 = .ok (.istore_n 2, 1) := by decide +kernel
theorem dX3_followChoices_96 : decode cX3_followChoices 96 = .ok (.iinc 3 1, 3) := by decide +kernel
theorem dX3_followChoices_99 : decode cX3_followChoices 99 = .ok (.goto (-71), 3) := by decide +kernel
theorem dX3_followChoices_102 : decode cX3_followChoices 102 = .ok (.return_, 1) := by decide +kernel
theorem dX3_stateOf_0 : decode cX3_stateOf 0 = .ok (.iconst 2, 1) := by decide +kernel
theorem dX3_stateOf_1 : decode cX3_stateOf 1 = .ok (.iload_n 0, 1) := by decide +kernel
theorem dX3_stateOf_2 : decode cX3_stateOf 2 = .ok (.imul, 1) := by decide +kernel
theorem dX3_stateOf_3 : decode cX3_stateOf 3 = .ok (.iload_n 1, 1) := by decide +kernel
theorem dX3_stateOf_4 : decode cX3_stateOf 4 = .ok (.ifCond .eq 7, 3) := by decide +kernel
theorem dX3_stateOf_7 : decode cX3_stateOf 7 = .ok (.iconst 1, 1) := by decide +kernel
theorem dX3_stateOf_8 : decode cX3_stateOf 8 = .ok (.goto 4, 3) := by decide +kernel
theorem dX3_stateOf_11 : decode cX3_stateOf 11 = .ok (.iconst 0, 1) := by decide +kernel
theorem dX3_stateOf_12 : decode cX3_stateOf 12 = .ok (.iadd, 1) := by decide +kernel
theorem dX3_stateOf_13 : decode cX3_stateOf 13 = .ok (.ireturn, 1) := by decide +kernel
set_option maxRecDepth 20000 in
theorem ggX4_init_X1_init : GoodIn wsX4_init wsX1_init := goodIn_r _ [23, 24, 2, 3, 25, 26, 27, 28, 29, 30, 31, 32, 33, 34, 35, 75, 76, 77, 78, 79, 80, 81, 82, 83, 84, 85] rfl (by decide +kernel)
set_option maxRecDepth 20000 in
theorem gX4_init_X1_init : GoodIn wsX4_init (wsX1_init) := ggX4_init_X1_init
set_option maxRecDepth 20000 in
theorem ggX4_init_X0_init : GoodIn wsX4_init wsX0_init := goodIn_r _ [38, 39, 2, 3, 40, 25, 41, 42, 43, 44, 45, 46, 47, 48, 49, 50, 51, 52, 53, 54, 91, 92, 93, 94, 95, 96, 97, 98, 99, 100, 101] rfl (by decide +kernel)
set_option maxRecDepth 20000 in
theorem gX4_init_X0_init : GoodIn wsX4_init (wsX0_init) := ggX4_init_X0_init
set_option maxRecDepth 20000 in
theorem ggX4_init_X3_init : GoodIn wsX4_init wsX3_init := goodIn_r _ [57, 58, 2, 3, 59, 60, 25, 61, 62, 63, 64, 65, 66, 67, 68, 52, 53, 54, 102, 103, 104, 105, 106, 107, 108, 109, 110, 111, 112, 113, 114, 115] rfl (by decide +kernel)
set_option maxRecDepth 20000 in
theorem gX4_init_X3_init : GoodIn wsX4_init (wsX3_init) := ggX4_init_X3_init
set_option maxRecDepth 20000 in
theorem ggX4_init_X2_init : GoodIn wsX4_init wsX2_init := goodIn_r _ [71, 72, 2, 3, 25, 73, 74, 116, 117, 118, 119, 120] rfl (by decide +kernel)
set_option maxRecDepth 20000 in
theorem gX4_init_X2_init : GoodIn wsX4_init (wsX2_init) := ggX4_init_X2_init
theorem dX4_init_0 : decode cX4_init 0 = .ok (.aload_n 0, 1) := by decide +kernel
theorem dX4_init_1 : decode cX4_init 1 = .ok (.invokespecial 1, 3) := by decide +kernel
theorem dX4_init_4 : decode cX4_init 4 = .ok (.aload_n 0, 1) := by decide +kernel
theorem dX4_init_5 : decode cX4_init 5 = .ok (.new 7, 3) := by decide +kernel
theorem dX4_init_8 : decode cX4_init 8 = .ok (.dup, 1) := by decide +kernel
theorem dX4_init_9 : decode cX4_init 9 = .ok (.invokespecial 9, 3) := by decide +kernel
theorem dX4_init_12 : decode cX4_init 12 = .ok (.putfield 10, 3) := by decide +kernel
theorem dX4_init_15 : decode cX4_init 15 = .ok (.aload_n 0, 1) := by decide +kernel
theorem dX4_init_16 : decode cX4_init 16 = .ok (.new 16, 3) := by decide +kernel
theorem dX4_init_19 : decode cX4_init 19 = .ok (.dup, 1) := by decide +kernel
theorem dX4_init_20 : decode cX4_init 20 = .ok (.aload_n 0, 1) := by decide +kernel
theorem dX4_init_21 : decode cX4_init 21 = .ok (.getfield 10, 3) := by decide +kernel
theorem dX4_init_24 : decode cX4_init 24 = .ok (.invokespecial 18, 3) := by decide +kernel
theorem dX4_init_27 : decode cX4_init 27 = .ok (.putfield 21, 3) := by decide +kernel
theorem dX4_init_30 : decode cX4_init 30 = .ok (.aload_n 0, 1) := by decide +kernel
theorem dX4_init_31 : decode cX4_init 31 = .ok (.new 25, 3) := by decide +kernel
theorem dX4_init_34 : decode cX4_init 34 = .ok (.dup, 1) := by decide +kernel
theorem dX4_init_35 : decode cX4_init 35 = .ok (.aload_n 0, 1) := by decide +kernel
theorem dX4_init_36 : decode cX4_init 36 = .ok (.getfield 10, 3) := by decide +kernel
theorem dX4_init_39 : decode cX4_init 39 = .ok (.aload_n 0, 1) := by decide +kernel
theorem dX4_init_40 : decode cX4_init 40 = .ok (.getfield 21, 3) := by decide +kernel
theorem dX4_init_43 : decode cX4_init 43 = .ok (.invokespecial 27, 3) := by decide +kernel
theorem dX4_init_46 : decode cX4_init 46 = .ok (.putfield 30, 3) := by decide +kernel
theorem dX4_init_49 : decode cX4_init 49 = .ok (.aload_n 0, 1) := by decide +kernel
theorem dX4_init_50 : decode cX4_init 50 = .ok (.new 34, 3) := by decide +kernel
theorem dX4_init_53 : decode cX4_init 53 = .ok (.dup, 1) := by decide +kernel
theorem dX4_init_54 : decode cX4_init 54 = .ok (.invokespecial 36, 3) := by decide +kernel
theorem dX4_init_57 : decode cX4_init 57 = .ok (.putfield 37, 3) := by decide +kernel
theorem dX4_init_60 : decode cX4_init 60 = .ok (.aload_n 0, 1) := by decide +kernel
theorem dX4_init_61 : decode cX4_init 61 = .ok (.iconst 0, 1) := by decide +kernel
theorem dX4_init_62 : decode cX4_init 62 = .ok (.putfield 41, 3) := by decide +kernel
theorem dX4_init_65 : decode cX4_init 65 = .ok (.return_, 1) := by decide +kernel
set_option maxRecDepth 20000 in
theorem ggX4_mirror_X4_isWithin : GoodIn wsX4_mirror wsX4_isWithin := goodIn_r _ [5] rfl (by decide +kernel)
set_option maxRecDepth 20000 in
theorem gX4_mirror_X4_isWithin : GoodIn wsX4_mirror (va_wsS RX4 45 yX4_isWithin wsX4_isWithin) := goodIn_app (goodIn_of _ (by decide +kernel)) ggX4_mirror_X4_isWithin
set_option maxRecDepth 20000 in
theorem ggX4_mirror_X4_refused : GoodIn wsX4_mirror wsX4_refused := goodIn_r _ [9, 10, 37, 38, 39, 40, 41] rfl (by decide +kernel)
set_option maxRecDepth 20000 in
theorem gX4_mirror_X4_refused : GoodIn wsX4_mirror (wsV RX4 49 RX4 yX4_refused wsX4_refused) := goodIn_app (goodIn_of _ (by decide +kernel)) ggX4_mirror_X4_refused
set_option maxRecDepth 20000 in
theorem ggX4_mirror_X1_isTaken : GoodIn wsX4_mirror wsX1_isTaken := goodIn_r _ [15, 16, 42, 43, 44, 45, 46, 47, 48, 49, 50, 51, 52] rfl (by decide +kernel)
set_option maxRecDepth 20000 in
theorem gX4_mirror_X1_isTaken : GoodIn wsX4_mirror (wsV RX4 53 RX1 yX1_isTaken wsX1_isTaken) := goodIn_app (goodIn_of _ (by decide +kernel)) ggX4_mirror_X1_isTaken
set_option maxRecDepth 20000 in
theorem ggX4_mirror_X1_size : GoodIn wsX4_mirror wsX1_size := goodIn_r _ [20, 21, 42, 43, 44, 45, 46, 47, 48, 49, 50, 51, 52] rfl (by decide +kernel)
set_option maxRecDepth 20000 in
theorem gX4_mirror_X1_size : GoodIn wsX4_mirror (wsV RX4 57 RX1 yX1_size wsX1_size) := goodIn_app (goodIn_of _ (by decide +kernel)) ggX4_mirror_X1_size
set_option maxRecDepth 20000 in
theorem ggX4_mirror_X1_place : GoodIn wsX4_mirror wsX1_place := goodIn_r _ [25, 21, 26, 27, 16, 28, 29, 30, 31, 14, 32, 42, 43, 44, 45, 46, 47, 48, 49, 50, 51, 52] rfl (by decide +kernel)
set_option maxRecDepth 20000 in
theorem gX4_mirror_X1_place : GoodIn wsX4_mirror (wsV RX4 61 RX1 yX1_place wsX1_place) := goodIn_app (goodIn_of _ (by decide +kernel)) ggX4_mirror_X1_place
set_option maxRecDepth 20000 in
theorem ggX4_mirror_X4_granted : GoodIn wsX4_mirror wsX4_granted := goodIn_r _ [36, 10, 37, 38, 39, 40, 41] rfl (by decide +kernel)
set_option maxRecDepth 20000 in
theorem gX4_mirror_X4_granted : GoodIn wsX4_mirror (wsV RX4 65 RX4 yX4_granted wsX4_granted) := goodIn_app (goodIn_of _ (by decide +kernel)) ggX4_mirror_X4_granted
theorem dX4_mirror_0 : decode cX4_mirror 0 = .ok (.iload_n 1, 1) := by decide +kernel
theorem dX4_mirror_1 : decode cX4_mirror 1 = .ok (.iconst 0, 1) := by decide +kernel
theorem dX4_mirror_2 : decode cX4_mirror 2 = .ok (.bipush 14, 2) := by decide +kernel
theorem dX4_mirror_4 : decode cX4_mirror 4 = .ok (.invokestatic 45, 3) := by decide +kernel
theorem dX4_mirror_7 : decode cX4_mirror 7 = .ok (.ifCond .eq 13, 3) := by decide +kernel
theorem dX4_mirror_10 : decode cX4_mirror 10 = .ok (.iload_n 2, 1) := by decide +kernel
theorem dX4_mirror_11 : decode cX4_mirror 11 = .ok (.iconst 0, 1) := by decide +kernel
theorem dX4_mirror_12 : decode cX4_mirror 12 = .ok (.bipush 14, 2) := by decide +kernel
theorem dX4_mirror_14 : decode cX4_mirror 14 = .ok (.invokestatic 45, 3) := by decide +kernel
theorem dX4_mirror_17 : decode cX4_mirror 17 = .ok (.ifCond .ne 9, 3) := by decide +kernel
theorem dX4_mirror_20 : decode cX4_mirror 20 = .ok (.aload_n 0, 1) := by decide +kernel
theorem dX4_mirror_21 : decode cX4_mirror 21 = .ok (.iconst 2, 1) := by decide +kernel
theorem dX4_mirror_22 : decode cX4_mirror 22 = .ok (.invokevirtual 49, 3) := by decide +kernel
theorem dX4_mirror_25 : decode cX4_mirror 25 = .ok (.ireturn, 1) := by decide +kernel
theorem dX4_mirror_26 : decode cX4_mirror 26 = .ok (.iload_n 1, 1) := by decide +kernel
theorem dX4_mirror_27 : decode cX4_mirror 27 = .ok (.bipush 7, 2) := by decide +kernel
theorem dX4_mirror_29 : decode cX4_mirror 29 = .ok (.if_icmp .ne 11, 3) := by decide +kernel
theorem dX4_mirror_32 : decode cX4_mirror 32 = .ok (.iload_n 2, 1) := by decide +kernel
theorem dX4_mirror_33 : decode cX4_mirror 33 = .ok (.ifCond .ne 7, 3) := by decide +kernel
theorem dX4_mirror_36 : decode cX4_mirror 36 = .ok (.iconst 1, 1) := by decide +kernel
theorem dX4_mirror_37 : decode cX4_mirror 37 = .ok (.goto 4, 3) := by decide +kernel
theorem dX4_mirror_40 : decode cX4_mirror 40 = .ok (.iconst 0, 1) := by decide +kernel
theorem dX4_mirror_41 : decode cX4_mirror 41 = .ok (.istore_n 3, 1) := by decide +kernel
theorem dX4_mirror_42 : decode cX4_mirror 42 = .ok (.iload_n 3, 1) := by decide +kernel
theorem dX4_mirror_43 : decode cX4_mirror 43 = .ok (.ifCond .ne 15, 3) := by decide +kernel
theorem dX4_mirror_46 : decode cX4_mirror 46 = .ok (.aload_n 0, 1) := by decide +kernel
theorem dX4_mirror_47 : decode cX4_mirror 47 = .ok (.getfield 10, 3) := by decide +kernel
theorem dX4_mirror_50 : decode cX4_mirror 50 = .ok (.iload_n 1, 1) := by decide +kernel
theorem dX4_mirror_51 : decode cX4_mirror 51 = .ok (.iload_n 2, 1) := by decide +kernel
theorem dX4_mirror_52 : decode cX4_mirror 52 = .ok (.invokevirtual 53, 3) := by decide +kernel
theorem dX4_mirror_55 : decode cX4_mirror 55 = .ok (.ifCond .eq 9, 3) := by decide +kernel
theorem dX4_mirror_58 : decode cX4_mirror 58 = .ok (.aload_n 0, 1) := by decide +kernel
theorem dX4_mirror_59 : decode cX4_mirror 59 = .ok (.iconst 4, 1) := by decide +kernel
theorem dX4_mirror_60 : decode cX4_mirror 60 = .ok (.invokevirtual 49, 3) := by decide +kernel
theorem dX4_mirror_63 : decode cX4_mirror 63 = .ok (.ireturn, 1) := by decide +kernel
theorem dX4_mirror_64 : decode cX4_mirror 64 = .ok (.aload_n 0, 1) := by decide +kernel
theorem dX4_mirror_65 : decode cX4_mirror 65 = .ok (.getfield 10, 3) := by decide +kernel
theorem dX4_mirror_68 : decode cX4_mirror 68 = .ok (.invokevirtual 57, 3) := by decide +kernel
theorem dX4_mirror_71 : decode cX4_mirror 71 = .ok (.bipush 40, 2) := by decide +kernel
theorem dX4_mirror_73 : decode cX4_mirror 73 = .ok (.if_icmp .lt 9, 3) := by decide +kernel
theorem dX4_mirror_76 : decode cX4_mirror 76 = .ok (.aload_n 0, 1) := by decide +kernel
theorem dX4_mirror_77 : decode cX4_mirror 77 = .ok (.iconst 3, 1) := by decide +kernel
theorem dX4_mirror_78 : decode cX4_mirror 78 = .ok (.invokevirtual 49, 3) := by decide +kernel
theorem dX4_mirror_81 : decode cX4_mirror 81 = .ok (.ireturn, 1) := by decide +kernel
theorem dX4_mirror_82 : decode cX4_mirror 82 = .ok (.aload_n 0, 1) := by decide +kernel
theorem dX4_mirror_83 : decode cX4_mirror 83 = .ok (.aload_n 0, 1) := by decide +kernel
theorem dX4_mirror_84 : decode cX4_mirror 84 = .ok (.getfield 10, 3) := by decide +kernel
theorem dX4_mirror_87 : decode cX4_mirror 87 = .ok (.iload_n 1, 1) := by decide +kernel
theorem dX4_mirror_88 : decode cX4_mirror 88 = .ok (.iload_n 2, 1) := by decide +kernel
theorem dX4_mirror_89 : decode cX4_mirror 89 = .ok (.invokevirtual 61, 3) := by decide +kernel
theorem dX4_mirror_92 : decode cX4_mirror 92 = .ok (.invokevirtual 65, 3) := by decide +kernel
theorem dX4_mirror_95 : decode cX4_mirror 95 = .ok (.ireturn, 1) := by decide +kernel
set_option maxRecDepth 20000 in
theorem ggX4_sun_X4_isWithin : GoodIn wsX4_sun wsX4_isWithin := goodIn_r _ [5] rfl (by decide +kernel)
set_option maxRecDepth 20000 in
theorem gX4_sun_X4_isWithin : GoodIn wsX4_sun (va_wsS RX4 45 yX4_isWithin wsX4_isWithin) := goodIn_app (goodIn_of _ (by decide +kernel)) ggX4_sun_X4_isWithin
set_option maxRecDepth 20000 in
theorem ggX4_sun_X4_isHour : GoodIn wsX4_sun wsX4_isHour := goodIn_r _ [8, 2, 3, 4, 5] rfl (by decide +kernel)
set_option maxRecDepth 20000 in
theorem gX4_sun_X4_isHour : GoodIn wsX4_sun (va_wsS RX4 68 yX4_isHour wsX4_isHour) := goodIn_app (goodIn_of _ (by decide +kernel)) ggX4_sun_X4_isHour
set_option maxRecDepth 20000 in
theorem ggX4_sun_X4_denied : GoodIn wsX4_sun wsX4_denied := goodIn_r _ [12, 13, 26, 27, 28, 29, 30] rfl (by decide +kernel)
set_option maxRecDepth 20000 in
theorem gX4_sun_X4_denied : GoodIn wsX4_sun (wsV RX4 72 RX4 yX4_denied wsX4_denied) := goodIn_app (goodIn_of _ (by decide +kernel)) ggX4_sun_X4_denied
set_option maxRecDepth 20000 in
theorem ggX4_sun_X1_setSun : GoodIn wsX4_sun wsX1_setSun := goodIn_r _ [18, 19, 20, 21, 31, 32, 33, 34, 35, 36, 37, 38, 39, 40, 41] rfl (by decide +kernel)
set_option maxRecDepth 20000 in
theorem gX4_sun_X1_setSun : GoodIn wsX4_sun (wsV RX4 75 RX1 yX1_setSun wsX1_setSun) := goodIn_app (goodIn_of _ (by decide +kernel)) ggX4_sun_X1_setSun
set_option maxRecDepth 20000 in
theorem ggX4_sun_X4_allowed : GoodIn wsX4_sun wsX4_allowed := goodIn_r _ [25, 13, 26, 27, 28, 29, 30] rfl (by decide +kernel)
set_option maxRecDepth 20000 in
theorem gX4_sun_X4_allowed : GoodIn wsX4_sun (wsV RX4 79 RX4 yX4_allowed wsX4_allowed) := goodIn_app (goodIn_of _ (by decide +kernel)) ggX4_sun_X4_allowed
theorem dX4_sun_0 : decode cX4_sun 0 = .ok (.iload_n 2, 1) := by decide +kernel
theorem dX4_sun_1 : decode cX4_sun 1 = .ok (.bipush (-2), 2) := by decide +kernel
theorem dX4_sun_3 : decode cX4_sun 3 = .ok (.iconst 2, 1) := by decide +kernel
theorem dX4_sun_4 : decode cX4_sun 4 = .ok (.invokestatic 45, 3) := by decide +kernel
theorem dX4_sun_7 : decode cX4_sun 7 = .ok (.ifCond .eq 25, 3) := by decide +kernel
theorem dX4_sun_10 : decode cX4_sun 10 = .ok (.iload_n 3, 1) := by decide +kernel
theorem dX4_sun_11 : decode cX4_sun 11 = .ok (.bipush (-2), 2) := by decide +kernel
theorem dX4_sun_13 : decode cX4_sun 13 = .ok (.iconst 2, 1) := by decide +kernel
theorem dX4_sun_14 : decode cX4_sun 14 = .ok (.invokestatic 45, 3) := by decide +kernel
theorem dX4_sun_17 : decode cX4_sun 17 = .ok (.ifCond .eq 15, 3) := by decide +kernel
theorem dX4_sun_20 : decode cX4_sun 20 = .ok (.iload_n 2, 1) := by decide +kernel
theorem dX4_sun_21 : decode cX4_sun 21 = .ok (.ifCond .ne 7, 3) := by decide +kernel
theorem dX4_sun_24 : decode cX4_sun 24 = .ok (.iload_n 3, 1) := by decide +kernel
theorem dX4_sun_25 : decode cX4_sun 25 = .ok (.ifCond .eq 7, 3) := by decide +kernel
theorem dX4_sun_28 : decode cX4_sun 28 = .ok (.iconst 1, 1) := by decide +kernel
theorem dX4_sun_29 : decode cX4_sun 29 = .ok (.goto 4, 3) := by decide +kernel
theorem dX4_sun_32 : decode cX4_sun 32 = .ok (.iconst 0, 1) := by decide +kernel
theorem dX4_sun_33 : decode cX4_sun 33 = .ok (.istore 5, 2) := by decide +kernel
