theorem dX5_blocks_110 : decode cX5_blocks 110 = .ok (.imul, 1) := by decide +kernel
theorem dX5_blocks_111 : decode cX5_blocks 111 = .ok (.iadd, 1) := by decide +kernel
theorem dX5_blocks_112 : decode cX5_blocks 112 = .ok (.if_icmp .ge 7, 3) := by decide +kernel
theorem dX5_blocks_115 : decode cX5_blocks 115 = .ok (.iconst 1, 1) := by decide +kernel
theorem dX5_blocks_116 : decode cX5_blocks 116 = .ok (.goto 4, 3) := by decide +kernel
theorem dX5_blocks_119 : decode cX5_blocks 119 = .ok (.iconst 0, 1) := by decide +kernel
theorem dX5_blocks_120 : decode cX5_blocks 120 = .ok (.iadd, 1) := by decide +kernel
theorem dX5_blocks_121 : decode cX5_blocks 121 = .ok (.istore_n 2, 1) := by decide +kernel
theorem dX5_blocks_122 : decode cX5_blocks 122 = .ok (.iinc 5 1, 3) := by decide +kernel
theorem dX5_blocks_125 : decode cX5_blocks 125 = .ok (.goto (-101), 3) := by decide +kernel
theorem dX5_blocks_128 : decode cX5_blocks 128 = .ok (.iload_n 2, 1) := by decide +kernel
theorem dX5_blocks_129 : decode cX5_blocks 129 = .ok (.ireturn, 1) := by decide +kernel
set_option maxRecDepth 20000 in
theorem ggX5_shaded_X5_isMirror : GoodIn wsX5_shaded wsX5_isMirror := goodIn_r _ [6, 7, 24, 25, 26, 27, 28, 29, 30, 31, 32, 33, 34, 35, 36, 37, 38, 39, 40, 41, 42, 43, 44, 45, 46, 47, 48, 49, 50, 51, 52, 53, 54, 55, 56] rfl (by decide +kernel)
set_option maxRecDepth 20000 in
theorem gX5_shaded_X5_isMirror : GoodIn wsX5_shaded (wsV RX5 116 RX5 yX5_isMirror wsX5_isMirror) := goodIn_app (goodIn_of _ (by decide +kernel)) ggX5_shaded_X5_isMirror
set_option maxRecDepth 20000 in
theorem ggX5_shaded_X5_isHour : GoodIn wsX5_shaded wsX5_isHour := goodIn_r _ [10] rfl (by decide +kernel)
set_option maxRecDepth 20000 in
theorem gX5_shaded_X5_isHour : GoodIn wsX5_shaded (va_wsS RX5 105 yX5_isHour wsX5_isHour) := goodIn_app (goodIn_of _ (by decide +kernel)) ggX5_shaded_X5_isHour
set_option maxRecDepth 20000 in
theorem ggX5_shaded_X5_blocks : GoodIn wsX5_shaded wsX5_blocks := goodIn_r _ [14, 15, 16, 7, 24, 25, 26, 27, 28, 29, 30, 31, 32, 33, 34, 35, 36, 37, 38, 39, 40, 41, 42, 43, 44, 45, 46, 47, 48, 49, 50, 51, 52, 53, 54, 55, 56] rfl (by decide +kernel)
set_option maxRecDepth 20000 in
theorem gX5_shaded_X5_blocks : GoodIn wsX5_shaded (wsV RX5 119 RX5 yX5_blocks wsX5_blocks) := goodIn_app (goodIn_of _ (by decide +kernel)) ggX5_shaded_X5_blocks
set_option maxRecDepth 20000 in
theorem ggX5_shaded_X5_shades : GoodIn wsX5_shaded wsX5_shades := goodIn_r _ [20, 21, 7, 15, 22, 16, 23, 24, 25, 26, 27, 28, 29, 30, 31, 32, 33, 34, 35, 36, 37, 38, 39, 40, 41, 42, 43, 44, 45, 46, 47, 48, 49, 50, 51, 52, 53, 54, 55, 56] rfl (by decide +kernel)
set_option maxRecDepth 20000 in
theorem gX5_shaded_X5_shades : GoodIn wsX5_shaded (wsV RX5 122 RX5 yX5_shades wsX5_shades) := goodIn_app (goodIn_of _ (by decide +kernel)) ggX5_shaded_X5_shades
theorem dX5_shaded_0 : decode cX5_shaded 0 = .ok (.aload_n 0, 1) := by decide +kernel
theorem dX5_shaded_1 : decode cX5_shaded 1 = .ok (.iconst 0, 1) := by decide +kernel
theorem dX5_shaded_2 : decode cX5_shaded 2 = .ok (.putfield 1, 3) := by decide +kernel
theorem dX5_shaded_5 : decode cX5_shaded 5 = .ok (.aload_n 0, 1) := by decide +kernel
theorem dX5_shaded_6 : decode cX5_shaded 6 = .ok (.iload_n 1, 1) := by decide +kernel
theorem dX5_shaded_7 : decode cX5_shaded 7 = .ok (.invokevirtual 116, 3) := by decide +kernel
theorem dX5_shaded_10 : decode cX5_shaded 10 = .ok (.ifCond .eq 31, 3) := by decide +kernel
theorem dX5_shaded_13 : decode cX5_shaded 13 = .ok (.iload_n 2, 1) := by decide +kernel
theorem dX5_shaded_14 : decode cX5_shaded 14 = .ok (.invokestatic 105, 3) := by decide +kernel
theorem dX5_shaded_17 : decode cX5_shaded 17 = .ok (.ifCond .eq 24, 3) := by decide +kernel
theorem dX5_shaded_20 : decode cX5_shaded 20 = .ok (.iload_n 3, 1) := by decide +kernel
theorem dX5_shaded_21 : decode cX5_shaded 21 = .ok (.ifCond .eq 11, 3) := by decide +kernel
theorem dX5_shaded_24 : decode cX5_shaded 24 = .ok (.aload_n 0, 1) := by decide +kernel
theorem dX5_shaded_25 : decode cX5_shaded 25 = .ok (.iload_n 1, 1) := by decide +kernel
theorem dX5_shaded_26 : decode cX5_shaded 26 = .ok (.invokevirtual 119, 3) := by decide +kernel
theorem dX5_shaded_29 : decode cX5_shaded 29 = .ok (.goto 13, 3) := by decide +kernel
theorem dX5_shaded_32 : decode cX5_shaded 32 = .ok (.aload_n 0, 1) := by decide +kernel
theorem dX5_shaded_33 : decode cX5_shaded 33 = .ok (.iload_n 1, 1) := by decide +kernel
theorem dX5_shaded_34 : decode cX5_shaded 34 = .ok (.iload_n 2, 1) := by decide +kernel
theorem dX5_shaded_35 : decode cX5_shaded 35 = .ok (.invokevirtual 122, 3) := by decide +kernel
theorem dX5_shaded_38 : decode cX5_shaded 38 = .ok (.goto 4, 3) := by decide +kernel
theorem dX5_shaded_41 : decode cX5_shaded 41 = .ok (.iconst (-1), 1) := by decide +kernel
theorem dX5_shaded_42 : decode cX5_shaded 42 = .ok (.ireturn, 1) := by decide +kernel
theorem dX5_isStowed_0 : decode cX5_isStowed 0 = .ok (.aload_n 0, 1) := by decide +kernel
theorem dX5_isStowed_1 : decode cX5_isStowed 1 = .ok (.getfield 41, 3) := by decide +kernel
theorem dX5_isStowed_4 : decode cX5_isStowed 4 = .ok (.iload_n 1, 1) := by decide +kernel
theorem dX5_isStowed_5 : decode cX5_isStowed 5 = .ok (.iaload, 1) := by decide +kernel
theorem dX5_isStowed_6 : decode cX5_isStowed 6 = .ok (.bipush 50, 2) := by decide +kernel
theorem dX5_isStowed_8 : decode cX5_isStowed 8 = .ok (.if_icmp .gt 24, 3) := by decide +kernel
theorem dX5_isStowed_11 : decode cX5_isStowed 11 = .ok (.iload_n 1, 1) := by decide +kernel
theorem dX5_isStowed_12 : decode cX5_isStowed 12 = .ok (.iconst 1, 1) := by decide +kernel
theorem dX5_isStowed_13 : decode cX5_isStowed 13 = .ok (.iadd, 1) := by decide +kernel
theorem dX5_isStowed_14 : decode cX5_isStowed 14 = .ok (.bipush 24, 2) := by decide +kernel
theorem dX5_isStowed_16 : decode cX5_isStowed 16 = .ok (.if_icmp .ge 20, 3) := by decide +kernel
theorem dX5_isStowed_19 : decode cX5_isStowed 19 = .ok (.aload_n 0, 1) := by decide +kernel
theorem dX5_isStowed_20 : decode cX5_isStowed 20 = .ok (.getfield 41, 3) := by decide +kernel
theorem dX5_isStowed_23 : decode cX5_isStowed 23 = .ok (.iload_n 1, 1) := by decide +kernel
theorem dX5_isStowed_24 : decode cX5_isStowed 24 = .ok (.iconst 1, 1) := by decide +kernel
theorem dX5_isStowed_25 : decode cX5_isStowed 25 = .ok (.iadd, 1) := by decide +kernel
theorem dX5_isStowed_26 : decode cX5_isStowed 26 = .ok (.iaload, 1) := by decide +kernel
theorem dX5_isStowed_27 : decode cX5_isStowed 27 = .ok (.bipush 50, 2) := by decide +kernel
theorem dX5_isStowed_29 : decode cX5_isStowed 29 = .ok (.if_icmp .le 7, 3) := by decide +kernel
theorem dX5_isStowed_32 : decode cX5_isStowed 32 = .ok (.iconst 1, 1) := by decide +kernel
theorem dX5_isStowed_33 : decode cX5_isStowed 33 = .ok (.goto 4, 3) := by decide +kernel
theorem dX5_isStowed_36 : decode cX5_isStowed 36 = .ok (.iconst 0, 1) := by decide +kernel
theorem dX5_isStowed_37 : decode cX5_isStowed 37 = .ok (.ireturn, 1) := by decide +kernel
set_option maxRecDepth 20000 in
theorem ggX5_powerOf_X5_isStowed : GoodIn wsX5_powerOf wsX5_isStowed := goodIn_r _ [14, 15, 29, 30, 31, 32, 33, 34, 35, 36, 37, 38, 39, 40, 41, 42, 43, 44, 45, 46, 47, 48, 49, 50, 51, 52, 53, 54, 55, 56, 57, 58, 59, 60, 61] rfl (by decide +kernel)
set_option maxRecDepth 20000 in
theorem gX5_powerOf_X5_isStowed : GoodIn wsX5_powerOf (wsV RX5 126 RX5 yX5_isStowed wsX5_isStowed) := goodIn_app (goodIn_of _ (by decide +kernel)) ggX5_powerOf_X5_isStowed
set_option maxRecDepth 20000 in
theorem ggX5_powerOf_X5_shades : GoodIn wsX5_powerOf wsX5_shades := goodIn_r _ [19, 1, 20, 21, 22, 23, 24, 29, 30, 31, 32, 33, 34, 35, 36, 37, 38, 39, 40, 41, 42, 43, 44, 45, 46, 47, 48, 49, 50, 51, 52, 53, 54, 55, 56, 57, 58, 59, 60, 61] rfl (by decide +kernel)
set_option maxRecDepth 20000 in
theorem gX5_powerOf_X5_shades : GoodIn wsX5_powerOf (wsV RX5 122 RX5 yX5_shades wsX5_shades) := goodIn_app (goodIn_of _ (by decide +kernel)) ggX5_powerOf_X5_shades
set_option maxRecDepth 20000 in
theorem ggX5_powerOf_X5_blocks : GoodIn wsX5_powerOf wsX5_blocks := goodIn_r _ [28, 21, 23, 20, 29, 30, 31, 32, 33, 34, 35, 36, 37, 38, 39, 40, 41, 42, 43, 44, 45, 46, 47, 48, 49, 50, 51, 52, 53, 54, 55, 56, 57, 58, 59, 60, 61] rfl (by decide +kernel)
set_option maxRecDepth 20000 in
theorem gX5_powerOf_X5_blocks : GoodIn wsX5_powerOf (wsV RX5 119 RX5 yX5_blocks wsX5_blocks) := goodIn_app (goodIn_of _ (by decide +kernel)) ggX5_powerOf_X5_blocks
theorem dX5_powerOf_0 : decode cX5_powerOf 0 = .ok (.aload_n 0, 1) := by decide +kernel
theorem dX5_powerOf_1 : decode cX5_powerOf 1 = .ok (.getfield 38, 3) := by decide +kernel
theorem dX5_powerOf_4 : decode cX5_powerOf 4 = .ok (.iload_n 2, 1) := by decide +kernel
theorem dX5_powerOf_5 : decode cX5_powerOf 5 = .ok (.iaload, 1) := by decide +kernel
theorem dX5_powerOf_6 : decode cX5_powerOf 6 = .ok (.ifCond .eq 11, 3) := by decide +kernel
theorem dX5_powerOf_9 : decode cX5_powerOf 9 = .ok (.aload_n 0, 1) := by decide +kernel
theorem dX5_powerOf_10 : decode cX5_powerOf 10 = .ok (.iload_n 2, 1) := by decide +kernel
theorem dX5_powerOf_11 : decode cX5_powerOf 11 = .ok (.invokevirtual 126, 3) := by decide +kernel
theorem dX5_powerOf_14 : decode cX5_powerOf 14 = .ok (.ifCond .eq 5, 3) := by decide +kernel
theorem dX5_powerOf_17 : decode cX5_powerOf 17 = .ok (.iconst 0, 1) := by decide +kernel
theorem dX5_powerOf_18 : decode cX5_powerOf 18 = .ok (.ireturn, 1) := by decide +kernel
theorem dX5_powerOf_19 : decode cX5_powerOf 19 = .ok (.iconst 0, 1) := by decide +kernel
theorem dX5_powerOf_20 : decode cX5_powerOf 20 = .ok (.bipush 10, 2) := by decide +kernel
theorem dX5_powerOf_22 : decode cX5_powerOf 22 = .ok (.aload_n 0, 1) := by decide +kernel
theorem dX5_powerOf_23 : decode cX5_powerOf 23 = .ok (.getfield 38, 3) := by decide +kernel
theorem dX5_powerOf_26 : decode cX5_powerOf 26 = .ok (.iload_n 2, 1) := by decide +kernel
theorem dX5_powerOf_27 : decode cX5_powerOf 27 = .ok (.iaload, 1) := by decide +kernel
theorem dX5_powerOf_28 : decode cX5_powerOf 28 = .ok (.imul, 1) := by decide +kernel
theorem dX5_powerOf_29 : decode cX5_powerOf 29 = .ok (.bipush 10, 2) := by decide +kernel
theorem dX5_powerOf_31 : decode cX5_powerOf 31 = .ok (.iadd, 1) := by decide +kernel
theorem dX5_powerOf_32 : decode cX5_powerOf 32 = .ok (.bipush 90, 2) := by decide +kernel
theorem dX5_powerOf_34 : decode cX5_powerOf 34 = .ok (.aload_n 0, 1) := by decide +kernel
theorem dX5_powerOf_35 : decode cX5_powerOf 35 = .ok (.getfield 26, 3) := by decide +kernel
theorem dX5_powerOf_38 : decode cX5_powerOf 38 = .ok (.iload_n 1, 1) := by decide +kernel
theorem dX5_powerOf_39 : decode cX5_powerOf 39 = .ok (.iaload, 1) := by decide +kernel
theorem dX5_powerOf_40 : decode cX5_powerOf 40 = .ok (.iload_n 3, 1) := by decide +kernel
theorem dX5_powerOf_41 : decode cX5_powerOf 41 = .ok (.iadd, 1) := by decide +kernel
theorem dX5_powerOf_42 : decode cX5_powerOf 42 = .ok (.invokestatic 129, 3) := by decide +kernel
theorem dX5_powerOf_45 : decode cX5_powerOf 45 = .ok (.isub, 1) := by decide +kernel
theorem dX5_powerOf_46 : decode cX5_powerOf 46 = .ok (.invokestatic 134, 3) := by decide +kernel
theorem dX5_powerOf_49 : decode cX5_powerOf 49 = .ok (.istore 4, 2) := by decide +kernel
theorem dX5_powerOf_51 : decode cX5_powerOf 51 = .ok (.aload_n 0, 1) := by decide +kernel
theorem dX5_powerOf_52 : decode cX5_powerOf 52 = .ok (.iload_n 1, 1) := by decide +kernel
theorem dX5_powerOf_53 : decode cX5_powerOf 53 = .ok (.iload_n 2, 1) := by decide +kernel
theorem dX5_powerOf_54 : decode cX5_powerOf 54 = .ok (.invokevirtual 122, 3) := by decide +kernel
theorem dX5_powerOf_57 : decode cX5_powerOf 57 = .ok (.aload_n 0, 1) := by decide +kernel
theorem dX5_powerOf_58 : decode cX5_powerOf 58 = .ok (.iload_n 1, 1) := by decide +kernel
theorem dX5_powerOf_59 : decode cX5_powerOf 59 = .ok (.invokevirtual 119, 3) := by decide +kernel
theorem dX5_powerOf_62 : decode cX5_powerOf 62 = .ok (.iadd, 1) := by decide +kernel
theorem dX5_powerOf_63 : decode cX5_powerOf 63 = .ok (.istore 5, 2) := by decide +kernel
theorem dX5_powerOf_65 : decode cX5_powerOf 65 = .ok (.iload 5, 2) := by decide +kernel
theorem dX5_powerOf_67 : decode cX5_powerOf 67 = .ok (.ifCond .le 15, 3) := by decide +kernel
theorem dX5_powerOf_70 : decode cX5_powerOf 70 = .ok (.iload 4, 2) := by decide +kernel
theorem dX5_powerOf_72 : decode cX5_powerOf 72 = .ok (.iconst 2, 1) := by decide +kernel
theorem dX5_powerOf_73 : decode cX5_powerOf 73 = .ok (.idiv, 1) := by decide +kernel
theorem dX5_powerOf_74 : decode cX5_powerOf 74 = .ok (.istore 4, 2) := by decide +kernel
theorem dX5_powerOf_76 : decode cX5_powerOf 76 = .ok (.iinc 5 (-1), 3) := by decide +kernel
theorem dX5_powerOf_79 : decode cX5_powerOf 79 = .ok (.goto (-14), 3) := by decide +kernel
theorem dX5_powerOf_82 : decode cX5_powerOf 82 = .ok (.iload 4, 2) := by decide +kernel
theorem dX5_powerOf_84 : decode cX5_powerOf 84 = .ok (.ireturn, 1) := by decide +kernel
set_option maxRecDepth 20000 in
theorem ggX5_power_X5_isMirror : GoodIn wsX5_power wsX5_isMirror := goodIn_r _ [6, 7, 41, 42, 43, 44, 45, 46, 47, 48, 49, 50, 51, 52, 53, 54, 55, 56, 57, 58, 59, 60, 61, 62, 63, 64, 65, 66, 67, 68, 69, 70, 71, 72, 73] rfl (by decide +kernel)
set_option maxRecDepth 20000 in
theorem gX5_power_X5_isMirror : GoodIn wsX5_power (wsV RX5 116 RX5 yX5_isMirror wsX5_isMirror) := goodIn_app (goodIn_of _ (by decide +kernel)) ggX5_power_X5_isMirror
set_option maxRecDepth 20000 in
theorem ggX5_power_X5_isHour : GoodIn wsX5_power wsX5_isHour := goodIn_r _ [10] rfl (by decide +kernel)
set_option maxRecDepth 20000 in
theorem gX5_power_X5_isHour : GoodIn wsX5_power (va_wsS RX5 105 yX5_isHour wsX5_isHour) := goodIn_app (goodIn_of _ (by decide +kernel)) ggX5_power_X5_isHour
set_option maxRecDepth 20000 in
theorem ggX5_power_X5_powerOf : GoodIn wsX5_power wsX5_powerOf := goodIn_r _ [14, 15, 16, 17, 18, 19, 20, 21, 22, 23, 24, 25, 26, 5, 27, 28, 29, 30, 31, 32, 7, 33, 34, 35, 36, 37, 38, 39, 40, 41, 42, 43, 44, 45, 46, 47, 48, 49, 50, 51, 52, 53, 54, 55, 56, 57, 58, 59, 60, 61, 62, 63, 64, 65, 66, 67, 68, 69, 70, 71, 72, 73] rfl (by decide +kernel)
set_option maxRecDepth 20000 in
theorem gX5_power_X5_powerOf : GoodIn wsX5_power (wsV RX5 137 RX5 yX5_powerOf wsX5_powerOf) := goodIn_app (goodIn_of _ (by decide +kernel)) ggX5_power_X5_powerOf
theorem dX5_power_0 : decode cX5_power 0 = .ok (.aload_n 0, 1) := by decide +kernel
theorem dX5_power_1 : decode cX5_power 1 = .ok (.iconst 0, 1) := by decide +kernel
theorem dX5_power_2 : decode cX5_power 2 = .ok (.putfield 1, 3) := by decide +kernel
theorem dX5_power_5 : decode cX5_power 5 = .ok (.aload_n 0, 1) := by decide +kernel
theorem dX5_power_6 : decode cX5_power 6 = .ok (.iload_n 1, 1) := by decide +kernel
theorem dX5_power_7 : decode cX5_power 7 = .ok (.invokevirtual 116, 3) := by decide +kernel
theorem dX5_power_10 : decode cX5_power 10 = .ok (.ifCond .eq 20, 3) := by decide +kernel
theorem dX5_power_13 : decode cX5_power 13 = .ok (.iload_n 2, 1) := by decide +kernel
theorem dX5_power_14 : decode cX5_power 14 = .ok (.invokestatic 105, 3) := by decide +kernel
theorem dX5_power_17 : decode cX5_power 17 = .ok (.ifCond .eq 13, 3) := by decide +kernel
theorem dX5_power_20 : decode cX5_power 20 = .ok (.aload_n 0, 1) := by decide +kernel
theorem dX5_power_21 : decode cX5_power 21 = .ok (.iload_n 1, 1) := by decide +kernel
theorem dX5_power_22 : decode cX5_power 22 = .ok (.iload_n 2, 1) := by decide +kernel
theorem dX5_power_23 : decode cX5_power 23 = .ok (.iconst 0, 1) := by decide +kernel
theorem dX5_power_24 : decode cX5_power 24 = .ok (.invokevirtual 137, 3) := by decide +kernel
theorem dX5_power_27 : decode cX5_power 27 = .ok (.goto 4, 3) := by decide +kernel
theorem dX5_power_30 : decode cX5_power 30 = .ok (.iconst (-1), 1) := by decide +kernel
theorem dX5_power_31 : decode cX5_power 31 = .ok (.ireturn, 1) := by decide +kernel
set_option maxRecDepth 20000 in
theorem ggX5_stowed_X5_isHour : GoodIn wsX5_stowed wsX5_isHour := goodIn_r _ [5] rfl (by decide +kernel)
set_option maxRecDepth 20000 in
theorem gX5_stowed_X5_isHour : GoodIn wsX5_stowed (va_wsS RX5 105 yX5_isHour wsX5_isHour) := goodIn_app (goodIn_of _ (by decide +kernel)) ggX5_stowed_X5_isHour
set_option maxRecDepth 20000 in
theorem ggX5_stowed_X5_isStowed : GoodIn wsX5_stowed wsX5_isStowed := goodIn_r _ [9, 10, 11, 12, 13, 14, 15, 16, 17, 18, 19, 20, 21, 22, 23, 24, 25, 26, 27, 28, 29, 30, 31, 32, 33, 34, 35, 36, 37, 38, 39, 40, 41, 42, 43] rfl (by decide +kernel)
set_option maxRecDepth 20000 in
theorem gX5_stowed_X5_isStowed : GoodIn wsX5_stowed (wsV RX5 126 RX5 yX5_isStowed wsX5_isStowed) := goodIn_app (goodIn_of _ (by decide +kernel)) ggX5_stowed_X5_isStowed
theorem dX5_stowed_0 : decode cX5_stowed 0 = .ok (.aload_n 0, 1) := by decide +kernel
theorem dX5_stowed_1 : decode cX5_stowed 1 = .ok (.iconst 0, 1) := by decide +kernel
theorem dX5_stowed_2 : decode cX5_stowed 2 = .ok (.putfield 1, 3) := by decide +kernel
theorem dX5_stowed_5 : decode cX5_stowed 5 = .ok (.iload_n 1, 1) := by decide +kernel
theorem dX5_stowed_6 : decode cX5_stowed 6 = .ok (.invokestatic 105, 3) := by decide +kernel
theorem dX5_stowed_9 : decode cX5_stowed 9 = .ok (.ifCond .eq 19, 3) := by decide +kernel
theorem dX5_stowed_12 : decode cX5_stowed 12 = .ok (.aload_n 0, 1) := by decide +kernel
theorem dX5_stowed_13 : decode cX5_stowed 13 = .ok (.iload_n 1, 1) := by decide +kernel
theorem dX5_stowed_14 : decode cX5_stowed 14 = .ok (.invokevirtual 126, 3) := by decide +kernel
theorem dX5_stowed_17 : decode cX5_stowed 17 = .ok (.ifCond .eq 7, 3) := by decide +kernel
theorem dX5_stowed_20 : decode cX5_stowed 20 = .ok (.iconst 1, 1) := by decide +kernel
theorem dX5_stowed_21 : decode cX5_stowed 21 = .ok (.goto 8, 3) := by decide +kernel
theorem dX5_stowed_24 : decode cX5_stowed 24 = .ok (.iconst 0, 1) := by decide +kernel
theorem dX5_stowed_25 : decode cX5_stowed 25 = .ok (.goto 4, 3) := by decide +kernel
theorem dX5_stowed_28 : decode cX5_stowed 28 = .ok (.iconst (-1), 1) := by decide +kernel
theorem dX5_stowed_29 : decode cX5_stowed 29 = .ok (.ireturn, 1) := by decide +kernel
set_option maxRecDepth 20000 in
theorem ggX5_soil_X5_isMirror : GoodIn wsX5_soil wsX5_isMirror := goodIn_r _ [7, 8, 9, 10, 11, 12, 13, 14, 15, 16, 17, 18, 19, 20, 21, 22, 23, 24, 25, 26, 27, 28, 29, 30, 31, 32, 33, 34, 35, 36, 37, 38, 39, 40, 41] rfl (by decide +kernel)
set_option maxRecDepth 20000 in
theorem gX5_soil_X5_isMirror : GoodIn wsX5_soil (wsV RX5 116 RX5 yX5_isMirror wsX5_isMirror) := goodIn_app (goodIn_of _ (by decide +kernel)) ggX5_soil_X5_isMirror
theorem dX5_soil_0 : decode cX5_soil 0 = .ok (.aload_n 0, 1) := by decide +kernel
theorem dX5_soil_1 : decode cX5_soil 1 = .ok (.iconst 0, 1) := by decide +kernel
theorem dX5_soil_2 : decode cX5_soil 2 = .ok (.putfield 1, 3) := by decide +kernel
theorem dX5_soil_5 : decode cX5_soil 5 = .ok (.aload_n 0, 1) := by decide +kernel
theorem dX5_soil_6 : decode cX5_soil 6 = .ok (.iload_n 1, 1) := by decide +kernel
theorem dX5_soil_7 : decode cX5_soil 7 = .ok (.invokevirtual 116, 3) := by decide +kernel
theorem dX5_soil_10 : decode cX5_soil 10 = .ok (.ifCond .eq 12, 3) := by decide +kernel
theorem dX5_soil_13 : decode cX5_soil 13 = .ok (.aload_n 0, 1) := by decide +kernel
theorem dX5_soil_14 : decode cX5_soil 14 = .ok (.getfield 26, 3) := by decide +kernel
theorem dX5_soil_17 : decode cX5_soil 17 = .ok (.iload_n 1, 1) := by decide +kernel
theorem dX5_soil_18 : decode cX5_soil 18 = .ok (.iaload, 1) := by decide +kernel
theorem dX5_soil_19 : decode cX5_soil 19 = .ok (.goto 4, 3) := by decide +kernel
theorem dX5_soil_22 : decode cX5_soil 22 = .ok (.iconst (-1), 1) := by decide +kernel
theorem dX5_soil_23 : decode cX5_soil 23 = .ok (.ireturn, 1) := by decide +kernel
set_option maxRecDepth 20000 in
theorem ggX5_wash_X5_in : GoodIn wsX5_wash wsX5_in := goodIn_r _ [7] rfl (by decide +kernel)
set_option maxRecDepth 20000 in
theorem gX5_wash_X5_in : GoodIn wsX5_wash (va_wsS RX5 94 yX5_in wsX5_in) := goodIn_app (goodIn_of _ (by decide +kernel)) ggX5_wash_X5_in
set_option maxRecDepth 20000 in
theorem ggX5_wash_X5_refused : GoodIn wsX5_wash wsX5_refused := goodIn_r _ [11, 12, 17, 18, 19, 20, 21, 22, 23, 24, 25, 26, 27, 28, 29, 30, 31, 32, 33, 34, 35, 36, 37, 38, 39, 40, 41, 42, 43, 44, 45, 46, 47, 48, 49] rfl (by decide +kernel)
set_option maxRecDepth 20000 in
theorem gX5_wash_X5_refused : GoodIn wsX5_wash (wsV RX5 98 RX5 yX5_refused wsX5_refused) := goodIn_app (goodIn_of _ (by decide +kernel)) ggX5_wash_X5_refused
set_option maxRecDepth 20000 in
theorem ggX5_wash_X5_done : GoodIn wsX5_wash wsX5_done := goodIn_r _ [16, 12, 17, 18, 19, 20, 21, 22, 23, 24, 25, 26, 27, 28, 29, 30, 31, 32, 33, 34, 35, 36, 37, 38, 39, 40, 41, 42, 43, 44, 45, 46, 47, 48, 49] rfl (by decide +kernel)
set_option maxRecDepth 20000 in
theorem gX5_wash_X5_done : GoodIn wsX5_wash (wsV RX5 102 RX5 yX5_done wsX5_done) := goodIn_app (goodIn_of _ (by decide +kernel)) ggX5_wash_X5_done
theorem dX5_wash_0 : decode cX5_wash 0 = .ok (.aload_n 0, 1) := by decide +kernel
theorem dX5_wash_1 : decode cX5_wash 1 = .ok (.iconst 0, 1) := by decide +kernel
theorem dX5_wash_2 : decode cX5_wash 2 = .ok (.putfield 1, 3) := by decide +kernel
theorem dX5_wash_5 : decode cX5_wash 5 = .ok (.iload_n 1, 1) := by decide +kernel
theorem dX5_wash_6 : decode cX5_wash 6 = .ok (.iconst 1, 1) := by decide +kernel
theorem dX5_wash_7 : decode cX5_wash 7 = .ok (.bipush 40, 2) := by decide +kernel
theorem dX5_wash_9 : decode cX5_wash 9 = .ok (.invokestatic 94, 3) := by decide +kernel
theorem dX5_wash_12 : decode cX5_wash 12 = .ok (.ifCond .ne 9, 3) := by decide +kernel
theorem dX5_wash_15 : decode cX5_wash 15 = .ok (.aload_n 0, 1) := by decide +kernel
theorem dX5_wash_16 : decode cX5_wash 16 = .ok (.iconst 2, 1) := by decide +kernel
theorem dX5_wash_17 : decode cX5_wash 17 = .ok (.invokevirtual 98, 3) := by decide +kernel
theorem dX5_wash_20 : decode cX5_wash 20 = .ok (.ireturn, 1) := by decide +kernel
theorem dX5_wash_21 : decode cX5_wash 21 = .ok (.iconst 0, 1) := by decide +kernel
theorem dX5_wash_22 : decode cX5_wash 22 = .ok (.istore_n 2, 1) := by decide +kernel
theorem dX5_wash_23 : decode cX5_wash 23 = .ok (.iconst 0, 1) := by decide +kernel
theorem dX5_wash_24 : decode cX5_wash 24 = .ok (.istore_n 3, 1) := by decide +kernel
theorem dX5_wash_25 : decode cX5_wash 25 = .ok (.iload_n 3, 1) := by decide +kernel
theorem dX5_wash_26 : decode cX5_wash 26 = .ok (.iload_n 1, 1) := by decide +kernel
theorem dX5_wash_27 : decode cX5_wash 27 = .ok (.if_icmp .ge 97, 3) := by decide +kernel
theorem dX5_wash_30 : decode cX5_wash 30 = .ok (.iconst (-1), 1) := by decide +kernel
theorem dX5_wash_31 : decode cX5_wash 31 = .ok (.istore 4, 2) := by decide +kernel
theorem dX5_wash_33 : decode cX5_wash 33 = .ok (.iconst 0, 1) := by decide +kernel
theorem dX5_wash_34 : decode cX5_wash 34 = .ok (.istore 5, 2) := by decide +kernel
theorem dX5_wash_36 : decode cX5_wash 36 = .ok (.iload 5, 2) := by decide +kernel
theorem dX5_wash_38 : decode cX5_wash 38 = .ok (.aload_n 0, 1) := by decide +kernel
theorem dX5_wash_39 : decode cX5_wash 39 = .ok (.getfield 91, 3) := by decide +kernel
theorem dX5_wash_42 : decode cX5_wash 42 = .ok (.if_icmp .ge 46, 3) := by decide +kernel
theorem dX5_wash_45 : decode cX5_wash 45 = .ok (.aload_n 0, 1) := by decide +kernel
theorem dX5_wash_46 : decode cX5_wash 46 = .ok (.getfield 26, 3) := by decide +kernel
theorem dX5_wash_49 : decode cX5_wash 49 = .ok (.iload 5, 2) := by decide +kernel
theorem dX5_wash_51 : decode cX5_wash 51 = .ok (.iaload, 1) := by decide +kernel
theorem dX5_wash_52 : decode cX5_wash 52 = .ok (.ifCond .le 30, 3) := by decide +kernel
theorem dX5_wash_55 : decode cX5_wash 55 = .ok (.iload 4, 2) := by decide +kernel
theorem dX5_wash_57 : decode cX5_wash 57 = .ok (.iconst (-1), 1) := by decide +kernel
theorem dX5_wash_58 : decode cX5_wash 58 = .ok (.if_icmp .eq 20, 3) := by decide +kernel
theorem dX5_wash_61 : decode cX5_wash 61 = .ok (.aload_n 0, 1) := by decide +kernel
theorem dX5_wash_62 : decode cX5_wash 62 = .ok (.getfield 26, 3) := by decide +kernel
theorem dX5_wash_65 : decode cX5_wash 65 = .ok (.iload 5, 2) := by decide +kernel
theorem dX5_wash_67 : decode cX5_wash 67 = .ok (.iaload, 1) := by decide +kernel
theorem dX5_wash_68 : decode cX5_wash 68 = .ok (.aload_n 0, 1) := by decide +kernel
theorem dX5_wash_69 : decode cX5_wash 69 = .ok (.getfield 26, 3) := by decide +kernel
theorem dX5_wash_72 : decode cX5_wash 72 = .ok (.iload 4, 2) := by decide +kernel
theorem dX5_wash_74 : decode cX5_wash 74 = .ok (.iaload, 1) := by decide +kernel
theorem dX5_wash_75 : decode cX5_wash 75 = .ok (.if_icmp .le 7, 3) := by decide +kernel
theorem dX5_wash_78 : decode cX5_wash 78 = .ok (.iload 5, 2) := by decide +kernel
theorem dX5_wash_80 : decode cX5_wash 80 = .ok (.istore 4, 2) := by decide +kernel
theorem dX5_wash_82 : decode cX5_wash 82 = .ok (.iinc 5 1, 3) := by decide +kernel
theorem dX5_wash_85 : decode cX5_wash 85 = .ok (.goto (-49), 3) := by decide +kernel
theorem dX5_wash_88 : decode cX5_wash 88 = .ok (.iload 4, 2) := by decide +kernel
theorem dX5_wash_90 : decode cX5_wash 90 = .ok (.iconst (-1), 1) := by decide +kernel
theorem dX5_wash_91 : decode cX5_wash 91 = .ok (.if_icmp .ne 9, 3) := by decide +kernel
theorem dX5_wash_94 : decode cX5_wash 94 = .ok (.aload_n 0, 1) := by decide +kernel
theorem dX5_wash_95 : decode cX5_wash 95 = .ok (.iload_n 2, 1) := by decide +kernel
theorem dX5_wash_96 : decode cX5_wash 96 = .ok (.invokevirtual 102, 3) := by decide +kernel
theorem dX5_wash_99 : decode cX5_wash 99 = .ok (.ireturn, 1) := by decide +kernel
theorem dX5_wash_100 : decode cX5_wash 100 = .ok (.iload_n 2, 1) := by decide +kernel
theorem dX5_wash_101 : decode cX5_wash 101 = .ok (.aload_n 0, 1) := by decide +kernel
theorem dX5_wash_102 : decode cX5_wash 102 = .ok (.getfield 26, 3) := by decide +kernel
theorem dX5_wash_105 : decode cX5_wash 105 = .ok (.iload 4, 2) := by decide +kernel
theorem dX5_wash_107 : decode cX5_wash 107 = .ok (.iaload, 1) := by decide +kernel
theorem dX5_wash_108 : decode cX5_wash 108 = .ok (.iadd, 1) := by decide +kernel
theorem dX5_wash_109 : decode cX5_wash 109 = .ok (.istore_n 2, 1) := by decide +kernel
theorem dX5_wash_110 : decode cX5_wash 110 = .ok (.aload_n 0, 1) := by decide +kernel
theorem dX5_wash_111 : decode cX5_wash 111 = .ok (.getfield 26, 3) := by decide +kernel
theorem dX5_wash_114 : decode cX5_wash 114 = .ok (.iload 4, 2) := by decide +kernel
theorem dX5_wash_116 : decode cX5_wash 116 = .ok (.iconst 0, 1) := by decide +kernel
theorem dX5_wash_117 : decode cX5_wash 117 = .ok (.iastore, 1) := by decide +kernel
theorem dX5_wash_118 : decode cX5_wash 118 = .ok (.iinc 3 1, 3) := by decide +kernel
theorem dX5_wash_121 : decode cX5_wash 121 = .ok (.goto (-96), 3) := by decide +kernel
theorem dX5_wash_124 : decode cX5_wash 124 = .ok (.aload_n 0, 1) := by decide +kernel
theorem dX5_wash_125 : decode cX5_wash 125 = .ok (.iload_n 2, 1) := by decide +kernel
theorem dX5_wash_126 : decode cX5_wash 126 = .ok (.invokevirtual 102, 3) := by decide +kernel
theorem dX5_wash_129 : decode cX5_wash 129 = .ok (.ireturn, 1) := by decide +kernel
set_option maxRecDepth 20000 in
theorem ggX5_orders_X5_powerOf : GoodIn wsX5_orders wsX5_powerOf := goodIn_r _ [8, 9, 10, 11, 12, 13, 14, 15, 16, 17, 18, 19, 20, 7, 21, 22, 23, 24, 25, 26, 1, 27, 28, 29, 30, 31, 32, 33, 34, 35, 36, 37, 38, 39, 40, 41, 42, 43, 44, 45, 46, 47, 48, 49, 50, 51, 52, 53, 54, 55, 56, 57, 58, 59, 60, 61, 62, 63, 64, 65, 66, 67] rfl (by decide +kernel)
set_option maxRecDepth 20000 in
theorem gX5_orders_X5_powerOf : GoodIn wsX5_orders (wsV RX5 137 RX5 yX5_powerOf wsX5_powerOf) := goodIn_app (goodIn_of _ (by decide +kernel)) ggX5_orders_X5_powerOf
theorem dX5_orders_0 : decode cX5_orders 0 = .ok (.iconst 0, 1) := by decide +kernel
theorem dX5_orders_1 : decode cX5_orders 1 = .ok (.istore_n 3, 1) := by decide +kernel
theorem dX5_orders_2 : decode cX5_orders 2 = .ok (.iload_n 3, 1) := by decide +kernel
theorem dX5_orders_3 : decode cX5_orders 3 = .ok (.aload_n 0, 1) := by decide +kernel
theorem dX5_orders_4 : decode cX5_orders 4 = .ok (.getfield 91, 3) := by decide +kernel
theorem dX5_orders_7 : decode cX5_orders 7 = .ok (.if_icmp .ge 83, 3) := by decide +kernel
theorem dX5_orders_10 : decode cX5_orders 10 = .ok (.aload_n 0, 1) := by decide +kernel
theorem dX5_orders_11 : decode cX5_orders 11 = .ok (.getfield 50, 3) := by decide +kernel
theorem dX5_orders_14 : decode cX5_orders 14 = .ok (.iload_n 3, 1) := by decide +kernel
theorem dX5_orders_15 : decode cX5_orders 15 = .ok (.aload_n 0, 1) := by decide +kernel
theorem dX5_orders_16 : decode cX5_orders 16 = .ok (.iload_n 3, 1) := by decide +kernel
theorem dX5_orders_17 : decode cX5_orders 17 = .ok (.iload_n 1, 1) := by decide +kernel
theorem dX5_orders_18 : decode cX5_orders 18 = .ok (.iload_n 2, 1) := by decide +kernel
theorem dX5_orders_19 : decode cX5_orders 19 = .ok (.invokevirtual 137, 3) := by decide +kernel
theorem dX5_orders_22 : decode cX5_orders 22 = .ok (.iastore, 1) := by decide +kernel
theorem dX5_orders_23 : decode cX5_orders 23 = .ok (.iload_n 3, 1) := by decide +kernel
theorem dX5_orders_24 : decode cX5_orders 24 = .ok (.istore 4, 2) := by decide +kernel
theorem dX5_orders_26 : decode cX5_orders 26 = .ok (.iload 4, 2) := by decide +kernel
theorem dX5_orders_28 : decode cX5_orders 28 = .ok (.ifCond .le 48, 3) := by decide +kernel
theorem dX5_orders_31 : decode cX5_orders 31 = .ok (.aload_n 0, 1) := by decide +kernel
theorem dX5_orders_32 : decode cX5_orders 32 = .ok (.getfield 50, 3) := by decide +kernel
theorem dX5_orders_35 : decode cX5_orders 35 = .ok (.iload_n 3, 1) := by decide +kernel
theorem dX5_orders_36 : decode cX5_orders 36 = .ok (.iaload, 1) := by decide +kernel
theorem dX5_orders_37 : decode cX5_orders 37 = .ok (.aload_n 0, 1) := by decide +kernel
theorem dX5_orders_38 : decode cX5_orders 38 = .ok (.getfield 50, 3) := by decide +kernel
theorem dX5_orders_41 : decode cX5_orders 41 = .ok (.aload_n 0, 1) := by decide +kernel
theorem dX5_orders_42 : decode cX5_orders 42 = .ok (.getfield 47, 3) := by decide +kernel
theorem dX5_orders_45 : decode cX5_orders 45 = .ok (.iload 4, 2) := by decide +kernel
theorem dX5_orders_47 : decode cX5_orders 47 = .ok (.iconst 1, 1) := by decide +kernel
theorem dX5_orders_48 : decode cX5_orders 48 = .ok (.isub, 1) := by decide +kernel
theorem dX5_orders_49 : decode cX5_orders 49 = .ok (.iaload, 1) := by decide +kernel
theorem dX5_orders_50 : decode cX5_orders 50 = .ok (.iaload, 1) := by decide +kernel
theorem dX5_orders_51 : decode cX5_orders 51 = .ok (.if_icmp .le 25, 3) := by decide +kernel
theorem dX5_orders_54 : decode cX5_orders 54 = .ok (.aload_n 0, 1) := by decide +kernel
theorem dX5_orders_55 : decode cX5_orders 55 = .ok (.getfield 47, 3) := by decide +kernel
theorem dX5_orders_58 : decode cX5_orders 58 = .ok (.iload 4, 2) := by decide +kernel
theorem dX5_orders_60 : decode cX5_orders 60 = .ok (.aload_n 0, 1) := by decide +kernel
theorem dX5_orders_61 : decode cX5_orders 61 = .ok (.getfield 47, 3) := by decide +kernel
theorem dX5_orders_64 : decode cX5_orders 64 = .ok (.iload 4, 2) := by decide +kernel
theorem dX5_orders_66 : decode cX5_orders 66 = .ok (.iconst 1, 1) := by decide +kernel
theorem dX5_orders_67 : decode cX5_orders 67 = .ok (.isub, 1) := by decide +kernel
theorem dX5_orders_68 : decode cX5_orders 68 = .ok (.iaload, 1) := by decide +kernel
theorem dX5_orders_69 : decode cX5_orders 69 = .ok (.iastore, 1) := by decide +kernel
theorem dX5_orders_70 : decode cX5_orders 70 = .ok (.iinc 4 (-1), 3) := by decide +kernel
theorem dX5_orders_73 : decode cX5_orders 73 = .ok (.goto (-47), 3) := by decide +kernel
theorem dX5_orders_76 : decode cX5_orders 76 = .ok (.aload_n 0, 1) := by decide +kernel
theorem dX5_orders_77 : decode cX5_orders 77 = .ok (.getfield 47, 3) := by decide +kernel
theorem dX5_orders_80 : decode cX5_orders 80 = .ok (.iload 4, 2) := by decide +kernel
theorem dX5_orders_82 : decode cX5_orders 82 = .ok (.iload_n 3, 1) := by decide +kernel
theorem dX5_orders_83 : decode cX5_orders 83 = .ok (.iastore, 1) := by decide +kernel
theorem dX5_orders_84 : decode cX5_orders 84 = .ok (.iinc 3 1, 3) := by decide +kernel
theorem dX5_orders_87 : decode cX5_orders 87 = .ok (.goto (-85), 3) := by decide +kernel
theorem dX5_orders_90 : decode cX5_orders 90 = .ok (.return_, 1) := by decide +kernel
set_option maxRecDepth 20000 in
theorem ggX5_aims_X5_orders : GoodIn wsX5_aims wsX5_orders := goodIn_r _ [11, 3, 6, 4, 12, 13, 14, 10, 15, 16, 17, 18, 19, 20, 21, 22, 23, 24, 25, 26, 27, 28, 29, 30, 31, 32, 33, 34, 35, 36, 37, 38, 39, 40, 41, 42, 43, 44, 45, 46, 47, 48, 49, 50, 51, 52, 53, 54, 55, 56, 57, 58, 59, 60, 61, 62, 63, 64, 65, 66, 67, 68, 69, 70, 71, 72, 73, 74] rfl (by decide +kernel)
set_option maxRecDepth 20000 in
theorem gX5_aims_X5_orders : GoodIn wsX5_aims (wsV RX5 141 RX5 yX5_orders wsX5_orders) := goodIn_app (goodIn_of _ (by decide +kernel)) ggX5_aims_X5_orders
theorem dX5_aims_0 : decode cX5_aims 0 = .ok (.aload_n 0, 1) := by decide +kernel
theorem dX5_aims_1 : decode cX5_aims 1 = .ok (.iload_n 1, 1) := by decide +kernel
theorem dX5_aims_2 : decode cX5_aims 2 = .ok (.iload_n 2, 1) := by decide +kernel
theorem dX5_aims_3 : decode cX5_aims 3 = .ok (.invokevirtual 141, 3) := by decide +kernel
theorem dX5_aims_6 : decode cX5_aims 6 = .ok (.iconst 0, 1) := by decide +kernel
theorem dX5_aims_7 : decode cX5_aims 7 = .ok (.istore_n 3, 1) := by decide +kernel
theorem dX5_aims_8 : decode cX5_aims 8 = .ok (.iload_n 3, 1) := by decide +kernel
theorem dX5_aims_9 : decode cX5_aims 9 = .ok (.iconst 4, 1) := by decide +kernel
theorem dX5_aims_10 : decode cX5_aims 10 = .ok (.if_icmp .ge 21, 3) := by decide +kernel
theorem dX5_aims_13 : decode cX5_aims 13 = .ok (.aload_n 0, 1) := by decide +kernel
theorem dX5_aims_14 : decode cX5_aims 14 = .ok (.getfield 53, 3) := by decide +kernel
theorem dX5_aims_17 : decode cX5_aims 17 = .ok (.iload_n 3, 1) := by decide +kernel
theorem dX5_aims_18 : decode cX5_aims 18 = .ok (.aload_n 0, 1) := by decide +kernel
theorem dX5_aims_19 : decode cX5_aims 19 = .ok (.getfield 29, 3) := by decide +kernel
theorem dX5_aims_22 : decode cX5_aims 22 = .ok (.iload_n 3, 1) := by decide +kernel
theorem dX5_aims_23 : decode cX5_aims 23 = .ok (.iaload, 1) := by decide +kernel
theorem dX5_aims_24 : decode cX5_aims 24 = .ok (.iastore, 1) := by decide +kernel
theorem dX5_aims_25 : decode cX5_aims 25 = .ok (.iinc 3 1, 3) := by decide +kernel
theorem dX5_aims_28 : decode cX5_aims 28 = .ok (.goto (-20), 3) := by decide +kernel
theorem dX5_aims_31 : decode cX5_aims 31 = .ok (.iconst 0, 1) := by decide +kernel
theorem dX5_aims_32 : decode cX5_aims 32 = .ok (.istore_n 3, 1) := by decide +kernel
theorem dX5_aims_33 : decode cX5_aims 33 = .ok (.iconst 0, 1) := by decide +kernel
theorem dX5_aims_34 : decode cX5_aims 34 = .ok (.istore 4, 2) := by decide +kernel
theorem dX5_aims_36 : decode cX5_aims 36 = .ok (.iload 4, 2) := by decide +kernel
theorem dX5_aims_38 : decode cX5_aims 38 = .ok (.aload_n 0, 1) := by decide +kernel
theorem dX5_aims_39 : decode cX5_aims 39 = .ok (.getfield 91, 3) := by decide +kernel
theorem dX5_aims_42 : decode cX5_aims 42 = .ok (.if_icmp .ge 130, 3) := by decide +kernel
theorem dX5_aims_45 : decode cX5_aims 45 = .ok (.aload_n 0, 1) := by decide +kernel
theorem dX5_aims_46 : decode cX5_aims 46 = .ok (.getfield 47, 3) := by decide +kernel
theorem dX5_aims_49 : decode cX5_aims 49 = .ok (.iload 4, 2) := by decide +kernel
theorem dX5_aims_51 : decode cX5_aims 51 = .ok (.iaload, 1) := by decide +kernel
theorem dX5_aims_52 : decode cX5_aims 52 = .ok (.istore 5, 2) := by decide +kernel
theorem dX5_aims_54 : decode cX5_aims 54 = .ok (.iconst 0, 1) := by decide +kernel
theorem dX5_aims_55 : decode cX5_aims 55 = .ok (.istore 6, 2) := by decide +kernel
theorem dX5_aims_57 : decode cX5_aims 57 = .ok (.iconst 1, 1) := by decide +kernel
theorem dX5_aims_58 : decode cX5_aims 58 = .ok (.istore 7, 2) := by decide +kernel
theorem dX5_aims_60 : decode cX5_aims 60 = .ok (.iload 7, 2) := by decide +kernel
theorem dX5_aims_62 : decode cX5_aims 62 = .ok (.iconst 4, 1) := by decide +kernel
theorem dX5_aims_63 : decode cX5_aims 63 = .ok (.if_icmp .ge 30, 3) := by decide +kernel
theorem dX5_aims_66 : decode cX5_aims 66 = .ok (.aload_n 0, 1) := by decide +kernel
theorem dX5_aims_67 : decode cX5_aims 67 = .ok (.getfield 53, 3) := by decide +kernel
theorem dX5_aims_70 : decode cX5_aims 70 = .ok (.iload 7, 2) := by decide +kernel
theorem dX5_aims_72 : decode cX5_aims 72 = .ok (.iaload, 1) := by decide +kernel
theorem dX5_aims_73 : decode cX5_aims 73 = .ok (.aload_n 0, 1) := by decide +kernel
theorem dX5_aims_74 : decode cX5_aims 74 = .ok (.getfield 53, 3) := by decide +kernel
theorem dX5_aims_77 : decode cX5_aims 77 = .ok (.iload 6, 2) := by decide +kernel
theorem dX5_aims_79 : decode cX5_aims 79 = .ok (.iaload, 1) := by decide +kernel
theorem dX5_aims_80 : decode cX5_aims 80 = .ok (.if_icmp .le 7, 3) := by decide +kernel
theorem dX5_aims_83 : decode cX5_aims 83 = .ok (.iload 7, 2) := by decide +kernel
theorem dX5_aims_85 : decode cX5_aims 85 = .ok (.istore 6, 2) := by decide +kernel
theorem dX5_aims_87 : decode cX5_aims 87 = .ok (.iinc 7 1, 3) := by decide +kernel
theorem dX5_aims_90 : decode cX5_aims 90 = .ok (.goto (-30), 3) := by decide +kernel
theorem dX5_aims_93 : decode cX5_aims 93 = .ok (.aload_n 0, 1) := by decide +kernel
theorem dX5_aims_94 : decode cX5_aims 94 = .ok (.getfield 59, 3) := by decide +kernel
theorem dX5_aims_97 : decode cX5_aims 97 = .ok (.iload 5, 2) := by decide +kernel
theorem dX5_aims_99 : decode cX5_aims 99 = .ok (.aload_n 0, 1) := by decide +kernel
theorem dX5_aims_100 : decode cX5_aims 100 = .ok (.getfield 50, 3) := by decide +kernel
theorem dX5_aims_103 : decode cX5_aims 103 = .ok (.iload 5, 2) := by decide +kernel
theorem dX5_aims_105 : decode cX5_aims 105 = .ok (.iaload, 1) := by decide +kernel
theorem dX5_aims_106 : decode cX5_aims 106 = .ok (.aload_n 0, 1) := by decide +kernel
theorem dX5_aims_107 : decode cX5_aims 107 = .ok (.getfield 53, 3) := by decide +kernel
theorem dX5_aims_110 : decode cX5_aims 110 = .ok (.iload 6, 2) := by decide +kernel
theorem dX5_aims_112 : decode cX5_aims 112 = .ok (.iaload, 1) := by decide +kernel
theorem dX5_aims_113 : decode cX5_aims 113 = .ok (.if_icmp .gt 8, 3) := by decide +kernel
theorem dX5_aims_116 : decode cX5_aims 116 = .ok (.iload 6, 2) := by decide +kernel
theorem dX5_aims_118 : decode cX5_aims 118 = .ok (.goto 5, 3) := by decide +kernel
theorem dX5_aims_121 : decode cX5_aims 121 = .ok (.bipush (-2), 2) := by decide +kernel
theorem dX5_aims_123 : decode cX5_aims 123 = .ok (.iastore, 1) := by decide +kernel
theorem dX5_aims_124 : decode cX5_aims 124 = .ok (.aload_n 0, 1) := by decide +kernel
theorem dX5_aims_125 : decode cX5_aims 125 = .ok (.getfield 59, 3) := by decide +kernel
theorem dX5_aims_128 : decode cX5_aims 128 = .ok (.iload 5, 2) := by decide +kernel
theorem dX5_aims_130 : decode cX5_aims 130 = .ok (.iaload, 1) := by decide +kernel
theorem dX5_aims_131 : decode cX5_aims 131 = .ok (.bipush (-2), 2) := by decide +kernel
theorem dX5_aims_133 : decode cX5_aims 133 = .ok (.if_icmp .ne 6, 3) := by decide +kernel
theorem dX5_aims_136 : decode cX5_aims 136 = .ok (.goto 30, 3) := by decide +kernel
theorem dX5_aims_139 : decode cX5_aims 139 = .ok (.aload_n 0, 1) := by decide +kernel
theorem dX5_aims_140 : decode cX5_aims 140 = .ok (.getfield 53, 3) := by decide +kernel
theorem dX5_aims_143 : decode cX5_aims 143 = .ok (.iload 6, 2) := by decide +kernel
theorem dX5_aims_145 : decode cX5_aims 145 = .ok (.dup2, 1) := by decide +kernel
theorem dX5_aims_146 : decode cX5_aims 146 = .ok (.iaload, 1) := by decide +kernel
theorem dX5_aims_147 : decode cX5_aims 147 = .ok (.aload_n 0, 1) := by decide +kernel
theorem dX5_aims_148 : decode cX5_aims 148 = .ok (.getfield 50, 3) := by decide +kernel
theorem dX5_aims_151 : decode cX5_aims 151 = .ok (.iload 5, 2) := by decide +kernel
theorem dX5_aims_153 : decode cX5_aims 153 = .ok (.iaload, 1) := by decide +kernel
theorem dX5_aims_154 : decode cX5_aims 154 = .ok (.isub, 1) := by decide +kernel
theorem dX5_aims_155 : decode cX5_aims 155 = .ok (.iastore, 1) := by decide +kernel
theorem dX5_aims_156 : decode cX5_aims 156 = .ok (.iload_n 3, 1) := by decide +kernel
theorem dX5_aims_157 : decode cX5_aims 157 = .ok (.aload_n 0, 1) := by decide +kernel
theorem dX5_aims_158 : decode cX5_aims 158 = .ok (.getfield 50, 3) := by decide +kernel
theorem dX5_aims_161 : decode cX5_aims 161 = .ok (.iload 5, 2) := by decide +kernel
theorem dX5_aims_163 : decode cX5_aims 163 = .ok (.iaload, 1) := by decide +kernel
theorem dX5_aims_164 : decode cX5_aims 164 = .ok (.iadd, 1) := by decide +kernel
theorem dX5_aims_165 : decode cX5_aims 165 = .ok (.istore_n 3, 1) := by decide +kernel
theorem dX5_aims_166 : decode cX5_aims 166 = .ok (.iinc 4 1, 3) := by decide +kernel
theorem dX5_aims_169 : decode cX5_aims 169 = .ok (.goto (-133), 3) := by decide +kernel
theorem dX5_aims_172 : decode cX5_aims 172 = .ok (.iload_n 3, 1) := by decide +kernel
theorem dX5_aims_173 : decode cX5_aims 173 = .ok (.ireturn, 1) := by decide +kernel
set_option maxRecDepth 20000 in
theorem ggX5_aim_X5_isHour : GoodIn wsX5_aim wsX5_isHour := goodIn_r _ [12] rfl (by decide +kernel)
set_option maxRecDepth 20000 in
theorem gX5_aim_X5_isHour : GoodIn wsX5_aim (va_wsS RX5 105 yX5_isHour wsX5_isHour) := goodIn_app (goodIn_of _ (by decide +kernel)) ggX5_aim_X5_isHour
set_option maxRecDepth 20000 in
theorem ggX5_aim_X5_refused : GoodIn wsX5_aim wsX5_refused := goodIn_r _ [16, 17, 62, 63, 64, 65, 66, 67, 68, 69, 70, 71, 72, 73, 74, 75, 76, 77, 78, 79, 80, 81, 82, 83, 84, 85, 86, 87, 88, 89, 90, 91, 92, 93, 94] rfl (by decide +kernel)
set_option maxRecDepth 20000 in
theorem gX5_aim_X5_refused : GoodIn wsX5_aim (wsV RX5 98 RX5 yX5_refused wsX5_refused) := goodIn_app (goodIn_of _ (by decide +kernel)) ggX5_aim_X5_refused
set_option maxRecDepth 20000 in
theorem ggX5_aim_X5_aims : GoodIn wsX5_aim wsX5_aims := goodIn_r _ [21, 8, 7, 2, 22, 5, 23, 24, 25, 26, 11, 27, 28, 29, 30, 31, 32, 33, 34, 35, 36, 37, 38, 39, 40, 41, 42, 43, 44, 45, 46, 47, 48, 49, 50, 51, 52, 53, 54, 55, 56, 57, 62, 63, 64, 65, 66, 67, 68, 69, 70, 71, 72, 73, 74, 75, 76, 77, 78, 79, 80, 81, 82, 83, 84, 85, 86, 87, 88, 89, 90, 91, 92, 93, 94] rfl (by decide +kernel)
set_option maxRecDepth 20000 in
theorem gX5_aim_X5_aims : GoodIn wsX5_aim (wsV RX5 145 RX5 yX5_aims wsX5_aims) := goodIn_app (goodIn_of _ (by decide +kernel)) ggX5_aim_X5_aims
set_option maxRecDepth 20000 in
theorem ggX5_aim_X5_done : GoodIn wsX5_aim wsX5_done := goodIn_r _ [61, 17, 62, 63, 64, 65, 66, 67, 68, 69, 70, 71, 72, 73, 74, 75, 76, 77, 78, 79, 80, 81, 82, 83, 84, 85, 86, 87, 88, 89, 90, 91, 92, 93, 94] rfl (by decide +kernel)
set_option maxRecDepth 20000 in
theorem gX5_aim_X5_done : GoodIn wsX5_aim (wsV RX5 102 RX5 yX5_done wsX5_done) := goodIn_app (goodIn_of _ (by decide +kernel)) ggX5_aim_X5_done
theorem dX5_aim_0 : decode cX5_aim 0 = .ok (.aload_n 0, 1) := by decide +kernel
theorem dX5_aim_1 : decode cX5_aim 1 = .ok (.iconst 0, 1) := by decide +kernel
theorem dX5_aim_2 : decode cX5_aim 2 = .ok (.putfield 1, 3) := by decide +kernel
theorem dX5_aim_5 : decode cX5_aim 5 = .ok (.iload_n 1, 1) := by decide +kernel
theorem dX5_aim_6 : decode cX5_aim 6 = .ok (.invokestatic 105, 3) := by decide +kernel
theorem dX5_aim_9 : decode cX5_aim 9 = .ok (.ifCond .ne 9, 3) := by decide +kernel
theorem dX5_aim_12 : decode cX5_aim 12 = .ok (.aload_n 0, 1) := by decide +kernel
theorem dX5_aim_13 : decode cX5_aim 13 = .ok (.iconst 2, 1) := by decide +kernel
theorem dX5_aim_14 : decode cX5_aim 14 = .ok (.invokevirtual 98, 3) := by decide +kernel
theorem dX5_aim_17 : decode cX5_aim 17 = .ok (.ireturn, 1) := by decide +kernel
theorem dX5_aim_18 : decode cX5_aim 18 = .ok (.aload_n 0, 1) := by decide +kernel
theorem dX5_aim_19 : decode cX5_aim 19 = .ok (.iload_n 1, 1) := by decide +kernel
theorem dX5_aim_20 : decode cX5_aim 20 = .ok (.iconst 0, 1) := by decide +kernel
theorem dX5_aim_21 : decode cX5_aim 21 = .ok (.invokevirtual 145, 3) := by decide +kernel
theorem dX5_aim_24 : decode cX5_aim 24 = .ok (.istore_n 2, 1) := by decide +kernel
theorem dX5_aim_25 : decode cX5_aim 25 = .ok (.aload_n 0, 1) := by decide +kernel
theorem dX5_aim_26 : decode cX5_aim 26 = .ok (.aload_n 0, 1) := by decide +kernel
theorem dX5_aim_27 : decode cX5_aim 27 = .ok (.getfield 91, 3) := by decide +kernel
theorem dX5_aim_30 : decode cX5_aim 30 = .ok (.putfield 65, 3) := by decide +kernel
theorem dX5_aim_33 : decode cX5_aim 33 = .ok (.iconst 0, 1) := by decide +kernel
theorem dX5_aim_34 : decode cX5_aim 34 = .ok (.istore_n 3, 1) := by decide +kernel
theorem dX5_aim_35 : decode cX5_aim 35 = .ok (.iload_n 3, 1) := by decide +kernel
theorem dX5_aim_36 : decode cX5_aim 36 = .ok (.aload_n 0, 1) := by decide +kernel
theorem dX5_aim_37 : decode cX5_aim 37 = .ok (.getfield 91, 3) := by decide +kernel
theorem dX5_aim_40 : decode cX5_aim 40 = .ok (.if_icmp .ge 21, 3) := by decide +kernel
theorem dX5_aim_43 : decode cX5_aim 43 = .ok (.aload_n 0, 1) := by decide +kernel
theorem dX5_aim_44 : decode cX5_aim 44 = .ok (.getfield 56, 3) := by decide +kernel
theorem dX5_aim_47 : decode cX5_aim 47 = .ok (.iload_n 3, 1) := by decide +kernel
theorem dX5_aim_48 : decode cX5_aim 48 = .ok (.aload_n 0, 1) := by decide +kernel
theorem dX5_aim_49 : decode cX5_aim 49 = .ok (.getfield 59, 3) := by decide +kernel
theorem dX5_aim_52 : decode cX5_aim 52 = .ok (.iload_n 3, 1) := by decide +kernel
theorem dX5_aim_53 : decode cX5_aim 53 = .ok (.iaload, 1) := by decide +kernel
theorem dX5_aim_54 : decode cX5_aim 54 = .ok (.iastore, 1) := by decide +kernel
theorem dX5_aim_55 : decode cX5_aim 55 = .ok (.iinc 3 1, 3) := by decide +kernel
theorem dX5_aim_58 : decode cX5_aim 58 = .ok (.goto (-23), 3) := by decide +kernel
theorem dX5_aim_61 : decode cX5_aim 61 = .ok (.iconst 0, 1) := by decide +kernel
theorem dX5_aim_62 : decode cX5_aim 62 = .ok (.istore_n 3, 1) := by decide +kernel
theorem dX5_aim_63 : decode cX5_aim 63 = .ok (.iload_n 3, 1) := by decide +kernel
theorem dX5_aim_64 : decode cX5_aim 64 = .ok (.iconst 4, 1) := by decide +kernel
theorem dX5_aim_65 : decode cX5_aim 65 = .ok (.if_icmp .ge 28, 3) := by decide +kernel
theorem dX5_aim_68 : decode cX5_aim 68 = .ok (.aload_n 0, 1) := by decide +kernel
theorem dX5_aim_69 : decode cX5_aim 69 = .ok (.getfield 62, 3) := by decide +kernel
theorem dX5_aim_72 : decode cX5_aim 72 = .ok (.iload_n 3, 1) := by decide +kernel
theorem dX5_aim_73 : decode cX5_aim 73 = .ok (.aload_n 0, 1) := by decide +kernel
theorem dX5_aim_74 : decode cX5_aim 74 = .ok (.getfield 29, 3) := by decide +kernel
theorem dX5_aim_77 : decode cX5_aim 77 = .ok (.iload_n 3, 1) := by decide +kernel
theorem dX5_aim_78 : decode cX5_aim 78 = .ok (.iaload, 1) := by decide +kernel
theorem dX5_aim_79 : decode cX5_aim 79 = .ok (.aload_n 0, 1) := by decide +kernel
theorem dX5_aim_80 : decode cX5_aim 80 = .ok (.getfield 53, 3) := by decide +kernel
theorem dX5_aim_83 : decode cX5_aim 83 = .ok (.iload_n 3, 1) := by decide +kernel
theorem dX5_aim_84 : decode cX5_aim 84 = .ok (.iaload, 1) := by decide +kernel
theorem dX5_aim_85 : decode cX5_aim 85 = .ok (.isub, 1) := by decide +kernel
theorem dX5_aim_86 : decode cX5_aim 86 = .ok (.iastore, 1) := by decide +kernel
theorem dX5_aim_87 : decode cX5_aim 87 = .ok (.iinc 3 1, 3) := by decide +kernel
theorem dX5_aim_90 : decode cX5_aim 90 = .ok (.goto (-27), 3) := by decide +kernel
theorem dX5_aim_93 : decode cX5_aim 93 = .ok (.aload_n 0, 1) := by decide +kernel
theorem dX5_aim_94 : decode cX5_aim 94 = .ok (.iload_n 2, 1) := by decide +kernel
theorem dX5_aim_95 : decode cX5_aim 95 = .ok (.invokevirtual 102, 3) := by decide +kernel
theorem dX5_aim_98 : decode cX5_aim 98 = .ok (.ireturn, 1) := by decide +kernel
theorem dX5_aimed_0 : decode cX5_aimed 0 = .ok (.aload_n 0, 1) := by decide +kernel
theorem dX5_aimed_1 : decode cX5_aimed 1 = .ok (.iconst 0, 1) := by decide +kernel
theorem dX5_aimed_2 : decode cX5_aimed 2 = .ok (.putfield 1, 3) := by decide +kernel
theorem dX5_aimed_5 : decode cX5_aimed 5 = .ok (.iload_n 1, 1) := by decide +kernel
theorem dX5_aimed_6 : decode cX5_aimed 6 = .ok (.ifCond .lt 20, 3) := by decide +kernel
theorem dX5_aimed_9 : decode cX5_aimed 9 = .ok (.iload_n 1, 1) := by decide +kernel
theorem dX5_aimed_10 : decode cX5_aimed 10 = .ok (.aload_n 0, 1) := by decide +kernel
theorem dX5_aimed_11 : decode cX5_aimed 11 = .ok (.getfield 65, 3) := by decide +kernel
theorem dX5_aimed_14 : decode cX5_aimed 14 = .ok (.if_icmp .ge 12, 3) := by decide +kernel
theorem dX5_aimed_17 : decode cX5_aimed 17 = .ok (.aload_n 0, 1) := by decide +kernel
theorem dX5_aimed_18 : decode cX5_aimed 18 = .ok (.getfield 56, 3) := by decide +kernel
theorem dX5_aimed_21 : decode cX5_aimed 21 = .ok (.iload_n 1, 1) := by decide +kernel
theorem dX5_aimed_22 : decode cX5_aimed 22 = .ok (.iaload, 1) := by decide +kernel
theorem dX5_aimed_23 : decode cX5_aimed 23 = .ok (.goto 4, 3) := by decide +kernel
theorem dX5_aimed_26 : decode cX5_aimed 26 = .ok (.iconst (-1), 1) := by decide +kernel
theorem dX5_aimed_27 : decode cX5_aimed 27 = .ok (.ireturn, 1) := by decide +kernel
set_option maxRecDepth 20000 in
theorem ggX5_face_X5_in : GoodIn wsX5_face wsX5_in := goodIn_r _ [6] rfl (by decide +kernel)
set_option maxRecDepth 20000 in
theorem gX5_face_X5_in : GoodIn wsX5_face (va_wsS RX5 94 yX5_in wsX5_in) := goodIn_app (goodIn_of _ (by decide +kernel)) ggX5_face_X5_in
theorem dX5_face_0 : decode cX5_face 0 = .ok (.aload_n 0, 1) := by decide +kernel
theorem dX5_face_1 : decode cX5_face 1 = .ok (.iconst 0, 1) := by decide +kernel
theorem dX5_face_2 : decode cX5_face 2 = .ok (.putfield 1, 3) := by decide +kernel
theorem dX5_face_5 : decode cX5_face 5 = .ok (.iload_n 1, 1) := by decide +kernel
theorem dX5_face_6 : decode cX5_face 6 = .ok (.iconst 0, 1) := by decide +kernel
theorem dX5_face_7 : decode cX5_face 7 = .ok (.iconst 3, 1) := by decide +kernel
theorem dX5_face_8 : decode cX5_face 8 = .ok (.invokestatic 94, 3) := by decide +kernel
theorem dX5_face_11 : decode cX5_face 11 = .ok (.ifCond .eq 12, 3) := by decide +kernel
theorem dX5_face_14 : decode cX5_face 14 = .ok (.aload_n 0, 1) := by decide +kernel
theorem dX5_face_15 : decode cX5_face 15 = .ok (.getfield 62, 3) := by decide +kernel
theorem dX5_face_18 : decode cX5_face 18 = .ok (.iload_n 1, 1) := by decide +kernel
theorem dX5_face_19 : decode cX5_face 19 = .ok (.iaload, 1) := by decide +kernel
theorem dX5_face_20 : decode cX5_face 20 = .ok (.goto 4, 3) := by decide +kernel
theorem dX5_face_23 : decode cX5_face 23 = .ok (.iconst (-1), 1) := by decide +kernel
theorem dX5_face_24 : decode cX5_face 24 = .ok (.ireturn, 1) := by decide +kernel
set_option maxRecDepth 20000 in
theorem ggX5_tries_X5_tries : GoodIn wsX5_tries wsX5_tries := goodIn_r _ [0, 1, 2, 3, 4, 5, 6, 7, 8, 9, 10, 11, 12, 13, 14, 15, 16, 17, 18, 19, 20, 21, 22, 23, 24, 25, 26, 27, 28, 29, 30, 31, 32, 33, 34, 35, 36, 37, 38, 39, 40, 41, 42, 43, 44, 45, 46] rfl (by decide +kernel)
set_option maxRecDepth 20000 in
theorem gX5_tries_X5_tries : GoodIn wsX5_tries (wsV RX5 151 RX5 yX5_tries wsX5_tries) := goodIn_app (goodIn_of _ (by decide +kernel)) ggX5_tries_X5_tries
theorem dX5_tries_0 : decode cX5_tries 0 = .ok (.iload_n 1, 1) := by decide +kernel
theorem dX5_tries_1 : decode cX5_tries 1 = .ok (.bipush 7, 2) := by decide +kernel
theorem dX5_tries_3 : decode cX5_tries 3 = .ok (.if_icmp .eq 11, 3) := by decide +kernel
theorem dX5_tries_6 : decode cX5_tries 6 = .ok (.iload_n 1, 1) := by decide +kernel
theorem dX5_tries_7 : decode cX5_tries 7 = .ok (.aload_n 0, 1) := by decide +kernel
theorem dX5_tries_8 : decode cX5_tries 8 = .ok (.getfield 91, 3) := by decide +kernel
theorem dX5_tries_11 : decode cX5_tries 11 = .ok (.if_icmp .ne 16, 3) := by decide +kernel
theorem dX5_tries_14 : decode cX5_tries 14 = .ok (.aload_n 0, 1) := by decide +kernel
theorem dX5_tries_15 : decode cX5_tries 15 = .ok (.aload_n 0, 1) := by decide +kernel
theorem dX5_tries_16 : decode cX5_tries 16 = .ok (.getfield 148, 3) := by decide +kernel
theorem dX5_tries_19 : decode cX5_tries 19 = .ok (.iload_n 2, 1) := by decide +kernel
theorem dX5_tries_20 : decode cX5_tries 20 = .ok (.invokestatic 134, 3) := by decide +kernel
theorem dX5_tries_23 : decode cX5_tries 23 = .ok (.putfield 148, 3) := by decide +kernel
theorem dX5_tries_26 : decode cX5_tries 26 = .ok (.return_, 1) := by decide +kernel
theorem dX5_tries_27 : decode cX5_tries 27 = .ok (.aload_n 0, 1) := by decide +kernel
theorem dX5_tries_28 : decode cX5_tries 28 = .ok (.getfield 50, 3) := by decide +kernel
theorem dX5_tries_31 : decode cX5_tries 31 = .ok (.aload_n 0, 1) := by decide +kernel
theorem dX5_tries_32 : decode cX5_tries 32 = .ok (.getfield 47, 3) := by decide +kernel
theorem dX5_tries_35 : decode cX5_tries 35 = .ok (.iload_n 1, 1) := by decide +kernel
theorem dX5_tries_36 : decode cX5_tries 36 = .ok (.iaload, 1) := by decide +kernel
theorem dX5_tries_37 : decode cX5_tries 37 = .ok (.iaload, 1) := by decide +kernel
theorem dX5_tries_38 : decode cX5_tries 38 = .ok (.istore_n 3, 1) := by decide +kernel
theorem dX5_tries_39 : decode cX5_tries 39 = .ok (.iconst 0, 1) := by decide +kernel
theorem dX5_tries_40 : decode cX5_tries 40 = .ok (.istore 4, 2) := by decide +kernel
theorem dX5_tries_42 : decode cX5_tries 42 = .ok (.iload 4, 2) := by decide +kernel
theorem dX5_tries_44 : decode cX5_tries 44 = .ok (.iconst 4, 1) := by decide +kernel
theorem dX5_tries_45 : decode cX5_tries 45 = .ok (.if_icmp .ge 55, 3) := by decide +kernel
theorem dX5_tries_48 : decode cX5_tries 48 = .ok (.iload_n 3, 1) := by decide +kernel
theorem dX5_tries_49 : decode cX5_tries 49 = .ok (.aload_n 0, 1) := by decide +kernel
theorem dX5_tries_50 : decode cX5_tries 50 = .ok (.getfield 53, 3) := by decide +kernel
theorem dX5_tries_53 : decode cX5_tries 53 = .ok (.iload 4, 2) := by decide +kernel
theorem dX5_tries_55 : decode cX5_tries 55 = .ok (.iaload, 1) := by decide +kernel
theorem dX5_tries_56 : decode cX5_tries 56 = .ok (.if_icmp .le 6, 3) := by decide +kernel
theorem dX5_tries_59 : decode cX5_tries 59 = .ok (.goto 35, 3) := by decide +kernel
theorem dX5_tries_62 : decode cX5_tries 62 = .ok (.aload_n 0, 1) := by decide +kernel
theorem dX5_tries_63 : decode cX5_tries 63 = .ok (.getfield 53, 3) := by decide +kernel
theorem dX5_tries_66 : decode cX5_tries 66 = .ok (.iload 4, 2) := by decide +kernel
theorem dX5_tries_68 : decode cX5_tries 68 = .ok (.dup2, 1) := by decide +kernel
theorem dX5_tries_69 : decode cX5_tries 69 = .ok (.iaload, 1) := by decide +kernel
theorem dX5_tries_70 : decode cX5_tries 70 = .ok (.iload_n 3, 1) := by decide +kernel
theorem dX5_tries_71 : decode cX5_tries 71 = .ok (.isub, 1) := by decide +kernel
theorem dX5_tries_72 : decode cX5_tries 72 = .ok (.iastore, 1) := by decide +kernel
theorem dX5_tries_73 : decode cX5_tries 73 = .ok (.aload_n 0, 1) := by decide +kernel
theorem dX5_tries_74 : decode cX5_tries 74 = .ok (.iload_n 1, 1) := by decide +kernel
theorem dX5_tries_75 : decode cX5_tries 75 = .ok (.iconst 1, 1) := by decide +kernel
theorem dX5_tries_76 : decode cX5_tries 76 = .ok (.iadd, 1) := by decide +kernel
theorem dX5_tries_77 : decode cX5_tries 77 = .ok (.iload_n 2, 1) := by decide +kernel
theorem dX5_tries_78 : decode cX5_tries 78 = .ok (.iload_n 3, 1) := by decide +kernel
theorem dX5_tries_79 : decode cX5_tries 79 = .ok (.iadd, 1) := by decide +kernel
theorem dX5_tries_80 : decode cX5_tries 80 = .ok (.invokevirtual 151, 3) := by decide +kernel
theorem dX5_tries_83 : decode cX5_tries 83 = .ok (.aload_n 0, 1) := by decide +kernel
theorem dX5_tries_84 : decode cX5_tries 84 = .ok (.getfield 53, 3) := by decide +kernel
theorem dX5_tries_87 : decode cX5_tries 87 = .ok (.iload 4, 2) := by decide +kernel
theorem dX5_tries_89 : decode cX5_tries 89 = .ok (.dup2, 1) := by decide +kernel
theorem dX5_tries_90 : decode cX5_tries 90 = .ok (.iaload, 1) := by decide +kernel
theorem dX5_tries_91 : decode cX5_tries 91 = .ok (.iload_n 3, 1) := by decide +kernel
theorem dX5_tries_92 : decode cX5_tries 92 = .ok (.iadd, 1) := by decide +kernel
theorem dX5_tries_93 : decode cX5_tries 93 = .ok (.iastore, 1) := by decide +kernel
theorem dX5_tries_94 : decode cX5_tries 94 = .ok (.iinc 4 1, 3) := by decide +kernel
theorem dX5_tries_97 : decode cX5_tries 97 = .ok (.goto (-55), 3) := by decide +kernel
theorem dX5_tries_100 : decode cX5_tries 100 = .ok (.aload_n 0, 1) := by decide +kernel
theorem dX5_tries_101 : decode cX5_tries 101 = .ok (.iload_n 1, 1) := by decide +kernel
theorem dX5_tries_102 : decode cX5_tries 102 = .ok (.iconst 1, 1) := by decide +kernel
theorem dX5_tries_103 : decode cX5_tries 103 = .ok (.iadd, 1) := by decide +kernel
theorem dX5_tries_104 : decode cX5_tries 104 = .ok (.iload_n 2, 1) := by decide +kernel
theorem dX5_tries_105 : decode cX5_tries 105 = .ok (.invokevirtual 151, 3) := by decide +kernel
theorem dX5_tries_108 : decode cX5_tries 108 = .ok (.return_, 1) := by decide +kernel
set_option maxRecDepth 20000 in
theorem ggX5_best_X5_isHour : GoodIn wsX5_best wsX5_isHour := goodIn_r _ [8] rfl (by decide +kernel)
set_option maxRecDepth 20000 in
theorem gX5_best_X5_isHour : GoodIn wsX5_best (va_wsS RX5 105 yX5_isHour wsX5_isHour) := goodIn_app (goodIn_of _ (by decide +kernel)) ggX5_best_X5_isHour
set_option maxRecDepth 20000 in
theorem ggX5_best_X5_refused : GoodIn wsX5_best wsX5_refused := goodIn_r _ [12, 13, 59, 60, 61, 62, 63, 64, 65, 66, 67, 68, 69, 70, 71, 72, 73, 74, 75, 76, 77, 78, 79, 80, 81, 82, 83, 84, 85, 86, 87, 88, 89, 90, 91] rfl (by decide +kernel)
set_option maxRecDepth 20000 in
theorem gX5_best_X5_refused : GoodIn wsX5_best (wsV RX5 98 RX5 yX5_refused wsX5_refused) := goodIn_app (goodIn_of _ (by decide +kernel)) ggX5_best_X5_refused
set_option maxRecDepth 20000 in
theorem ggX5_best_X5_orders : GoodIn wsX5_best wsX5_orders := goodIn_r _ [17, 18, 19, 20, 21, 22, 23, 7, 24, 25, 26, 27, 28, 29, 30, 31, 32, 33, 34, 35, 36, 37, 38, 39, 40, 41, 42, 43, 44, 45, 46, 47, 48, 49, 50, 59, 60, 61, 62, 63, 64, 65, 66, 67, 68, 69, 70, 71, 72, 73, 74, 75, 76, 77, 78, 79, 80, 81, 82, 83, 84, 85, 86, 87, 88, 89, 90, 91] rfl (by decide +kernel)
set_option maxRecDepth 20000 in
theorem gX5_best_X5_orders : GoodIn wsX5_best (wsV RX5 141 RX5 yX5_orders wsX5_orders) := goodIn_app (goodIn_of _ (by decide +kernel)) ggX5_best_X5_orders
set_option maxRecDepth 20000 in
theorem ggX5_best_X5_tries : GoodIn wsX5_best wsX5_tries := goodIn_r _ [54, 18, 4, 31, 32, 29, 33, 19, 20, 2, 51, 52, 53, 7, 59, 60, 61, 62, 63, 64, 65, 66, 67, 68, 69, 70, 71, 72, 73, 74, 75, 76, 77, 78, 79, 80, 81, 82, 83, 84, 85, 86, 87, 88, 89, 90, 91] rfl (by decide +kernel)
set_option maxRecDepth 20000 in
theorem gX5_best_X5_tries : GoodIn wsX5_best (wsV RX5 151 RX5 yX5_tries wsX5_tries) := goodIn_app (goodIn_of _ (by decide +kernel)) ggX5_best_X5_tries
set_option maxRecDepth 20000 in
theorem ggX5_best_X5_done : GoodIn wsX5_best wsX5_done := goodIn_r _ [58, 13, 59, 60, 61, 62, 63, 64, 65, 66, 67, 68, 69, 70, 71, 72, 73, 74, 75, 76, 77, 78, 79, 80, 81, 82, 83, 84, 85, 86, 87, 88, 89, 90, 91] rfl (by decide +kernel)
set_option maxRecDepth 20000 in
theorem gX5_best_X5_done : GoodIn wsX5_best (wsV RX5 102 RX5 yX5_done wsX5_done) := goodIn_app (goodIn_of _ (by decide +kernel)) ggX5_best_X5_done
theorem dX5_best_0 : decode cX5_best 0 = .ok (.aload_n 0, 1) := by decide +kernel
theorem dX5_best_1 : decode cX5_best 1 = .ok (.iconst 0, 1) := by decide +kernel
theorem dX5_best_2 : decode cX5_best 2 = .ok (.putfield 1, 3) := by decide +kernel
theorem dX5_best_5 : decode cX5_best 5 = .ok (.iload_n 1, 1) := by decide +kernel
theorem dX5_best_6 : decode cX5_best 6 = .ok (.invokestatic 105, 3) := by decide +kernel
theorem dX5_best_9 : decode cX5_best 9 = .ok (.ifCond .ne 9, 3) := by decide +kernel
theorem dX5_best_12 : decode cX5_best 12 = .ok (.aload_n 0, 1) := by decide +kernel
theorem dX5_best_13 : decode cX5_best 13 = .ok (.iconst 2, 1) := by decide +kernel
theorem dX5_best_14 : decode cX5_best 14 = .ok (.invokevirtual 98, 3) := by decide +kernel
theorem dX5_best_17 : decode cX5_best 17 = .ok (.ireturn, 1) := by decide +kernel
theorem dX5_best_18 : decode cX5_best 18 = .ok (.aload_n 0, 1) := by decide +kernel
theorem dX5_best_19 : decode cX5_best 19 = .ok (.iload_n 1, 1) := by decide +kernel
theorem dX5_best_20 : decode cX5_best 20 = .ok (.iconst 0, 1) := by decide +kernel
theorem dX5_best_21 : decode cX5_best 21 = .ok (.invokevirtual 141, 3) := by decide +kernel
theorem dX5_best_24 : decode cX5_best 24 = .ok (.iconst 0, 1) := by decide +kernel
theorem dX5_best_25 : decode cX5_best 25 = .ok (.istore_n 2, 1) := by decide +kernel
theorem dX5_best_26 : decode cX5_best 26 = .ok (.iload_n 2, 1) := by decide +kernel
theorem dX5_best_27 : decode cX5_best 27 = .ok (.iconst 4, 1) := by decide +kernel
theorem dX5_best_28 : decode cX5_best 28 = .ok (.if_icmp .ge 21, 3) := by decide +kernel
theorem dX5_best_31 : decode cX5_best 31 = .ok (.aload_n 0, 1) := by decide +kernel
theorem dX5_best_32 : decode cX5_best 32 = .ok (.getfield 53, 3) := by decide +kernel
theorem dX5_best_35 : decode cX5_best 35 = .ok (.iload_n 2, 1) := by decide +kernel
theorem dX5_best_36 : decode cX5_best 36 = .ok (.aload_n 0, 1) := by decide +kernel
theorem dX5_best_37 : decode cX5_best 37 = .ok (.getfield 29, 3) := by decide +kernel
theorem dX5_best_40 : decode cX5_best 40 = .ok (.iload_n 2, 1) := by decide +kernel
theorem dX5_best_41 : decode cX5_best 41 = .ok (.iaload, 1) := by decide +kernel
theorem dX5_best_42 : decode cX5_best 42 = .ok (.iastore, 1) := by decide +kernel
theorem dX5_best_43 : decode cX5_best 43 = .ok (.iinc 2 1, 3) := by decide +kernel
theorem dX5_best_46 : decode cX5_best 46 = .ok (.goto (-20), 3) := by decide +kernel
theorem dX5_best_49 : decode cX5_best 49 = .ok (.aload_n 0, 1) := by decide +kernel
theorem dX5_best_50 : decode cX5_best 50 = .ok (.iconst 0, 1) := by decide +kernel
theorem dX5_best_51 : decode cX5_best 51 = .ok (.putfield 148, 3) := by decide +kernel
theorem dX5_best_54 : decode cX5_best 54 = .ok (.aload_n 0, 1) := by decide +kernel
theorem dX5_best_55 : decode cX5_best 55 = .ok (.iconst 0, 1) := by decide +kernel
theorem dX5_best_56 : decode cX5_best 56 = .ok (.iconst 0, 1) := by decide +kernel
theorem dX5_best_57 : decode cX5_best 57 = .ok (.invokevirtual 151, 3) := by decide +kernel
theorem dX5_best_60 : decode cX5_best 60 = .ok (.aload_n 0, 1) := by decide +kernel
theorem dX5_best_61 : decode cX5_best 61 = .ok (.aload_n 0, 1) := by decide +kernel
theorem dX5_best_62 : decode cX5_best 62 = .ok (.getfield 148, 3) := by decide +kernel
theorem dX5_best_65 : decode cX5_best 65 = .ok (.invokevirtual 102, 3) := by decide +kernel
theorem dX5_best_68 : decode cX5_best 68 = .ok (.ireturn, 1) := by decide +kernel
set_option maxRecDepth 20000 in
theorem ggX5_comes_X5_in : GoodIn wsX5_comes wsX5_in := goodIn_r _ [7] rfl (by decide +kernel)
set_option maxRecDepth 20000 in
theorem gX5_comes_X5_in : GoodIn wsX5_comes (va_wsS RX5 94 yX5_in wsX5_in) := goodIn_app (goodIn_of _ (by decide +kernel)) ggX5_comes_X5_in
set_option maxRecDepth 20000 in
theorem ggX5_comes_X5_aims : GoodIn wsX5_comes wsX5_aims := goodIn_r _ [11, 12, 13, 14, 15, 16, 17, 18, 19, 20, 6, 21, 22, 23, 24, 25, 26, 27, 28, 29, 30, 31, 32, 33, 34, 35, 36, 37, 38, 39, 40, 41, 42, 43, 44, 45, 46, 47, 48, 49, 50, 51, 52, 53, 54, 55, 56, 57, 58, 59, 60, 61, 62, 63, 64, 65, 66, 67, 68, 69, 70, 71, 72, 73, 74, 75, 76, 77, 78, 79, 80, 81, 82, 83, 84] rfl (by decide +kernel)
set_option maxRecDepth 20000 in
theorem gX5_comes_X5_aims : GoodIn wsX5_comes (wsV RX5 145 RX5 yX5_aims wsX5_aims) := goodIn_app (goodIn_of _ (by decide +kernel)) ggX5_comes_X5_aims
