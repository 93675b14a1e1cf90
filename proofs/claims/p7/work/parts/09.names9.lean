theorem dX5_unsure_13 : decode cX5_unsure 13 = .ok (.istore_n 3, 1) := by decide +kernel
theorem dX5_unsure_14 : decode cX5_unsure 14 = .ok (.iload_n 3, 1) := by decide +kernel
theorem dX5_unsure_15 : decode cX5_unsure 15 = .ok (.aload_n 0, 1) := by decide +kernel
theorem dX5_unsure_16 : decode cX5_unsure 16 = .ok (.getfield 91, 3) := by decide +kernel
theorem dX5_unsure_19 : decode cX5_unsure 19 = .ok (.if_icmp .ge 40, 3) := by decide +kernel
theorem dX5_unsure_22 : decode cX5_unsure 22 = .ok (.iload_n 2, 1) := by decide +kernel
theorem dX5_unsure_23 : decode cX5_unsure 23 = .ok (.iload_n 1, 1) := by decide +kernel
theorem dX5_unsure_24 : decode cX5_unsure 24 = .ok (.ifCond .eq 22, 3) := by decide +kernel
theorem dX5_unsure_27 : decode cX5_unsure 27 = .ok (.aload_n 0, 1) := by decide +kernel
theorem dX5_unsure_28 : decode cX5_unsure 28 = .ok (.getfield 88, 3) := by decide +kernel
theorem dX5_unsure_31 : decode cX5_unsure 31 = .ok (.iload_n 3, 1) := by decide +kernel
theorem dX5_unsure_32 : decode cX5_unsure 32 = .ok (.iaload, 1) := by decide +kernel
theorem dX5_unsure_33 : decode cX5_unsure 33 = .ok (.ifCond .le 17, 3) := by decide +kernel
theorem dX5_unsure_36 : decode cX5_unsure 36 = .ok (.aload_n 0, 1) := by decide +kernel
theorem dX5_unsure_37 : decode cX5_unsure 37 = .ok (.getfield 88, 3) := by decide +kernel
theorem dX5_unsure_40 : decode cX5_unsure 40 = .ok (.iload_n 3, 1) := by decide +kernel
theorem dX5_unsure_41 : decode cX5_unsure 41 = .ok (.iaload, 1) := by decide +kernel
theorem dX5_unsure_42 : decode cX5_unsure 42 = .ok (.iload_n 1, 1) := by decide +kernel
theorem dX5_unsure_43 : decode cX5_unsure 43 = .ok (.if_icmp .ge 7, 3) := by decide +kernel
theorem dX5_unsure_46 : decode cX5_unsure 46 = .ok (.iconst 1, 1) := by decide +kernel
theorem dX5_unsure_47 : decode cX5_unsure 47 = .ok (.goto 4, 3) := by decide +kernel
theorem dX5_unsure_50 : decode cX5_unsure 50 = .ok (.iconst 0, 1) := by decide +kernel
theorem dX5_unsure_51 : decode cX5_unsure 51 = .ok (.iadd, 1) := by decide +kernel
theorem dX5_unsure_52 : decode cX5_unsure 52 = .ok (.istore_n 2, 1) := by decide +kernel
theorem dX5_unsure_53 : decode cX5_unsure 53 = .ok (.iinc 3 1, 3) := by decide +kernel
theorem dX5_unsure_56 : decode cX5_unsure 56 = .ok (.goto (-42), 3) := by decide +kernel
theorem dX5_unsure_59 : decode cX5_unsure 59 = .ok (.iload_n 2, 1) := by decide +kernel
theorem dX5_unsure_60 : decode cX5_unsure 60 = .ok (.ireturn, 1) := by decide +kernel
theorem dX5_count_0 : decode cX5_count 0 = .ok (.aload_n 0, 1) := by decide +kernel
theorem dX5_count_1 : decode cX5_count 1 = .ok (.iconst 0, 1) := by decide +kernel
theorem dX5_count_2 : decode cX5_count 2 = .ok (.putfield 1, 3) := by decide +kernel
theorem dX5_count_5 : decode cX5_count 5 = .ok (.iload_n 1, 1) := by decide +kernel
theorem dX5_count_6 : decode cX5_count 6 = .ok (.tableswitch 100 0 5 #[38, 43, 48, 53, 66, 71], 38) := by decide +kernel
theorem dX5_count_44 : decode cX5_count 44 = .ok (.aload_n 0, 1) := by decide +kernel
theorem dX5_count_45 : decode cX5_count 45 = .ok (.getfield 91, 3) := by decide +kernel
theorem dX5_count_48 : decode cX5_count 48 = .ok (.ireturn, 1) := by decide +kernel
theorem dX5_count_49 : decode cX5_count 49 = .ok (.aload_n 0, 1) := by decide +kernel
theorem dX5_count_50 : decode cX5_count 50 = .ok (.getfield 154, 3) := by decide +kernel
theorem dX5_count_53 : decode cX5_count 53 = .ok (.ireturn, 1) := by decide +kernel
theorem dX5_count_54 : decode cX5_count 54 = .ok (.aload_n 0, 1) := by decide +kernel
theorem dX5_count_55 : decode cX5_count 55 = .ok (.getfield 168, 3) := by decide +kernel
theorem dX5_count_58 : decode cX5_count 58 = .ok (.ireturn, 1) := by decide +kernel
theorem dX5_count_59 : decode cX5_count 59 = .ok (.aload_n 0, 1) := by decide +kernel
theorem dX5_count_60 : decode cX5_count 60 = .ok (.getfield 171, 3) := by decide +kernel
theorem dX5_count_63 : decode cX5_count 63 = .ok (.ifCond .eq 7, 3) := by decide +kernel
theorem dX5_count_66 : decode cX5_count 66 = .ok (.iconst 1, 1) := by decide +kernel
theorem dX5_count_67 : decode cX5_count 67 = .ok (.goto 4, 3) := by decide +kernel
theorem dX5_count_70 : decode cX5_count 70 = .ok (.iconst 0, 1) := by decide +kernel
theorem dX5_count_71 : decode cX5_count 71 = .ok (.ireturn, 1) := by decide +kernel
theorem dX5_count_72 : decode cX5_count 72 = .ok (.aload_n 0, 1) := by decide +kernel
theorem dX5_count_73 : decode cX5_count 73 = .ok (.getfield 186, 3) := by decide +kernel
theorem dX5_count_76 : decode cX5_count 76 = .ok (.ireturn, 1) := by decide +kernel
theorem dX5_count_77 : decode cX5_count 77 = .ok (.iconst 0, 1) := by decide +kernel
theorem dX5_count_78 : decode cX5_count 78 = .ok (.istore_n 2, 1) := by decide +kernel
theorem dX5_count_79 : decode cX5_count 79 = .ok (.iconst 0, 1) := by decide +kernel
theorem dX5_count_80 : decode cX5_count 80 = .ok (.istore_n 3, 1) := by decide +kernel
theorem dX5_count_81 : decode cX5_count 81 = .ok (.iload_n 3, 1) := by decide +kernel
theorem dX5_count_82 : decode cX5_count 82 = .ok (.aload_n 0, 1) := by decide +kernel
theorem dX5_count_83 : decode cX5_count 83 = .ok (.getfield 91, 3) := by decide +kernel
theorem dX5_count_86 : decode cX5_count 86 = .ok (.if_icmp .ge 18, 3) := by decide +kernel
theorem dX5_count_89 : decode cX5_count 89 = .ok (.iload_n 2, 1) := by decide +kernel
theorem dX5_count_90 : decode cX5_count 90 = .ok (.aload_n 0, 1) := by decide +kernel
theorem dX5_count_91 : decode cX5_count 91 = .ok (.getfield 26, 3) := by decide +kernel
theorem dX5_count_94 : decode cX5_count 94 = .ok (.iload_n 3, 1) := by decide +kernel
theorem dX5_count_95 : decode cX5_count 95 = .ok (.iaload, 1) := by decide +kernel
theorem dX5_count_96 : decode cX5_count 96 = .ok (.iadd, 1) := by decide +kernel
theorem dX5_count_97 : decode cX5_count 97 = .ok (.istore_n 2, 1) := by decide +kernel
theorem dX5_count_98 : decode cX5_count 98 = .ok (.iinc 3 1, 3) := by decide +kernel
theorem dX5_count_101 : decode cX5_count 101 = .ok (.goto (-20), 3) := by decide +kernel
theorem dX5_count_104 : decode cX5_count 104 = .ok (.iload_n 2, 1) := by decide +kernel
theorem dX5_count_105 : decode cX5_count 105 = .ok (.ireturn, 1) := by decide +kernel
theorem dX5_count_106 : decode cX5_count 106 = .ok (.iconst (-1), 1) := by decide +kernel
theorem dX5_count_107 : decode cX5_count 107 = .ok (.ireturn, 1) := by decide +kernel
theorem dX5_trouble_0 : decode cX5_trouble 0 = .ok (.aload_n 0, 1) := by decide +kernel
theorem dX5_trouble_1 : decode cX5_trouble 1 = .ok (.iconst 0, 1) := by decide +kernel
theorem dX5_trouble_2 : decode cX5_trouble 2 = .ok (.putfield 1, 3) := by decide +kernel
theorem dX5_trouble_5 : decode cX5_trouble 5 = .ok (.aload_n 0, 1) := by decide +kernel
theorem dX5_trouble_6 : decode cX5_trouble 6 = .ok (.getfield 7, 3) := by decide +kernel
theorem dX5_trouble_9 : decode cX5_trouble 9 = .ok (.ireturn, 1) := by decide +kernel
theorem dJ13_bitCount_95d88_0 : decode cJ13_bitCount_95d88 0 = .ok (.lload_n 0, 1) := by decide +kernel
theorem dJ13_bitCount_95d88_1 : decode cJ13_bitCount_95d88 1 = .ok (.lload_n 0, 1) := by decide +kernel
theorem dJ13_bitCount_95d88_2 : decode cJ13_bitCount_95d88 2 = .ok (.iconst 1, 1) := by decide +kernel
theorem dJ13_bitCount_95d88_3 : decode cJ13_bitCount_95d88 3 = .ok (.lushr, 1) := by decide +kernel
theorem dJ13_bitCount_95d88_4 : decode cJ13_bitCount_95d88 4 = .ok (.ldc2_w 314, 3) := by decide +kernel
theorem dJ13_bitCount_95d88_7 : decode cJ13_bitCount_95d88 7 = .ok (.land, 1) := by decide +kernel
theorem dJ13_bitCount_95d88_8 : decode cJ13_bitCount_95d88 8 = .ok (.lsub, 1) := by decide +kernel
theorem dJ13_bitCount_95d88_9 : decode cJ13_bitCount_95d88 9 = .ok (.lstore_n 0, 1) := by decide +kernel
theorem dJ13_bitCount_95d88_10 : decode cJ13_bitCount_95d88 10 = .ok (.lload_n 0, 1) := by decide +kernel
theorem dJ13_bitCount_95d88_11 : decode cJ13_bitCount_95d88 11 = .ok (.ldc2_w 316, 3) := by decide +kernel
theorem dJ13_bitCount_95d88_14 : decode cJ13_bitCount_95d88 14 = .ok (.land, 1) := by decide +kernel
theorem dJ13_bitCount_95d88_15 : decode cJ13_bitCount_95d88 15 = .ok (.lload_n 0, 1) := by decide +kernel
theorem dJ13_bitCount_95d88_16 : decode cJ13_bitCount_95d88 16 = .ok (.iconst 2, 1) := by decide +kernel
theorem dJ13_bitCount_95d88_17 : decode cJ13_bitCount_95d88 17 = .ok (.lushr, 1) := by decide +kernel
theorem dJ13_bitCount_95d88_18 : decode cJ13_bitCount_95d88 18 = .ok (.ldc2_w 316, 3) := by decide +kernel
theorem dJ13_bitCount_95d88_21 : decode cJ13_bitCount_95d88 21 = .ok (.land, 1) := by decide +kernel
theorem dJ13_bitCount_95d88_22 : decode cJ13_bitCount_95d88 22 = .ok (.ladd, 1) := by decide +kernel
theorem dJ13_bitCount_95d88_23 : decode cJ13_bitCount_95d88 23 = .ok (.lstore_n 0, 1) := by decide +kernel
theorem dJ13_bitCount_95d88_24 : decode cJ13_bitCount_95d88 24 = .ok (.lload_n 0, 1) := by decide +kernel
theorem dJ13_bitCount_95d88_25 : decode cJ13_bitCount_95d88 25 = .ok (.lload_n 0, 1) := by decide +kernel
theorem dJ13_bitCount_95d88_26 : decode cJ13_bitCount_95d88 26 = .ok (.iconst 4, 1) := by decide +kernel
theorem dJ13_bitCount_95d88_27 : decode cJ13_bitCount_95d88 27 = .ok (.lushr, 1) := by decide +kernel
theorem dJ13_bitCount_95d88_28 : decode cJ13_bitCount_95d88 28 = .ok (.ladd, 1) := by decide +kernel
theorem dJ13_bitCount_95d88_29 : decode cJ13_bitCount_95d88 29 = .ok (.ldc2_w 318, 3) := by decide +kernel
theorem dJ13_bitCount_95d88_32 : decode cJ13_bitCount_95d88 32 = .ok (.land, 1) := by decide +kernel
theorem dJ13_bitCount_95d88_33 : decode cJ13_bitCount_95d88 33 = .ok (.lstore_n 0, 1) := by decide +kernel
theorem dJ13_bitCount_95d88_34 : decode cJ13_bitCount_95d88 34 = .ok (.lload_n 0, 1) := by decide +kernel
theorem dJ13_bitCount_95d88_35 : decode cJ13_bitCount_95d88 35 = .ok (.lload_n 0, 1) := by decide +kernel
theorem dJ13_bitCount_95d88_36 : decode cJ13_bitCount_95d88 36 = .ok (.bipush 8, 2) := by decide +kernel
theorem dJ13_bitCount_95d88_38 : decode cJ13_bitCount_95d88 38 = .ok (.lushr, 1) := by decide +kernel
theorem dJ13_bitCount_95d88_39 : decode cJ13_bitCount_95d88 39 = .ok (.ladd, 1) := by decide +kernel
theorem dJ13_bitCount_95d88_40 : decode cJ13_bitCount_95d88 40 = .ok (.lstore_n 0, 1) := by decide +kernel
theorem dJ13_bitCount_95d88_41 : decode cJ13_bitCount_95d88 41 = .ok (.lload_n 0, 1) := by decide +kernel
theorem dJ13_bitCount_95d88_42 : decode cJ13_bitCount_95d88 42 = .ok (.lload_n 0, 1) := by decide +kernel
theorem dJ13_bitCount_95d88_43 : decode cJ13_bitCount_95d88 43 = .ok (.bipush 16, 2) := by decide +kernel
theorem dJ13_bitCount_95d88_45 : decode cJ13_bitCount_95d88 45 = .ok (.lushr, 1) := by decide +kernel
theorem dJ13_bitCount_95d88_46 : decode cJ13_bitCount_95d88 46 = .ok (.ladd, 1) := by decide +kernel
theorem dJ13_bitCount_95d88_47 : decode cJ13_bitCount_95d88 47 = .ok (.lstore_n 0, 1) := by decide +kernel
theorem dJ13_bitCount_95d88_48 : decode cJ13_bitCount_95d88 48 = .ok (.lload_n 0, 1) := by decide +kernel
theorem dJ13_bitCount_95d88_49 : decode cJ13_bitCount_95d88 49 = .ok (.lload_n 0, 1) := by decide +kernel
theorem dJ13_bitCount_95d88_50 : decode cJ13_bitCount_95d88 50 = .ok (.bipush 32, 2) := by decide +kernel
theorem dJ13_bitCount_95d88_52 : decode cJ13_bitCount_95d88 52 = .ok (.lushr, 1) := by decide +kernel
theorem dJ13_bitCount_95d88_53 : decode cJ13_bitCount_95d88 53 = .ok (.ladd, 1) := by decide +kernel
theorem dJ13_bitCount_95d88_54 : decode cJ13_bitCount_95d88 54 = .ok (.lstore_n 0, 1) := by decide +kernel
theorem dJ13_bitCount_95d88_55 : decode cJ13_bitCount_95d88 55 = .ok (.lload_n 0, 1) := by decide +kernel
theorem dJ13_bitCount_95d88_56 : decode cJ13_bitCount_95d88 56 = .ok (.l2i, 1) := by decide +kernel
theorem dJ13_bitCount_95d88_57 : decode cJ13_bitCount_95d88 57 = .ok (.bipush 127, 2) := by decide +kernel
theorem dJ13_bitCount_95d88_59 : decode cJ13_bitCount_95d88 59 = .ok (.iand, 1) := by decide +kernel
theorem dJ13_bitCount_95d88_60 : decode cJ13_bitCount_95d88 60 = .ok (.ireturn, 1) := by decide +kernel
theorem dJ9_max_7cf53_0 : decode cJ9_max_7cf53 0 = .ok (.iload_n 0, 1) := by decide +kernel
theorem dJ9_max_7cf53_1 : decode cJ9_max_7cf53 1 = .ok (.iload_n 1, 1) := by decide +kernel
theorem dJ9_max_7cf53_2 : decode cJ9_max_7cf53 2 = .ok (.if_icmp .lt 7, 3) := by decide +kernel
theorem dJ9_max_7cf53_5 : decode cJ9_max_7cf53 5 = .ok (.iload_n 0, 1) := by decide +kernel
theorem dJ9_max_7cf53_6 : decode cJ9_max_7cf53 6 = .ok (.goto 4, 3) := by decide +kernel
theorem dJ9_max_7cf53_9 : decode cJ9_max_7cf53 9 = .ok (.iload_n 1, 1) := by decide +kernel
theorem dJ9_max_7cf53_10 : decode cJ9_max_7cf53 10 = .ok (.ireturn, 1) := by decide +kernel
theorem dJ9_min_7cf53_0 : decode cJ9_min_7cf53 0 = .ok (.iload_n 0, 1) := by decide +kernel
theorem dJ9_min_7cf53_1 : decode cJ9_min_7cf53 1 = .ok (.iload_n 1, 1) := by decide +kernel
theorem dJ9_min_7cf53_2 : decode cJ9_min_7cf53 2 = .ok (.if_icmp .gt 7, 3) := by decide +kernel
theorem dJ9_min_7cf53_5 : decode cJ9_min_7cf53 5 = .ok (.iload_n 0, 1) := by decide +kernel
theorem dJ9_min_7cf53_6 : decode cJ9_min_7cf53 6 = .ok (.goto 4, 3) := by decide +kernel
theorem dJ9_min_7cf53_9 : decode cJ9_min_7cf53 9 = .ok (.iload_n 1, 1) := by decide +kernel
theorem dJ9_min_7cf53_10 : decode cJ9_min_7cf53 10 = .ok (.ireturn, 1) := by decide +kernel
theorem dJ7_fill_53178_0 : decode cJ7_fill_53178 0 = .ok (.iconst 0, 1) := by decide +kernel
theorem dJ7_fill_53178_1 : decode cJ7_fill_53178 1 = .ok (.istore_n 2, 1) := by decide +kernel
theorem dJ7_fill_53178_2 : decode cJ7_fill_53178 2 = .ok (.aload_n 0, 1) := by decide +kernel
theorem dJ7_fill_53178_3 : decode cJ7_fill_53178 3 = .ok (.arraylength, 1) := by decide +kernel
theorem dJ7_fill_53178_4 : decode cJ7_fill_53178 4 = .ok (.istore_n 3, 1) := by decide +kernel
theorem dJ7_fill_53178_5 : decode cJ7_fill_53178 5 = .ok (.iload_n 2, 1) := by decide +kernel
theorem dJ7_fill_53178_6 : decode cJ7_fill_53178 6 = .ok (.iload_n 3, 1) := by decide +kernel
theorem dJ7_fill_53178_7 : decode cJ7_fill_53178 7 = .ok (.if_icmp .ge 13, 3) := by decide +kernel
theorem dJ7_fill_53178_10 : decode cJ7_fill_53178 10 = .ok (.aload_n 0, 1) := by decide +kernel
theorem dJ7_fill_53178_11 : decode cJ7_fill_53178 11 = .ok (.iload_n 2, 1) := by decide +kernel
theorem dJ7_fill_53178_12 : decode cJ7_fill_53178 12 = .ok (.iload_n 1, 1) := by decide +kernel
theorem dJ7_fill_53178_13 : decode cJ7_fill_53178 13 = .ok (.iastore, 1) := by decide +kernel
theorem dJ7_fill_53178_14 : decode cJ7_fill_53178 14 = .ok (.iinc 2 1, 3) := by decide +kernel
theorem dJ7_fill_53178_17 : decode cJ7_fill_53178 17 = .ok (.goto (-12), 3) := by decide +kernel
theorem dJ7_fill_53178_20 : decode cJ7_fill_53178 20 = .ok (.return_, 1) := by decide +kernel
set_option maxRecDepth 20000 in
theorem ggL_law_X4_init : GoodIn wsL_law wsX4_init := goodIn_2 wsL_cs_in _ [(0, 8), (0, 9), (0, 10), (0, 11), (0, 12), (0, 13), (0, 14), (0, 15), (0, 16), (0, 17), (0, 18), (0, 19), (0, 20), (0, 21), (0, 22), (0, 23), (1, 0), (1, 1), (1, 2), (1, 3), (1, 4), (1, 5), (1, 6), (1, 7), (1, 8), (1, 9), (1, 10), (1, 11), (1, 12), (1, 13), (1, 14), (1, 15), (1, 16), (1, 17), (1, 18), (1, 19), (1, 20), (1, 21), (1, 22), (1, 23), (2, 0), (2, 1), (2, 2), (2, 3), (2, 4), (2, 5), (2, 6), (2, 7), (2, 8), (2, 9), (2, 10), (2, 11), (2, 12), (2, 13), (2, 14), (2, 15), (2, 16), (2, 17), (2, 18), (2, 19), (2, 20), (2, 21), (2, 22), (2, 23), (3, 0), (3, 1), (3, 2), (3, 3), (3, 4), (3, 5), (3, 6), (3, 7), (3, 8), (3, 9), (3, 10), (31, 0), (31, 1), (31, 2), (31, 3), (31, 4), (31, 5), (31, 6), (31, 7), (31, 8), (31, 9), (31, 10), (29, 0), (29, 1), (29, 2), (29, 3), (29, 4), (32, 0), (32, 1), (32, 2), (32, 3), (32, 4), (32, 5), (32, 6), (32, 7), (32, 8), (32, 9), (32, 10), (33, 0), (33, 1), (33, 2), (33, 3), (33, 4), (33, 5), (33, 6), (33, 7), (33, 8), (33, 9), (33, 10), (33, 11), (33, 12), (33, 13), (34, 0), (34, 1), (34, 2), (34, 3), (34, 4)] rfl (by decide +kernel)
set_option maxRecDepth 20000 in
theorem gL_law_X4_init : GoodIn wsL_law (wsX4_init) := ggL_law_X4_init
set_option maxRecDepth 20000 in
theorem ggL_law_X5_init : GoodIn wsL_law wsX5_init := goodIn_2 wsL_cs_in _ [(3, 13), (3, 14), (0, 10), (0, 11), (3, 15), (1, 9), (3, 16), (3, 17), (3, 18), (3, 19), (3, 20), (3, 21), (3, 22), (3, 23), (4, 0), (4, 1), (4, 2), (4, 3), (4, 4), (4, 5), (4, 6), (4, 7), (4, 8), (2, 9), (4, 9), (4, 10), (4, 11), (4, 12), (4, 13), (4, 14), (4, 15), (30, 0), (30, 1), (30, 2), (30, 3), (30, 4), (30, 5), (30, 6), (30, 7), (30, 8), (30, 9), (30, 10), (30, 11), (30, 12), (30, 13), (30, 14), (30, 15), (30, 16), (30, 17), (30, 18), (30, 19), (30, 20), (30, 21), (30, 22), (30, 23), (30, 24), (30, 25), (30, 26), (30, 27), (30, 28), (30, 29), (30, 30), (30, 31), (30, 32)] rfl (by decide +kernel)
set_option maxRecDepth 20000 in
theorem gL_law_X5_init : GoodIn wsL_law (wsX5_init) := ggL_law_X5_init
set_option maxRecDepth 20000 in
theorem ggL_law_X4_mirror : GoodIn wsL_law wsX4_mirror := goodIn_2 wsL_cs_in _ [(4, 19), (0, 15), (4, 20), (4, 21), (0, 2), (4, 22), (4, 23), (5, 0), (5, 1), (5, 2), (1, 4), (5, 3), (5, 4), (5, 5), (0, 14), (5, 6), (1, 10), (5, 7), (5, 8), (5, 9), (5, 10), (5, 11), (5, 12), (5, 13), (5, 14), (5, 15), (1, 11), (1, 12), (1, 13), (5, 16), (5, 17), (5, 18), (5, 19), (5, 20), (5, 21), (5, 22), (5, 23), (29, 0), (29, 1), (29, 2), (29, 3), (29, 4), (31, 0), (31, 1), (31, 2), (31, 3), (31, 4), (31, 5), (31, 6), (31, 7), (31, 8), (31, 9), (31, 10)] rfl (by decide +kernel)
set_option maxRecDepth 20000 in
theorem gL_law_X4_mirror : GoodIn wsL_law (wsV RL 13 RX4 yX4_mirror wsX4_mirror) := goodIn_app (goodIn_2 wsL_cs_in [.methodLink RL 13 yX4_mirror, .instanceMethod yX4_mirror, .selects RX4 yX4_mirror yX4_mirror, .initialized RX4] [(4, 16), (4, 17), (4, 18), (0, 2)] rfl (by decide +kernel)) ggL_law_X4_mirror
set_option maxRecDepth 20000 in
theorem ggL_law_X5_mirror : GoodIn wsL_law wsX5_mirror := goodIn_2 wsL_cs_in _ [(6, 3), (6, 4), (6, 5), (3, 16), (3, 17), (6, 6), (6, 7), (0, 5), (6, 8), (6, 9), (6, 10), (6, 11), (6, 12), (6, 13), (6, 14), (6, 15), (6, 16), (6, 17), (30, 0), (30, 1), (30, 2), (30, 3), (30, 4), (30, 5), (30, 6), (30, 7), (30, 8), (30, 9), (30, 10), (30, 11), (30, 12), (30, 13), (30, 14), (30, 15), (30, 16), (30, 17), (30, 18), (30, 19), (30, 20), (30, 21), (30, 22), (30, 23), (30, 24), (30, 25), (30, 26), (30, 27), (30, 28), (30, 29), (30, 30), (30, 31), (30, 32)] rfl (by decide +kernel)
set_option maxRecDepth 20000 in
theorem gL_law_X5_mirror : GoodIn wsL_law (wsV RL 17 RX5 yX5_mirror wsX5_mirror) := goodIn_app (goodIn_2 wsL_cs_in [.methodLink RL 17 yX5_mirror, .instanceMethod yX5_mirror, .selects RX5 yX5_mirror yX5_mirror, .initialized RX5] [(6, 0), (6, 1), (6, 2), (0, 5)] rfl (by decide +kernel)) ggL_law_X5_mirror
set_option maxRecDepth 20000 in
theorem ggL_law_X4_sun : GoodIn wsL_law wsX4_sun := goodIn_2 wsL_cs_in _ [(6, 21), (0, 15), (4, 20), (4, 21), (0, 2), (4, 22), (6, 22), (6, 23), (7, 0), (7, 1), (7, 2), (7, 3), (7, 4), (1, 4), (7, 5), (7, 6), (7, 7), (0, 14), (7, 8), (1, 15), (1, 16), (1, 17), (7, 9), (7, 10), (7, 11), (7, 12), (29, 0), (29, 1), (29, 2), (29, 3), (29, 4), (31, 0), (31, 1), (31, 2), (31, 3), (31, 4), (31, 5), (31, 6), (31, 7), (31, 8), (31, 9), (31, 10)] rfl (by decide +kernel)
set_option maxRecDepth 20000 in
theorem gL_law_X4_sun : GoodIn wsL_law (wsV RL 18 RX4 yX4_sun wsX4_sun) := goodIn_app (goodIn_2 wsL_cs_in [.methodLink RL 18 yX4_sun, .instanceMethod yX4_sun, .selects RX4 yX4_sun yX4_sun, .initialized RX4] [(6, 18), (6, 19), (6, 20), (0, 2)] rfl (by decide +kernel)) ggL_law_X4_sun
set_option maxRecDepth 20000 in
theorem ggL_law_X5_sun : GoodIn wsL_law wsX5_sun := goodIn_2 wsL_cs_in _ [(7, 16), (6, 4), (3, 20), (3, 21), (3, 22), (7, 17), (7, 18), (0, 5), (7, 19), (6, 6), (6, 7), (6, 8), (7, 20), (7, 21), (7, 22), (7, 23), (6, 13), (8, 0), (8, 1), (8, 2), (8, 3), (30, 0), (30, 1), (30, 2), (30, 3), (30, 4), (30, 5), (30, 6), (30, 7), (30, 8), (30, 9), (30, 10), (30, 11), (30, 12), (30, 13), (30, 14), (30, 15), (30, 16), (30, 17), (30, 18), (30, 19), (30, 20), (30, 21), (30, 22), (30, 23), (30, 24), (30, 25), (30, 26), (30, 27), (30, 28), (30, 29), (30, 30), (30, 31), (30, 32)] rfl (by decide +kernel)
set_option maxRecDepth 20000 in
theorem gL_law_X5_sun : GoodIn wsL_law (wsV RL 22 RX5 yX5_sun wsX5_sun) := goodIn_app (goodIn_2 wsL_cs_in [.methodLink RL 22 yX5_sun, .instanceMethod yX5_sun, .selects RX5 yX5_sun yX5_sun, .initialized RX5] [(7, 13), (7, 14), (7, 15), (0, 5)] rfl (by decide +kernel)) ggL_law_X5_sun
set_option maxRecDepth 20000 in
theorem ggL_law_X4_limit : GoodIn wsL_law wsX4_limit := goodIn_2 wsL_cs_in _ [(8, 7), (0, 19), (8, 8), (8, 9), (0, 2), (8, 10), (4, 20), (4, 21), (4, 22), (7, 1), (7, 2), (7, 3), (7, 4), (1, 4), (8, 11), (8, 12), (8, 13), (0, 18), (8, 14), (2, 1), (7, 9), (7, 10), (7, 11), (7, 12), (29, 0), (29, 1), (29, 2), (29, 3), (29, 4), (32, 0), (32, 1), (32, 2), (32, 3), (32, 4), (32, 5), (32, 6), (32, 7), (32, 8), (32, 9), (32, 10)] rfl (by decide +kernel)
set_option maxRecDepth 20000 in
theorem gL_law_X4_limit : GoodIn wsL_law (wsV RL 23 RX4 yX4_limit wsX4_limit) := goodIn_app (goodIn_2 wsL_cs_in [.methodLink RL 23 yX4_limit, .instanceMethod yX4_limit, .selects RX4 yX4_limit yX4_limit, .initialized RX4] [(8, 4), (8, 5), (8, 6), (0, 2)] rfl (by decide +kernel)) ggL_law_X4_limit
set_option maxRecDepth 20000 in
theorem ggL_law_X5_limit : GoodIn wsL_law wsX5_limit := goodIn_2 wsL_cs_in _ [(8, 18), (6, 4), (3, 19), (6, 6), (6, 7), (0, 5), (6, 8), (7, 20), (7, 21), (7, 22), (7, 23), (6, 13), (8, 0), (8, 1), (8, 2), (8, 3), (30, 0), (30, 1), (30, 2), (30, 3), (30, 4), (30, 5), (30, 6), (30, 7), (30, 8), (30, 9), (30, 10), (30, 11), (30, 12), (30, 13), (30, 14), (30, 15), (30, 16), (30, 17), (30, 18), (30, 19), (30, 20), (30, 21), (30, 22), (30, 23), (30, 24), (30, 25), (30, 26), (30, 27), (30, 28), (30, 29), (30, 30), (30, 31), (30, 32)] rfl (by decide +kernel)
set_option maxRecDepth 20000 in
theorem gL_law_X5_limit : GoodIn wsL_law (wsV RL 27 RX5 yX5_limit wsX5_limit) := goodIn_app (goodIn_2 wsL_cs_in [.methodLink RL 27 yX5_limit, .instanceMethod yX5_limit, .selects RX5 yX5_limit yX5_limit, .initialized RX5] [(8, 15), (8, 16), (8, 17), (0, 5)] rfl (by decide +kernel)) ggL_law_X5_limit
set_option maxRecDepth 20000 in
theorem ggL_law_X4_wind : GoodIn wsL_law wsX4_wind := goodIn_2 wsL_cs_in _ [(8, 22), (0, 15), (6, 22), (6, 23), (0, 2), (7, 0), (4, 20), (4, 21), (4, 22), (7, 1), (7, 2), (7, 3), (7, 4), (1, 4), (8, 23), (9, 0), (9, 1), (0, 14), (9, 2), (1, 18), (7, 9), (7, 10), (7, 11), (7, 12), (29, 0), (29, 1), (29, 2), (29, 3), (29, 4), (31, 0), (31, 1), (31, 2), (31, 3), (31, 4), (31, 5), (31, 6), (31, 7), (31, 8), (31, 9), (31, 10)] rfl (by decide +kernel)
set_option maxRecDepth 20000 in
theorem gL_law_X4_wind : GoodIn wsL_law (wsV RL 28 RX4 yX4_wind wsX4_wind) := goodIn_app (goodIn_2 wsL_cs_in [.methodLink RL 28 yX4_wind, .instanceMethod yX4_wind, .selects RX4 yX4_wind yX4_wind, .initialized RX4] [(8, 19), (8, 20), (8, 21), (0, 2)] rfl (by decide +kernel)) ggL_law_X4_wind
set_option maxRecDepth 20000 in
theorem ggL_law_X5_wind : GoodIn wsL_law wsX5_wind := goodIn_2 wsL_cs_in _ [(9, 6), (6, 4), (3, 23), (7, 17), (7, 18), (0, 5), (7, 19), (6, 6), (6, 7), (6, 8), (7, 20), (7, 21), (7, 22), (7, 23), (6, 13), (8, 0), (8, 1), (8, 2), (8, 3), (30, 0), (30, 1), (30, 2), (30, 3), (30, 4), (30, 5), (30, 6), (30, 7), (30, 8), (30, 9), (30, 10), (30, 11), (30, 12), (30, 13), (30, 14), (30, 15), (30, 16), (30, 17), (30, 18), (30, 19), (30, 20), (30, 21), (30, 22), (30, 23), (30, 24), (30, 25), (30, 26), (30, 27), (30, 28), (30, 29), (30, 30), (30, 31), (30, 32)] rfl (by decide +kernel)
set_option maxRecDepth 20000 in
theorem gL_law_X5_wind : GoodIn wsL_law (wsV RL 31 RX5 yX5_wind wsX5_wind) := goodIn_app (goodIn_2 wsL_cs_in [.methodLink RL 31 yX5_wind, .instanceMethod yX5_wind, .selects RX5 yX5_wind yX5_wind, .initialized RX5] [(9, 3), (9, 4), (9, 5), (0, 5)] rfl (by decide +kernel)) ggL_law_X5_wind
set_option maxRecDepth 20000 in
theorem ggL_law_X4_price : GoodIn wsL_law wsX4_price := goodIn_2 wsL_cs_in _ [(9, 10), (0, 23), (6, 22), (6, 23), (0, 2), (7, 0), (4, 20), (4, 21), (4, 22), (7, 1), (7, 2), (7, 3), (7, 4), (1, 4), (9, 11), (9, 12), (9, 13), (0, 22), (9, 14), (2, 21), (7, 9), (7, 10), (7, 11), (7, 12), (29, 0), (29, 1), (29, 2), (29, 3), (29, 4), (33, 0), (33, 1), (33, 2), (33, 3), (33, 4), (33, 5), (33, 6), (33, 7), (33, 8), (33, 9), (33, 10), (33, 11), (33, 12), (33, 13)] rfl (by decide +kernel)
set_option maxRecDepth 20000 in
theorem gL_law_X4_price : GoodIn wsL_law (wsV RL 32 RX4 yX4_price wsX4_price) := goodIn_app (goodIn_2 wsL_cs_in [.methodLink RL 32 yX4_price, .instanceMethod yX4_price, .selects RX4 yX4_price yX4_price, .initialized RX4] [(9, 7), (9, 8), (9, 9), (0, 2)] rfl (by decide +kernel)) ggL_law_X4_price
set_option maxRecDepth 20000 in
theorem ggL_law_X5_price : GoodIn wsL_law wsX5_price := goodIn_2 wsL_cs_in _ [(9, 18), (6, 4), (4, 0), (7, 17), (7, 18), (0, 5), (7, 19), (6, 6), (6, 7), (6, 8), (7, 20), (7, 21), (7, 22), (7, 23), (6, 13), (8, 0), (8, 1), (8, 2), (8, 3), (30, 0), (30, 1), (30, 2), (30, 3), (30, 4), (30, 5), (30, 6), (30, 7), (30, 8), (30, 9), (30, 10), (30, 11), (30, 12), (30, 13), (30, 14), (30, 15), (30, 16), (30, 17), (30, 18), (30, 19), (30, 20), (30, 21), (30, 22), (30, 23), (30, 24), (30, 25), (30, 26), (30, 27), (30, 28), (30, 29), (30, 30), (30, 31), (30, 32)] rfl (by decide +kernel)
set_option maxRecDepth 20000 in
theorem gL_law_X5_price : GoodIn wsL_law (wsV RL 35 RX5 yX5_price wsX5_price) := goodIn_app (goodIn_2 wsL_cs_in [.methodLink RL 35 yX5_price, .instanceMethod yX5_price, .selects RX5 yX5_price yX5_price, .initialized RX5] [(9, 15), (9, 16), (9, 17), (0, 5)] rfl (by decide +kernel)) ggL_law_X5_price
set_option maxRecDepth 20000 in
theorem ggL_law_X4_dust : GoodIn wsL_law wsX4_dust := goodIn_2 wsL_cs_in _ [(9, 22), (0, 15), (4, 20), (4, 21), (0, 2), (4, 22), (7, 1), (7, 2), (7, 3), (7, 4), (1, 4), (9, 23), (10, 0), (10, 1), (0, 14), (10, 2), (1, 19), (7, 9), (7, 10), (7, 11), (7, 12), (29, 0), (29, 1), (29, 2), (29, 3), (29, 4), (31, 0), (31, 1), (31, 2), (31, 3), (31, 4), (31, 5), (31, 6), (31, 7), (31, 8), (31, 9), (31, 10)] rfl (by decide +kernel)
set_option maxRecDepth 20000 in
theorem gL_law_X4_dust : GoodIn wsL_law (wsV RL 36 RX4 yX4_dust wsX4_dust) := goodIn_app (goodIn_2 wsL_cs_in [.methodLink RL 36 yX4_dust, .instanceMethod yX4_dust, .selects RX4 yX4_dust yX4_dust, .initialized RX4] [(9, 19), (9, 20), (9, 21), (0, 2)] rfl (by decide +kernel)) ggL_law_X4_dust
set_option maxRecDepth 20000 in
theorem ggL_law_X5_dust : GoodIn wsL_law wsX5_dust := goodIn_2 wsL_cs_in _ [(10, 6), (6, 4), (3, 15), (6, 6), (6, 7), (0, 5), (6, 8), (7, 20), (7, 21), (7, 22), (7, 23), (6, 13), (8, 0), (8, 1), (8, 2), (8, 3), (30, 0), (30, 1), (30, 2), (30, 3), (30, 4), (30, 5), (30, 6), (30, 7), (30, 8), (30, 9), (30, 10), (30, 11), (30, 12), (30, 13), (30, 14), (30, 15), (30, 16), (30, 17), (30, 18), (30, 19), (30, 20), (30, 21), (30, 22), (30, 23), (30, 24), (30, 25), (30, 26), (30, 27), (30, 28), (30, 29), (30, 30), (30, 31), (30, 32)] rfl (by decide +kernel)
set_option maxRecDepth 20000 in
theorem gL_law_X5_dust : GoodIn wsL_law (wsV RL 40 RX5 yX5_dust wsX5_dust) := goodIn_app (goodIn_2 wsL_cs_in [.methodLink RL 40 yX5_dust, .instanceMethod yX5_dust, .selects RX5 yX5_dust yX5_dust, .initialized RX5] [(10, 3), (10, 4), (10, 5), (0, 5)] rfl (by decide +kernel)) ggL_law_X5_dust
set_option maxRecDepth 20000 in
theorem ggL_law_X4_shaded : GoodIn wsL_law wsX4_shaded := goodIn_2 wsL_cs_in _ [(10, 10), (0, 15), (10, 11), (10, 12), (10, 13), (0, 2), (10, 14), (5, 7), (5, 8), (5, 9), (0, 14), (5, 10), (5, 11), (4, 20), (4, 21), (4, 22), (6, 22), (6, 23), (7, 0), (10, 15), (10, 16), (10, 17), (10, 18), (1, 13), (10, 19), (10, 20), (10, 21), (10, 22), (1, 17), (1, 11), (1, 12), (1, 15), (1, 16), (1, 10), (29, 0), (29, 1), (29, 2), (29, 3), (29, 4), (31, 0), (31, 1), (31, 2), (31, 3), (31, 4), (31, 5), (31, 6), (31, 7), (31, 8), (31, 9), (31, 10)] rfl (by decide +kernel)
set_option maxRecDepth 20000 in
theorem gL_law_X4_shaded : GoodIn wsL_law (wsV RL 41 RX4 yX4_shaded wsX4_shaded) := goodIn_app (goodIn_2 wsL_cs_in [.methodLink RL 41 yX4_shaded, .instanceMethod yX4_shaded, .selects RX4 yX4_shaded yX4_shaded, .initialized RX4] [(10, 7), (10, 8), (10, 9), (0, 2)] rfl (by decide +kernel)) ggL_law_X4_shaded
set_option maxRecDepth 20000 in
theorem ggL_law_X5_shaded : GoodIn wsL_law wsX5_shaded := goodIn_2 wsL_cs_in _ [(11, 2), (6, 4), (11, 3), (11, 4), (11, 5), (0, 5), (11, 6), (6, 5), (7, 17), (7, 18), (7, 19), (11, 7), (11, 8), (11, 9), (11, 10), (3, 16), (3, 17), (11, 11), (11, 12), (11, 13), (11, 14), (3, 22), (3, 20), (3, 21), (30, 0), (30, 1), (30, 2), (30, 3), (30, 4), (30, 5), (30, 6), (30, 7), (30, 8), (30, 9), (30, 10), (30, 11), (30, 12), (30, 13), (30, 14), (30, 15), (30, 16), (30, 17), (30, 18), (30, 19), (30, 20), (30, 21), (30, 22), (30, 23), (30, 24), (30, 25), (30, 26), (30, 27), (30, 28), (30, 29), (30, 30), (30, 31), (30, 32)] rfl (by decide +kernel)
set_option maxRecDepth 20000 in
theorem gL_law_X5_shaded : GoodIn wsL_law (wsV RL 45 RX5 yX5_shaded wsX5_shaded) := goodIn_app (goodIn_2 wsL_cs_in [.methodLink RL 45 yX5_shaded, .instanceMethod yX5_shaded, .selects RX5 yX5_shaded yX5_shaded, .initialized RX5] [(10, 23), (11, 0), (11, 1), (0, 5)] rfl (by decide +kernel)) ggL_law_X5_shaded
set_option maxRecDepth 20000 in
theorem ggL_law_X4_power : GoodIn wsL_law wsX4_power := goodIn_2 wsL_cs_in _ [(11, 18), (0, 15), (10, 11), (10, 12), (10, 13), (0, 2), (10, 14), (5, 7), (5, 8), (5, 9), (0, 14), (5, 10), (5, 11), (4, 20), (4, 21), (4, 22), (6, 22), (6, 23), (7, 0), (11, 19), (11, 20), (11, 21), (11, 22), (1, 17), (11, 23), (12, 0), (12, 1), (12, 2), (1, 13), (12, 3), (12, 4), (12, 5), (12, 6), (1, 18), (12, 7), (12, 8), (12, 9), (12, 10), (1, 14), (1, 19), (12, 11), (12, 12), (12, 13), (12, 14), (10, 20), (10, 21), (10, 22), (1, 11), (1, 12), (1, 15), (1, 16), (1, 10), (29, 0), (29, 1), (29, 2), (29, 3), (29, 4), (31, 0), (31, 1), (31, 2), (31, 3), (31, 4), (31, 5), (31, 6), (31, 7), (31, 8), (31, 9), (31, 10)] rfl (by decide +kernel)
set_option maxRecDepth 20000 in
theorem gL_law_X4_power : GoodIn wsL_law (wsV RL 46 RX4 yX4_power wsX4_power) := goodIn_app (goodIn_2 wsL_cs_in [.methodLink RL 46 yX4_power, .instanceMethod yX4_power, .selects RX4 yX4_power yX4_power, .initialized RX4] [(11, 15), (11, 16), (11, 17), (0, 2)] rfl (by decide +kernel)) ggL_law_X4_power
set_option maxRecDepth 20000 in
theorem ggL_law_X5_power : GoodIn wsL_law wsX5_power := goodIn_2 wsL_cs_in _ [(12, 18), (6, 4), (11, 3), (11, 4), (11, 5), (0, 5), (11, 6), (6, 5), (7, 17), (7, 18), (7, 19), (12, 19), (12, 20), (12, 21), (12, 22), (3, 22), (3, 18), (12, 23), (12, 12), (12, 1), (12, 13), (13, 0), (12, 0), (12, 2), (13, 1), (13, 2), (13, 3), (13, 4), (3, 23), (11, 11), (11, 12), (11, 13), (11, 14), (3, 16), (3, 20), (3, 17), (3, 21), (11, 7), (11, 8), (11, 9), (11, 10), (30, 0), (30, 1), (30, 2), (30, 3), (30, 4), (30, 5), (30, 6), (30, 7), (30, 8), (30, 9), (30, 10), (30, 11), (30, 12), (30, 13), (30, 14), (30, 15), (30, 16), (30, 17), (30, 18), (30, 19), (30, 20), (30, 21), (30, 22), (30, 23), (30, 24), (30, 25), (30, 26), (30, 27), (30, 28), (30, 29), (30, 30), (30, 31), (30, 32)] rfl (by decide +kernel)
set_option maxRecDepth 20000 in
theorem gL_law_X5_power : GoodIn wsL_law (wsV RL 49 RX5 yX5_power wsX5_power) := goodIn_app (goodIn_2 wsL_cs_in [.methodLink RL 49 yX5_power, .instanceMethod yX5_power, .selects RX5 yX5_power yX5_power, .initialized RX5] [(12, 15), (12, 16), (12, 17), (0, 5)] rfl (by decide +kernel)) ggL_law_X5_power
set_option maxRecDepth 20000 in
theorem ggL_law_X4_stowed : GoodIn wsL_law wsX4_stowed := goodIn_2 wsL_cs_in _ [(13, 8), (0, 15), (6, 22), (6, 23), (0, 2), (7, 0), (4, 20), (4, 21), (4, 22), (13, 9), (12, 4), (12, 5), (0, 14), (12, 6), (1, 18), (29, 0), (29, 1), (29, 2), (29, 3), (29, 4), (31, 0), (31, 1), (31, 2), (31, 3), (31, 4), (31, 5), (31, 6), (31, 7), (31, 8), (31, 9), (31, 10)] rfl (by decide +kernel)
set_option maxRecDepth 20000 in
theorem gL_law_X4_stowed : GoodIn wsL_law (wsV RL 50 RX4 yX4_stowed wsX4_stowed) := goodIn_app (goodIn_2 wsL_cs_in [.methodLink RL 50 yX4_stowed, .instanceMethod yX4_stowed, .selects RX4 yX4_stowed yX4_stowed, .initialized RX4] [(13, 5), (13, 6), (13, 7), (0, 2)] rfl (by decide +kernel)) ggL_law_X4_stowed
set_option maxRecDepth 20000 in
theorem ggL_law_X5_stowed : GoodIn wsL_law wsX5_stowed := goodIn_2 wsL_cs_in _ [(13, 13), (6, 4), (7, 17), (7, 18), (0, 5), (7, 19), (13, 1), (13, 2), (13, 3), (13, 4), (3, 23), (30, 0), (30, 1), (30, 2), (30, 3), (30, 4), (30, 5), (30, 6), (30, 7), (30, 8), (30, 9), (30, 10), (30, 11), (30, 12), (30, 13), (30, 14), (30, 15), (30, 16), (30, 17), (30, 18), (30, 19), (30, 20), (30, 21), (30, 22), (30, 23), (30, 24), (30, 25), (30, 26), (30, 27), (30, 28), (30, 29), (30, 30), (30, 31), (30, 32)] rfl (by decide +kernel)
set_option maxRecDepth 20000 in
theorem gL_law_X5_stowed : GoodIn wsL_law (wsV RL 54 RX5 yX5_stowed wsX5_stowed) := goodIn_app (goodIn_2 wsL_cs_in [.methodLink RL 54 yX5_stowed, .instanceMethod yX5_stowed, .selects RX5 yX5_stowed yX5_stowed, .initialized RX5] [(13, 10), (13, 11), (13, 12), (0, 5)] rfl (by decide +kernel)) ggL_law_X5_stowed
set_option maxRecDepth 20000 in
theorem ggL_law_X4_soil : GoodIn wsL_law wsX4_soil := goodIn_2 wsL_cs_in _ [(13, 17), (0, 15), (10, 11), (10, 12), (10, 13), (0, 2), (10, 14), (5, 7), (5, 8), (5, 9), (0, 14), (5, 10), (5, 11), (4, 20), (4, 21), (4, 22), (13, 18), (12, 8), (12, 9), (12, 10), (1, 14), (1, 19), (12, 11), (12, 12), (12, 1), (12, 13), (29, 0), (29, 1), (29, 2), (29, 3), (29, 4), (31, 0), (31, 1), (31, 2), (31, 3), (31, 4), (31, 5), (31, 6), (31, 7), (31, 8), (31, 9), (31, 10)] rfl (by decide +kernel)
set_option maxRecDepth 20000 in
theorem gL_law_X4_soil : GoodIn wsL_law (wsV RL 55 RX4 yX4_soil wsX4_soil) := goodIn_app (goodIn_2 wsL_cs_in [.methodLink RL 55 yX4_soil, .instanceMethod yX4_soil, .selects RX4 yX4_soil yX4_soil, .initialized RX4] [(13, 14), (13, 15), (13, 16), (0, 2)] rfl (by decide +kernel)) ggL_law_X4_soil
set_option maxRecDepth 20000 in
theorem ggL_law_X5_soil : GoodIn wsL_law wsX5_soil := goodIn_2 wsL_cs_in _ [(13, 22), (6, 4), (3, 18), (11, 3), (11, 4), (11, 5), (0, 5), (11, 6), (6, 5), (30, 0), (30, 1), (30, 2), (30, 3), (30, 4), (30, 5), (30, 6), (30, 7), (30, 8), (30, 9), (30, 10), (30, 11), (30, 12), (30, 13), (30, 14), (30, 15), (30, 16), (30, 17), (30, 18), (30, 19), (30, 20), (30, 21), (30, 22), (30, 23), (30, 24), (30, 25), (30, 26), (30, 27), (30, 28), (30, 29), (30, 30), (30, 31), (30, 32)] rfl (by decide +kernel)
set_option maxRecDepth 20000 in
theorem gL_law_X5_soil : GoodIn wsL_law (wsV RL 58 RX5 yX5_soil wsX5_soil) := goodIn_app (goodIn_2 wsL_cs_in [.methodLink RL 58 yX5_soil, .instanceMethod yX5_soil, .selects RX5 yX5_soil yX5_soil, .initialized RX5] [(13, 19), (13, 20), (13, 21), (0, 5)] rfl (by decide +kernel)) ggL_law_X5_soil
set_option maxRecDepth 20000 in
theorem ggL_law_X4_wash : GoodIn wsL_law wsX4_wash := goodIn_2 wsL_cs_in _ [(14, 2), (0, 15), (4, 20), (4, 21), (0, 2), (4, 22), (4, 23), (5, 0), (5, 1), (5, 2), (1, 4), (14, 3), (14, 4), (14, 5), (0, 14), (14, 6), (5, 11), (12, 11), (12, 12), (12, 1), (12, 13), (1, 14), (14, 7), (14, 8), (14, 9), (14, 10), (5, 20), (5, 21), (5, 22), (5, 23), (29, 0), (29, 1), (29, 2), (29, 3), (29, 4), (31, 0), (31, 1), (31, 2), (31, 3), (31, 4), (31, 5), (31, 6), (31, 7), (31, 8), (31, 9), (31, 10)] rfl (by decide +kernel)
set_option maxRecDepth 20000 in
theorem gL_law_X4_wash : GoodIn wsL_law (wsV RL 59 RX4 yX4_wash wsX4_wash) := goodIn_app (goodIn_2 wsL_cs_in [.methodLink RL 59 yX4_wash, .instanceMethod yX4_wash, .selects RX4 yX4_wash yX4_wash, .initialized RX4] [(13, 23), (14, 0), (14, 1), (0, 2)] rfl (by decide +kernel)) ggL_law_X4_wash
set_option maxRecDepth 20000 in
theorem ggL_law_X5_wash : GoodIn wsL_law wsX5_wash := goodIn_2 wsL_cs_in _ [(14, 14), (6, 4), (6, 5), (3, 18), (6, 6), (6, 7), (0, 5), (6, 8), (6, 9), (6, 10), (6, 11), (6, 12), (6, 13), (6, 14), (6, 15), (6, 16), (6, 17), (30, 0), (30, 1), (30, 2), (30, 3), (30, 4), (30, 5), (30, 6), (30, 7), (30, 8), (30, 9), (30, 10), (30, 11), (30, 12), (30, 13), (30, 14), (30, 15), (30, 16), (30, 17), (30, 18), (30, 19), (30, 20), (30, 21), (30, 22), (30, 23), (30, 24), (30, 25), (30, 26), (30, 27), (30, 28), (30, 29), (30, 30), (30, 31), (30, 32)] rfl (by decide +kernel)
set_option maxRecDepth 20000 in
theorem gL_law_X5_wash : GoodIn wsL_law (wsV RL 62 RX5 yX5_wash wsX5_wash) := goodIn_app (goodIn_2 wsL_cs_in [.methodLink RL 62 yX5_wash, .instanceMethod yX5_wash, .selects RX5 yX5_wash yX5_wash, .initialized RX5] [(14, 11), (14, 12), (14, 13), (0, 5)] rfl (by decide +kernel)) ggL_law_X5_wash
set_option maxRecDepth 20000 in
theorem ggL_law_X4_aim : GoodIn wsL_law wsX4_aim := goodIn_2 wsL_cs_in _ [(14, 18), (0, 19), (6, 22), (6, 23), (0, 2), (7, 0), (4, 20), (4, 21), (4, 22), (4, 23), (5, 0), (5, 1), (5, 2), (1, 4), (14, 19), (14, 20), (14, 21), (0, 18), (14, 22), (2, 0), (14, 23), (2, 4), (2, 6), (15, 0), (15, 1), (15, 2), (15, 3), (2, 7), (2, 1), (2, 5), (15, 4), (15, 5), (15, 6), (15, 7), (2, 2), (2, 3), (15, 8), (15, 9), (15, 10), (15, 11), (15, 12), (5, 8), (5, 9), (0, 14), (5, 10), (5, 11), (15, 13), (11, 20), (11, 21), (11, 22), (1, 17), (11, 23), (12, 0), (12, 1), (12, 2), (1, 13), (12, 3), (12, 4), (12, 5), (12, 6), (1, 18), (12, 7), (12, 8), (12, 9), (12, 10), (1, 14), (1, 19), (12, 11), (12, 12), (12, 13), (12, 14), (10, 20), (10, 21), (10, 22), (1, 11), (1, 12), (1, 15), (1, 16), (1, 10), (15, 14), (15, 15), (15, 16), (15, 17), (15, 18), (15, 19), (15, 20), (15, 21), (5, 20), (5, 21), (5, 22), (5, 23), (29, 0), (29, 1), (29, 2), (29, 3), (29, 4), (32, 0), (32, 1), (32, 2), (32, 3), (32, 4), (32, 5), (32, 6), (32, 7), (32, 8), (32, 9), (32, 10), (31, 0), (31, 1), (31, 2), (31, 3), (31, 4), (31, 5), (31, 6), (31, 7), (31, 8), (31, 9), (31, 10)] rfl (by decide +kernel)
set_option maxRecDepth 20000 in
theorem gL_law_X4_aim : GoodIn wsL_law (wsV RL 63 RX4 yX4_aim wsX4_aim) := goodIn_app (goodIn_2 wsL_cs_in [.methodLink RL 63 yX4_aim, .instanceMethod yX4_aim, .selects RX4 yX4_aim yX4_aim, .initialized RX4] [(14, 15), (14, 16), (14, 17), (0, 2)] rfl (by decide +kernel)) ggL_law_X4_aim
set_option maxRecDepth 20000 in
theorem ggL_law_X5_aim : GoodIn wsL_law wsX5_aim := goodIn_2 wsL_cs_in _ [(16, 1), (6, 4), (6, 5), (4, 7), (4, 4), (4, 5), (4, 6), (3, 19), (4, 3), (7, 17), (7, 18), (0, 5), (7, 19), (6, 9), (6, 10), (6, 11), (6, 12), (6, 13), (16, 2), (16, 3), (16, 4), (16, 5), (4, 1), (4, 2), (16, 6), (16, 7), (16, 8), (16, 9), (12, 19), (12, 20), (12, 21), (12, 22), (3, 22), (3, 18), (12, 23), (12, 12), (12, 1), (12, 13), (13, 0), (12, 0), (12, 2), (13, 1), (13, 2), (13, 3), (13, 4), (3, 23), (11, 11), (11, 12), (11, 13), (11, 14), (3, 16), (3, 20), (3, 17), (3, 21), (11, 7), (11, 8), (11, 9), (11, 10), (6, 14), (6, 15), (6, 16), (6, 17), (30, 0), (30, 1), (30, 2), (30, 3), (30, 4), (30, 5), (30, 6), (30, 7), (30, 8), (30, 9), (30, 10), (30, 11), (30, 12), (30, 13), (30, 14), (30, 15), (30, 16), (30, 17), (30, 18), (30, 19), (30, 20), (30, 21), (30, 22), (30, 23), (30, 24), (30, 25), (30, 26), (30, 27), (30, 28), (30, 29), (30, 30), (30, 31), (30, 32)] rfl (by decide +kernel)
set_option maxRecDepth 20000 in
theorem gL_law_X5_aim : GoodIn wsL_law (wsV RL 66 RX5 yX5_aim wsX5_aim) := goodIn_app (goodIn_2 wsL_cs_in [.methodLink RL 66 yX5_aim, .instanceMethod yX5_aim, .selects RX5 yX5_aim yX5_aim, .initialized RX5] [(15, 22), (15, 23), (16, 0), (0, 5)] rfl (by decide +kernel)) ggL_law_X5_aim
set_option maxRecDepth 20000 in
theorem ggL_law_X4_aimed : GoodIn wsL_law wsX4_aimed := goodIn_2 wsL_cs_in _ [(16, 13), (0, 19), (10, 11), (10, 12), (10, 13), (0, 2), (10, 14), (0, 15), (5, 7), (5, 8), (5, 9), (0, 14), (5, 10), (5, 11), (4, 20), (4, 21), (4, 22), (16, 14), (16, 15), (16, 16), (0, 18), (16, 17), (14, 23), (2, 6), (29, 0), (29, 1), (29, 2), (29, 3), (29, 4), (31, 0), (31, 1), (31, 2), (31, 3), (31, 4), (31, 5), (31, 6), (31, 7), (31, 8), (31, 9), (31, 10), (32, 0), (32, 1), (32, 2), (32, 3), (32, 4), (32, 5), (32, 6), (32, 7), (32, 8), (32, 9), (32, 10)] rfl (by decide +kernel)
set_option maxRecDepth 20000 in
theorem gL_law_X4_aimed : GoodIn wsL_law (wsV RL 67 RX4 yX4_aimed wsX4_aimed) := goodIn_app (goodIn_2 wsL_cs_in [.methodLink RL 67 yX4_aimed, .instanceMethod yX4_aimed, .selects RX4 yX4_aimed yX4_aimed, .initialized RX4] [(16, 10), (16, 11), (16, 12), (0, 2)] rfl (by decide +kernel)) ggL_law_X4_aimed
set_option maxRecDepth 20000 in
theorem ggL_law_X5_aimed : GoodIn wsL_law wsX5_aimed := goodIn_2 wsL_cs_in _ [(16, 21), (6, 4), (4, 7), (4, 4), (30, 0), (30, 1), (30, 2), (30, 3), (30, 4), (30, 5), (30, 6), (30, 7), (30, 8), (30, 9), (30, 10), (30, 11), (30, 12), (30, 13), (30, 14), (30, 15), (30, 16), (30, 17), (30, 18), (30, 19), (30, 20), (30, 21), (30, 22), (30, 23), (30, 24), (30, 25), (30, 26), (30, 27), (30, 28), (30, 29), (30, 30), (30, 31), (30, 32)] rfl (by decide +kernel)
set_option maxRecDepth 20000 in
theorem gL_law_X5_aimed : GoodIn wsL_law (wsV RL 70 RX5 yX5_aimed wsX5_aimed) := goodIn_app (goodIn_2 wsL_cs_in [.methodLink RL 70 yX5_aimed, .instanceMethod yX5_aimed, .selects RX5 yX5_aimed yX5_aimed, .initialized RX5] [(16, 18), (16, 19), (16, 20), (0, 5)] rfl (by decide +kernel)) ggL_law_X5_aimed
set_option maxRecDepth 20000 in
theorem ggL_law_X4_face : GoodIn wsL_law wsX4_face := goodIn_2 wsL_cs_in _ [(17, 1), (0, 19), (8, 8), (8, 9), (0, 2), (8, 10), (4, 20), (4, 21), (4, 22), (17, 2), (17, 3), (17, 4), (0, 18), (17, 5), (2, 7), (29, 0), (29, 1), (29, 2), (29, 3), (29, 4), (32, 0), (32, 1), (32, 2), (32, 3), (32, 4), (32, 5), (32, 6), (32, 7), (32, 8), (32, 9), (32, 10)] rfl (by decide +kernel)
set_option maxRecDepth 20000 in
theorem gL_law_X4_face : GoodIn wsL_law (wsV RL 71 RX4 yX4_face wsX4_face) := goodIn_app (goodIn_2 wsL_cs_in [.methodLink RL 71 yX4_face, .instanceMethod yX4_face, .selects RX4 yX4_face yX4_face, .initialized RX4] [(16, 22), (16, 23), (17, 0), (0, 2)] rfl (by decide +kernel)) ggL_law_X4_face
set_option maxRecDepth 20000 in
theorem ggL_law_X5_face : GoodIn wsL_law wsX5_face := goodIn_2 wsL_cs_in _ [(17, 9), (6, 4), (4, 6), (6, 6), (6, 7), (0, 5), (6, 8), (30, 0), (30, 1), (30, 2), (30, 3), (30, 4), (30, 5), (30, 6), (30, 7), (30, 8), (30, 9), (30, 10), (30, 11), (30, 12), (30, 13), (30, 14), (30, 15), (30, 16), (30, 17), (30, 18), (30, 19), (30, 20), (30, 21), (30, 22), (30, 23), (30, 24), (30, 25), (30, 26), (30, 27), (30, 28), (30, 29), (30, 30), (30, 31), (30, 32)] rfl (by decide +kernel)
set_option maxRecDepth 20000 in
theorem gL_law_X5_face : GoodIn wsL_law (wsV RL 74 RX5 yX5_face wsX5_face) := goodIn_app (goodIn_2 wsL_cs_in [.methodLink RL 74 yX5_face, .instanceMethod yX5_face, .selects RX5 yX5_face yX5_face, .initialized RX5] [(17, 6), (17, 7), (17, 8), (0, 5)] rfl (by decide +kernel)) ggL_law_X5_face
set_option maxRecDepth 20000 in
theorem ggL_law_X4_best : GoodIn wsL_law wsX4_best := goodIn_2 wsL_cs_in _ [(17, 13), (0, 19), (6, 22), (6, 23), (0, 2), (7, 0), (4, 20), (4, 21), (4, 22), (4, 23), (5, 0), (5, 1), (5, 2), (1, 4), (17, 14), (17, 15), (17, 16), (0, 18), (17, 17), (2, 0), (17, 18), (12, 12), (12, 1), (12, 13), (2, 10), (2, 1), (2, 8), (17, 19), (12, 0), (12, 2), (15, 8), (15, 9), (15, 10), (15, 11), (2, 3), (15, 12), (5, 8), (5, 9), (0, 14), (5, 10), (5, 11), (15, 13), (11, 20), (11, 21), (11, 22), (1, 17), (11, 23), (1, 13), (12, 3), (12, 4), (12, 5), (12, 6), (1, 18), (12, 7), (12, 8), (12, 9), (12, 10), (1, 14), (1, 19), (12, 11), (12, 14), (10, 20), (10, 21), (10, 22), (1, 11), (1, 12), (1, 15), (1, 16), (1, 10), (15, 14), (15, 15), (15, 16), (15, 17), (2, 2), (17, 20), (17, 21), (17, 22), (17, 23), (18, 0), (18, 1), (18, 2), (18, 3), (5, 20), (5, 21), (5, 22), (5, 23), (29, 0), (29, 1), (29, 2), (29, 3), (29, 4), (32, 0), (32, 1), (32, 2), (32, 3), (32, 4), (32, 5), (32, 6), (32, 7), (32, 8), (32, 9), (32, 10), (31, 0), (31, 1), (31, 2), (31, 3), (31, 4), (31, 5), (31, 6), (31, 7), (31, 8), (31, 9), (31, 10)] rfl (by decide +kernel)
set_option maxRecDepth 20000 in
theorem gL_law_X4_best : GoodIn wsL_law (wsV RL 75 RX4 yX4_best wsX4_best) := goodIn_app (goodIn_2 wsL_cs_in [.methodLink RL 75 yX4_best, .instanceMethod yX4_best, .selects RX4 yX4_best yX4_best, .initialized RX4] [(17, 10), (17, 11), (17, 12), (0, 2)] rfl (by decide +kernel)) ggL_law_X4_best
set_option maxRecDepth 20000 in
theorem ggL_law_X5_best : GoodIn wsL_law wsX5_best := goodIn_2 wsL_cs_in _ [(18, 7), (6, 4), (4, 3), (3, 19), (18, 8), (7, 17), (7, 18), (0, 5), (7, 19), (6, 9), (6, 10), (6, 11), (6, 12), (6, 13), (16, 6), (16, 7), (16, 8), (16, 9), (6, 5), (4, 2), (4, 1), (12, 19), (12, 20), (12, 21), (12, 22), (3, 22), (3, 18), (12, 23), (12, 12), (12, 1), (12, 13), (13, 0), (12, 0), (12, 2), (13, 1), (13, 2), (13, 3), (13, 4), (3, 23), (11, 11), (11, 12), (11, 13), (11, 14), (3, 16), (3, 20), (3, 17), (3, 21), (11, 7), (11, 8), (11, 9), (11, 10), (18, 9), (18, 10), (18, 11), (18, 12), (6, 14), (6, 15), (6, 16), (6, 17), (30, 0), (30, 1), (30, 2), (30, 3), (30, 4), (30, 5), (30, 6), (30, 7), (30, 8), (30, 9), (30, 10), (30, 11), (30, 12), (30, 13), (30, 14), (30, 15), (30, 16), (30, 17), (30, 18), (30, 19), (30, 20), (30, 21), (30, 22), (30, 23), (30, 24), (30, 25), (30, 26), (30, 27), (30, 28), (30, 29), (30, 30), (30, 31), (30, 32)] rfl (by decide +kernel)
set_option maxRecDepth 20000 in
theorem gL_law_X5_best : GoodIn wsL_law (wsV RL 78 RX5 yX5_best wsX5_best) := goodIn_app (goodIn_2 wsL_cs_in [.methodLink RL 78 yX5_best, .instanceMethod yX5_best, .selects RX5 yX5_best yX5_best, .initialized RX5] [(18, 4), (18, 5), (18, 6), (0, 5)] rfl (by decide +kernel)) ggL_law_X5_best
set_option maxRecDepth 20000 in
theorem ggL_law_X4_comes : GoodIn wsL_law wsX4_comes := goodIn_2 wsL_cs_in _ [(18, 16), (0, 23), (0, 19), (18, 17), (18, 18), (18, 19), (0, 22), (18, 20), (18, 21), (4, 20), (4, 21), (0, 2), (4, 22), (18, 22), (15, 5), (15, 6), (0, 18), (15, 7), (2, 1), (2, 5), (15, 0), (15, 1), (15, 2), (15, 3), (2, 0), (2, 2), (2, 3), (2, 4), (15, 8), (15, 9), (15, 10), (15, 11), (15, 12), (5, 8), (5, 9), (0, 14), (5, 10), (5, 11), (15, 13), (11, 20), (11, 21), (11, 22), (1, 17), (11, 23), (12, 0), (12, 1), (12, 2), (1, 13), (12, 3), (12, 4), (12, 5), (12, 6), (1, 18), (12, 7), (12, 8), (12, 9), (12, 10), (1, 14), (1, 19), (12, 11), (12, 12), (12, 13), (12, 14), (10, 20), (10, 21), (10, 22), (1, 11), (1, 12), (1, 15), (1, 16), (1, 10), (15, 14), (15, 15), (15, 16), (15, 17), (15, 18), (15, 19), (15, 20), (15, 21), (29, 0), (29, 1), (29, 2), (29, 3), (29, 4), (33, 0), (33, 1), (33, 2), (33, 3), (33, 4), (33, 5), (33, 6), (33, 7), (33, 8), (33, 9), (33, 10), (33, 11), (33, 12), (33, 13), (32, 0), (32, 1), (32, 2), (32, 3), (32, 4), (32, 5), (32, 6), (32, 7), (32, 8), (32, 9), (32, 10), (31, 0), (31, 1), (31, 2), (31, 3), (31, 4), (31, 5), (31, 6), (31, 7), (31, 8), (31, 9), (31, 10)] rfl (by decide +kernel)
set_option maxRecDepth 20000 in
theorem gL_law_X4_comes : GoodIn wsL_law (wsV RL 79 RX4 yX4_comes wsX4_comes) := goodIn_app (goodIn_2 wsL_cs_in [.methodLink RL 79 yX4_comes, .instanceMethod yX4_comes, .selects RX4 yX4_comes yX4_comes, .initialized RX4] [(18, 13), (18, 14), (18, 15), (0, 2)] rfl (by decide +kernel)) ggL_law_X4_comes
set_option maxRecDepth 20000 in
theorem ggL_law_X5_comes : GoodIn wsL_law wsX5_comes := goodIn_2 wsL_cs_in _ [(19, 2), (6, 4), (19, 3), (3, 15), (6, 6), (6, 7), (0, 5), (6, 8), (16, 2), (16, 3), (16, 4), (16, 5), (4, 3), (3, 19), (6, 5), (4, 1), (4, 5), (4, 2), (16, 6), (16, 7), (16, 8), (16, 9), (12, 19), (12, 20), (12, 21), (12, 22), (3, 22), (3, 18), (12, 23), (12, 12), (12, 1), (12, 13), (13, 0), (12, 0), (12, 2), (13, 1), (13, 2), (13, 3), (13, 4), (3, 23), (11, 11), (11, 12), (11, 13), (11, 14), (3, 16), (3, 20), (3, 17), (3, 21), (11, 7), (11, 8), (11, 9), (11, 10), (30, 0), (30, 1), (30, 2), (30, 3), (30, 4), (30, 5), (30, 6), (30, 7), (30, 8), (30, 9), (30, 10), (30, 11), (30, 12), (30, 13), (30, 14), (30, 15), (30, 16), (30, 17), (30, 18), (30, 19), (30, 20), (30, 21), (30, 22), (30, 23), (30, 24), (30, 25), (30, 26), (30, 27), (30, 28), (30, 29), (30, 30), (30, 31), (30, 32)] rfl (by decide +kernel)
set_option maxRecDepth 20000 in
theorem gL_law_X5_comes : GoodIn wsL_law (wsV RL 82 RX5 yX5_comes wsX5_comes) := goodIn_app (goodIn_2 wsL_cs_in [.methodLink RL 82 yX5_comes, .instanceMethod yX5_comes, .selects RX5 yX5_comes yX5_comes, .initialized RX5] [(18, 23), (19, 0), (19, 1), (0, 5)] rfl (by decide +kernel)) ggL_law_X5_comes
set_option maxRecDepth 20000 in
theorem ggL_law_X4_plan : GoodIn wsL_law wsX4_plan := goodIn_2 wsL_cs_in _ [(19, 7), (0, 23), (19, 8), (19, 9), (19, 10), (0, 22), (19, 11), (2, 22), (3, 0), (18, 21), (2, 23), (19, 12), (19, 13), (19, 14), (19, 15), (19, 16), (19, 17), (3, 2), (3, 1), (2, 20), (19, 18), (15, 5), (15, 6), (0, 18), (15, 7), (2, 1), (2, 5), (15, 0), (15, 1), (15, 2), (15, 3), (2, 0), (2, 2), (2, 3), (2, 4), (15, 8), (15, 9), (15, 10), (15, 11), (15, 12), (5, 8), (5, 9), (0, 14), (5, 10), (5, 11), (15, 13), (11, 20), (11, 21), (11, 22), (1, 17), (11, 23), (12, 0), (12, 1), (12, 2), (1, 13), (12, 3), (12, 4), (12, 5), (12, 6), (1, 18), (12, 7), (12, 8), (12, 9), (12, 10), (1, 14), (1, 19), (12, 11), (12, 12), (12, 13), (12, 14), (10, 20), (10, 21), (10, 22), (1, 11), (1, 12), (1, 15), (1, 16), (1, 10), (15, 14), (15, 15), (15, 16), (15, 17), (15, 18), (15, 19), (15, 20), (15, 21), (19, 19), (19, 20), (19, 21), (19, 22), (3, 4), (2, 12), (2, 13), (2, 14), (19, 23), (20, 0), (20, 1), (20, 2), (20, 3), (20, 4), (20, 5), (20, 6), (20, 7), (20, 8), (20, 9), (20, 10), (20, 11), (20, 12), (20, 13), (20, 14), (20, 15), (20, 16), (2, 21), (20, 17), (20, 18), (20, 19), (20, 20), (20, 21), (3, 3), (29, 0), (29, 1), (29, 2), (29, 3), (29, 4), (33, 0), (33, 1), (33, 2), (33, 3), (33, 4), (33, 5), (33, 6), (33, 7), (33, 8), (33, 9), (33, 10), (33, 11), (33, 12), (33, 13), (32, 0), (32, 1), (32, 2), (32, 3), (32, 4), (32, 5), (32, 6), (32, 7), (32, 8), (32, 9), (32, 10), (31, 0), (31, 1), (31, 2), (31, 3), (31, 4), (31, 5), (31, 6), (31, 7), (31, 8), (31, 9), (31, 10)] rfl (by decide +kernel)
set_option maxRecDepth 20000 in
theorem gL_law_X4_plan : GoodIn wsL_law (wsV RL 83 RX4 yX4_plan wsX4_plan) := goodIn_app (goodIn_2 wsL_cs_in [.methodLink RL 83 yX4_plan, .instanceMethod yX4_plan, .selects RX4 yX4_plan yX4_plan, .initialized RX4] [(19, 4), (19, 5), (19, 6), (0, 2)] rfl (by decide +kernel)) ggL_law_X4_plan
set_option maxRecDepth 20000 in
theorem ggL_law_X5_plan : GoodIn wsL_law wsX5_plan := goodIn_2 wsL_cs_in _ [(21, 1), (6, 4), (4, 11), (19, 3), (3, 15), (4, 8), (4, 0), (13, 0), (12, 0), (12, 1), (12, 2), (4, 10), (21, 2), (21, 3), (4, 9), (16, 2), (16, 3), (16, 4), (0, 5), (16, 5), (4, 3), (3, 19), (6, 5), (4, 1), (4, 5), (4, 2), (16, 6), (16, 7), (16, 8), (16, 9), (12, 19), (12, 20), (12, 21), (12, 22), (3, 22), (3, 18), (12, 23), (12, 12), (12, 13), (13, 1), (13, 2), (13, 3), (13, 4), (3, 23), (11, 11), (11, 12), (11, 13), (11, 14), (3, 16), (3, 20), (3, 17), (3, 21), (11, 7), (11, 8), (11, 9), (11, 10), (21, 4), (21, 5), (21, 6), (21, 7), (21, 8), (21, 9), (21, 10), (21, 11), (21, 12), (30, 0), (30, 1), (30, 2), (30, 3), (30, 4), (30, 5), (30, 6), (30, 7), (30, 8), (30, 9), (30, 10), (30, 11), (30, 12), (30, 13), (30, 14), (30, 15), (30, 16), (30, 17), (30, 18), (30, 19), (30, 20), (30, 21), (30, 22), (30, 23), (30, 24), (30, 25), (30, 26), (30, 27), (30, 28), (30, 29), (30, 30), (30, 31), (30, 32)] rfl (by decide +kernel)
set_option maxRecDepth 20000 in
theorem gL_law_X5_plan : GoodIn wsL_law (wsV RL 87 RX5 yX5_plan wsX5_plan) := goodIn_app (goodIn_2 wsL_cs_in [.methodLink RL 87 yX5_plan, .instanceMethod yX5_plan, .selects RX5 yX5_plan yX5_plan, .initialized RX5] [(20, 22), (20, 23), (21, 0), (0, 5)] rfl (by decide +kernel)) ggL_law_X5_plan
set_option maxRecDepth 20000 in
theorem ggL_law_X4_runs : GoodIn wsL_law wsX4_runs := goodIn_2 wsL_cs_in _ [(21, 16), (0, 23), (6, 22), (6, 23), (0, 2), (7, 0), (4, 20), (4, 21), (4, 22), (21, 17), (21, 18), (21, 19), (0, 22), (21, 20), (3, 3), (20, 21), (29, 0), (29, 1), (29, 2), (29, 3), (29, 4), (33, 0), (33, 1), (33, 2), (33, 3), (33, 4), (33, 5), (33, 6), (33, 7), (33, 8), (33, 9), (33, 10), (33, 11), (33, 12), (33, 13)] rfl (by decide +kernel)
set_option maxRecDepth 20000 in
theorem gL_law_X4_runs : GoodIn wsL_law (wsV RL 88 RX4 yX4_runs wsX4_runs) := goodIn_app (goodIn_2 wsL_cs_in [.methodLink RL 88 yX4_runs, .instanceMethod yX4_runs, .selects RX4 yX4_runs yX4_runs, .initialized RX4] [(21, 13), (21, 14), (21, 15), (0, 2)] rfl (by decide +kernel)) ggL_law_X4_runs
set_option maxRecDepth 20000 in
theorem ggL_law_X5_runs : GoodIn wsL_law wsX5_runs := goodIn_2 wsL_cs_in _ [(22, 0), (6, 4), (4, 10), (4, 9), (6, 6), (6, 7), (0, 5), (6, 8), (30, 0), (30, 1), (30, 2), (30, 3), (30, 4), (30, 5), (30, 6), (30, 7), (30, 8), (30, 9), (30, 10), (30, 11), (30, 12), (30, 13), (30, 14), (30, 15), (30, 16), (30, 17), (30, 18), (30, 19), (30, 20), (30, 21), (30, 22), (30, 23), (30, 24), (30, 25), (30, 26), (30, 27), (30, 28), (30, 29), (30, 30), (30, 31), (30, 32)] rfl (by decide +kernel)
set_option maxRecDepth 20000 in
theorem gL_law_X5_runs : GoodIn wsL_law (wsV RL 91 RX5 yX5_runs wsX5_runs) := goodIn_app (goodIn_2 wsL_cs_in [.methodLink RL 91 yX5_runs, .instanceMethod yX5_runs, .selects RX5 yX5_runs yX5_runs, .initialized RX5] [(21, 21), (21, 22), (21, 23), (0, 5)] rfl (by decide +kernel)) ggL_law_X5_runs
set_option maxRecDepth 20000 in
theorem ggL_law_X4_step : GoodIn wsL_law wsX4_step := goodIn_2 wsL_cs_in _ [(22, 4), (0, 23), (22, 5), (22, 6), (22, 7), (0, 22), (22, 8), (19, 12), (2, 20), (18, 21), (19, 13), (22, 9), (2, 19), (19, 18), (15, 5), (15, 6), (0, 18), (15, 7), (2, 1), (2, 5), (15, 0), (15, 1), (15, 2), (15, 3), (2, 0), (2, 2), (2, 3), (2, 4), (15, 8), (15, 9), (15, 10), (15, 11), (15, 12), (5, 8), (5, 9), (0, 14), (5, 10), (5, 11), (15, 13), (11, 20), (11, 21), (11, 22), (1, 17), (11, 23), (12, 0), (12, 1), (12, 2), (1, 13), (12, 3), (12, 4), (12, 5), (12, 6), (1, 18), (12, 7), (12, 8), (12, 9), (12, 10), (1, 14), (1, 19), (12, 11), (12, 12), (12, 13), (12, 14), (10, 20), (10, 21), (10, 22), (1, 11), (1, 12), (1, 15), (1, 16), (1, 10), (15, 14), (15, 15), (15, 16), (15, 17), (15, 18), (15, 19), (15, 20), (15, 21), (19, 19), (19, 20), (19, 21), (19, 22), (20, 10), (20, 11), (20, 12), (20, 13), (20, 14), (20, 15), (20, 16), (2, 21), (22, 10), (22, 11), (22, 12), (22, 13), (4, 23), (5, 0), (5, 1), (0, 2), (5, 2), (1, 4), (5, 20), (5, 21), (5, 22), (5, 23), (29, 0), (29, 1), (29, 2), (29, 3), (29, 4), (33, 0), (33, 1), (33, 2), (33, 3), (33, 4), (33, 5), (33, 6), (33, 7), (33, 8), (33, 9), (33, 10), (33, 11), (33, 12), (33, 13), (32, 0), (32, 1), (32, 2), (32, 3), (32, 4), (32, 5), (32, 6), (32, 7), (32, 8), (32, 9), (32, 10), (31, 0), (31, 1), (31, 2), (31, 3), (31, 4), (31, 5), (31, 6), (31, 7), (31, 8), (31, 9), (31, 10)] rfl (by decide +kernel)
set_option maxRecDepth 20000 in
theorem gL_law_X4_step : GoodIn wsL_law (wsV RL 92 RX4 yX4_step wsX4_step) := goodIn_app (goodIn_2 wsL_cs_in [.methodLink RL 92 yX4_step, .instanceMethod yX4_step, .selects RX4 yX4_step yX4_step, .initialized RX4] [(22, 1), (22, 2), (22, 3), (0, 2)] rfl (by decide +kernel)) ggL_law_X4_step
set_option maxRecDepth 20000 in
theorem ggL_law_X5_step : GoodIn wsL_law wsX5_step := goodIn_2 wsL_cs_in _ [(22, 17), (6, 4), (21, 2), (19, 3), (21, 3), (4, 0), (22, 18), (6, 5), (3, 18), (3, 15), (12, 23), (12, 12), (12, 1), (12, 13), (16, 2), (16, 3), (16, 4), (0, 5), (16, 5), (4, 3), (3, 19), (4, 1), (4, 5), (4, 2), (16, 6), (16, 7), (16, 8), (16, 9), (12, 19), (12, 20), (12, 21), (12, 22), (3, 22), (13, 0), (12, 0), (12, 2), (13, 1), (13, 2), (13, 3), (13, 4), (3, 23), (11, 11), (11, 12), (11, 13), (11, 14), (3, 16), (3, 20), (3, 17), (3, 21), (11, 7), (11, 8), (11, 9), (11, 10), (21, 7), (21, 8), (21, 9), (21, 10), (21, 11), (21, 12), (6, 9), (6, 10), (6, 11), (6, 12), (6, 13), (6, 14), (6, 15), (6, 16), (6, 17), (30, 0), (30, 1), (30, 2), (30, 3), (30, 4), (30, 5), (30, 6), (30, 7), (30, 8), (30, 9), (30, 10), (30, 11), (30, 12), (30, 13), (30, 14), (30, 15), (30, 16), (30, 17), (30, 18), (30, 19), (30, 20), (30, 21), (30, 22), (30, 23), (30, 24), (30, 25), (30, 26), (30, 27), (30, 28), (30, 29), (30, 30), (30, 31), (30, 32)] rfl (by decide +kernel)
set_option maxRecDepth 20000 in
theorem gL_law_X5_step : GoodIn wsL_law (wsV RL 96 RX5 yX5_step wsX5_step) := goodIn_app (goodIn_2 wsL_cs_in [.methodLink RL 96 yX5_step, .instanceMethod yX5_step, .selects RX5 yX5_step yX5_step, .initialized RX5] [(22, 14), (22, 15), (22, 16), (0, 5)] rfl (by decide +kernel)) ggL_law_X5_step
set_option maxRecDepth 20000 in
theorem ggL_law_X4_earned : GoodIn wsL_law wsX4_earned := goodIn_2 wsL_cs_in _ [(22, 22), (0, 23), (22, 23), (23, 0), (23, 1), (0, 22), (23, 2), (22, 9), (29, 0), (29, 1), (29, 2), (29, 3), (29, 4), (33, 0), (33, 1), (33, 2), (33, 3), (33, 4), (33, 5), (33, 6), (33, 7), (33, 8), (33, 9), (33, 10), (33, 11), (33, 12), (33, 13)] rfl (by decide +kernel)
set_option maxRecDepth 20000 in
theorem gL_law_X4_earned : GoodIn wsL_law (wsV RL 97 RX4 yX4_earned wsX4_earned) := goodIn_app (goodIn_2 wsL_cs_in [.methodLink RL 97 yX4_earned, .instanceMethod yX4_earned, .selects RX4 yX4_earned yX4_earned, .initialized RX4] [(22, 19), (22, 20), (22, 21), (0, 2)] rfl (by decide +kernel)) ggL_law_X4_earned
set_option maxRecDepth 20000 in
theorem ggL_law_X5_earned : GoodIn wsL_law wsX5_earned := goodIn_2 wsL_cs_in _ [(23, 6), (6, 4), (22, 18), (30, 0), (30, 1), (30, 2), (30, 3), (30, 4), (30, 5), (30, 6), (30, 7), (30, 8), (30, 9), (30, 10), (30, 11), (30, 12), (30, 13), (30, 14), (30, 15), (30, 16), (30, 17), (30, 18), (30, 19), (30, 20), (30, 21), (30, 22), (30, 23), (30, 24), (30, 25), (30, 26), (30, 27), (30, 28), (30, 29), (30, 30), (30, 31), (30, 32)] rfl (by decide +kernel)
set_option maxRecDepth 20000 in
theorem gL_law_X5_earned : GoodIn wsL_law (wsV RL 100 RX5 yX5_earned wsX5_earned) := goodIn_app (goodIn_2 wsL_cs_in [.methodLink RL 100 yX5_earned, .instanceMethod yX5_earned, .selects RX5 yX5_earned yX5_earned, .initialized RX5] [(23, 3), (23, 4), (23, 5), (0, 5)] rfl (by decide +kernel)) ggL_law_X5_earned
set_option maxRecDepth 20000 in
theorem ggL_law_X4_shot : GoodIn wsL_law wsX4_shot := goodIn_2 wsL_cs_in _ [(23, 10), (23, 11), (23, 12), (12, 12), (12, 1), (12, 13), (0, 15), (1, 3), (23, 13), (23, 14), (23, 15), (23, 16), (23, 17), (23, 18), (23, 19), (4, 20), (4, 21), (0, 2), (4, 22), (4, 23), (5, 0), (5, 1), (5, 2), (1, 4), (5, 7), (5, 8), (5, 9), (0, 14), (5, 10), (5, 11), (23, 20), (23, 21), (23, 22), (1, 2), (23, 23), (24, 0), (24, 1), (24, 2), (24, 3), (24, 4), (3, 9), (24, 5), (24, 6), (24, 7), (5, 20), (5, 21), (5, 22), (5, 23), (29, 0), (29, 1), (29, 2), (29, 3), (29, 4), (31, 0), (31, 1), (31, 2), (31, 3), (31, 4), (31, 5), (31, 6), (31, 7), (31, 8), (31, 9), (31, 10), (34, 0), (34, 1), (34, 2), (34, 3), (34, 4)] rfl (by decide +kernel)
set_option maxRecDepth 20000 in
theorem gL_law_X4_shot : GoodIn wsL_law (wsV RL 101 RX4 yX4_shot wsX4_shot) := goodIn_app (goodIn_2 wsL_cs_in [.methodLink RL 101 yX4_shot, .instanceMethod yX4_shot, .selects RX4 yX4_shot yX4_shot, .initialized RX4] [(23, 7), (23, 8), (23, 9), (0, 2)] rfl (by decide +kernel)) ggL_law_X4_shot
set_option maxRecDepth 20000 in
theorem ggL_law_X5_shot : GoodIn wsL_law wsX5_shot := goodIn_2 wsL_cs_in _ [(24, 11), (6, 4), (24, 12), (6, 5), (24, 13), (24, 14), (4, 13), (4, 14), (24, 15), (24, 16), (0, 5), (24, 17), (6, 9), (6, 10), (6, 11), (6, 12), (6, 13), (6, 14), (6, 15), (6, 16), (6, 17), (30, 0), (30, 1), (30, 2), (30, 3), (30, 4), (30, 5), (30, 6), (30, 7), (30, 8), (30, 9), (30, 10), (30, 11), (30, 12), (30, 13), (30, 14), (30, 15), (30, 16), (30, 17), (30, 18), (30, 19), (30, 20), (30, 21), (30, 22), (30, 23), (30, 24), (30, 25), (30, 26), (30, 27), (30, 28), (30, 29), (30, 30), (30, 31), (30, 32)] rfl (by decide +kernel)
set_option maxRecDepth 20000 in
theorem gL_law_X5_shot : GoodIn wsL_law (wsV RL 105 RX5 yX5_shot wsX5_shot) := goodIn_app (goodIn_2 wsL_cs_in [.methodLink RL 105 yX5_shot, .instanceMethod yX5_shot, .selects RX5 yX5_shot yX5_shot, .initialized RX5] [(24, 8), (24, 9), (24, 10), (0, 5)] rfl (by decide +kernel)) ggL_law_X5_shot
set_option maxRecDepth 20000 in
theorem ggL_law_X4_forget : GoodIn wsL_law wsX4_forget := goodIn_2 wsL_cs_in _ [(24, 21), (1, 3), (24, 22), (24, 23), (25, 0), (1, 2), (25, 1), (24, 0), (3, 9), (24, 5), (25, 2), (2, 12), (2, 13), (2, 14), (29, 0), (29, 1), (29, 2), (29, 3), (29, 4), (34, 0), (34, 1), (34, 2), (34, 3), (34, 4)] rfl (by decide +kernel)
set_option maxRecDepth 20000 in
theorem gL_law_X4_forget : GoodIn wsL_law (wsV RL 106 RX4 yX4_forget wsX4_forget) := goodIn_app (goodIn_2 wsL_cs_in [.methodLink RL 106 yX4_forget, .instanceMethod yX4_forget, .selects RX4 yX4_forget yX4_forget, .initialized RX4] [(24, 18), (24, 19), (24, 20), (0, 2)] rfl (by decide +kernel)) ggL_law_X4_forget
set_option maxRecDepth 20000 in
theorem ggL_law_X5_forget : GoodIn wsL_law wsX5_forget := goodIn_2 wsL_cs_in _ [(25, 6), (6, 4), (24, 14), (30, 0), (30, 1), (30, 2), (30, 3), (30, 4), (30, 5), (30, 6), (30, 7), (30, 8), (30, 9), (30, 10), (30, 11), (30, 12), (30, 13), (30, 14), (30, 15), (30, 16), (30, 17), (30, 18), (30, 19), (30, 20), (30, 21), (30, 22), (30, 23), (30, 24), (30, 25), (30, 26), (30, 27), (30, 28), (30, 29), (30, 30), (30, 31), (30, 32)] rfl (by decide +kernel)
set_option maxRecDepth 20000 in
theorem gL_law_X5_forget : GoodIn wsL_law (wsV RL 109 RX5 yX5_forget wsX5_forget) := goodIn_app (goodIn_2 wsL_cs_in [.methodLink RL 109 yX5_forget, .instanceMethod yX5_forget, .selects RX5 yX5_forget yX5_forget, .initialized RX5] [(25, 3), (25, 4), (25, 5), (0, 5)] rfl (by decide +kernel)) ggL_law_X5_forget
set_option maxRecDepth 20000 in
theorem ggL_law_X4_agree : GoodIn wsL_law wsX4_agree := goodIn_2 wsL_cs_in _ [(25, 10), (1, 3), (0, 15), (5, 7), (5, 8), (5, 9), (0, 14), (5, 10), (5, 11), (25, 11), (25, 12), (25, 13), (1, 2), (25, 14), (25, 15), (25, 16), (25, 17), (25, 18), (25, 19), (3, 10), (24, 5), (3, 9), (25, 2), (2, 12), (2, 13), (2, 14), (29, 0), (29, 1), (29, 2), (29, 3), (29, 4), (31, 0), (31, 1), (31, 2), (31, 3), (31, 4), (31, 5), (31, 6), (31, 7), (31, 8), (31, 9), (31, 10), (34, 0), (34, 1), (34, 2), (34, 3), (34, 4)] rfl (by decide +kernel)
set_option maxRecDepth 20000 in
theorem gL_law_X4_agree : GoodIn wsL_law (wsV RL 110 RX4 yX4_agree wsX4_agree) := goodIn_app (goodIn_2 wsL_cs_in [.methodLink RL 110 yX4_agree, .instanceMethod yX4_agree, .selects RX4 yX4_agree yX4_agree, .initialized RX4] [(25, 7), (25, 8), (25, 9), (0, 2)] rfl (by decide +kernel)) ggL_law_X4_agree
set_option maxRecDepth 20000 in
theorem ggL_law_X5_agree : GoodIn wsL_law wsX5_agree := goodIn_2 wsL_cs_in _ [(25, 23), (6, 4), (26, 0), (26, 1), (26, 2), (0, 5), (26, 3), (4, 15), (6, 5), (26, 4), (26, 5), (26, 6), (26, 7), (24, 14), (4, 13), (24, 13), (4, 14), (24, 15), (24, 16), (24, 17), (30, 0), (30, 1), (30, 2), (30, 3), (30, 4), (30, 5), (30, 6), (30, 7), (30, 8), (30, 9), (30, 10), (30, 11), (30, 12), (30, 13), (30, 14), (30, 15), (30, 16), (30, 17), (30, 18), (30, 19), (30, 20), (30, 21), (30, 22), (30, 23), (30, 24), (30, 25), (30, 26), (30, 27), (30, 28), (30, 29), (30, 30), (30, 31), (30, 32)] rfl (by decide +kernel)
set_option maxRecDepth 20000 in
theorem gL_law_X5_agree : GoodIn wsL_law (wsV RL 113 RX5 yX5_agree wsX5_agree) := goodIn_app (goodIn_2 wsL_cs_in [.methodLink RL 113 yX5_agree, .instanceMethod yX5_agree, .selects RX5 yX5_agree yX5_agree, .initialized RX5] [(25, 20), (25, 21), (25, 22), (0, 5)] rfl (by decide +kernel)) ggL_law_X5_agree
set_option maxRecDepth 20000 in
theorem ggL_law_X4_stuck : GoodIn wsL_law wsX4_stuck := goodIn_2 wsL_cs_in _ [(26, 11), (1, 3), (0, 15), (10, 11), (10, 12), (10, 13), (0, 2), (10, 14), (5, 7), (5, 8), (5, 9), (0, 14), (5, 10), (5, 11), (4, 20), (4, 21), (4, 22), (26, 12), (26, 13), (26, 14), (1, 2), (26, 15), (3, 10), (25, 16), (25, 17), (25, 18), (25, 19), (24, 5), (25, 15), (3, 9), (25, 2), (2, 12), (2, 13), (2, 14), (26, 16), (26, 17), (26, 18), (26, 19), (29, 0), (29, 1), (29, 2), (29, 3), (29, 4), (31, 0), (31, 1), (31, 2), (31, 3), (31, 4), (31, 5), (31, 6), (31, 7), (31, 8), (31, 9), (31, 10), (34, 0), (34, 1), (34, 2), (34, 3), (34, 4)] rfl (by decide +kernel)
set_option maxRecDepth 20000 in
theorem gL_law_X4_stuck : GoodIn wsL_law (wsV RL 114 RX4 yX4_stuck wsX4_stuck) := goodIn_app (goodIn_2 wsL_cs_in [.methodLink RL 114 yX4_stuck, .instanceMethod yX4_stuck, .selects RX4 yX4_stuck yX4_stuck, .initialized RX4] [(26, 8), (26, 9), (26, 10), (0, 2)] rfl (by decide +kernel)) ggL_law_X4_stuck
set_option maxRecDepth 20000 in
theorem ggL_law_X5_stuck : GoodIn wsL_law wsX5_stuck := goodIn_2 wsL_cs_in _ [(26, 23), (6, 4), (4, 15), (11, 3), (11, 4), (11, 5), (0, 5), (11, 6), (6, 5), (26, 0), (26, 1), (26, 2), (26, 3), (26, 4), (26, 5), (26, 6), (26, 7), (24, 14), (4, 13), (24, 13), (4, 14), (24, 15), (24, 16), (24, 17), (30, 0), (30, 1), (30, 2), (30, 3), (30, 4), (30, 5), (30, 6), (30, 7), (30, 8), (30, 9), (30, 10), (30, 11), (30, 12), (30, 13), (30, 14), (30, 15), (30, 16), (30, 17), (30, 18), (30, 19), (30, 20), (30, 21), (30, 22), (30, 23), (30, 24), (30, 25), (30, 26), (30, 27), (30, 28), (30, 29), (30, 30), (30, 31), (30, 32)] rfl (by decide +kernel)
set_option maxRecDepth 20000 in
theorem gL_law_X5_stuck : GoodIn wsL_law (wsV RL 117 RX5 yX5_stuck wsX5_stuck) := goodIn_app (goodIn_2 wsL_cs_in [.methodLink RL 117 yX5_stuck, .instanceMethod yX5_stuck, .selects RX5 yX5_stuck yX5_stuck, .initialized RX5] [(26, 20), (26, 21), (26, 22), (0, 5)] rfl (by decide +kernel)) ggL_law_X5_stuck
set_option maxRecDepth 20000 in
theorem ggL_law_X4_unsure : GoodIn wsL_law wsX4_unsure := goodIn_2 wsL_cs_in _ [(27, 3), (1, 3), (0, 15), (5, 7), (5, 8), (5, 9), (0, 14), (5, 10), (5, 11), (27, 4), (27, 5), (27, 6), (1, 2), (27, 7), (25, 16), (25, 17), (25, 18), (25, 19), (3, 10), (24, 5), (25, 15), (3, 9), (25, 2), (2, 12), (2, 13), (2, 14), (26, 16), (26, 17), (26, 18), (26, 19), (29, 0), (29, 1), (29, 2), (29, 3), (29, 4), (31, 0), (31, 1), (31, 2), (31, 3), (31, 4), (31, 5), (31, 6), (31, 7), (31, 8), (31, 9), (31, 10), (34, 0), (34, 1), (34, 2), (34, 3), (34, 4)] rfl (by decide +kernel)
set_option maxRecDepth 20000 in
theorem gL_law_X4_unsure : GoodIn wsL_law (wsV RL 118 RX4 yX4_unsure wsX4_unsure) := goodIn_app (goodIn_2 wsL_cs_in [.methodLink RL 118 yX4_unsure, .instanceMethod yX4_unsure, .selects RX4 yX4_unsure yX4_unsure, .initialized RX4] [(27, 0), (27, 1), (27, 2), (0, 2)] rfl (by decide +kernel)) ggL_law_X4_unsure
set_option maxRecDepth 20000 in
theorem ggL_law_X5_unsure : GoodIn wsL_law wsX5_unsure := goodIn_2 wsL_cs_in _ [(27, 11), (6, 4), (6, 5), (4, 15), (26, 0), (26, 1), (26, 2), (0, 5), (26, 3), (26, 4), (26, 5), (26, 6), (26, 7), (24, 14), (4, 13), (24, 13), (4, 14), (24, 15), (24, 16), (24, 17), (30, 0), (30, 1), (30, 2), (30, 3), (30, 4), (30, 5), (30, 6), (30, 7), (30, 8), (30, 9), (30, 10), (30, 11), (30, 12), (30, 13), (30, 14), (30, 15), (30, 16), (30, 17), (30, 18), (30, 19), (30, 20), (30, 21), (30, 22), (30, 23), (30, 24), (30, 25), (30, 26), (30, 27), (30, 28), (30, 29), (30, 30), (30, 31), (30, 32)] rfl (by decide +kernel)
set_option maxRecDepth 20000 in
theorem gL_law_X5_unsure : GoodIn wsL_law (wsV RL 121 RX5 yX5_unsure wsX5_unsure) := goodIn_app (goodIn_2 wsL_cs_in [.methodLink RL 121 yX5_unsure, .instanceMethod yX5_unsure, .selects RX5 yX5_unsure yX5_unsure, .initialized RX5] [(27, 8), (27, 9), (27, 10), (0, 5)] rfl (by decide +kernel)) ggL_law_X5_unsure
set_option maxRecDepth 20000 in
theorem ggL_law_X4_count : GoodIn wsL_law wsX4_count := goodIn_2 wsL_cs_in _ [(27, 15), (0, 15), (0, 23), (1, 3), (5, 7), (5, 8), (5, 9), (0, 14), (5, 10), (5, 11), (18, 17), (18, 18), (18, 19), (0, 22), (18, 20), (18, 21), (27, 16), (27, 17), (27, 18), (27, 19), (19, 12), (27, 20), (27, 21), (27, 22), (27, 23), (19, 13), (23, 20), (23, 21), (23, 22), (1, 2), (23, 23), (24, 0), (28, 0), (28, 1), (28, 2), (28, 3), (1, 14), (29, 0), (29, 1), (29, 2), (29, 3), (29, 4), (31, 0), (31, 1), (31, 2), (31, 3), (31, 4), (31, 5), (31, 6), (31, 7), (31, 8), (31, 9), (31, 10), (33, 0), (33, 1), (33, 2), (33, 3), (33, 4), (33, 5), (33, 6), (33, 7), (33, 8), (33, 9), (33, 10), (33, 11), (33, 12), (33, 13), (34, 0), (34, 1), (34, 2), (34, 3), (34, 4)] rfl (by decide +kernel)
set_option maxRecDepth 20000 in
theorem gL_law_X4_count : GoodIn wsL_law (wsV RL 122 RX4 yX4_count wsX4_count) := goodIn_app (goodIn_2 wsL_cs_in [.methodLink RL 122 yX4_count, .instanceMethod yX4_count, .selects RX4 yX4_count yX4_count, .initialized RX4] [(27, 12), (27, 13), (27, 14), (0, 2)] rfl (by decide +kernel)) ggL_law_X4_count
set_option maxRecDepth 20000 in
theorem ggL_law_X5_count : GoodIn wsL_law wsX5_count := goodIn_2 wsL_cs_in _ [(28, 7), (6, 4), (6, 5), (19, 3), (21, 2), (21, 3), (24, 14), (3, 18), (30, 0), (30, 1), (30, 2), (30, 3), (30, 4), (30, 5), (30, 6), (30, 7), (30, 8), (30, 9), (30, 10), (30, 11), (30, 12), (30, 13), (30, 14), (30, 15), (30, 16), (30, 17), (30, 18), (30, 19), (30, 20), (30, 21), (30, 22), (30, 23), (30, 24), (30, 25), (30, 26), (30, 27), (30, 28), (30, 29), (30, 30), (30, 31), (30, 32)] rfl (by decide +kernel)
set_option maxRecDepth 20000 in
theorem gL_law_X5_count : GoodIn wsL_law (wsV RL 125 RX5 yX5_count wsX5_count) := goodIn_app (goodIn_2 wsL_cs_in [.methodLink RL 125 yX5_count, .instanceMethod yX5_count, .selects RX5 yX5_count yX5_count, .initialized RX5] [(28, 4), (28, 5), (28, 6), (0, 5)] rfl (by decide +kernel)) ggL_law_X5_count
set_option maxRecDepth 20000 in
theorem ggL_law_X4_trouble : GoodIn wsL_law wsX4_trouble := goodIn_2 wsL_cs_in _ [(28, 11), (1, 4), (29, 0), (29, 1), (29, 2), (29, 3), (29, 4)] rfl (by decide +kernel)
set_option maxRecDepth 20000 in
theorem gL_law_X4_trouble : GoodIn wsL_law (wsV RL 126 RX4 yX4_trouble wsX4_trouble) := goodIn_app (goodIn_2 wsL_cs_in [.methodLink RL 126 yX4_trouble, .instanceMethod yX4_trouble, .selects RX4 yX4_trouble yX4_trouble, .initialized RX4] [(28, 8), (28, 9), (28, 10), (0, 2)] rfl (by decide +kernel)) ggL_law_X4_trouble
set_option maxRecDepth 20000 in
theorem ggL_law_X5_trouble : GoodIn wsL_law wsX5_trouble := goodIn_2 wsL_cs_in _ [(28, 15), (6, 4), (6, 13), (30, 0), (30, 1), (30, 2), (30, 3), (30, 4), (30, 5), (30, 6), (30, 7), (30, 8), (30, 9), (30, 10), (30, 11), (30, 12), (30, 13), (30, 14), (30, 15), (30, 16), (30, 17), (30, 18), (30, 19), (30, 20), (30, 21), (30, 22), (30, 23), (30, 24), (30, 25), (30, 26), (30, 27), (30, 28), (30, 29), (30, 30), (30, 31), (30, 32)] rfl (by decide +kernel)
set_option maxRecDepth 20000 in
theorem gL_law_X5_trouble : GoodIn wsL_law (wsV RL 129 RX5 yX5_trouble wsX5_trouble) := goodIn_app (goodIn_2 wsL_cs_in [.methodLink RL 129 yX5_trouble, .instanceMethod yX5_trouble, .selects RX5 yX5_trouble yX5_trouble, .initialized RX5] [(28, 12), (28, 13), (28, 14), (0, 5)] rfl (by decide +kernel)) ggL_law_X5_trouble
theorem dL_law_0 : decode cL_law 0 = .ok (.new 7, 3) := by decide +kernel
theorem dL_law_3 : decode cL_law 3 = .ok (.dup, 1) := by decide +kernel
theorem dL_law_4 : decode cL_law 4 = .ok (.invokespecial 9, 3) := by decide +kernel
theorem dL_law_7 : decode cL_law 7 = .ok (.astore_n 1, 1) := by decide +kernel
theorem dL_law_8 : decode cL_law 8 = .ok (.new 10, 3) := by decide +kernel
theorem dL_law_11 : decode cL_law 11 = .ok (.dup, 1) := by decide +kernel
theorem dL_law_12 : decode cL_law 12 = .ok (.invokespecial 12, 3) := by decide +kernel
theorem dL_law_15 : decode cL_law 15 = .ok (.astore_n 2, 1) := by decide +kernel
theorem dL_law_16 : decode cL_law 16 = .ok (.iconst 0, 1) := by decide +kernel
theorem dL_law_17 : decode cL_law 17 = .ok (.istore_n 3, 1) := by decide +kernel
theorem dL_law_18 : decode cL_law 18 = .ok (.iload_n 3, 1) := by decide +kernel
theorem dL_law_19 : decode cL_law 19 = .ok (.aload_n 0, 1) := by decide +kernel
theorem dL_law_20 : decode cL_law 20 = .ok (.arraylength, 1) := by decide +kernel
theorem dL_law_21 : decode cL_law 21 = .ok (.iconst 5, 1) := by decide +kernel
theorem dL_law_22 : decode cL_law 22 = .ok (.isub, 1) := by decide +kernel
theorem dL_law_23 : decode cL_law 23 = .ok (.if_icmp .gt 852, 3) := by decide +kernel
theorem dL_law_26 : decode cL_law 26 = .ok (.aload_n 0, 1) := by decide +kernel
theorem dL_law_27 : decode cL_law 27 = .ok (.iload_n 3, 1) := by decide +kernel
theorem dL_law_28 : decode cL_law 28 = .ok (.iaload, 1) := by decide +kernel
theorem dL_law_29 : decode cL_law 29 = .ok (.bipush 31, 2) := by decide +kernel
theorem dL_law_31 : decode cL_law 31 = .ok (.iand, 1) := by decide +kernel
theorem dL_law_32 : decode cL_law 32 = .ok (.tableswitch 837 0 26 #[124, 157, 210, 243, 276, 309, 332, 391, 424, 447, 470, 493, 516, 539, 562, 585, 608, 621, 644, 683, 696, 739, 752, 765, 788, 801, 824], 124) := by decide +kernel
theorem dL_law_156 : decode cL_law 156 = .ok (.aload_n 1, 1) := by decide +kernel
theorem dL_law_157 : decode cL_law 157 = .ok (.aload_n 0, 1) := by decide +kernel
theorem dL_law_158 : decode cL_law 158 = .ok (.iload_n 3, 1) := by decide +kernel
theorem dL_law_159 : decode cL_law 159 = .ok (.iconst 1, 1) := by decide +kernel
theorem dL_law_160 : decode cL_law 160 = .ok (.iadd, 1) := by decide +kernel
theorem dL_law_161 : decode cL_law 161 = .ok (.iaload, 1) := by decide +kernel
theorem dL_law_162 : decode cL_law 162 = .ok (.aload_n 0, 1) := by decide +kernel
theorem dL_law_163 : decode cL_law 163 = .ok (.iload_n 3, 1) := by decide +kernel
theorem dL_law_164 : decode cL_law 164 = .ok (.iconst 2, 1) := by decide +kernel
theorem dL_law_165 : decode cL_law 165 = .ok (.iadd, 1) := by decide +kernel
theorem dL_law_166 : decode cL_law 166 = .ok (.iaload, 1) := by decide +kernel
theorem dL_law_167 : decode cL_law 167 = .ok (.invokevirtual 13, 3) := by decide +kernel
theorem dL_law_170 : decode cL_law 170 = .ok (.pop, 1) := by decide +kernel
theorem dL_law_171 : decode cL_law 171 = .ok (.aload_n 2, 1) := by decide +kernel
theorem dL_law_172 : decode cL_law 172 = .ok (.aload_n 0, 1) := by decide +kernel
theorem dL_law_173 : decode cL_law 173 = .ok (.iload_n 3, 1) := by decide +kernel
theorem dL_law_174 : decode cL_law 174 = .ok (.iconst 1, 1) := by decide +kernel
theorem dL_law_175 : decode cL_law 175 = .ok (.iadd, 1) := by decide +kernel
theorem dL_law_176 : decode cL_law 176 = .ok (.iaload, 1) := by decide +kernel
theorem dL_law_177 : decode cL_law 177 = .ok (.aload_n 0, 1) := by decide +kernel
theorem dL_law_178 : decode cL_law 178 = .ok (.iload_n 3, 1) := by decide +kernel
theorem dL_law_179 : decode cL_law 179 = .ok (.iconst 2, 1) := by decide +kernel
theorem dL_law_180 : decode cL_law 180 = .ok (.iadd, 1) := by decide +kernel
theorem dL_law_181 : decode cL_law 181 = .ok (.iaload, 1) := by decide +kernel
theorem dL_law_182 : decode cL_law 182 = .ok (.invokevirtual 17, 3) := by decide +kernel
theorem dL_law_185 : decode cL_law 185 = .ok (.pop, 1) := by decide +kernel
theorem dL_law_186 : decode cL_law 186 = .ok (.goto 683, 3) := by decide +kernel
theorem dL_law_189 : decode cL_law 189 = .ok (.aload_n 1, 1) := by decide +kernel
theorem dL_law_190 : decode cL_law 190 = .ok (.aload_n 0, 1) := by decide +kernel
theorem dL_law_191 : decode cL_law 191 = .ok (.iload_n 3, 1) := by decide +kernel
theorem dL_law_192 : decode cL_law 192 = .ok (.iconst 1, 1) := by decide +kernel
theorem dL_law_193 : decode cL_law 193 = .ok (.iadd, 1) := by decide +kernel
theorem dL_law_194 : decode cL_law 194 = .ok (.iaload, 1) := by decide +kernel
theorem dL_law_195 : decode cL_law 195 = .ok (.aload_n 0, 1) := by decide +kernel
theorem dL_law_196 : decode cL_law 196 = .ok (.iload_n 3, 1) := by decide +kernel
theorem dL_law_197 : decode cL_law 197 = .ok (.iconst 2, 1) := by decide +kernel
theorem dL_law_198 : decode cL_law 198 = .ok (.iadd, 1) := by decide +kernel
theorem dL_law_199 : decode cL_law 199 = .ok (.iaload, 1) := by decide +kernel
theorem dL_law_200 : decode cL_law 200 = .ok (.aload_n 0, 1) := by decide +kernel
theorem dL_law_201 : decode cL_law 201 = .ok (.iload_n 3, 1) := by decide +kernel
theorem dL_law_202 : decode cL_law 202 = .ok (.iconst 3, 1) := by decide +kernel
theorem dL_law_203 : decode cL_law 203 = .ok (.iadd, 1) := by decide +kernel
theorem dL_law_204 : decode cL_law 204 = .ok (.iaload, 1) := by decide +kernel
theorem dL_law_205 : decode cL_law 205 = .ok (.aload_n 0, 1) := by decide +kernel
theorem dL_law_206 : decode cL_law 206 = .ok (.iload_n 3, 1) := by decide +kernel
theorem dL_law_207 : decode cL_law 207 = .ok (.iconst 4, 1) := by decide +kernel
theorem dL_law_208 : decode cL_law 208 = .ok (.iadd, 1) := by decide +kernel
theorem dL_law_209 : decode cL_law 209 = .ok (.iaload, 1) := by decide +kernel
theorem dL_law_210 : decode cL_law 210 = .ok (.invokevirtual 18, 3) := by decide +kernel
theorem dL_law_213 : decode cL_law 213 = .ok (.pop, 1) := by decide +kernel
theorem dL_law_214 : decode cL_law 214 = .ok (.aload_n 2, 1) := by decide +kernel
theorem dL_law_215 : decode cL_law 215 = .ok (.aload_n 0, 1) := by decide +kernel
theorem dL_law_216 : decode cL_law 216 = .ok (.iload_n 3, 1) := by decide +kernel
theorem dL_law_217 : decode cL_law 217 = .ok (.iconst 1, 1) := by decide +kernel
theorem dL_law_218 : decode cL_law 218 = .ok (.iadd, 1) := by decide +kernel
theorem dL_law_219 : decode cL_law 219 = .ok (.iaload, 1) := by decide +kernel
theorem dL_law_220 : decode cL_law 220 = .ok (.aload_n 0, 1) := by decide +kernel
theorem dL_law_221 : decode cL_law 221 = .ok (.iload_n 3, 1) := by decide +kernel
theorem dL_law_222 : decode cL_law 222 = .ok (.iconst 2, 1) := by decide +kernel
theorem dL_law_223 : decode cL_law 223 = .ok (.iadd, 1) := by decide +kernel
theorem dL_law_224 : decode cL_law 224 = .ok (.iaload, 1) := by decide +kernel
theorem dL_law_225 : decode cL_law 225 = .ok (.aload_n 0, 1) := by decide +kernel
theorem dL_law_226 : decode cL_law 226 = .ok (.iload_n 3, 1) := by decide +kernel
theorem dL_law_227 : decode cL_law 227 = .ok (.iconst 3, 1) := by decide +kernel
theorem dL_law_228 : decode cL_law 228 = .ok (.iadd, 1) := by decide +kernel
theorem dL_law_229 : decode cL_law 229 = .ok (.iaload, 1) := by decide +kernel
theorem dL_law_230 : decode cL_law 230 = .ok (.aload_n 0, 1) := by decide +kernel
theorem dL_law_231 : decode cL_law 231 = .ok (.iload_n 3, 1) := by decide +kernel
theorem dL_law_232 : decode cL_law 232 = .ok (.iconst 4, 1) := by decide +kernel
theorem dL_law_233 : decode cL_law 233 = .ok (.iadd, 1) := by decide +kernel
theorem dL_law_234 : decode cL_law 234 = .ok (.iaload, 1) := by decide +kernel
theorem dL_law_235 : decode cL_law 235 = .ok (.invokevirtual 22, 3) := by decide +kernel
theorem dL_law_238 : decode cL_law 238 = .ok (.pop, 1) := by decide +kernel
theorem dL_law_239 : decode cL_law 239 = .ok (.goto 630, 3) := by decide +kernel
theorem dL_law_242 : decode cL_law 242 = .ok (.aload_n 1, 1) := by decide +kernel
theorem dL_law_243 : decode cL_law 243 = .ok (.aload_n 0, 1) := by decide +kernel
theorem dL_law_244 : decode cL_law 244 = .ok (.iload_n 3, 1) := by decide +kernel
theorem dL_law_245 : decode cL_law 245 = .ok (.iconst 1, 1) := by decide +kernel
theorem dL_law_246 : decode cL_law 246 = .ok (.iadd, 1) := by decide +kernel
theorem dL_law_247 : decode cL_law 247 = .ok (.iaload, 1) := by decide +kernel
theorem dL_law_248 : decode cL_law 248 = .ok (.aload_n 0, 1) := by decide +kernel
theorem dL_law_249 : decode cL_law 249 = .ok (.iload_n 3, 1) := by decide +kernel
theorem dL_law_250 : decode cL_law 250 = .ok (.iconst 2, 1) := by decide +kernel
theorem dL_law_251 : decode cL_law 251 = .ok (.iadd, 1) := by decide +kernel
theorem dL_law_252 : decode cL_law 252 = .ok (.iaload, 1) := by decide +kernel
theorem dL_law_253 : decode cL_law 253 = .ok (.invokevirtual 23, 3) := by decide +kernel
theorem dL_law_256 : decode cL_law 256 = .ok (.pop, 1) := by decide +kernel
theorem dL_law_257 : decode cL_law 257 = .ok (.aload_n 2, 1) := by decide +kernel
theorem dL_law_258 : decode cL_law 258 = .ok (.aload_n 0, 1) := by decide +kernel
theorem dL_law_259 : decode cL_law 259 = .ok (.iload_n 3, 1) := by decide +kernel
theorem dL_law_260 : decode cL_law 260 = .ok (.iconst 1, 1) := by decide +kernel
theorem dL_law_261 : decode cL_law 261 = .ok (.iadd, 1) := by decide +kernel
theorem dL_law_262 : decode cL_law 262 = .ok (.iaload, 1) := by decide +kernel
theorem dL_law_263 : decode cL_law 263 = .ok (.aload_n 0, 1) := by decide +kernel
theorem dL_law_264 : decode cL_law 264 = .ok (.iload_n 3, 1) := by decide +kernel
theorem dL_law_265 : decode cL_law 265 = .ok (.iconst 2, 1) := by decide +kernel
theorem dL_law_266 : decode cL_law 266 = .ok (.iadd, 1) := by decide +kernel
theorem dL_law_267 : decode cL_law 267 = .ok (.iaload, 1) := by decide +kernel
theorem dL_law_268 : decode cL_law 268 = .ok (.invokevirtual 27, 3) := by decide +kernel
theorem dL_law_271 : decode cL_law 271 = .ok (.pop, 1) := by decide +kernel
theorem dL_law_272 : decode cL_law 272 = .ok (.goto 597, 3) := by decide +kernel
theorem dL_law_275 : decode cL_law 275 = .ok (.aload_n 1, 1) := by decide +kernel
theorem dL_law_276 : decode cL_law 276 = .ok (.aload_n 0, 1) := by decide +kernel
theorem dL_law_277 : decode cL_law 277 = .ok (.iload_n 3, 1) := by decide +kernel
theorem dL_law_278 : decode cL_law 278 = .ok (.iconst 1, 1) := by decide +kernel
theorem dL_law_279 : decode cL_law 279 = .ok (.iadd, 1) := by decide +kernel
theorem dL_law_280 : decode cL_law 280 = .ok (.iaload, 1) := by decide +kernel
theorem dL_law_281 : decode cL_law 281 = .ok (.aload_n 0, 1) := by decide +kernel
theorem dL_law_282 : decode cL_law 282 = .ok (.iload_n 3, 1) := by decide +kernel
theorem dL_law_283 : decode cL_law 283 = .ok (.iconst 2, 1) := by decide +kernel
theorem dL_law_284 : decode cL_law 284 = .ok (.iadd, 1) := by decide +kernel
theorem dL_law_285 : decode cL_law 285 = .ok (.iaload, 1) := by decide +kernel
theorem dL_law_286 : decode cL_law 286 = .ok (.invokevirtual 28, 3) := by decide +kernel
theorem dL_law_289 : decode cL_law 289 = .ok (.pop, 1) := by decide +kernel
theorem dL_law_290 : decode cL_law 290 = .ok (.aload_n 2, 1) := by decide +kernel
theorem dL_law_291 : decode cL_law 291 = .ok (.aload_n 0, 1) := by decide +kernel
theorem dL_law_292 : decode cL_law 292 = .ok (.iload_n 3, 1) := by decide +kernel
theorem dL_law_293 : decode cL_law 293 = .ok (.iconst 1, 1) := by decide +kernel
theorem dL_law_294 : decode cL_law 294 = .ok (.iadd, 1) := by decide +kernel
theorem dL_law_295 : decode cL_law 295 = .ok (.iaload, 1) := by decide +kernel
theorem dL_law_296 : decode cL_law 296 = .ok (.aload_n 0, 1) := by decide +kernel
theorem dL_law_297 : decode cL_law 297 = .ok (.iload_n 3, 1) := by decide +kernel
theorem dL_law_298 : decode cL_law 298 = .ok (.iconst 2, 1) := by decide +kernel
theorem dL_law_299 : decode cL_law 299 = .ok (.iadd, 1) := by decide +kernel
theorem dL_law_300 : decode cL_law 300 = .ok (.iaload, 1) := by decide +kernel
theorem dL_law_301 : decode cL_law 301 = .ok (.invokevirtual 31, 3) := by decide +kernel
theorem dL_law_304 : decode cL_law 304 = .ok (.pop, 1) := by decide +kernel
theorem dL_law_305 : decode cL_law 305 = .ok (.goto 564, 3) := by decide +kernel
theorem dL_law_308 : decode cL_law 308 = .ok (.aload_n 1, 1) := by decide +kernel
theorem dL_law_309 : decode cL_law 309 = .ok (.aload_n 0, 1) := by decide +kernel
theorem dL_law_310 : decode cL_law 310 = .ok (.iload_n 3, 1) := by decide +kernel
theorem dL_law_311 : decode cL_law 311 = .ok (.iconst 1, 1) := by decide +kernel
theorem dL_law_312 : decode cL_law 312 = .ok (.iadd, 1) := by decide +kernel
theorem dL_law_313 : decode cL_law 313 = .ok (.iaload, 1) := by decide +kernel
theorem dL_law_314 : decode cL_law 314 = .ok (.aload_n 0, 1) := by decide +kernel
theorem dL_law_315 : decode cL_law 315 = .ok (.iload_n 3, 1) := by decide +kernel
theorem dL_law_316 : decode cL_law 316 = .ok (.iconst 2, 1) := by decide +kernel
theorem dL_law_317 : decode cL_law 317 = .ok (.iadd, 1) := by decide +kernel
theorem dL_law_318 : decode cL_law 318 = .ok (.iaload, 1) := by decide +kernel
theorem dL_law_319 : decode cL_law 319 = .ok (.invokevirtual 32, 3) := by decide +kernel
theorem dL_law_322 : decode cL_law 322 = .ok (.pop, 1) := by decide +kernel
theorem dL_law_323 : decode cL_law 323 = .ok (.aload_n 2, 1) := by decide +kernel
theorem dL_law_324 : decode cL_law 324 = .ok (.aload_n 0, 1) := by decide +kernel
theorem dL_law_325 : decode cL_law 325 = .ok (.iload_n 3, 1) := by decide +kernel
theorem dL_law_326 : decode cL_law 326 = .ok (.iconst 1, 1) := by decide +kernel
theorem dL_law_327 : decode cL_law 327 = .ok (.iadd, 1) := by decide +kernel
theorem dL_law_328 : decode cL_law 328 = .ok (.iaload, 1) := by decide +kernel
theorem dL_law_329 : decode cL_law 329 = .ok (.aload_n 0, 1) := by decide +kernel
theorem dL_law_330 : decode cL_law 330 = .ok (.iload_n 3, 1) := by decide +kernel
theorem dL_law_331 : decode cL_law 331 = .ok (.iconst 2, 1) := by decide +kernel
theorem dL_law_332 : decode cL_law 332 = .ok (.iadd, 1) := by decide +kernel
theorem dL_law_333 : decode cL_law 333 = .ok (.iaload, 1) := by decide +kernel
theorem dL_law_334 : decode cL_law 334 = .ok (.invokevirtual 35, 3) := by decide +kernel
theorem dL_law_337 : decode cL_law 337 = .ok (.pop, 1) := by decide +kernel
theorem dL_law_338 : decode cL_law 338 = .ok (.goto 531, 3) := by decide +kernel
theorem dL_law_341 : decode cL_law 341 = .ok (.aload_n 1, 1) := by decide +kernel
theorem dL_law_342 : decode cL_law 342 = .ok (.aload_n 0, 1) := by decide +kernel
theorem dL_law_343 : decode cL_law 343 = .ok (.iload_n 3, 1) := by decide +kernel
theorem dL_law_344 : decode cL_law 344 = .ok (.iconst 1, 1) := by decide +kernel
theorem dL_law_345 : decode cL_law 345 = .ok (.iadd, 1) := by decide +kernel
theorem dL_law_346 : decode cL_law 346 = .ok (.iaload, 1) := by decide +kernel
theorem dL_law_347 : decode cL_law 347 = .ok (.invokevirtual 36, 3) := by decide +kernel
theorem dL_law_350 : decode cL_law 350 = .ok (.aload_n 2, 1) := by decide +kernel
theorem dL_law_351 : decode cL_law 351 = .ok (.aload_n 0, 1) := by decide +kernel
theorem dL_law_352 : decode cL_law 352 = .ok (.iload_n 3, 1) := by decide +kernel
theorem dL_law_353 : decode cL_law 353 = .ok (.iconst 1, 1) := by decide +kernel
theorem dL_law_354 : decode cL_law 354 = .ok (.iadd, 1) := by decide +kernel
theorem dL_law_355 : decode cL_law 355 = .ok (.iaload, 1) := by decide +kernel
theorem dL_law_356 : decode cL_law 356 = .ok (.invokevirtual 40, 3) := by decide +kernel
theorem dL_law_359 : decode cL_law 359 = .ok (.if_icmp .eq 510, 3) := by decide +kernel
theorem dL_law_362 : decode cL_law 362 = .ok (.iconst 0, 1) := by decide +kernel
theorem dL_law_363 : decode cL_law 363 = .ok (.ireturn, 1) := by decide +kernel
theorem dL_law_364 : decode cL_law 364 = .ok (.aload_n 1, 1) := by decide +kernel
theorem dL_law_365 : decode cL_law 365 = .ok (.aload_n 0, 1) := by decide +kernel
theorem dL_law_366 : decode cL_law 366 = .ok (.iload_n 3, 1) := by decide +kernel
theorem dL_law_367 : decode cL_law 367 = .ok (.iconst 1, 1) := by decide +kernel
theorem dL_law_368 : decode cL_law 368 = .ok (.iadd, 1) := by decide +kernel
theorem dL_law_369 : decode cL_law 369 = .ok (.iaload, 1) := by decide +kernel
theorem dL_law_370 : decode cL_law 370 = .ok (.aload_n 0, 1) := by decide +kernel
theorem dL_law_371 : decode cL_law 371 = .ok (.iload_n 3, 1) := by decide +kernel
theorem dL_law_372 : decode cL_law 372 = .ok (.iconst 2, 1) := by decide +kernel
theorem dL_law_373 : decode cL_law 373 = .ok (.iadd, 1) := by decide +kernel
theorem dL_law_374 : decode cL_law 374 = .ok (.iaload, 1) := by decide +kernel
theorem dL_law_375 : decode cL_law 375 = .ok (.aload_n 0, 1) := by decide +kernel
theorem dL_law_376 : decode cL_law 376 = .ok (.iload_n 3, 1) := by decide +kernel
theorem dL_law_377 : decode cL_law 377 = .ok (.iconst 3, 1) := by decide +kernel
theorem dL_law_378 : decode cL_law 378 = .ok (.iadd, 1) := by decide +kernel
theorem dL_law_379 : decode cL_law 379 = .ok (.iaload, 1) := by decide +kernel
theorem dL_law_380 : decode cL_law 380 = .ok (.ifCond .eq 7, 3) := by decide +kernel
theorem dL_law_383 : decode cL_law 383 = .ok (.iconst 1, 1) := by decide +kernel
theorem dL_law_384 : decode cL_law 384 = .ok (.goto 4, 3) := by decide +kernel
theorem dL_law_387 : decode cL_law 387 = .ok (.iconst 0, 1) := by decide +kernel
theorem dL_law_388 : decode cL_law 388 = .ok (.invokevirtual 41, 3) := by decide +kernel
theorem dL_law_391 : decode cL_law 391 = .ok (.pop, 1) := by decide +kernel
theorem dL_law_392 : decode cL_law 392 = .ok (.aload_n 2, 1) := by decide +kernel
theorem dL_law_393 : decode cL_law 393 = .ok (.aload_n 0, 1) := by decide +kernel
theorem dL_law_394 : decode cL_law 394 = .ok (.iload_n 3, 1) := by decide +kernel
theorem dL_law_395 : decode cL_law 395 = .ok (.iconst 1, 1) := by decide +kernel
theorem dL_law_396 : decode cL_law 396 = .ok (.iadd, 1) := by decide +kernel
theorem dL_law_397 : decode cL_law 397 = .ok (.iaload, 1) := by decide +kernel
theorem dL_law_398 : decode cL_law 398 = .ok (.aload_n 0, 1) := by decide +kernel
theorem dL_law_399 : decode cL_law 399 = .ok (.iload_n 3, 1) := by decide +kernel
theorem dL_law_400 : decode cL_law 400 = .ok (.iconst 2, 1) := by decide +kernel
theorem dL_law_401 : decode cL_law 401 = .ok (.iadd, 1) := by decide +kernel
theorem dL_law_402 : decode cL_law 402 = .ok (.iaload, 1) := by decide +kernel
theorem dL_law_403 : decode cL_law 403 = .ok (.aload_n 0, 1) := by decide +kernel
theorem dL_law_404 : decode cL_law 404 = .ok (.iload_n 3, 1) := by decide +kernel
theorem dL_law_405 : decode cL_law 405 = .ok (.iconst 3, 1) := by decide +kernel
theorem dL_law_406 : decode cL_law 406 = .ok (.iadd, 1) := by decide +kernel
theorem dL_law_407 : decode cL_law 407 = .ok (.iaload, 1) := by decide +kernel
theorem dL_law_408 : decode cL_law 408 = .ok (.ifCond .eq 7, 3) := by decide +kernel
theorem dL_law_411 : decode cL_law 411 = .ok (.iconst 1, 1) := by decide +kernel
theorem dL_law_412 : decode cL_law 412 = .ok (.goto 4, 3) := by decide +kernel
theorem dL_law_415 : decode cL_law 415 = .ok (.iconst 0, 1) := by decide +kernel
theorem dL_law_416 : decode cL_law 416 = .ok (.invokevirtual 45, 3) := by decide +kernel
theorem dL_law_419 : decode cL_law 419 = .ok (.pop, 1) := by decide +kernel
theorem dL_law_420 : decode cL_law 420 = .ok (.goto 449, 3) := by decide +kernel
theorem dL_law_423 : decode cL_law 423 = .ok (.aload_n 1, 1) := by decide +kernel
theorem dL_law_424 : decode cL_law 424 = .ok (.aload_n 0, 1) := by decide +kernel
theorem dL_law_425 : decode cL_law 425 = .ok (.iload_n 3, 1) := by decide +kernel
theorem dL_law_426 : decode cL_law 426 = .ok (.iconst 1, 1) := by decide +kernel
theorem dL_law_427 : decode cL_law 427 = .ok (.iadd, 1) := by decide +kernel
theorem dL_law_428 : decode cL_law 428 = .ok (.iaload, 1) := by decide +kernel
theorem dL_law_429 : decode cL_law 429 = .ok (.aload_n 0, 1) := by decide +kernel
theorem dL_law_430 : decode cL_law 430 = .ok (.iload_n 3, 1) := by decide +kernel
theorem dL_law_431 : decode cL_law 431 = .ok (.iconst 2, 1) := by decide +kernel
theorem dL_law_432 : decode cL_law 432 = .ok (.iadd, 1) := by decide +kernel
theorem dL_law_433 : decode cL_law 433 = .ok (.iaload, 1) := by decide +kernel
theorem dL_law_434 : decode cL_law 434 = .ok (.invokevirtual 46, 3) := by decide +kernel
theorem dL_law_437 : decode cL_law 437 = .ok (.pop, 1) := by decide +kernel
theorem dL_law_438 : decode cL_law 438 = .ok (.aload_n 2, 1) := by decide +kernel
theorem dL_law_439 : decode cL_law 439 = .ok (.aload_n 0, 1) := by decide +kernel
theorem dL_law_440 : decode cL_law 440 = .ok (.iload_n 3, 1) := by decide +kernel
theorem dL_law_441 : decode cL_law 441 = .ok (.iconst 1, 1) := by decide +kernel
theorem dL_law_442 : decode cL_law 442 = .ok (.iadd, 1) := by decide +kernel
theorem dL_law_443 : decode cL_law 443 = .ok (.iaload, 1) := by decide +kernel
theorem dL_law_444 : decode cL_law 444 = .ok (.aload_n 0, 1) := by decide +kernel
theorem dL_law_445 : decode cL_law 445 = .ok (.iload_n 3, 1) := by decide +kernel
theorem dL_law_446 : decode cL_law 446 = .ok (.iconst 2, 1) := by decide +kernel
theorem dL_law_447 : decode cL_law 447 = .ok (.iadd, 1) := by decide +kernel
theorem dL_law_448 : decode cL_law 448 = .ok (.iaload, 1) := by decide +kernel
theorem dL_law_449 : decode cL_law 449 = .ok (.invokevirtual 49, 3) := by decide +kernel
theorem dL_law_452 : decode cL_law 452 = .ok (.pop, 1) := by decide +kernel
theorem dL_law_453 : decode cL_law 453 = .ok (.goto 416, 3) := by decide +kernel
theorem dL_law_456 : decode cL_law 456 = .ok (.aload_n 1, 1) := by decide +kernel
theorem dL_law_457 : decode cL_law 457 = .ok (.aload_n 0, 1) := by decide +kernel
theorem dL_law_458 : decode cL_law 458 = .ok (.iload_n 3, 1) := by decide +kernel
theorem dL_law_459 : decode cL_law 459 = .ok (.iconst 1, 1) := by decide +kernel
theorem dL_law_460 : decode cL_law 460 = .ok (.iadd, 1) := by decide +kernel
theorem dL_law_461 : decode cL_law 461 = .ok (.iaload, 1) := by decide +kernel
theorem dL_law_462 : decode cL_law 462 = .ok (.invokevirtual 50, 3) := by decide +kernel
theorem dL_law_465 : decode cL_law 465 = .ok (.pop, 1) := by decide +kernel
theorem dL_law_466 : decode cL_law 466 = .ok (.aload_n 2, 1) := by decide +kernel
theorem dL_law_467 : decode cL_law 467 = .ok (.aload_n 0, 1) := by decide +kernel
theorem dL_law_468 : decode cL_law 468 = .ok (.iload_n 3, 1) := by decide +kernel
theorem dL_law_469 : decode cL_law 469 = .ok (.iconst 1, 1) := by decide +kernel
theorem dL_law_470 : decode cL_law 470 = .ok (.iadd, 1) := by decide +kernel
theorem dL_law_471 : decode cL_law 471 = .ok (.iaload, 1) := by decide +kernel
theorem dL_law_472 : decode cL_law 472 = .ok (.invokevirtual 54, 3) := by decide +kernel
theorem dL_law_475 : decode cL_law 475 = .ok (.pop, 1) := by decide +kernel
theorem dL_law_476 : decode cL_law 476 = .ok (.goto 393, 3) := by decide +kernel
theorem dL_law_479 : decode cL_law 479 = .ok (.aload_n 1, 1) := by decide +kernel
theorem dL_law_480 : decode cL_law 480 = .ok (.aload_n 0, 1) := by decide +kernel
theorem dL_law_481 : decode cL_law 481 = .ok (.iload_n 3, 1) := by decide +kernel
theorem dL_law_482 : decode cL_law 482 = .ok (.iconst 1, 1) := by decide +kernel
theorem dL_law_483 : decode cL_law 483 = .ok (.iadd, 1) := by decide +kernel
theorem dL_law_484 : decode cL_law 484 = .ok (.iaload, 1) := by decide +kernel
theorem dL_law_485 : decode cL_law 485 = .ok (.invokevirtual 55, 3) := by decide +kernel
theorem dL_law_488 : decode cL_law 488 = .ok (.pop, 1) := by decide +kernel
theorem dL_law_489 : decode cL_law 489 = .ok (.aload_n 2, 1) := by decide +kernel
theorem dL_law_490 : decode cL_law 490 = .ok (.aload_n 0, 1) := by decide +kernel
theorem dL_law_491 : decode cL_law 491 = .ok (.iload_n 3, 1) := by decide +kernel
theorem dL_law_492 : decode cL_law 492 = .ok (.iconst 1, 1) := by decide +kernel
theorem dL_law_493 : decode cL_law 493 = .ok (.iadd, 1) := by decide +kernel
theorem dL_law_494 : decode cL_law 494 = .ok (.iaload, 1) := by decide +kernel
theorem dL_law_495 : decode cL_law 495 = .ok (.invokevirtual 58, 3) := by decide +kernel
theorem dL_law_498 : decode cL_law 498 = .ok (.pop, 1) := by decide +kernel
theorem dL_law_499 : decode cL_law 499 = .ok (.goto 370, 3) := by decide +kernel
theorem dL_law_502 : decode cL_law 502 = .ok (.aload_n 1, 1) := by decide +kernel
theorem dL_law_503 : decode cL_law 503 = .ok (.aload_n 0, 1) := by decide +kernel
theorem dL_law_504 : decode cL_law 504 = .ok (.iload_n 3, 1) := by decide +kernel
theorem dL_law_505 : decode cL_law 505 = .ok (.iconst 1, 1) := by decide +kernel
theorem dL_law_506 : decode cL_law 506 = .ok (.iadd, 1) := by decide +kernel
theorem dL_law_507 : decode cL_law 507 = .ok (.iaload, 1) := by decide +kernel
theorem dL_law_508 : decode cL_law 508 = .ok (.invokevirtual 59, 3) := by decide +kernel
theorem dL_law_511 : decode cL_law 511 = .ok (.pop, 1) := by decide +kernel
theorem dL_law_512 : decode cL_law 512 = .ok (.aload_n 2, 1) := by decide +kernel
theorem dL_law_513 : decode cL_law 513 = .ok (.aload_n 0, 1) := by decide +kernel
theorem dL_law_514 : decode cL_law 514 = .ok (.iload_n 3, 1) := by decide +kernel
theorem dL_law_515 : decode cL_law 515 = .ok (.iconst 1, 1) := by decide +kernel
theorem dL_law_516 : decode cL_law 516 = .ok (.iadd, 1) := by decide +kernel
theorem dL_law_517 : decode cL_law 517 = .ok (.iaload, 1) := by decide +kernel
theorem dL_law_518 : decode cL_law 518 = .ok (.invokevirtual 62, 3) := by decide +kernel
theorem dL_law_521 : decode cL_law 521 = .ok (.pop, 1) := by decide +kernel
theorem dL_law_522 : decode cL_law 522 = .ok (.goto 347, 3) := by decide +kernel
theorem dL_law_525 : decode cL_law 525 = .ok (.aload_n 1, 1) := by decide +kernel
theorem dL_law_526 : decode cL_law 526 = .ok (.aload_n 0, 1) := by decide +kernel
