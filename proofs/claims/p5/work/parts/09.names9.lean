theorem dX5_count_81 : decode cX5_count 81 = .ok (.iload_n 3, 1) := by decide +kernel
theorem dX5_count_82 : decode cX5_count 82 = .ok (.aload_n 0, 1) := by decide +kernel
theorem dX5_count_83 : decode cX5_count 83 = .ok (.getfield 91, 3) := by decide +kernel
theorem dX5_count_86 : decode cX5_count 86 = .ok (.if_icmp .ge 18, 3) := by decide +kernel
theorem dX5_count_89 : decode cX5_count 89 = .ok (.iload_n 2, 1) := by decide +kernel
theorem dX5_count_90 : decode cX5_count 90 = .ok (.aload_n 0, 1) := by decide +kernel
theorem dX5_count_91 : decode cX5_count 91 = .ok (.getfield 26, 3) := by decide +kernel
theorem dX5_count_94 : decode cX5_count 94 = .ok (.iload_n 3, 1) := by decide +kernel
theorem dX5_count_95 : decode cX5_count 95 = .ok (.iaload, 1) := by decide +kernel
theorem dX5_count_96 : decode cX5_count 96 = .ok (.iadd, 1) := by decide +kernel
theorem dX5_count_97 : decode cX5_count 97 = .ok (.istore_n 2, 1) := by decide +kernel
theorem dX5_count_98 : decode cX5_count 98 = .ok (.iinc 3 1, 3) := by decide +kernel
theorem dX5_count_101 : decode cX5_count 101 = .ok (.goto (-20), 3) := by decide +kernel
theorem dX5_count_104 : decode cX5_count 104 = .ok (.iload_n 2, 1) := by decide +kernel
theorem dX5_count_105 : decode cX5_count 105 = .ok (.ireturn, 1) := by decide +kernel
theorem dX5_count_106 : decode cX5_count 106 = .ok (.iconst (-1), 1) := by decide +kernel
theorem dX5_count_107 : decode cX5_count 107 = .ok (.ireturn, 1) := by decide +kernel
theorem dX5_trouble_0 : decode cX5_trouble 0 = .ok (.aload_n 0, 1) := by decide +kernel
theorem dX5_trouble_1 : decode cX5_trouble 1 = .ok (.iconst 0, 1) := by decide +kernel
theorem dX5_trouble_2 : decode cX5_trouble 2 = .ok (.putfield 1, 3) := by decide +kernel
theorem dX5_trouble_5 : decode cX5_trouble 5 = .ok (.aload_n 0, 1) := by decide +kernel
theorem dX5_trouble_6 : decode cX5_trouble 6 = .ok (.getfield 7, 3) := by decide +kernel
theorem dX5_trouble_9 : decode cX5_trouble 9 = .ok (.ireturn, 1) := by decide +kernel
theorem dJ13_bitCount_95d88_0 : decode cJ13_bitCount_95d88 0 = .ok (.lload_n 0, 1) := by decide +kernel
theorem dJ13_bitCount_95d88_1 : decode cJ13_bitCount_95d88 1 = .ok (.lload_n 0, 1) := by decide +kernel
theorem dJ13_bitCount_95d88_2 : decode cJ13_bitCount_95d88 2 = .ok (.iconst 1, 1) := by decide +kernel
theorem dJ13_bitCount_95d88_3 : decode cJ13_bitCount_95d88 3 = .ok (.lushr, 1) := by decide +kernel
theorem dJ13_bitCount_95d88_4 : decode cJ13_bitCount_95d88 4 = .ok (.ldc2_w 314, 3) := by decide +kernel
theorem dJ13_bitCount_95d88_7 : decode cJ13_bitCount_95d88 7 = .ok (.land, 1) := by decide +kernel
theorem dJ13_bitCount_95d88_8 : decode cJ13_bitCount_95d88 8 = .ok (.lsub, 1) := by decide +kernel
theorem dJ13_bitCount_95d88_9 : decode cJ13_bitCount_95d88 9 = .ok (.lstore_n 0, 1) := by decide +kernel
theorem dJ13_bitCount_95d88_10 : decode cJ13_bitCount_95d88 10 = .ok (.lload_n 0, 1) := by decide +kernel
theorem dJ13_bitCount_95d88_11 : decode cJ13_bitCount_95d88 11 = .ok (.ldc2_w 316, 3) := by decide +kernel
theorem dJ13_bitCount_95d88_14 : decode cJ13_bitCount_95d88 14 = .ok (.land, 1) := by decide +kernel
theorem dJ13_bitCount_95d88_15 : decode cJ13_bitCount_95d88 15 = .ok (.lload_n 0, 1) := by decide +kernel
theorem dJ13_bitCount_95d88_16 : decode cJ13_bitCount_95d88 16 = .ok (.iconst 2, 1) := by decide +kernel
theorem dJ13_bitCount_95d88_17 : decode cJ13_bitCount_95d88 17 = .ok (.lushr, 1) := by decide +kernel
theorem dJ13_bitCount_95d88_18 : decode cJ13_bitCount_95d88 18 = .ok (.ldc2_w 316, 3) := by decide +kernel
theorem dJ13_bitCount_95d88_21 : decode cJ13_bitCount_95d88 21 = .ok (.land, 1) := by decide +kernel
theorem dJ13_bitCount_95d88_22 : decode cJ13_bitCount_95d88 22 = .ok (.ladd, 1) := by decide +kernel
theorem dJ13_bitCount_95d88_23 : decode cJ13_bitCount_95d88 23 = .ok (.lstore_n 0, 1) := by decide +kernel
theorem dJ13_bitCount_95d88_24 : decode cJ13_bitCount_95d88 24 = .ok (.lload_n 0, 1) := by decide +kernel
theorem dJ13_bitCount_95d88_25 : decode cJ13_bitCount_95d88 25 = .ok (.lload_n 0, 1) := by decide +kernel
theorem dJ13_bitCount_95d88_26 : decode cJ13_bitCount_95d88 26 = .ok (.iconst 4, 1) := by decide +kernel
theorem dJ13_bitCount_95d88_27 : decode cJ13_bitCount_95d88 27 = .ok (.lushr, 1) := by decide +kernel
theorem dJ13_bitCount_95d88_28 : decode cJ13_bitCount_95d88 28 = .ok (.ladd, 1) := by decide +kernel
theorem dJ13_bitCount_95d88_29 : decode cJ13_bitCount_95d88 29 = .ok (.ldc2_w 318, 3) := by decide +kernel
theorem dJ13_bitCount_95d88_32 : decode cJ13_bitCount_95d88 32 = .ok (.land, 1) := by decide +kernel
theorem dJ13_bitCount_95d88_33 : decode cJ13_bitCount_95d88 33 = .ok (.lstore_n 0, 1) := by decide +kernel
theorem dJ13_bitCount_95d88_34 : decode cJ13_bitCount_95d88 34 = .ok (.lload_n 0, 1) := by decide +kernel
theorem dJ13_bitCount_95d88_35 : decode cJ13_bitCount_95d88 35 = .ok (.lload_n 0, 1) := by decide +kernel
theorem dJ13_bitCount_95d88_36 : decode cJ13_bitCount_95d88 36 = .ok (.bipush 8, 2) := by decide +kernel
theorem dJ13_bitCount_95d88_38 : decode cJ13_bitCount_95d88 38 = .ok (.lushr, 1) := by decide +kernel
theorem dJ13_bitCount_95d88_39 : decode cJ13_bitCount_95d88 39 = .ok (.ladd, 1) := by decide +kernel
theorem dJ13_bitCount_95d88_40 : decode cJ13_bitCount_95d88 40 = .ok (.lstore_n 0, 1) := by decide +kernel
theorem dJ13_bitCount_95d88_41 : decode cJ13_bitCount_95d88 41 = .ok (.lload_n 0, 1) := by decide +kernel
theorem dJ13_bitCount_95d88_42 : decode cJ13_bitCount_95d88 42 = .ok (.lload_n 0, 1) := by decide +kernel
theorem dJ13_bitCount_95d88_43 : decode cJ13_bitCount_95d88 43 = .ok (.bipush 16, 2) := by decide +kernel
theorem dJ13_bitCount_95d88_45 : decode cJ13_bitCount_95d88 45 = .ok (.lushr, 1) := by decide +kernel
theorem dJ13_bitCount_95d88_46 : decode cJ13_bitCount_95d88 46 = .ok (.ladd, 1) := by decide +kernel
theorem dJ13_bitCount_95d88_47 : decode cJ13_bitCount_95d88 47 = .ok (.lstore_n 0, 1) := by decide +kernel
theorem dJ13_bitCount_95d88_48 : decode cJ13_bitCount_95d88 48 = .ok (.lload_n 0, 1) := by decide +kernel
theorem dJ13_bitCount_95d88_49 : decode cJ13_bitCount_95d88 49 = .ok (.lload_n 0, 1) := by decide +kernel
theorem dJ13_bitCount_95d88_50 : decode cJ13_bitCount_95d88 50 = .ok (.bipush 32, 2) := by decide +kernel
theorem dJ13_bitCount_95d88_52 : decode cJ13_bitCount_95d88 52 = .ok (.lushr, 1) := by decide +kernel
theorem dJ13_bitCount_95d88_53 : decode cJ13_bitCount_95d88 53 = .ok (.ladd, 1) := by decide +kernel
theorem dJ13_bitCount_95d88_54 : decode cJ13_bitCount_95d88 54 = .ok (.lstore_n 0, 1) := by decide +kernel
theorem dJ13_bitCount_95d88_55 : decode cJ13_bitCount_95d88 55 = .ok (.lload_n 0, 1) := by decide +kernel
theorem dJ13_bitCount_95d88_56 : decode cJ13_bitCount_95d88 56 = .ok (.l2i, 1) := by decide +kernel
theorem dJ13_bitCount_95d88_57 : decode cJ13_bitCount_95d88 57 = .ok (.bipush 127, 2) := by decide +kernel
theorem dJ13_bitCount_95d88_59 : decode cJ13_bitCount_95d88 59 = .ok (.iand, 1) := by decide +kernel
theorem dJ13_bitCount_95d88_60 : decode cJ13_bitCount_95d88 60 = .ok (.ireturn, 1) := by decide +kernel
theorem dJ9_max_7cf53_0 : decode cJ9_max_7cf53 0 = .ok (.iload_n 0, 1) := by decide +kernel
theorem dJ9_max_7cf53_1 : decode cJ9_max_7cf53 1 = .ok (.iload_n 1, 1) := by decide +kernel
theorem dJ9_max_7cf53_2 : decode cJ9_max_7cf53 2 = .ok (.if_icmp .lt 7, 3) := by decide +kernel
theorem dJ9_max_7cf53_5 : decode cJ9_max_7cf53 5 = .ok (.iload_n 0, 1) := by decide +kernel
theorem dJ9_max_7cf53_6 : decode cJ9_max_7cf53 6 = .ok (.goto 4, 3) := by decide +kernel
theorem dJ9_max_7cf53_9 : decode cJ9_max_7cf53 9 = .ok (.iload_n 1, 1) := by decide +kernel
theorem dJ9_max_7cf53_10 : decode cJ9_max_7cf53 10 = .ok (.ireturn, 1) := by decide +kernel
theorem dJ9_min_7cf53_0 : decode cJ9_min_7cf53 0 = .ok (.iload_n 0, 1) := by decide +kernel
theorem dJ9_min_7cf53_1 : decode cJ9_min_7cf53 1 = .ok (.iload_n 1, 1) := by decide +kernel
theorem dJ9_min_7cf53_2 : decode cJ9_min_7cf53 2 = .ok (.if_icmp .gt 7, 3) := by decide +kernel
theorem dJ9_min_7cf53_5 : decode cJ9_min_7cf53 5 = .ok (.iload_n 0, 1) := by decide +kernel
theorem dJ9_min_7cf53_6 : decode cJ9_min_7cf53 6 = .ok (.goto 4, 3) := by decide +kernel
theorem dJ9_min_7cf53_9 : decode cJ9_min_7cf53 9 = .ok (.iload_n 1, 1) := by decide +kernel
theorem dJ9_min_7cf53_10 : decode cJ9_min_7cf53 10 = .ok (.ireturn, 1) := by decide +kernel
theorem dJ7_fill_53178_0 : decode cJ7_fill_53178 0 = .ok (.iconst 0, 1) := by decide +kernel
theorem dJ7_fill_53178_1 : decode cJ7_fill_53178 1 = .ok (.istore_n 2, 1) := by decide +kernel
theorem dJ7_fill_53178_2 : decode cJ7_fill_53178 2 = .ok (.aload_n 0, 1) := by decide +kernel
theorem dJ7_fill_53178_3 : decode cJ7_fill_53178 3 = .ok (.arraylength, 1) := by decide +kernel
theorem dJ7_fill_53178_4 : decode cJ7_fill_53178 4 = .ok (.istore_n 3, 1) := by decide +kernel
theorem dJ7_fill_53178_5 : decode cJ7_fill_53178 5 = .ok (.iload_n 2, 1) := by decide +kernel
theorem dJ7_fill_53178_6 : decode cJ7_fill_53178 6 = .ok (.iload_n 3, 1) := by decide +kernel
theorem dJ7_fill_53178_7 : decode cJ7_fill_53178 7 = .ok (.if_icmp .ge 13, 3) := by decide +kernel
theorem dJ7_fill_53178_10 : decode cJ7_fill_53178 10 = .ok (.aload_n 0, 1) := by decide +kernel
theorem dJ7_fill_53178_11 : decode cJ7_fill_53178 11 = .ok (.iload_n 2, 1) := by decide +kernel
theorem dJ7_fill_53178_12 : decode cJ7_fill_53178 12 = .ok (.iload_n 1, 1) := by decide +kernel
theorem dJ7_fill_53178_13 : decode cJ7_fill_53178 13 = .ok (.iastore, 1) := by decide +kernel
theorem dJ7_fill_53178_14 : decode cJ7_fill_53178 14 = .ok (.iinc 2 1, 3) := by decide +kernel
theorem dJ7_fill_53178_17 : decode cJ7_fill_53178 17 = .ok (.goto (-12), 3) := by decide +kernel
theorem dJ7_fill_53178_20 : decode cJ7_fill_53178 20 = .ok (.return_, 1) := by decide +kernel
set_option maxRecDepth 20000 in
theorem ggL_law_X4_init : GoodIn wsL_law wsX4_init := goodIn_r _ [8, 9, 10, 11, 12, 13, 14, 15, 16, 17, 18, 19, 20, 21, 22, 23, 24, 25, 26, 27, 28, 29, 30, 31, 32, 33, 34, 35, 36, 37, 38, 39, 40, 41, 42, 43, 44, 45, 46, 47, 48, 49, 50, 51, 52, 53, 54, 55, 56, 57, 58, 59, 60, 61, 62, 63, 64, 65, 66, 67, 68, 69, 70, 71, 72, 73, 74, 75, 76, 77, 78, 79, 80, 81, 82, 726, 727, 728, 729, 730, 731, 732, 733, 734, 735, 736, 688, 689, 690, 691, 692, 737, 738, 739, 740, 741, 742, 743, 744, 745, 746, 747, 748, 749, 750, 751, 752, 753, 754, 755, 756, 757, 758, 759, 760, 761, 762, 763, 764, 765, 766] rfl (by decide +kernel)
set_option maxRecDepth 20000 in
theorem gL_law_X4_init : GoodIn wsL_law (wsX4_init) := ggL_law_X4_init
set_option maxRecDepth 20000 in
theorem ggL_law_X5_init : GoodIn wsL_law wsX5_init := goodIn_r _ [85, 86, 10, 11, 87, 33, 88, 89, 90, 91, 92, 93, 94, 95, 96, 97, 98, 99, 100, 101, 102, 103, 104, 57, 105, 106, 107, 108, 109, 110, 111, 693, 694, 695, 696, 697, 698, 699, 700, 701, 702, 703, 704, 705, 706, 707, 708, 709, 710, 711, 712, 713, 714, 715, 716, 717, 718, 719, 720, 721, 722, 723, 724, 725] rfl (by decide +kernel)
set_option maxRecDepth 20000 in
theorem gL_law_X5_init : GoodIn wsL_law (wsX5_init) := ggL_law_X5_init
set_option maxRecDepth 20000 in
theorem ggL_law_X4_mirror : GoodIn wsL_law wsX4_mirror := goodIn_r _ [115, 15, 116, 117, 2, 118, 119, 120, 121, 122, 28, 123, 124, 125, 14, 126, 34, 127, 128, 129, 130, 131, 132, 133, 134, 135, 35, 36, 37, 136, 137, 138, 139, 140, 141, 142, 143, 688, 689, 690, 691, 692, 726, 727, 728, 729, 730, 731, 732, 733, 734, 735, 736] rfl (by decide +kernel)
set_option maxRecDepth 20000 in
theorem gL_law_X4_mirror : GoodIn wsL_law (wsV RL 13 RX4 yX4_mirror wsX4_mirror) := goodIn_app (goodIn_of _ (by decide +kernel)) ggL_law_X4_mirror
set_option maxRecDepth 20000 in
theorem ggL_law_X5_mirror : GoodIn wsL_law wsX5_mirror := goodIn_r _ [147, 148, 149, 88, 89, 150, 151, 5, 152, 153, 154, 155, 156, 157, 158, 159, 160, 161, 693, 694, 695, 696, 697, 698, 699, 700, 701, 702, 703, 704, 705, 706, 707, 708, 709, 710, 711, 712, 713, 714, 715, 716, 717, 718, 719, 720, 721, 722, 723, 724, 725] rfl (by decide +kernel)
set_option maxRecDepth 20000 in
theorem gL_law_X5_mirror : GoodIn wsL_law (wsV RL 17 RX5 yX5_mirror wsX5_mirror) := goodIn_app (goodIn_of _ (by decide +kernel)) ggL_law_X5_mirror
set_option maxRecDepth 20000 in
theorem ggL_law_X4_sun : GoodIn wsL_law wsX4_sun := goodIn_r _ [165, 15, 116, 117, 2, 118, 166, 167, 168, 169, 170, 171, 172, 28, 173, 174, 175, 14, 176, 39, 40, 41, 177, 178, 179, 180, 688, 689, 690, 691, 692, 726, 727, 728, 729, 730, 731, 732, 733, 734, 735, 736] rfl (by decide +kernel)
set_option maxRecDepth 20000 in
theorem gL_law_X4_sun : GoodIn wsL_law (wsV RL 18 RX4 yX4_sun wsX4_sun) := goodIn_app (goodIn_of _ (by decide +kernel)) ggL_law_X4_sun
set_option maxRecDepth 20000 in
theorem ggL_law_X5_sun : GoodIn wsL_law wsX5_sun := goodIn_r _ [184, 148, 92, 93, 94, 185, 186, 5, 187, 150, 151, 152, 188, 189, 190, 191, 157, 192, 193, 194, 195, 693, 694, 695, 696, 697, 698, 699, 700, 701, 702, 703, 704, 705, 706, 707, 708, 709, 710, 711, 712, 713, 714, 715, 716, 717, 718, 719, 720, 721, 722, 723, 724, 725] rfl (by decide +kernel)
set_option maxRecDepth 20000 in
theorem gL_law_X5_sun : GoodIn wsL_law (wsV RL 22 RX5 yX5_sun wsX5_sun) := goodIn_app (goodIn_of _ (by decide +kernel)) ggL_law_X5_sun
set_option maxRecDepth 20000 in
theorem ggL_law_X4_limit : GoodIn wsL_law wsX4_limit := goodIn_r _ [199, 19, 200, 201, 2, 202, 116, 117, 118, 169, 170, 171, 172, 28, 203, 204, 205, 18, 206, 49, 177, 178, 179, 180, 688, 689, 690, 691, 692, 737, 738, 739, 740, 741, 742, 743, 744, 745, 746, 747] rfl (by decide +kernel)
set_option maxRecDepth 20000 in
theorem gL_law_X4_limit : GoodIn wsL_law (wsV RL 23 RX4 yX4_limit wsX4_limit) := goodIn_app (goodIn_of _ (by decide +kernel)) ggL_law_X4_limit
set_option maxRecDepth 20000 in
theorem ggL_law_X5_limit : GoodIn wsL_law wsX5_limit := goodIn_r _ [210, 148, 91, 150, 151, 5, 152, 188, 189, 190, 191, 157, 192, 193, 194, 195, 693, 694, 695, 696, 697, 698, 699, 700, 701, 702, 703, 704, 705, 706, 707, 708, 709, 710, 711, 712, 713, 714, 715, 716, 717, 718, 719, 720, 721, 722, 723, 724, 725] rfl (by decide +kernel)
set_option maxRecDepth 20000 in
theorem gL_law_X5_limit : GoodIn wsL_law (wsV RL 27 RX5 yX5_limit wsX5_limit) := goodIn_app (goodIn_of _ (by decide +kernel)) ggL_law_X5_limit
set_option maxRecDepth 20000 in
theorem ggL_law_X4_wind : GoodIn wsL_law wsX4_wind := goodIn_r _ [214, 15, 166, 167, 2, 168, 116, 117, 118, 169, 170, 171, 172, 28, 215, 216, 217, 14, 218, 42, 177, 178, 179, 180, 688, 689, 690, 691, 692, 726, 727, 728, 729, 730, 731, 732, 733, 734, 735, 736] rfl (by decide +kernel)
set_option maxRecDepth 20000 in
theorem gL_law_X4_wind : GoodIn wsL_law (wsV RL 28 RX4 yX4_wind wsX4_wind) := goodIn_app (goodIn_of _ (by decide +kernel)) ggL_law_X4_wind
set_option maxRecDepth 20000 in
theorem ggL_law_X5_wind : GoodIn wsL_law wsX5_wind := goodIn_r _ [222, 148, 95, 185, 186, 5, 187, 150, 151, 152, 188, 189, 190, 191, 157, 192, 193, 194, 195, 693, 694, 695, 696, 697, 698, 699, 700, 701, 702, 703, 704, 705, 706, 707, 708, 709, 710, 711, 712, 713, 714, 715, 716, 717, 718, 719, 720, 721, 722, 723, 724, 725] rfl (by decide +kernel)
set_option maxRecDepth 20000 in
theorem gL_law_X5_wind : GoodIn wsL_law (wsV RL 31 RX5 yX5_wind wsX5_wind) := goodIn_app (goodIn_of _ (by decide +kernel)) ggL_law_X5_wind
set_option maxRecDepth 20000 in
theorem ggL_law_X4_price : GoodIn wsL_law wsX4_price := goodIn_r _ [226, 23, 166, 167, 2, 168, 116, 117, 118, 169, 170, 171, 172, 28, 227, 228, 229, 22, 230, 69, 177, 178, 179, 180, 688, 689, 690, 691, 692, 748, 749, 750, 751, 752, 753, 754, 755, 756, 757, 758, 759, 760, 761] rfl (by decide +kernel)
set_option maxRecDepth 20000 in
theorem gL_law_X4_price : GoodIn wsL_law (wsV RL 32 RX4 yX4_price wsX4_price) := goodIn_app (goodIn_of _ (by decide +kernel)) ggL_law_X4_price
set_option maxRecDepth 20000 in
theorem ggL_law_X5_price : GoodIn wsL_law wsX5_price := goodIn_r _ [234, 148, 96, 185, 186, 5, 187, 150, 151, 152, 188, 189, 190, 191, 157, 192, 193, 194, 195, 693, 694, 695, 696, 697, 698, 699, 700, 701, 702, 703, 704, 705, 706, 707, 708, 709, 710, 711, 712, 713, 714, 715, 716, 717, 718, 719, 720, 721, 722, 723, 724, 725] rfl (by decide +kernel)
set_option maxRecDepth 20000 in
theorem gL_law_X5_price : GoodIn wsL_law (wsV RL 35 RX5 yX5_price wsX5_price) := goodIn_app (goodIn_of _ (by decide +kernel)) ggL_law_X5_price
set_option maxRecDepth 20000 in
theorem ggL_law_X4_dust : GoodIn wsL_law wsX4_dust := goodIn_r _ [238, 15, 116, 117, 2, 118, 169, 170, 171, 172, 28, 239, 240, 241, 14, 242, 43, 177, 178, 179, 180, 688, 689, 690, 691, 692, 726, 727, 728, 729, 730, 731, 732, 733, 734, 735, 736] rfl (by decide +kernel)
set_option maxRecDepth 20000 in
theorem gL_law_X4_dust : GoodIn wsL_law (wsV RL 36 RX4 yX4_dust wsX4_dust) := goodIn_app (goodIn_of _ (by decide +kernel)) ggL_law_X4_dust
set_option maxRecDepth 20000 in
theorem ggL_law_X5_dust : GoodIn wsL_law wsX5_dust := goodIn_r _ [246, 148, 87, 150, 151, 5, 152, 188, 189, 190, 191, 157, 192, 193, 194, 195, 693, 694, 695, 696, 697, 698, 699, 700, 701, 702, 703, 704, 705, 706, 707, 708, 709, 710, 711, 712, 713, 714, 715, 716, 717, 718, 719, 720, 721, 722, 723, 724, 725] rfl (by decide +kernel)
set_option maxRecDepth 20000 in
theorem gL_law_X5_dust : GoodIn wsL_law (wsV RL 40 RX5 yX5_dust wsX5_dust) := goodIn_app (goodIn_of _ (by decide +kernel)) ggL_law_X5_dust
set_option maxRecDepth 20000 in
theorem ggL_law_X4_shaded : GoodIn wsL_law wsX4_shaded := goodIn_r _ [250, 15, 251, 252, 253, 2, 254, 127, 128, 129, 14, 130, 131, 116, 117, 118, 166, 167, 168, 255, 256, 257, 258, 37, 259, 260, 261, 262, 41, 35, 36, 39, 40, 34, 688, 689, 690, 691, 692, 726, 727, 728, 729, 730, 731, 732, 733, 734, 735, 736] rfl (by decide +kernel)
set_option maxRecDepth 20000 in
theorem gL_law_X4_shaded : GoodIn wsL_law (wsV RL 41 RX4 yX4_shaded wsX4_shaded) := goodIn_app (goodIn_of _ (by decide +kernel)) ggL_law_X4_shaded
set_option maxRecDepth 20000 in
theorem ggL_law_X5_shaded : GoodIn wsL_law wsX5_shaded := goodIn_r _ [266, 148, 267, 268, 269, 5, 270, 149, 185, 186, 187, 271, 272, 273, 274, 88, 89, 275, 276, 277, 278, 94, 92, 93, 693, 694, 695, 696, 697, 698, 699, 700, 701, 702, 703, 704, 705, 706, 707, 708, 709, 710, 711, 712, 713, 714, 715, 716, 717, 718, 719, 720, 721, 722, 723, 724, 725] rfl (by decide +kernel)
set_option maxRecDepth 20000 in
theorem gL_law_X5_shaded : GoodIn wsL_law (wsV RL 45 RX5 yX5_shaded wsX5_shaded) := goodIn_app (goodIn_of _ (by decide +kernel)) ggL_law_X5_shaded
set_option maxRecDepth 20000 in
theorem ggL_law_X4_power : GoodIn wsL_law wsX4_power := goodIn_r _ [282, 15, 251, 252, 253, 2, 254, 127, 128, 129, 14, 130, 131, 116, 117, 118, 166, 167, 168, 283, 284, 285, 286, 41, 287, 288, 289, 290, 37, 291, 292, 293, 294, 42, 295, 296, 297, 298, 38, 43, 299, 300, 301, 302, 260, 261, 262, 35, 36, 39, 40, 34, 688, 689, 690, 691, 692, 726, 727, 728, 729, 730, 731, 732, 733, 734, 735, 736] rfl (by decide +kernel)
set_option maxRecDepth 20000 in
theorem gL_law_X4_power : GoodIn wsL_law (wsV RL 46 RX4 yX4_power wsX4_power) := goodIn_app (goodIn_of _ (by decide +kernel)) ggL_law_X4_power
set_option maxRecDepth 20000 in
theorem ggL_law_X5_power : GoodIn wsL_law wsX5_power := goodIn_r _ [306, 148, 267, 268, 269, 5, 270, 149, 185, 186, 187, 307, 308, 309, 310, 94, 90, 311, 300, 289, 301, 312, 288, 290, 313, 314, 315, 316, 95, 275, 276, 277, 278, 88, 92, 89, 93, 271, 272, 273, 274, 693, 694, 695, 696, 697, 698, 699, 700, 701, 702, 703, 704, 705, 706, 707, 708, 709, 710, 711, 712, 713, 714, 715, 716, 717, 718, 719, 720, 721, 722, 723, 724, 725] rfl (by decide +kernel)
set_option maxRecDepth 20000 in
theorem gL_law_X5_power : GoodIn wsL_law (wsV RL 49 RX5 yX5_power wsX5_power) := goodIn_app (goodIn_of _ (by decide +kernel)) ggL_law_X5_power
set_option maxRecDepth 20000 in
theorem ggL_law_X4_stowed : GoodIn wsL_law wsX4_stowed := goodIn_r _ [320, 15, 166, 167, 2, 168, 116, 117, 118, 321, 292, 293, 14, 294, 42, 688, 689, 690, 691, 692, 726, 727, 728, 729, 730, 731, 732, 733, 734, 735, 736] rfl (by decide +kernel)
set_option maxRecDepth 20000 in
theorem gL_law_X4_stowed : GoodIn wsL_law (wsV RL 50 RX4 yX4_stowed wsX4_stowed) := goodIn_app (goodIn_of _ (by decide +kernel)) ggL_law_X4_stowed
set_option maxRecDepth 20000 in
theorem ggL_law_X5_stowed : GoodIn wsL_law wsX5_stowed := goodIn_r _ [325, 148, 185, 186, 5, 187, 313, 314, 315, 316, 95, 693, 694, 695, 696, 697, 698, 699, 700, 701, 702, 703, 704, 705, 706, 707, 708, 709, 710, 711, 712, 713, 714, 715, 716, 717, 718, 719, 720, 721, 722, 723, 724, 725] rfl (by decide +kernel)
set_option maxRecDepth 20000 in
theorem gL_law_X5_stowed : GoodIn wsL_law (wsV RL 54 RX5 yX5_stowed wsX5_stowed) := goodIn_app (goodIn_of _ (by decide +kernel)) ggL_law_X5_stowed
set_option maxRecDepth 20000 in
theorem ggL_law_X4_soil : GoodIn wsL_law wsX4_soil := goodIn_r _ [329, 15, 251, 252, 253, 2, 254, 127, 128, 129, 14, 130, 131, 116, 117, 118, 330, 296, 297, 298, 38, 43, 299, 300, 289, 301, 688, 689, 690, 691, 692, 726, 727, 728, 729, 730, 731, 732, 733, 734, 735, 736] rfl (by decide +kernel)
set_option maxRecDepth 20000 in
theorem gL_law_X4_soil : GoodIn wsL_law (wsV RL 55 RX4 yX4_soil wsX4_soil) := goodIn_app (goodIn_of _ (by decide +kernel)) ggL_law_X4_soil
set_option maxRecDepth 20000 in
theorem ggL_law_X5_soil : GoodIn wsL_law wsX5_soil := goodIn_r _ [334, 148, 90, 267, 268, 269, 5, 270, 149, 693, 694, 695, 696, 697, 698, 699, 700, 701, 702, 703, 704, 705, 706, 707, 708, 709, 710, 711, 712, 713, 714, 715, 716, 717, 718, 719, 720, 721, 722, 723, 724, 725] rfl (by decide +kernel)
set_option maxRecDepth 20000 in
theorem gL_law_X5_soil : GoodIn wsL_law (wsV RL 58 RX5 yX5_soil wsX5_soil) := goodIn_app (goodIn_of _ (by decide +kernel)) ggL_law_X5_soil
set_option maxRecDepth 20000 in
theorem ggL_law_X4_wash : GoodIn wsL_law wsX4_wash := goodIn_r _ [338, 15, 116, 117, 2, 118, 119, 120, 121, 122, 28, 339, 340, 341, 14, 342, 131, 299, 300, 289, 301, 38, 343, 344, 345, 346, 140, 141, 142, 143, 688, 689, 690, 691, 692, 726, 727, 728, 729, 730, 731, 732, 733, 734, 735, 736] rfl (by decide +kernel)
set_option maxRecDepth 20000 in
theorem gL_law_X4_wash : GoodIn wsL_law (wsV RL 59 RX4 yX4_wash wsX4_wash) := goodIn_app (goodIn_of _ (by decide +kernel)) ggL_law_X4_wash
set_option maxRecDepth 20000 in
theorem ggL_law_X5_wash : GoodIn wsL_law wsX5_wash := goodIn_r _ [350, 148, 149, 90, 150, 151, 5, 152, 153, 154, 155, 156, 157, 158, 159, 160, 161, 693, 694, 695, 696, 697, 698, 699, 700, 701, 702, 703, 704, 705, 706, 707, 708, 709, 710, 711, 712, 713, 714, 715, 716, 717, 718, 719, 720, 721, 722, 723, 724, 725] rfl (by decide +kernel)
set_option maxRecDepth 20000 in
theorem gL_law_X5_wash : GoodIn wsL_law (wsV RL 62 RX5 yX5_wash wsX5_wash) := goodIn_app (goodIn_of _ (by decide +kernel)) ggL_law_X5_wash
set_option maxRecDepth 20000 in
theorem ggL_law_X4_aim : GoodIn wsL_law wsX4_aim := goodIn_r _ [354, 19, 166, 167, 2, 168, 116, 117, 118, 119, 120, 121, 122, 28, 355, 356, 357, 18, 358, 48, 359, 52, 54, 360, 361, 362, 363, 55, 49, 53, 364, 365, 366, 367, 50, 51, 368, 369, 370, 371, 372, 128, 129, 14, 130, 131, 373, 284, 285, 286, 41, 287, 288, 289, 290, 37, 291, 292, 293, 294, 42, 295, 296, 297, 298, 38, 43, 299, 300, 301, 302, 260, 261, 262, 35, 36, 39, 40, 34, 374, 375, 376, 377, 378, 379, 380, 381, 140, 141, 142, 143, 688, 689, 690, 691, 692, 737, 738, 739, 740, 741, 742, 743, 744, 745, 746, 747, 726, 727, 728, 729, 730, 731, 732, 733, 734, 735, 736] rfl (by decide +kernel)
set_option maxRecDepth 20000 in
theorem gL_law_X4_aim : GoodIn wsL_law (wsV RL 63 RX4 yX4_aim wsX4_aim) := goodIn_app (goodIn_of _ (by decide +kernel)) ggL_law_X4_aim
set_option maxRecDepth 20000 in
theorem ggL_law_X5_aim : GoodIn wsL_law wsX5_aim := goodIn_r _ [385, 148, 149, 103, 100, 101, 102, 91, 99, 185, 186, 5, 187, 153, 154, 155, 156, 157, 386, 387, 388, 389, 97, 98, 390, 391, 392, 393, 307, 308, 309, 310, 94, 90, 311, 300, 289, 301, 312, 288, 290, 313, 314, 315, 316, 95, 275, 276, 277, 278, 88, 92, 89, 93, 271, 272, 273, 274, 158, 159, 160, 161, 693, 694, 695, 696, 697, 698, 699, 700, 701, 702, 703, 704, 705, 706, 707, 708, 709, 710, 711, 712, 713, 714, 715, 716, 717, 718, 719, 720, 721, 722, 723, 724, 725] rfl (by decide +kernel)
set_option maxRecDepth 20000 in
theorem gL_law_X5_aim : GoodIn wsL_law (wsV RL 66 RX5 yX5_aim wsX5_aim) := goodIn_app (goodIn_of _ (by decide +kernel)) ggL_law_X5_aim
set_option maxRecDepth 20000 in
theorem ggL_law_X4_aimed : GoodIn wsL_law wsX4_aimed := goodIn_r _ [397, 19, 251, 252, 253, 2, 254, 15, 127, 128, 129, 14, 130, 131, 116, 117, 118, 398, 399, 400, 18, 401, 359, 54, 688, 689, 690, 691, 692, 726, 727, 728, 729, 730, 731, 732, 733, 734, 735, 736, 737, 738, 739, 740, 741, 742, 743, 744, 745, 746, 747] rfl (by decide +kernel)
set_option maxRecDepth 20000 in
theorem gL_law_X4_aimed : GoodIn wsL_law (wsV RL 67 RX4 yX4_aimed wsX4_aimed) := goodIn_app (goodIn_of _ (by decide +kernel)) ggL_law_X4_aimed
set_option maxRecDepth 20000 in
theorem ggL_law_X5_aimed : GoodIn wsL_law wsX5_aimed := goodIn_r _ [405, 148, 103, 100, 693, 694, 695, 696, 697, 698, 699, 700, 701, 702, 703, 704, 705, 706, 707, 708, 709, 710, 711, 712, 713, 714, 715, 716, 717, 718, 719, 720, 721, 722, 723, 724, 725] rfl (by decide +kernel)
set_option maxRecDepth 20000 in
theorem gL_law_X5_aimed : GoodIn wsL_law (wsV RL 70 RX5 yX5_aimed wsX5_aimed) := goodIn_app (goodIn_of _ (by decide +kernel)) ggL_law_X5_aimed
set_option maxRecDepth 20000 in
theorem ggL_law_X4_face : GoodIn wsL_law wsX4_face := goodIn_r _ [409, 19, 200, 201, 2, 202, 116, 117, 118, 410, 411, 412, 18, 413, 55, 688, 689, 690, 691, 692, 737, 738, 739, 740, 741, 742, 743, 744, 745, 746, 747] rfl (by decide +kernel)
set_option maxRecDepth 20000 in
theorem gL_law_X4_face : GoodIn wsL_law (wsV RL 71 RX4 yX4_face wsX4_face) := goodIn_app (goodIn_of _ (by decide +kernel)) ggL_law_X4_face
set_option maxRecDepth 20000 in
theorem ggL_law_X5_face : GoodIn wsL_law wsX5_face := goodIn_r _ [417, 148, 102, 150, 151, 5, 152, 693, 694, 695, 696, 697, 698, 699, 700, 701, 702, 703, 704, 705, 706, 707, 708, 709, 710, 711, 712, 713, 714, 715, 716, 717, 718, 719, 720, 721, 722, 723, 724, 725] rfl (by decide +kernel)
set_option maxRecDepth 20000 in
theorem gL_law_X5_face : GoodIn wsL_law (wsV RL 74 RX5 yX5_face wsX5_face) := goodIn_app (goodIn_of _ (by decide +kernel)) ggL_law_X5_face
set_option maxRecDepth 20000 in
theorem ggL_law_X4_best : GoodIn wsL_law wsX4_best := goodIn_r _ [421, 19, 166, 167, 2, 168, 116, 117, 118, 119, 120, 121, 122, 28, 422, 423, 424, 18, 425, 48, 426, 300, 289, 301, 58, 49, 56, 427, 288, 290, 368, 369, 370, 371, 51, 372, 128, 129, 14, 130, 131, 373, 284, 285, 286, 41, 287, 37, 291, 292, 293, 294, 42, 295, 296, 297, 298, 38, 43, 299, 302, 260, 261, 262, 35, 36, 39, 40, 34, 374, 375, 376, 377, 50, 428, 429, 430, 431, 432, 433, 434, 435, 140, 141, 142, 143, 688, 689, 690, 691, 692, 737, 738, 739, 740, 741, 742, 743, 744, 745, 746, 747, 726, 727, 728, 729, 730, 731, 732, 733, 734, 735, 736] rfl (by decide +kernel)
set_option maxRecDepth 20000 in
theorem gL_law_X4_best : GoodIn wsL_law (wsV RL 75 RX4 yX4_best wsX4_best) := goodIn_app (goodIn_of _ (by decide +kernel)) ggL_law_X4_best
set_option maxRecDepth 20000 in
theorem ggL_law_X5_best : GoodIn wsL_law wsX5_best := goodIn_r _ [439, 148, 99, 91, 440, 185, 186, 5, 187, 153, 154, 155, 156, 157, 390, 391, 392, 393, 149, 98, 97, 307, 308, 309, 310, 94, 90, 311, 300, 289, 301, 312, 288, 290, 313, 314, 315, 316, 95, 275, 276, 277, 278, 88, 92, 89, 93, 271, 272, 273, 274, 441, 442, 443, 444, 158, 159, 160, 161, 693, 694, 695, 696, 697, 698, 699, 700, 701, 702, 703, 704, 705, 706, 707, 708, 709, 710, 711, 712, 713, 714, 715, 716, 717, 718, 719, 720, 721, 722, 723, 724, 725] rfl (by decide +kernel)
set_option maxRecDepth 20000 in
theorem gL_law_X5_best : GoodIn wsL_law (wsV RL 78 RX5 yX5_best wsX5_best) := goodIn_app (goodIn_of _ (by decide +kernel)) ggL_law_X5_best
set_option maxRecDepth 20000 in
theorem ggL_law_X4_comes : GoodIn wsL_law wsX4_comes := goodIn_r _ [448, 23, 19, 449, 450, 451, 22, 452, 453, 116, 117, 2, 118, 454, 365, 366, 18, 367, 49, 53, 360, 361, 362, 363, 48, 50, 51, 52, 368, 369, 370, 371, 372, 128, 129, 14, 130, 131, 373, 284, 285, 286, 41, 287, 288, 289, 290, 37, 291, 292, 293, 294, 42, 295, 296, 297, 298, 38, 43, 299, 300, 301, 302, 260, 261, 262, 35, 36, 39, 40, 34, 374, 375, 376, 377, 378, 379, 380, 381, 688, 689, 690, 691, 692, 748, 749, 750, 751, 752, 753, 754, 755, 756, 757, 758, 759, 760, 761, 737, 738, 739, 740, 741, 742, 743, 744, 745, 746, 747, 726, 727, 728, 729, 730, 731, 732, 733, 734, 735, 736] rfl (by decide +kernel)
set_option maxRecDepth 20000 in
theorem gL_law_X4_comes : GoodIn wsL_law (wsV RL 79 RX4 yX4_comes wsX4_comes) := goodIn_app (goodIn_of _ (by decide +kernel)) ggL_law_X4_comes
set_option maxRecDepth 20000 in
theorem ggL_law_X5_comes : GoodIn wsL_law wsX5_comes := goodIn_r _ [458, 148, 459, 87, 150, 151, 5, 152, 386, 387, 388, 389, 99, 91, 149, 97, 101, 98, 390, 391, 392, 393, 307, 308, 309, 310, 94, 90, 311, 300, 289, 301, 312, 288, 290, 313, 314, 315, 316, 95, 275, 276, 277, 278, 88, 92, 89, 93, 271, 272, 273, 274, 693, 694, 695, 696, 697, 698, 699, 700, 701, 702, 703, 704, 705, 706, 707, 708, 709, 710, 711, 712, 713, 714, 715, 716, 717, 718, 719, 720, 721, 722, 723, 724, 725] rfl (by decide +kernel)
set_option maxRecDepth 20000 in
theorem gL_law_X5_comes : GoodIn wsL_law (wsV RL 82 RX5 yX5_comes wsX5_comes) := goodIn_app (goodIn_of _ (by decide +kernel)) ggL_law_X5_comes
set_option maxRecDepth 20000 in
theorem ggL_law_X4_plan : GoodIn wsL_law wsX4_plan := goodIn_r _ [463, 23, 464, 465, 466, 22, 467, 70, 72, 453, 71, 468, 469, 470, 471, 472, 473, 74, 73, 68, 474, 365, 366, 18, 367, 49, 53, 360, 361, 362, 363, 48, 50, 51, 52, 368, 369, 370, 371, 372, 128, 129, 14, 130, 131, 373, 284, 285, 286, 41, 287, 288, 289, 290, 37, 291, 292, 293, 294, 42, 295, 296, 297, 298, 38, 43, 299, 300, 301, 302, 260, 261, 262, 35, 36, 39, 40, 34, 374, 375, 376, 377, 378, 379, 380, 381, 475, 476, 477, 478, 76, 60, 61, 62, 479, 480, 481, 482, 483, 484, 485, 486, 487, 488, 489, 490, 491, 492, 493, 494, 495, 496, 69, 497, 498, 499, 500, 501, 75, 688, 689, 690, 691, 692, 748, 749, 750, 751, 752, 753, 754, 755, 756, 757, 758, 759, 760, 761, 737, 738, 739, 740, 741, 742, 743, 744, 745, 746, 747, 726, 727, 728, 729, 730, 731, 732, 733, 734, 735, 736] rfl (by decide +kernel)
set_option maxRecDepth 20000 in
theorem gL_law_X4_plan : GoodIn wsL_law (wsV RL 83 RX4 yX4_plan wsX4_plan) := goodIn_app (goodIn_of _ (by decide +kernel)) ggL_law_X4_plan
set_option maxRecDepth 20000 in
theorem ggL_law_X5_plan : GoodIn wsL_law wsX5_plan := goodIn_r _ [505, 148, 107, 459, 87, 104, 96, 312, 288, 289, 290, 106, 506, 507, 105, 386, 387, 388, 5, 389, 99, 91, 149, 97, 101, 98, 390, 391, 392, 393, 307, 308, 309, 310, 94, 90, 311, 300, 301, 313, 314, 315, 316, 95, 275, 276, 277, 278, 88, 92, 89, 93, 271, 272, 273, 274, 508, 509, 510, 511, 512, 513, 514, 515, 516, 693, 694, 695, 696, 697, 698, 699, 700, 701, 702, 703, 704, 705, 706, 707, 708, 709, 710, 711, 712, 713, 714, 715, 716, 717, 718, 719, 720, 721, 722, 723, 724, 725] rfl (by decide +kernel)
set_option maxRecDepth 20000 in
theorem gL_law_X5_plan : GoodIn wsL_law (wsV RL 87 RX5 yX5_plan wsX5_plan) := goodIn_app (goodIn_of _ (by decide +kernel)) ggL_law_X5_plan
set_option maxRecDepth 20000 in
theorem ggL_law_X4_runs : GoodIn wsL_law wsX4_runs := goodIn_r _ [520, 23, 166, 167, 2, 168, 116, 117, 118, 521, 522, 523, 22, 524, 75, 501, 688, 689, 690, 691, 692, 748, 749, 750, 751, 752, 753, 754, 755, 756, 757, 758, 759, 760, 761] rfl (by decide +kernel)
set_option maxRecDepth 20000 in
theorem gL_law_X4_runs : GoodIn wsL_law (wsV RL 88 RX4 yX4_runs wsX4_runs) := goodIn_app (goodIn_of _ (by decide +kernel)) ggL_law_X4_runs
set_option maxRecDepth 20000 in
theorem ggL_law_X5_runs : GoodIn wsL_law wsX5_runs := goodIn_r _ [528, 148, 106, 105, 150, 151, 5, 152, 693, 694, 695, 696, 697, 698, 699, 700, 701, 702, 703, 704, 705, 706, 707, 708, 709, 710, 711, 712, 713, 714, 715, 716, 717, 718, 719, 720, 721, 722, 723, 724, 725] rfl (by decide +kernel)
set_option maxRecDepth 20000 in
theorem gL_law_X5_runs : GoodIn wsL_law (wsV RL 91 RX5 yX5_runs wsX5_runs) := goodIn_app (goodIn_of _ (by decide +kernel)) ggL_law_X5_runs
set_option maxRecDepth 20000 in
theorem ggL_law_X4_step : GoodIn wsL_law wsX4_step := goodIn_r _ [532, 23, 533, 534, 535, 22, 536, 468, 68, 453, 469, 537, 67, 474, 365, 366, 18, 367, 49, 53, 360, 361, 362, 363, 48, 50, 51, 52, 368, 369, 370, 371, 372, 128, 129, 14, 130, 131, 373, 284, 285, 286, 41, 287, 288, 289, 290, 37, 291, 292, 293, 294, 42, 295, 296, 297, 298, 38, 43, 299, 300, 301, 302, 260, 261, 262, 35, 36, 39, 40, 34, 374, 375, 376, 377, 378, 379, 380, 381, 475, 476, 477, 478, 490, 491, 492, 493, 494, 495, 496, 69, 538, 539, 540, 541, 119, 120, 121, 2, 122, 28, 140, 141, 142, 143, 688, 689, 690, 691, 692, 748, 749, 750, 751, 752, 753, 754, 755, 756, 757, 758, 759, 760, 761, 737, 738, 739, 740, 741, 742, 743, 744, 745, 746, 747, 726, 727, 728, 729, 730, 731, 732, 733, 734, 735, 736] rfl (by decide +kernel)
set_option maxRecDepth 20000 in
theorem gL_law_X4_step : GoodIn wsL_law (wsV RL 92 RX4 yX4_step wsX4_step) := goodIn_app (goodIn_of _ (by decide +kernel)) ggL_law_X4_step
set_option maxRecDepth 20000 in
theorem ggL_law_X5_step : GoodIn wsL_law wsX5_step := goodIn_r _ [545, 148, 506, 459, 507, 96, 546, 149, 90, 87, 311, 300, 289, 301, 386, 387, 388, 5, 389, 99, 91, 97, 101, 98, 390, 391, 392, 393, 307, 308, 309, 310, 94, 312, 288, 290, 313, 314, 315, 316, 95, 275, 276, 277, 278, 88, 92, 89, 93, 271, 272, 273, 274, 511, 512, 513, 514, 515, 516, 153, 154, 155, 156, 157, 158, 159, 160, 161, 693, 694, 695, 696, 697, 698, 699, 700, 701, 702, 703, 704, 705, 706, 707, 708, 709, 710, 711, 712, 713, 714, 715, 716, 717, 718, 719, 720, 721, 722, 723, 724, 725] rfl (by decide +kernel)
set_option maxRecDepth 20000 in
theorem gL_law_X5_step : GoodIn wsL_law (wsV RL 96 RX5 yX5_step wsX5_step) := goodIn_app (goodIn_of _ (by decide +kernel)) ggL_law_X5_step
set_option maxRecDepth 20000 in
theorem ggL_law_X4_earned : GoodIn wsL_law wsX4_earned := goodIn_r _ [550, 23, 551, 552, 553, 22, 554, 537, 688, 689, 690, 691, 692, 748, 749, 750, 751, 752, 753, 754, 755, 756, 757, 758, 759, 760, 761] rfl (by decide +kernel)
set_option maxRecDepth 20000 in
theorem gL_law_X4_earned : GoodIn wsL_law (wsV RL 97 RX4 yX4_earned wsX4_earned) := goodIn_app (goodIn_of _ (by decide +kernel)) ggL_law_X4_earned
set_option maxRecDepth 20000 in
theorem ggL_law_X5_earned : GoodIn wsL_law wsX5_earned := goodIn_r _ [558, 148, 546, 693, 694, 695, 696, 697, 698, 699, 700, 701, 702, 703, 704, 705, 706, 707, 708, 709, 710, 711, 712, 713, 714, 715, 716, 717, 718, 719, 720, 721, 722, 723, 724, 725] rfl (by decide +kernel)
set_option maxRecDepth 20000 in
theorem gL_law_X5_earned : GoodIn wsL_law (wsV RL 100 RX5 yX5_earned wsX5_earned) := goodIn_app (goodIn_of _ (by decide +kernel)) ggL_law_X5_earned
set_option maxRecDepth 20000 in
theorem ggL_law_X4_shot : GoodIn wsL_law wsX4_shot := goodIn_r _ [562, 563, 564, 300, 289, 301, 15, 27, 565, 566, 567, 568, 569, 570, 571, 116, 117, 2, 118, 119, 120, 121, 122, 28, 127, 128, 129, 14, 130, 131, 572, 573, 574, 26, 575, 576, 577, 578, 579, 580, 81, 581, 582, 583, 140, 141, 142, 143, 688, 689, 690, 691, 692, 726, 727, 728, 729, 730, 731, 732, 733, 734, 735, 736, 762, 763, 764, 765, 766] rfl (by decide +kernel)
set_option maxRecDepth 20000 in
theorem gL_law_X4_shot : GoodIn wsL_law (wsV RL 101 RX4 yX4_shot wsX4_shot) := goodIn_app (goodIn_of _ (by decide +kernel)) ggL_law_X4_shot
set_option maxRecDepth 20000 in
theorem ggL_law_X5_shot : GoodIn wsL_law wsX5_shot := goodIn_r _ [587, 148, 588, 149, 589, 590, 109, 110, 591, 592, 5, 593, 153, 154, 155, 156, 157, 158, 159, 160, 161, 693, 694, 695, 696, 697, 698, 699, 700, 701, 702, 703, 704, 705, 706, 707, 708, 709, 710, 711, 712, 713, 714, 715, 716, 717, 718, 719, 720, 721, 722, 723, 724, 725] rfl (by decide +kernel)
set_option maxRecDepth 20000 in
theorem gL_law_X5_shot : GoodIn wsL_law (wsV RL 105 RX5 yX5_shot wsX5_shot) := goodIn_app (goodIn_of _ (by decide +kernel)) ggL_law_X5_shot
set_option maxRecDepth 20000 in
theorem ggL_law_X4_forget : GoodIn wsL_law wsX4_forget := goodIn_r _ [597, 27, 598, 599, 600, 26, 601, 576, 81, 581, 602, 60, 61, 62, 688, 689, 690, 691, 692, 762, 763, 764, 765, 766] rfl (by decide +kernel)
set_option maxRecDepth 20000 in
theorem gL_law_X4_forget : GoodIn wsL_law (wsV RL 106 RX4 yX4_forget wsX4_forget) := goodIn_app (goodIn_of _ (by decide +kernel)) ggL_law_X4_forget
set_option maxRecDepth 20000 in
theorem ggL_law_X5_forget : GoodIn wsL_law wsX5_forget := goodIn_r _ [606, 148, 590, 693, 694, 695, 696, 697, 698, 699, 700, 701, 702, 703, 704, 705, 706, 707, 708, 709, 710, 711, 712, 713, 714, 715, 716, 717, 718, 719, 720, 721, 722, 723, 724, 725] rfl (by decide +kernel)
set_option maxRecDepth 20000 in
theorem gL_law_X5_forget : GoodIn wsL_law (wsV RL 109 RX5 yX5_forget wsX5_forget) := goodIn_app (goodIn_of _ (by decide +kernel)) ggL_law_X5_forget
set_option maxRecDepth 20000 in
theorem ggL_law_X4_agree : GoodIn wsL_law wsX4_agree := goodIn_r _ [610, 27, 15, 127, 128, 129, 14, 130, 131, 611, 612, 613, 26, 614, 615, 616, 617, 618, 619, 82, 581, 81, 602, 60, 61, 62, 688, 689, 690, 691, 692, 726, 727, 728, 729, 730, 731, 732, 733, 734, 735, 736, 762, 763, 764, 765, 766] rfl (by decide +kernel)
set_option maxRecDepth 20000 in
theorem gL_law_X4_agree : GoodIn wsL_law (wsV RL 110 RX4 yX4_agree wsX4_agree) := goodIn_app (goodIn_of _ (by decide +kernel)) ggL_law_X4_agree
set_option maxRecDepth 20000 in
theorem ggL_law_X5_agree : GoodIn wsL_law wsX5_agree := goodIn_r _ [623, 148, 624, 625, 626, 5, 627, 111, 149, 628, 629, 630, 631, 590, 109, 589, 110, 591, 592, 593, 693, 694, 695, 696, 697, 698, 699, 700, 701, 702, 703, 704, 705, 706, 707, 708, 709, 710, 711, 712, 713, 714, 715, 716, 717, 718, 719, 720, 721, 722, 723, 724, 725] rfl (by decide +kernel)
set_option maxRecDepth 20000 in
theorem gL_law_X5_agree : GoodIn wsL_law (wsV RL 113 RX5 yX5_agree wsX5_agree) := goodIn_app (goodIn_of _ (by decide +kernel)) ggL_law_X5_agree
set_option maxRecDepth 20000 in
theorem ggL_law_X4_stuck : GoodIn wsL_law wsX4_stuck := goodIn_r _ [635, 27, 15, 251, 252, 253, 2, 254, 127, 128, 129, 14, 130, 131, 116, 117, 118, 636, 637, 638, 26, 639, 82, 616, 617, 618, 619, 581, 615, 81, 602, 60, 61, 62, 640, 641, 642, 643, 688, 689, 690, 691, 692, 726, 727, 728, 729, 730, 731, 732, 733, 734, 735, 736, 762, 763, 764, 765, 766] rfl (by decide +kernel)
set_option maxRecDepth 20000 in
theorem gL_law_X4_stuck : GoodIn wsL_law (wsV RL 114 RX4 yX4_stuck wsX4_stuck) := goodIn_app (goodIn_of _ (by decide +kernel)) ggL_law_X4_stuck
set_option maxRecDepth 20000 in
theorem ggL_law_X5_stuck : GoodIn wsL_law wsX5_stuck := goodIn_r _ [647, 148, 111, 267, 268, 269, 5, 270, 149, 624, 625, 626, 627, 628, 629, 630, 631, 590, 109, 589, 110, 591, 592, 593, 693, 694, 695, 696, 697, 698, 699, 700, 701, 702, 703, 704, 705, 706, 707, 708, 709, 710, 711, 712, 713, 714, 715, 716, 717, 718, 719, 720, 721, 722, 723, 724, 725] rfl (by decide +kernel)
set_option maxRecDepth 20000 in
theorem gL_law_X5_stuck : GoodIn wsL_law (wsV RL 117 RX5 yX5_stuck wsX5_stuck) := goodIn_app (goodIn_of _ (by decide +kernel)) ggL_law_X5_stuck
set_option maxRecDepth 20000 in
theorem ggL_law_X4_unsure : GoodIn wsL_law wsX4_unsure := goodIn_r _ [651, 27, 15, 127, 128, 129, 14, 130, 131, 652, 653, 654, 26, 655, 616, 617, 618, 619, 82, 581, 615, 81, 602, 60, 61, 62, 640, 641, 642, 643, 688, 689, 690, 691, 692, 726, 727, 728, 729, 730, 731, 732, 733, 734, 735, 736, 762, 763, 764, 765, 766] rfl (by decide +kernel)
set_option maxRecDepth 20000 in
theorem gL_law_X4_unsure : GoodIn wsL_law (wsV RL 118 RX4 yX4_unsure wsX4_unsure) := goodIn_app (goodIn_of _ (by decide +kernel)) ggL_law_X4_unsure
set_option maxRecDepth 20000 in
theorem ggL_law_X5_unsure : GoodIn wsL_law wsX5_unsure := goodIn_r _ [659, 148, 149, 111, 624, 625, 626, 5, 627, 628, 629, 630, 631, 590, 109, 589, 110, 591, 592, 593, 693, 694, 695, 696, 697, 698, 699, 700, 701, 702, 703, 704, 705, 706, 707, 708, 709, 710, 711, 712, 713, 714, 715, 716, 717, 718, 719, 720, 721, 722, 723, 724, 725] rfl (by decide +kernel)
set_option maxRecDepth 20000 in
theorem gL_law_X5_unsure : GoodIn wsL_law (wsV RL 121 RX5 yX5_unsure wsX5_unsure) := goodIn_app (goodIn_of _ (by decide +kernel)) ggL_law_X5_unsure
set_option maxRecDepth 20000 in
theorem ggL_law_X4_count : GoodIn wsL_law wsX4_count := goodIn_r _ [663, 15, 23, 27, 127, 128, 129, 14, 130, 131, 449, 450, 451, 22, 452, 453, 664, 665, 666, 667, 468, 668, 669, 670, 671, 469, 572, 573, 574, 26, 575, 576, 672, 673, 674, 675, 38, 688, 689, 690, 691, 692, 726, 727, 728, 729, 730, 731, 732, 733, 734, 735, 736, 748, 749, 750, 751, 752, 753, 754, 755, 756, 757, 758, 759, 760, 761, 762, 763, 764, 765, 766] rfl (by decide +kernel)
set_option maxRecDepth 20000 in
theorem gL_law_X4_count : GoodIn wsL_law (wsV RL 122 RX4 yX4_count wsX4_count) := goodIn_app (goodIn_of _ (by decide +kernel)) ggL_law_X4_count
set_option maxRecDepth 20000 in
theorem ggL_law_X5_count : GoodIn wsL_law wsX5_count := goodIn_r _ [679, 148, 149, 459, 506, 507, 590, 90, 693, 694, 695, 696, 697, 698, 699, 700, 701, 702, 703, 704, 705, 706, 707, 708, 709, 710, 711, 712, 713, 714, 715, 716, 717, 718, 719, 720, 721, 722, 723, 724, 725] rfl (by decide +kernel)
set_option maxRecDepth 20000 in
theorem gL_law_X5_count : GoodIn wsL_law (wsV RL 125 RX5 yX5_count wsX5_count) := goodIn_app (goodIn_of _ (by decide +kernel)) ggL_law_X5_count
set_option maxRecDepth 20000 in
theorem ggL_law_X4_trouble : GoodIn wsL_law wsX4_trouble := goodIn_r _ [683, 28, 688, 689, 690, 691, 692] rfl (by decide +kernel)
set_option maxRecDepth 20000 in
theorem gL_law_X4_trouble : GoodIn wsL_law (wsV RL 126 RX4 yX4_trouble wsX4_trouble) := goodIn_app (goodIn_of _ (by decide +kernel)) ggL_law_X4_trouble
set_option maxRecDepth 20000 in
theorem ggL_law_X5_trouble : GoodIn wsL_law wsX5_trouble := goodIn_r _ [687, 148, 157, 693, 694, 695, 696, 697, 698, 699, 700, 701, 702, 703, 704, 705, 706, 707, 708, 709, 710, 711, 712, 713, 714, 715, 716, 717, 718, 719, 720, 721, 722, 723, 724, 725] rfl (by decide +kernel)
set_option maxRecDepth 20000 in
theorem gL_law_X5_trouble : GoodIn wsL_law (wsV RL 129 RX5 yX5_trouble wsX5_trouble) := goodIn_app (goodIn_of _ (by decide +kernel)) ggL_law_X5_trouble
theorem dL_law_0 : decode cL_law 0 = .ok (.new 7, 3) := by decide +kernel
theorem dL_law_3 : decode cL_law 3 = .ok (.dup, 1) := by decide +kernel
theorem dL_law_4 : decode cL_law 4 = .ok (.invokespecial 9, 3) := by decide +kernel
theorem dL_law_7 : decode cL_law 7 = .ok (.astore_n 1, 1) := by decide +kernel
theorem dL_law_8 : decode cL_law 8 = .ok (.new 10, 3) := by decide +kernel
theorem dL_law_11 : decode cL_law 11 = .ok (.dup, 1) := by decide +kernel
theorem dL_law_12 : decode cL_law 12 = .ok (.invokespecial 12, 3) := by decide +kernel
theorem dL_law_15 : decode cL_law 15 = .ok (.astore_n 2, 1) := by decide +kernel
theorem dL_law_16 : decode cL_law 16 = .ok (.iconst 0, 1) := by decide +kernel
theorem dL_law_17 : decode cL_law 17 = .ok (.istore_n 3, 1) := by decide +kernel
theorem dL_law_18 : decode cL_law 18 = .ok (.iload_n 3, 1) := by decide +kernel
theorem dL_law_19 : decode cL_law 19 = .ok (.aload_n 0, 1) := by decide +kernel
theorem dL_law_20 : decode cL_law 20 = .ok (.arraylength, 1) := by decide +kernel
theorem dL_law_21 : decode cL_law 21 = .ok (.iconst 5, 1) := by decide +kernel
theorem dL_law_22 : decode cL_law 22 = .ok (.isub, 1) := by decide +kernel
theorem dL_law_23 : decode cL_law 23 = .ok (.if_icmp .gt 852, 3) := by decide +kernel
theorem dL_law_26 : decode cL_law 26 = .ok (.aload_n 0, 1) := by decide +kernel
theorem dL_law_27 : decode cL_law 27 = .ok (.iload_n 3, 1) := by decide +kernel
theorem dL_law_28 : decode cL_law 28 = .ok (.iaload, 1) := by decide +kernel
theorem dL_law_29 : decode cL_law 29 = .ok (.bipush 31, 2) := by decide +kernel
theorem dL_law_31 : decode cL_law 31 = .ok (.iand, 1) := by decide +kernel
theorem dL_law_32 : decode cL_law 32 = .ok (.tableswitch 837 0 26 #[124, 157, 210, 243, 276, 309, 332, 391, 424, 447, 470, 493, 516, 539, 562, 585, 608, 621, 644, 683, 696, 739, 752, 765, 788, 801, 824], 124) := by decide +kernel
theorem dL_law_156 : decode cL_law 156 = .ok (.aload_n 1, 1) := by decide +kernel
theorem dL_law_157 : decode cL_law 157 = .ok (.aload_n 0, 1) := by decide +kernel
theorem dL_law_158 : decode cL_law 158 = .ok (.iload_n 3, 1) := by decide +kernel
theorem dL_law_159 : decode cL_law 159 = .ok (.iconst 1, 1) := by decide +kernel
theorem dL_law_160 : decode cL_law 160 = .ok (.iadd, 1) := by decide +kernel
theorem dL_law_161 : decode cL_law 161 = .ok (.iaload, 1) := by decide +kernel
theorem dL_law_162 : decode cL_law 162 = .ok (.aload_n 0, 1) := by decide +kernel
theorem dL_law_163 : decode cL_law 163 = .ok (.iload_n 3, 1) := by decide +kernel
theorem dL_law_164 : decode cL_law 164 = .ok (.iconst 2, 1) := by decide +kernel
theorem dL_law_165 : decode cL_law 165 = .ok (.iadd, 1) := by decide +kernel
theorem dL_law_166 : decode cL_law 166 = .ok (.iaload, 1) := by decide +kernel
theorem dL_law_167 : decode cL_law 167 = .ok (.invokevirtual 13, 3) := by decide +kernel
theorem dL_law_170 : decode cL_law 170 = .ok (.pop, 1) := by decide +kernel
theorem dL_law_171 : decode cL_law 171 = .ok (.aload_n 2, 1) := by decide +kernel
theorem dL_law_172 : decode cL_law 172 = .ok (.aload_n 0, 1) := by decide +kernel
theorem dL_law_173 : decode cL_law 173 = .ok (.iload_n 3, 1) := by decide +kernel
theorem dL_law_174 : decode cL_law 174 = .ok (.iconst 1, 1) := by decide +kernel
theorem dL_law_175 : decode cL_law 175 = .ok (.iadd, 1) := by decide +kernel
theorem dL_law_176 : decode cL_law 176 = .ok (.iaload, 1) := by decide +kernel
theorem dL_law_177 : decode cL_law 177 = .ok (.aload_n 0, 1) := by decide +kernel
theorem dL_law_178 : decode cL_law 178 = .ok (.iload_n 3, 1) := by decide +kernel
theorem dL_law_179 : decode cL_law 179 = .ok (.iconst 2, 1) := by decide +kernel
theorem dL_law_180 : decode cL_law 180 = .ok (.iadd, 1) := by decide +kernel
theorem dL_law_181 : decode cL_law 181 = .ok (.iaload, 1) := by decide +kernel
theorem dL_law_182 : decode cL_law 182 = .ok (.invokevirtual 17, 3) := by decide +kernel
theorem dL_law_185 : decode cL_law 185 = .ok (.pop, 1) := by decide +kernel
theorem dL_law_186 : decode cL_law 186 = .ok (.goto 683, 3) := by decide +kernel
theorem dL_law_189 : decode cL_law 189 = .ok (.aload_n 1, 1) := by decide +kernel
theorem dL_law_190 : decode cL_law 190 = .ok (.aload_n 0, 1) := by decide +kernel
theorem dL_law_191 : decode cL_law 191 = .ok (.iload_n 3, 1) := by decide +kernel
theorem dL_law_192 : decode cL_law 192 = .ok (.iconst 1, 1) := by decide +kernel
theorem dL_law_193 : decode cL_law 193 = .ok (.iadd, 1) := by decide +kernel
theorem dL_law_194 : decode cL_law 194 = .ok (.iaload, 1) := by decide +kernel
theorem dL_law_195 : decode cL_law 195 = .ok (.aload_n 0, 1) := by decide +kernel
theorem dL_law_196 : decode cL_law 196 = .ok (.iload_n 3, 1) := by decide +kernel
theorem dL_law_197 : decode cL_law 197 = .ok (.iconst 2, 1) := by decide +kernel
theorem dL_law_198 : decode cL_law 198 = .ok (.iadd, 1) := by decide +kernel
theorem dL_law_199 : decode cL_law 199 = .ok (.iaload, 1) := by decide +kernel
theorem dL_law_200 : decode cL_law 200 = .ok (.aload_n 0, 1) := by decide +kernel
theorem dL_law_201 : decode cL_law 201 = .ok (.iload_n 3, 1) := by decide +kernel
theorem dL_law_202 : decode cL_law 202 = .ok (.iconst 3, 1) := by decide +kernel
theorem dL_law_203 : decode cL_law 203 = .ok (.iadd, 1) := by decide +kernel
theorem dL_law_204 : decode cL_law 204 = .ok (.iaload, 1) := by decide +kernel
theorem dL_law_205 : decode cL_law 205 = .ok (.aload_n 0, 1) := by decide +kernel
theorem dL_law_206 : decode cL_law 206 = .ok (.iload_n 3, 1) := by decide +kernel
theorem dL_law_207 : decode cL_law 207 = .ok (.iconst 4, 1) := by decide +kernel
theorem dL_law_208 : decode cL_law 208 = .ok (.iadd, 1) := by decide +kernel
theorem dL_law_209 : decode cL_law 209 = .ok (.iaload, 1) := by decide +kernel
theorem dL_law_210 : decode cL_law 210 = .ok (.invokevirtual 18, 3) := by decide +kernel
theorem dL_law_213 : decode cL_law 213 = .ok (.pop, 1) := by decide +kernel
theorem dL_law_214 : decode cL_law 214 = .ok (.aload_n 2, 1) := by decide +kernel
theorem dL_law_215 : decode cL_law 215 = .ok (.aload_n 0, 1) := by decide +kernel
theorem dL_law_216 : decode cL_law 216 = .ok (.iload_n 3, 1) := by decide +kernel
theorem dL_law_217 : decode cL_law 217 = .ok (.iconst 1, 1) := by decide +kernel
theorem dL_law_218 : decode cL_law 218 = .ok (.iadd, 1) := by decide +kernel
theorem dL_law_219 : decode cL_law 219 = .ok (.iaload, 1) := by decide +kernel
theorem dL_law_220 : decode cL_law 220 = .ok (.aload_n 0, 1) := by decide +kernel
theorem dL_law_221 : decode cL_law 221 = .ok (.iload_n 3, 1) := by decide +kernel
theorem dL_law_222 : decode cL_law 222 = .ok (.iconst 2, 1) := by decide +kernel
theorem dL_law_223 : decode cL_law 223 = .ok (.iadd, 1) := by decide +kernel
theorem dL_law_224 : decode cL_law 224 = .ok (.iaload, 1) := by decide +kernel
theorem dL_law_225 : decode cL_law 225 = .ok (.aload_n 0, 1) := by decide +kernel
theorem dL_law_226 : decode cL_law 226 = .ok (.iload_n 3, 1) := by decide +kernel
theorem dL_law_227 : decode cL_law 227 = .ok (.iconst 3, 1) := by decide +kernel
theorem dL_law_228 : decode cL_law 228 = .ok (.iadd, 1) := by decide +kernel
theorem dL_law_229 : decode cL_law 229 = .ok (.iaload, 1) := by decide +kernel
theorem dL_law_230 : decode cL_law 230 = .ok (.aload_n 0, 1) := by decide +kernel
theorem dL_law_231 : decode cL_law 231 = .ok (.iload_n 3, 1) := by decide +kernel
theorem dL_law_232 : decode cL_law 232 = .ok (.iconst 4, 1) := by decide +kernel
theorem dL_law_233 : decode cL_law 233 = .ok (.iadd, 1) := by decide +kernel
theorem dL_law_234 : decode cL_law 234 = .ok (.iaload, 1) := by decide +kernel
theorem dL_law_235 : decode cL_law 235 = .ok (.invokevirtual 22, 3) := by decide +kernel
theorem dL_law_238 : decode cL_law 238 = .ok (.pop, 1) := by decide +kernel
theorem dL_law_239 : decode cL_law 239 = .ok (.goto 630, 3) := by decide +kernel
theorem dL_law_242 : decode cL_law 242 = .ok (.aload_n 1, 1) := by decide +kernel
theorem dL_law_243 : decode cL_law 243 = .ok (.aload_n 0, 1) := by decide +kernel
theorem dL_law_244 : decode cL_law 244 = .ok (.iload_n 3, 1) := by decide +kernel
theorem dL_law_245 : decode cL_law 245 = .ok (.iconst 1, 1) := by decide +kernel
theorem dL_law_246 : decode cL_law 246 = .ok (.iadd, 1) := by decide +kernel
theorem dL_law_247 : decode cL_law 247 = .ok (.iaload, 1) := by decide +kernel
theorem dL_law_248 : decode cL_law 248 = .ok (.aload_n 0, 1) := by decide +kernel
theorem dL_law_249 : decode cL_law 249 = .ok (.iload_n 3, 1) := by decide +kernel
theorem dL_law_250 : decode cL_law 250 = .ok (.iconst 2, 1) := by decide +kernel
theorem dL_law_251 : decode cL_law 251 = .ok (.iadd, 1) := by decide +kernel
theorem dL_law_252 : decode cL_law 252 = .ok (.iaload, 1) := by decide +kernel
theorem dL_law_253 : decode cL_law 253 = .ok (.invokevirtual 23, 3) := by decide +kernel
theorem dL_law_256 : decode cL_law 256 = .ok (.pop, 1) := by decide +kernel
theorem dL_law_257 : decode cL_law 257 = .ok (.aload_n 2, 1) := by decide +kernel
theorem dL_law_258 : decode cL_law 258 = .ok (.aload_n 0, 1) := by decide +kernel
theorem dL_law_259 : decode cL_law 259 = .ok (.iload_n 3, 1) := by decide +kernel
theorem dL_law_260 : decode cL_law 260 = .ok (.iconst 1, 1) := by decide +kernel
theorem dL_law_261 : decode cL_law 261 = .ok (.iadd, 1) := by decide +kernel
theorem dL_law_262 : decode cL_law 262 = .ok (.iaload, 1) := by decide +kernel
theorem dL_law_263 : decode cL_law 263 = .ok (.aload_n 0, 1) := by decide +kernel
theorem dL_law_264 : decode cL_law 264 = .ok (.iload_n 3, 1) := by decide +kernel
theorem dL_law_265 : decode cL_law 265 = .ok (.iconst 2, 1) := by decide +kernel
theorem dL_law_266 : decode cL_law 266 = .ok (.iadd, 1) := by decide +kernel
theorem dL_law_267 : decode cL_law 267 = .ok (.iaload, 1) := by decide +kernel
theorem dL_law_268 : decode cL_law 268 = .ok (.invokevirtual 27, 3) := by decide +kernel
theorem dL_law_271 : decode cL_law 271 = .ok (.pop, 1) := by decide +kernel
theorem dL_law_272 : decode cL_law 272 = .ok (.goto 597, 3) := by decide +kernel
theorem dL_law_275 : decode cL_law 275 = .ok (.aload_n 1, 1) := by decide +kernel
theorem dL_law_276 : decode cL_law 276 = .ok (.aload_n 0, 1) := by decide +kernel
theorem dL_law_277 : decode cL_law 277 = .ok (.iload_n 3, 1) := by decide +kernel
theorem dL_law_278 : decode cL_law 278 = .ok (.iconst 1, 1) := by decide +kernel
theorem dL_law_279 : decode cL_law 279 = .ok (.iadd, 1) := by decide +kernel
theorem dL_law_280 : decode cL_law 280 = .ok (.iaload, 1) := by decide +kernel
theorem dL_law_281 : decode cL_law 281 = .ok (.aload_n 0, 1) := by decide +kernel
theorem dL_law_282 : decode cL_law 282 = .ok (.iload_n 3, 1) := by decide +kernel
theorem dL_law_283 : decode cL_law 283 = .ok (.iconst 2, 1) := by decide +kernel
theorem dL_law_284 : decode cL_law 284 = .ok (.iadd, 1) := by decide +kernel
theorem dL_law_285 : decode cL_law 285 = .ok (.iaload, 1) := by decide +kernel
theorem dL_law_286 : decode cL_law 286 = .ok (.invokevirtual 28, 3) := by decide +kernel
theorem dL_law_289 : decode cL_law 289 = .ok (.aload_n 2, 1) := by decide +kernel
theorem dL_law_290 : decode cL_law 290 = .ok (.aload_n 0, 1) := by decide +kernel
theorem dL_law_291 : decode cL_law 291 = .ok (.iload_n 3, 1) := by decide +kernel
theorem dL_law_292 : decode cL_law 292 = .ok (.iconst 1, 1) := by decide +kernel
theorem dL_law_293 : decode cL_law 293 = .ok (.iadd, 1) := by decide +kernel
theorem dL_law_294 : decode cL_law 294 = .ok (.iaload, 1) := by decide +kernel
theorem dL_law_295 : decode cL_law 295 = .ok (.aload_n 0, 1) := by decide +kernel
theorem dL_law_296 : decode cL_law 296 = .ok (.iload_n 3, 1) := by decide +kernel
theorem dL_law_297 : decode cL_law 297 = .ok (.iconst 2, 1) := by decide +kernel
theorem dL_law_298 : decode cL_law 298 = .ok (.iadd, 1) := by decide +kernel
theorem dL_law_299 : decode cL_law 299 = .ok (.iaload, 1) := by decide +kernel
theorem dL_law_300 : decode cL_law 300 = .ok (.invokevirtual 31, 3) := by decide +kernel
theorem dL_law_303 : decode cL_law 303 = .ok (.if_icmp .eq 566, 3) := by decide +kernel
theorem dL_law_306 : decode cL_law 306 = .ok (.iconst 0, 1) := by decide +kernel
theorem dL_law_307 : decode cL_law 307 = .ok (.ireturn, 1) := by decide +kernel
theorem dL_law_308 : decode cL_law 308 = .ok (.aload_n 1, 1) := by decide +kernel
theorem dL_law_309 : decode cL_law 309 = .ok (.aload_n 0, 1) := by decide +kernel
theorem dL_law_310 : decode cL_law 310 = .ok (.iload_n 3, 1) := by decide +kernel
theorem dL_law_311 : decode cL_law 311 = .ok (.iconst 1, 1) := by decide +kernel
theorem dL_law_312 : decode cL_law 312 = .ok (.iadd, 1) := by decide +kernel
theorem dL_law_313 : decode cL_law 313 = .ok (.iaload, 1) := by decide +kernel
theorem dL_law_314 : decode cL_law 314 = .ok (.aload_n 0, 1) := by decide +kernel
theorem dL_law_315 : decode cL_law 315 = .ok (.iload_n 3, 1) := by decide +kernel
theorem dL_law_316 : decode cL_law 316 = .ok (.iconst 2, 1) := by decide +kernel
theorem dL_law_317 : decode cL_law 317 = .ok (.iadd, 1) := by decide +kernel
theorem dL_law_318 : decode cL_law 318 = .ok (.iaload, 1) := by decide +kernel
theorem dL_law_319 : decode cL_law 319 = .ok (.invokevirtual 32, 3) := by decide +kernel
theorem dL_law_322 : decode cL_law 322 = .ok (.pop, 1) := by decide +kernel
theorem dL_law_323 : decode cL_law 323 = .ok (.aload_n 2, 1) := by decide +kernel
theorem dL_law_324 : decode cL_law 324 = .ok (.aload_n 0, 1) := by decide +kernel
theorem dL_law_325 : decode cL_law 325 = .ok (.iload_n 3, 1) := by decide +kernel
theorem dL_law_326 : decode cL_law 326 = .ok (.iconst 1, 1) := by decide +kernel
theorem dL_law_327 : decode cL_law 327 = .ok (.iadd, 1) := by decide +kernel
theorem dL_law_328 : decode cL_law 328 = .ok (.iaload, 1) := by decide +kernel
theorem dL_law_329 : decode cL_law 329 = .ok (.aload_n 0, 1) := by decide +kernel
theorem dL_law_330 : decode cL_law 330 = .ok (.iload_n 3, 1) := by decide +kernel
theorem dL_law_331 : decode cL_law 331 = .ok (.iconst 2, 1) := by decide +kernel
theorem dL_law_332 : decode cL_law 332 = .ok (.iadd, 1) := by decide +kernel
theorem dL_law_333 : decode cL_law 333 = .ok (.iaload, 1) := by decide +kernel
theorem dL_law_334 : decode cL_law 334 = .ok (.invokevirtual 35, 3) := by decide +kernel
theorem dL_law_337 : decode cL_law 337 = .ok (.pop, 1) := by decide +kernel
theorem dL_law_338 : decode cL_law 338 = .ok (.goto 531, 3) := by decide +kernel
theorem dL_law_341 : decode cL_law 341 = .ok (.aload_n 1, 1) := by decide +kernel
theorem dL_law_342 : decode cL_law 342 = .ok (.aload_n 0, 1) := by decide +kernel
theorem dL_law_343 : decode cL_law 343 = .ok (.iload_n 3, 1) := by decide +kernel
theorem dL_law_344 : decode cL_law 344 = .ok (.iconst 1, 1) := by decide +kernel
theorem dL_law_345 : decode cL_law 345 = .ok (.iadd, 1) := by decide +kernel
theorem dL_law_346 : decode cL_law 346 = .ok (.iaload, 1) := by decide +kernel
theorem dL_law_347 : decode cL_law 347 = .ok (.invokevirtual 36, 3) := by decide +kernel
theorem dL_law_350 : decode cL_law 350 = .ok (.pop, 1) := by decide +kernel
theorem dL_law_351 : decode cL_law 351 = .ok (.aload_n 2, 1) := by decide +kernel
theorem dL_law_352 : decode cL_law 352 = .ok (.aload_n 0, 1) := by decide +kernel
theorem dL_law_353 : decode cL_law 353 = .ok (.iload_n 3, 1) := by decide +kernel
theorem dL_law_354 : decode cL_law 354 = .ok (.iconst 1, 1) := by decide +kernel
theorem dL_law_355 : decode cL_law 355 = .ok (.iadd, 1) := by decide +kernel
theorem dL_law_356 : decode cL_law 356 = .ok (.iaload, 1) := by decide +kernel
theorem dL_law_357 : decode cL_law 357 = .ok (.invokevirtual 40, 3) := by decide +kernel
theorem dL_law_360 : decode cL_law 360 = .ok (.pop, 1) := by decide +kernel
theorem dL_law_361 : decode cL_law 361 = .ok (.goto 508, 3) := by decide +kernel
theorem dL_law_364 : decode cL_law 364 = .ok (.aload_n 1, 1) := by decide +kernel
theorem dL_law_365 : decode cL_law 365 = .ok (.aload_n 0, 1) := by decide +kernel
theorem dL_law_366 : decode cL_law 366 = .ok (.iload_n 3, 1) := by decide +kernel
theorem dL_law_367 : decode cL_law 367 = .ok (.iconst 1, 1) := by decide +kernel
theorem dL_law_368 : decode cL_law 368 = .ok (.iadd, 1) := by decide +kernel
theorem dL_law_369 : decode cL_law 369 = .ok (.iaload, 1) := by decide +kernel
theorem dL_law_370 : decode cL_law 370 = .ok (.aload_n 0, 1) := by decide +kernel
theorem dL_law_371 : decode cL_law 371 = .ok (.iload_n 3, 1) := by decide +kernel
theorem dL_law_372 : decode cL_law 372 = .ok (.iconst 2, 1) := by decide +kernel
theorem dL_law_373 : decode cL_law 373 = .ok (.iadd, 1) := by decide +kernel
theorem dL_law_374 : decode cL_law 374 = .ok (.iaload, 1) := by decide +kernel
theorem dL_law_375 : decode cL_law 375 = .ok (.aload_n 0, 1) := by decide +kernel
theorem dL_law_376 : decode cL_law 376 = .ok (.iload_n 3, 1) := by decide +kernel
theorem dL_law_377 : decode cL_law 377 = .ok (.iconst 3, 1) := by decide +kernel
theorem dL_law_378 : decode cL_law 378 = .ok (.iadd, 1) := by decide +kernel
theorem dL_law_379 : decode cL_law 379 = .ok (.iaload, 1) := by decide +kernel
theorem dL_law_380 : decode cL_law 380 = .ok (.ifCond .eq 7, 3) := by decide +kernel
theorem dL_law_383 : decode cL_law 383 = .ok (.iconst 1, 1) := by decide +kernel
theorem dL_law_384 : decode cL_law 384 = .ok (.goto 4, 3) := by decide +kernel
theorem dL_law_387 : decode cL_law 387 = .ok (.iconst 0, 1) := by decide +kernel
theorem dL_law_388 : decode cL_law 388 = .ok (.invokevirtual 41, 3) := by decide +kernel
theorem dL_law_391 : decode cL_law 391 = .ok (.pop, 1) := by decide +kernel
theorem dL_law_392 : decode cL_law 392 = .ok (.aload_n 2, 1) := by decide +kernel
theorem dL_law_393 : decode cL_law 393 = .ok (.aload_n 0, 1) := by decide +kernel
theorem dL_law_394 : decode cL_law 394 = .ok (.iload_n 3, 1) := by decide +kernel
theorem dL_law_395 : decode cL_law 395 = .ok (.iconst 1, 1) := by decide +kernel
theorem dL_law_396 : decode cL_law 396 = .ok (.iadd, 1) := by decide +kernel
theorem dL_law_397 : decode cL_law 397 = .ok (.iaload, 1) := by decide +kernel
theorem dL_law_398 : decode cL_law 398 = .ok (.aload_n 0, 1) := by decide +kernel
theorem dL_law_399 : decode cL_law 399 = .ok (.iload_n 3, 1) := by decide +kernel
theorem dL_law_400 : decode cL_law 400 = .ok (.iconst 2, 1) := by decide +kernel
theorem dL_law_401 : decode cL_law 401 = .ok (.iadd, 1) := by decide +kernel
theorem dL_law_402 : decode cL_law 402 = .ok (.iaload, 1) := by decide +kernel
theorem dL_law_403 : decode cL_law 403 = .ok (.aload_n 0, 1) := by decide +kernel
theorem dL_law_404 : decode cL_law 404 = .ok (.iload_n 3, 1) := by decide +kernel
theorem dL_law_405 : decode cL_law 405 = .ok (.iconst 3, 1) := by decide +kernel
theorem dL_law_406 : decode cL_law 406 = .ok (.iadd, 1) := by decide +kernel
theorem dL_law_407 : decode cL_law 407 = .ok (.iaload, 1) := by decide +kernel
theorem dL_law_408 : decode cL_law 408 = .ok (.ifCond .eq 7, 3) := by decide +kernel
theorem dL_law_411 : decode cL_law 411 = .ok (.iconst 1, 1) := by decide +kernel
theorem dL_law_412 : decode cL_law 412 = .ok (.goto 4, 3) := by decide +kernel
theorem dL_law_415 : decode cL_law 415 = .ok (.iconst 0, 1) := by decide +kernel
theorem dL_law_416 : decode cL_law 416 = .ok (.invokevirtual 45, 3) := by decide +kernel
theorem dL_law_419 : decode cL_law 419 = .ok (.pop, 1) := by decide +kernel
theorem dL_law_420 : decode cL_law 420 = .ok (.goto 449, 3) := by decide +kernel
theorem dL_law_423 : decode cL_law 423 = .ok (.aload_n 1, 1) := by decide +kernel
theorem dL_law_424 : decode cL_law 424 = .ok (.aload_n 0, 1) := by decide +kernel
theorem dL_law_425 : decode cL_law 425 = .ok (.iload_n 3, 1) := by decide +kernel
theorem dL_law_426 : decode cL_law 426 = .ok (.iconst 1, 1) := by decide +kernel
theorem dL_law_427 : decode cL_law 427 = .ok (.iadd, 1) := by decide +kernel
theorem dL_law_428 : decode cL_law 428 = .ok (.iaload, 1) := by decide +kernel
theorem dL_law_429 : decode cL_law 429 = .ok (.aload_n 0, 1) := by decide +kernel
theorem dL_law_430 : decode cL_law 430 = .ok (.iload_n 3, 1) := by decide +kernel
theorem dL_law_431 : decode cL_law 431 = .ok (.iconst 2, 1) := by decide +kernel
theorem dL_law_432 : decode cL_law 432 = .ok (.iadd, 1) := by decide +kernel
theorem dL_law_433 : decode cL_law 433 = .ok (.iaload, 1) := by decide +kernel
theorem dL_law_434 : decode cL_law 434 = .ok (.invokevirtual 46, 3) := by decide +kernel
theorem dL_law_437 : decode cL_law 437 = .ok (.pop, 1) := by decide +kernel
theorem dL_law_438 : decode cL_law 438 = .ok (.aload_n 2, 1) := by decide +kernel
theorem dL_law_439 : decode cL_law 439 = .ok (.aload_n 0, 1) := by decide +kernel
theorem dL_law_440 : decode cL_law 440 = .ok (.iload_n 3, 1) := by decide +kernel
theorem dL_law_441 : decode cL_law 441 = .ok (.iconst 1, 1) := by decide +kernel
theorem dL_law_442 : decode cL_law 442 = .ok (.iadd, 1) := by decide +kernel
theorem dL_law_443 : decode cL_law 443 = .ok (.iaload, 1) := by decide +kernel
theorem dL_law_444 : decode cL_law 444 = .ok (.aload_n 0, 1) := by decide +kernel
theorem dL_law_445 : decode cL_law 445 = .ok (.iload_n 3, 1) := by decide +kernel
theorem dL_law_446 : decode cL_law 446 = .ok (.iconst 2, 1) := by decide +kernel
theorem dL_law_447 : decode cL_law 447 = .ok (.iadd, 1) := by decide +kernel
theorem dL_law_448 : decode cL_law 448 = .ok (.iaload, 1) := by decide +kernel
theorem dL_law_449 : decode cL_law 449 = .ok (.invokevirtual 49, 3) := by decide +kernel
theorem dL_law_452 : decode cL_law 452 = .ok (.pop, 1) := by decide +kernel
theorem dL_law_453 : decode cL_law 453 = .ok (.goto 416, 3) := by decide +kernel
theorem dL_law_456 : decode cL_law 456 = .ok (.aload_n 1, 1) := by decide +kernel
theorem dL_law_457 : decode cL_law 457 = .ok (.aload_n 0, 1) := by decide +kernel
theorem dL_law_458 : decode cL_law 458 = .ok (.iload_n 3, 1) := by decide +kernel
theorem dL_law_459 : decode cL_law 459 = .ok (.iconst 1, 1) := by decide +kernel
theorem dL_law_460 : decode cL_law 460 = .ok (.iadd, 1) := by decide +kernel
theorem dL_law_461 : decode cL_law 461 = .ok (.iaload, 1) := by decide +kernel
theorem dL_law_462 : decode cL_law 462 = .ok (.invokevirtual 50, 3) := by decide +kernel
theorem dL_law_465 : decode cL_law 465 = .ok (.pop, 1) := by decide +kernel
theorem dL_law_466 : decode cL_law 466 = .ok (.aload_n 2, 1) := by decide +kernel
theorem dL_law_467 : decode cL_law 467 = .ok (.aload_n 0, 1) := by decide +kernel
theorem dL_law_468 : decode cL_law 468 = .ok (.iload_n 3, 1) := by decide +kernel
theorem dL_law_469 : decode cL_law 469 = .ok (.iconst 1, 1) := by decide +kernel
theorem dL_law_470 : decode cL_law 470 = .ok (.iadd, 1) := by decide +kernel
theorem dL_law_471 : decode cL_law 471 = .ok (.iaload, 1) := by decide +kernel
theorem dL_law_472 : decode cL_law 472 = .ok (.invokevirtual 54, 3) := by decide +kernel
theorem dL_law_475 : decode cL_law 475 = .ok (.pop, 1) := by decide +kernel
theorem dL_law_476 : decode cL_law 476 = .ok (.goto 393, 3) := by decide +kernel
theorem dL_law_479 : decode cL_law 479 = .ok (.aload_n 1, 1) := by decide +kernel
theorem dL_law_480 : decode cL_law 480 = .ok (.aload_n 0, 1) := by decide +kernel
theorem dL_law_481 : decode cL_law 481 = .ok (.iload_n 3, 1) := by decide +kernel
theorem dL_law_482 : decode cL_law 482 = .ok (.iconst 1, 1) := by decide +kernel
theorem dL_law_483 : decode cL_law 483 = .ok (.iadd, 1) := by decide +kernel
theorem dL_law_484 : decode cL_law 484 = .ok (.iaload, 1) := by decide +kernel
theorem dL_law_485 : decode cL_law 485 = .ok (.invokevirtual 55, 3) := by decide +kernel
theorem dL_law_488 : decode cL_law 488 = .ok (.pop, 1) := by decide +kernel
theorem dL_law_489 : decode cL_law 489 = .ok (.aload_n 2, 1) := by decide +kernel
theorem dL_law_490 : decode cL_law 490 = .ok (.aload_n 0, 1) := by decide +kernel
theorem dL_law_491 : decode cL_law 491 = .ok (.iload_n 3, 1) := by decide +kernel
theorem dL_law_492 : decode cL_law 492 = .ok (.iconst 1, 1) := by decide +kernel
theorem dL_law_493 : decode cL_law 493 = .ok (.iadd, 1) := by decide +kernel
theorem dL_law_494 : decode cL_law 494 = .ok (.iaload, 1) := by decide +kernel
theorem dL_law_495 : decode cL_law 495 = .ok (.invokevirtual 58, 3) := by decide +kernel
theorem dL_law_498 : decode cL_law 498 = .ok (.pop, 1) := by decide +kernel
theorem dL_law_499 : decode cL_law 499 = .ok (.goto 370, 3) := by decide +kernel
theorem dL_law_502 : decode cL_law 502 = .ok (.aload_n 1, 1) := by decide +kernel
theorem dL_law_503 : decode cL_law 503 = .ok (.aload_n 0, 1) := by decide +kernel
theorem dL_law_504 : decode cL_law 504 = .ok (.iload_n 3, 1) := by decide +kernel
theorem dL_law_505 : decode cL_law 505 = .ok (.iconst 1, 1) := by decide +kernel
theorem dL_law_506 : decode cL_law 506 = .ok (.iadd, 1) := by decide +kernel
theorem dL_law_507 : decode cL_law 507 = .ok (.iaload, 1) := by decide +kernel
theorem dL_law_508 : decode cL_law 508 = .ok (.invokevirtual 59, 3) := by decide +kernel
theorem dL_law_511 : decode cL_law 511 = .ok (.pop, 1) := by decide +kernel
theorem dL_law_512 : decode cL_law 512 = .ok (.aload_n 2, 1) := by decide +kernel
theorem dL_law_513 : decode cL_law 513 = .ok (.aload_n 0, 1) := by decide +kernel
theorem dL_law_514 : decode cL_law 514 = .ok (.iload_n 3, 1) := by decide +kernel
theorem dL_law_515 : decode cL_law 515 = .ok (.iconst 1, 1) := by decide +kernel
theorem dL_law_516 : decode cL_law 516 = .ok (.iadd, 1) := by decide +kernel
theorem dL_law_517 : decode cL_law 517 = .ok (.iaload, 1) := by decide +kernel
theorem dL_law_518 : decode cL_law 518 = .ok (.invokevirtual 62, 3) := by decide +kernel
theorem dL_law_521 : decode cL_law 521 = .ok (.pop, 1) := by decide +kernel
theorem dL_law_522 : decode cL_law 522 = .ok (.goto 347, 3) := by decide +kernel
theorem dL_law_525 : decode cL_law 525 = .ok (.aload_n 1, 1) := by decide +kernel
theorem dL_law_526 : decode cL_law 526 = .ok (.aload_n 0, 1) := by decide +kernel
theorem dL_law_527 : decode cL_law 527 = .ok (.iload_n 3, 1) := by decide +kernel
theorem dL_law_528 : decode cL_law 528 = .ok (.iconst 1, 1) := by decide +kernel
theorem dL_law_529 : decode cL_law 529 = .ok (.iadd, 1) := by decide +kernel
theorem dL_law_530 : decode cL_law 530 = .ok (.iaload, 1) := by decide +kernel
theorem dL_law_531 : decode cL_law 531 = .ok (.invokevirtual 63, 3) := by decide +kernel
theorem dL_law_534 : decode cL_law 534 = .ok (.pop, 1) := by decide +kernel
theorem dL_law_535 : decode cL_law 535 = .ok (.aload_n 2, 1) := by decide +kernel
theorem dL_law_536 : decode cL_law 536 = .ok (.aload_n 0, 1) := by decide +kernel
theorem dL_law_537 : decode cL_law 537 = .ok (.iload_n 3, 1) := by decide +kernel
theorem dL_law_538 : decode cL_law 538 = .ok (.iconst 1, 1) := by decide +kernel
theorem dL_law_539 : decode cL_law 539 = .ok (.iadd, 1) := by decide +kernel
theorem dL_law_540 : decode cL_law 540 = .ok (.iaload, 1) := by decide +kernel
theorem dL_law_541 : decode cL_law 541 = .ok (.invokevirtual 66, 3) := by decide +kernel
theorem dL_law_544 : decode cL_law 544 = .ok (.pop, 1) := by decide +kernel
theorem dL_law_545 : decode cL_law 545 = .ok (.goto 324, 3) := by decide +kernel
theorem dL_law_548 : decode cL_law 548 = .ok (.aload_n 1, 1) := by decide +kernel
theorem dL_law_549 : decode cL_law 549 = .ok (.aload_n 0, 1) := by decide +kernel
theorem dL_law_550 : decode cL_law 550 = .ok (.iload_n 3, 1) := by decide +kernel
theorem dL_law_551 : decode cL_law 551 = .ok (.iconst 1, 1) := by decide +kernel
theorem dL_law_552 : decode cL_law 552 = .ok (.iadd, 1) := by decide +kernel
theorem dL_law_553 : decode cL_law 553 = .ok (.iaload, 1) := by decide +kernel
theorem dL_law_554 : decode cL_law 554 = .ok (.invokevirtual 67, 3) := by decide +kernel
theorem dL_law_557 : decode cL_law 557 = .ok (.pop, 1) := by decide +kernel
theorem dL_law_558 : decode cL_law 558 = .ok (.aload_n 2, 1) := by decide +kernel
theorem dL_law_559 : decode cL_law 559 = .ok (.aload_n 0, 1) := by decide +kernel
theorem dL_law_560 : decode cL_law 560 = .ok (.iload_n 3, 1) := by decide +kernel
theorem dL_law_561 : decode cL_law 561 = .ok (.iconst 1, 1) := by decide +kernel
theorem dL_law_562 : decode cL_law 562 = .ok (.iadd, 1) := by decide +kernel
theorem dL_law_563 : decode cL_law 563 = .ok (.iaload, 1) := by decide +kernel
theorem dL_law_564 : decode cL_law 564 = .ok (.invokevirtual 70, 3) := by decide +kernel
theorem dL_law_567 : decode cL_law 567 = .ok (.pop, 1) := by decide +kernel
theorem dL_law_568 : decode cL_law 568 = .ok (.goto 301, 3) := by decide +kernel
theorem dL_law_571 : decode cL_law 571 = .ok (.aload_n 1, 1) := by decide +kernel
theorem dL_law_572 : decode cL_law 572 = .ok (.aload_n 0, 1) := by decide +kernel
theorem dL_law_573 : decode cL_law 573 = .ok (.iload_n 3, 1) := by decide +kernel
theorem dL_law_574 : decode cL_law 574 = .ok (.iconst 1, 1) := by decide +kernel
theorem dL_law_575 : decode cL_law 575 = .ok (.iadd, 1) := by decide +kernel
theorem dL_law_576 : decode cL_law 576 = .ok (.iaload, 1) := by decide +kernel
theorem dL_law_577 : decode cL_law 577 = .ok (.invokevirtual 71, 3) := by decide +kernel
theorem dL_law_580 : decode cL_law 580 = .ok (.pop, 1) := by decide +kernel
theorem dL_law_581 : decode cL_law 581 = .ok (.aload_n 2, 1) := by decide +kernel
theorem dL_law_582 : decode cL_law 582 = .ok (.aload_n 0, 1) := by decide +kernel
theorem dL_law_583 : decode cL_law 583 = .ok (.iload_n 3, 1) := by decide +kernel
theorem dL_law_584 : decode cL_law 584 = .ok (.iconst 1, 1) := by decide +kernel
theorem dL_law_585 : decode cL_law 585 = .ok (.iadd, 1) := by decide +kernel
theorem dL_law_586 : decode cL_law 586 = .ok (.iaload, 1) := by decide +kernel
theorem dL_law_587 : decode cL_law 587 = .ok (.invokevirtual 74, 3) := by decide +kernel
theorem dL_law_590 : decode cL_law 590 = .ok (.pop, 1) := by decide +kernel
theorem dL_law_591 : decode cL_law 591 = .ok (.goto 278, 3) := by decide +kernel
theorem dL_law_594 : decode cL_law 594 = .ok (.aload_n 1, 1) := by decide +kernel
theorem dL_law_595 : decode cL_law 595 = .ok (.aload_n 0, 1) := by decide +kernel
theorem dL_law_596 : decode cL_law 596 = .ok (.iload_n 3, 1) := by decide +kernel
theorem dL_law_597 : decode cL_law 597 = .ok (.iconst 1, 1) := by decide +kernel
theorem dL_law_598 : decode cL_law 598 = .ok (.iadd, 1) := by decide +kernel
theorem dL_law_599 : decode cL_law 599 = .ok (.iaload, 1) := by decide +kernel
theorem dL_law_600 : decode cL_law 600 = .ok (.invokevirtual 75, 3) := by decide +kernel
