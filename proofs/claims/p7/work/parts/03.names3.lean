theorem dX0_widen_1 : decode cX0_widen 1 = .ok (.iconst 1, 1) := by decide +kernel
theorem dX0_widen_2 : decode cX0_widen 2 = .ok (.isub, 1) := by decide +kernel
theorem dX0_widen_3 : decode cX0_widen 3 = .ok (.istore_n 3, 1) := by decide +kernel
theorem dX0_widen_4 : decode cX0_widen 4 = .ok (.iload_n 3, 1) := by decide +kernel
theorem dX0_widen_5 : decode cX0_widen 5 = .ok (.ifCond .le 71, 3) := by decide +kernel
theorem dX0_widen_8 : decode cX0_widen 8 = .ok (.iload_n 3, 1) := by decide +kernel
theorem dX0_widen_9 : decode cX0_widen 9 = .ok (.istore 4, 2) := by decide +kernel
theorem dX0_widen_11 : decode cX0_widen 11 = .ok (.iload 4, 2) := by decide +kernel
theorem dX0_widen_13 : decode cX0_widen 13 = .ok (.ifCond .le 57, 3) := by decide +kernel
theorem dX0_widen_16 : decode cX0_widen 16 = .ok (.aload_n 0, 1) := by decide +kernel
theorem dX0_widen_17 : decode cX0_widen 17 = .ok (.getfield 46, 3) := by decide +kernel
theorem dX0_widen_20 : decode cX0_widen 20 = .ok (.iload_n 3, 1) := by decide +kernel
theorem dX0_widen_21 : decode cX0_widen 21 = .ok (.baload, 1) := by decide +kernel
theorem dX0_widen_22 : decode cX0_widen 22 = .ok (.ifCond .ne 48, 3) := by decide +kernel
theorem dX0_widen_25 : decode cX0_widen 25 = .ok (.aload_n 0, 1) := by decide +kernel
theorem dX0_widen_26 : decode cX0_widen 26 = .ok (.getfield 46, 3) := by decide +kernel
theorem dX0_widen_29 : decode cX0_widen 29 = .ok (.iload_n 3, 1) := by decide +kernel
theorem dX0_widen_30 : decode cX0_widen 30 = .ok (.aload_n 0, 1) := by decide +kernel
theorem dX0_widen_31 : decode cX0_widen 31 = .ok (.getfield 43, 3) := by decide +kernel
theorem dX0_widen_34 : decode cX0_widen 34 = .ok (.iload 4, 2) := by decide +kernel
theorem dX0_widen_36 : decode cX0_widen 36 = .ok (.iaload, 1) := by decide +kernel
theorem dX0_widen_37 : decode cX0_widen 37 = .ok (.iload_n 2, 1) := by decide +kernel
theorem dX0_widen_38 : decode cX0_widen 38 = .ok (.if_icmp .gt 19, 3) := by decide +kernel
theorem dX0_widen_41 : decode cX0_widen 41 = .ok (.aload_n 0, 1) := by decide +kernel
theorem dX0_widen_42 : decode cX0_widen 42 = .ok (.getfield 46, 3) := by decide +kernel
theorem dX0_widen_45 : decode cX0_widen 45 = .ok (.iload_n 3, 1) := by decide +kernel
theorem dX0_widen_46 : decode cX0_widen 46 = .ok (.iload 4, 2) := by decide +kernel
theorem dX0_widen_48 : decode cX0_widen 48 = .ok (.ixor, 1) := by decide +kernel
theorem dX0_widen_49 : decode cX0_widen 49 = .ok (.baload, 1) := by decide +kernel
theorem dX0_widen_50 : decode cX0_widen 50 = .ok (.ifCond .eq 7, 3) := by decide +kernel
theorem dX0_widen_53 : decode cX0_widen 53 = .ok (.iconst 1, 1) := by decide +kernel
theorem dX0_widen_54 : decode cX0_widen 54 = .ok (.goto 4, 3) := by decide +kernel
theorem dX0_widen_57 : decode cX0_widen 57 = .ok (.iconst 0, 1) := by decide +kernel
theorem dX0_widen_58 : decode cX0_widen 58 = .ok (.bastore, 1) := by decide +kernel
theorem dX0_widen_59 : decode cX0_widen 59 = .ok (.iload 4, 2) := by decide +kernel
theorem dX0_widen_61 : decode cX0_widen 61 = .ok (.iconst 1, 1) := by decide +kernel
theorem dX0_widen_62 : decode cX0_widen 62 = .ok (.isub, 1) := by decide +kernel
theorem dX0_widen_63 : decode cX0_widen 63 = .ok (.iload_n 3, 1) := by decide +kernel
theorem dX0_widen_64 : decode cX0_widen 64 = .ok (.iand, 1) := by decide +kernel
theorem dX0_widen_65 : decode cX0_widen 65 = .ok (.istore 4, 2) := by decide +kernel
theorem dX0_widen_67 : decode cX0_widen 67 = .ok (.goto (-56), 3) := by decide +kernel
theorem dX0_widen_70 : decode cX0_widen 70 = .ok (.iinc 3 (-1), 3) := by decide +kernel
theorem dX0_widen_73 : decode cX0_widen 73 = .ok (.goto (-69), 3) := by decide +kernel
theorem dX0_widen_76 : decode cX0_widen 76 = .ok (.return_, 1) := by decide +kernel
theorem dX1_init_0 : decode cX1_init 0 = .ok (.aload_n 0, 1) := by decide +kernel
theorem dX1_init_1 : decode cX1_init 1 = .ok (.invokespecial 3, 3) := by decide +kernel
theorem dX1_init_4 : decode cX1_init 4 = .ok (.aload_n 0, 1) := by decide +kernel
theorem dX1_init_5 : decode cX1_init 5 = .ok (.bipush 15, 2) := by decide +kernel
theorem dX1_init_7 : decode cX1_init 7 = .ok (.newarray .int, 2) := by decide +kernel
theorem dX1_init_9 : decode cX1_init 9 = .ok (.putfield 9, 3) := by decide +kernel
theorem dX1_init_12 : decode cX1_init 12 = .ok (.aload_n 0, 1) := by decide +kernel
theorem dX1_init_13 : decode cX1_init 13 = .ok (.bipush 40, 2) := by decide +kernel
theorem dX1_init_15 : decode cX1_init 15 = .ok (.newarray .int, 2) := by decide +kernel
theorem dX1_init_17 : decode cX1_init 17 = .ok (.putfield 15, 3) := by decide +kernel
theorem dX1_init_20 : decode cX1_init 20 = .ok (.aload_n 0, 1) := by decide +kernel
theorem dX1_init_21 : decode cX1_init 21 = .ok (.bipush 40, 2) := by decide +kernel
theorem dX1_init_23 : decode cX1_init 23 = .ok (.newarray .int, 2) := by decide +kernel
theorem dX1_init_25 : decode cX1_init 25 = .ok (.putfield 18, 3) := by decide +kernel
theorem dX1_init_28 : decode cX1_init 28 = .ok (.aload_n 0, 1) := by decide +kernel
theorem dX1_init_29 : decode cX1_init 29 = .ok (.bipush 40, 2) := by decide +kernel
theorem dX1_init_31 : decode cX1_init 31 = .ok (.newarray .int, 2) := by decide +kernel
theorem dX1_init_33 : decode cX1_init 33 = .ok (.putfield 21, 3) := by decide +kernel
theorem dX1_init_36 : decode cX1_init 36 = .ok (.aload_n 0, 1) := by decide +kernel
theorem dX1_init_37 : decode cX1_init 37 = .ok (.bipush 40, 2) := by decide +kernel
theorem dX1_init_39 : decode cX1_init 39 = .ok (.newarray .int, 2) := by decide +kernel
theorem dX1_init_41 : decode cX1_init 41 = .ok (.putfield 24, 3) := by decide +kernel
theorem dX1_init_44 : decode cX1_init 44 = .ok (.aload_n 0, 1) := by decide +kernel
theorem dX1_init_45 : decode cX1_init 45 = .ok (.bipush 24, 2) := by decide +kernel
theorem dX1_init_47 : decode cX1_init 47 = .ok (.newarray .int, 2) := by decide +kernel
theorem dX1_init_49 : decode cX1_init 49 = .ok (.putfield 27, 3) := by decide +kernel
theorem dX1_init_52 : decode cX1_init 52 = .ok (.aload_n 0, 1) := by decide +kernel
theorem dX1_init_53 : decode cX1_init 53 = .ok (.bipush 24, 2) := by decide +kernel
theorem dX1_init_55 : decode cX1_init 55 = .ok (.newarray .int, 2) := by decide +kernel
theorem dX1_init_57 : decode cX1_init 57 = .ok (.putfield 30, 3) := by decide +kernel
theorem dX1_init_60 : decode cX1_init 60 = .ok (.aload_n 0, 1) := by decide +kernel
theorem dX1_init_61 : decode cX1_init 61 = .ok (.bipush 24, 2) := by decide +kernel
theorem dX1_init_63 : decode cX1_init 63 = .ok (.newarray .int, 2) := by decide +kernel
theorem dX1_init_65 : decode cX1_init 65 = .ok (.putfield 33, 3) := by decide +kernel
theorem dX1_init_68 : decode cX1_init 68 = .ok (.aload_n 0, 1) := by decide +kernel
theorem dX1_init_69 : decode cX1_init 69 = .ok (.bipush 24, 2) := by decide +kernel
theorem dX1_init_71 : decode cX1_init 71 = .ok (.newarray .int, 2) := by decide +kernel
theorem dX1_init_73 : decode cX1_init 73 = .ok (.putfield 36, 3) := by decide +kernel
theorem dX1_init_76 : decode cX1_init 76 = .ok (.aload_n 0, 1) := by decide +kernel
theorem dX1_init_77 : decode cX1_init 77 = .ok (.iconst 1, 1) := by decide +kernel
theorem dX1_init_78 : decode cX1_init 78 = .ok (.putfield 39, 3) := by decide +kernel
theorem dX1_init_81 : decode cX1_init 81 = .ok (.return_, 1) := by decide +kernel
theorem dX1_size_0 : decode cX1_size 0 = .ok (.aload_n 0, 1) := by decide +kernel
theorem dX1_size_1 : decode cX1_size 1 = .ok (.getfield 43, 3) := by decide +kernel
theorem dX1_size_4 : decode cX1_size 4 = .ok (.ireturn, 1) := by decide +kernel
theorem dX1_isTaken_0 : decode cX1_isTaken 0 = .ok (.aload_n 0, 1) := by decide +kernel
theorem dX1_isTaken_1 : decode cX1_isTaken 1 = .ok (.getfield 9, 3) := by decide +kernel
theorem dX1_isTaken_4 : decode cX1_isTaken 4 = .ok (.iload_n 2, 1) := by decide +kernel
theorem dX1_isTaken_5 : decode cX1_isTaken 5 = .ok (.iaload, 1) := by decide +kernel
theorem dX1_isTaken_6 : decode cX1_isTaken 6 = .ok (.iload_n 1, 1) := by decide +kernel
theorem dX1_isTaken_7 : decode cX1_isTaken 7 = .ok (.ishr, 1) := by decide +kernel
theorem dX1_isTaken_8 : decode cX1_isTaken 8 = .ok (.iconst 1, 1) := by decide +kernel
theorem dX1_isTaken_9 : decode cX1_isTaken 9 = .ok (.iand, 1) := by decide +kernel
theorem dX1_isTaken_10 : decode cX1_isTaken 10 = .ok (.ifCond .eq 7, 3) := by decide +kernel
theorem dX1_isTaken_13 : decode cX1_isTaken 13 = .ok (.iconst 1, 1) := by decide +kernel
theorem dX1_isTaken_14 : decode cX1_isTaken 14 = .ok (.goto 4, 3) := by decide +kernel
theorem dX1_isTaken_17 : decode cX1_isTaken 17 = .ok (.iconst 0, 1) := by decide +kernel
theorem dX1_isTaken_18 : decode cX1_isTaken 18 = .ok (.ireturn, 1) := by decide +kernel
set_option maxRecDepth 20000 in
theorem ggX1_place_X1_isBetween : GoodIn wsX1_place wsX1_isBetween := goodIn_r _ [10, 2, 3, 11, 12, 13, 14, 15, 16, 17, 18, 19, 20, 21] rfl (by decide +kernel)
set_option maxRecDepth 20000 in
theorem gX1_place_X1_isBetween : GoodIn wsX1_place (wsV RX1 46 RX1 yX1_isBetween wsX1_isBetween) := goodIn_app (goodIn_of _ (by decide +kernel)) ggX1_place_X1_isBetween
theorem dX1_place_0 : decode cX1_place 0 = .ok (.aload_n 0, 1) := by decide +kernel
theorem dX1_place_1 : decode cX1_place 1 = .ok (.getfield 43, 3) := by decide +kernel
theorem dX1_place_4 : decode cX1_place 4 = .ok (.istore_n 3, 1) := by decide +kernel
theorem dX1_place_5 : decode cX1_place 5 = .ok (.aload_n 0, 1) := by decide +kernel
theorem dX1_place_6 : decode cX1_place 6 = .ok (.getfield 15, 3) := by decide +kernel
theorem dX1_place_9 : decode cX1_place 9 = .ok (.iload_n 3, 1) := by decide +kernel
theorem dX1_place_10 : decode cX1_place 10 = .ok (.iload_n 1, 1) := by decide +kernel
theorem dX1_place_11 : decode cX1_place 11 = .ok (.iastore, 1) := by decide +kernel
theorem dX1_place_12 : decode cX1_place 12 = .ok (.aload_n 0, 1) := by decide +kernel
theorem dX1_place_13 : decode cX1_place 13 = .ok (.getfield 18, 3) := by decide +kernel
theorem dX1_place_16 : decode cX1_place 16 = .ok (.iload_n 3, 1) := by decide +kernel
theorem dX1_place_17 : decode cX1_place 17 = .ok (.iload_n 2, 1) := by decide +kernel
theorem dX1_place_18 : decode cX1_place 18 = .ok (.iastore, 1) := by decide +kernel
theorem dX1_place_19 : decode cX1_place 19 = .ok (.aload_n 0, 1) := by decide +kernel
theorem dX1_place_20 : decode cX1_place 20 = .ok (.getfield 9, 3) := by decide +kernel
theorem dX1_place_23 : decode cX1_place 23 = .ok (.iload_n 2, 1) := by decide +kernel
theorem dX1_place_24 : decode cX1_place 24 = .ok (.dup2, 1) := by decide +kernel
theorem dX1_place_25 : decode cX1_place 25 = .ok (.iaload, 1) := by decide +kernel
theorem dX1_place_26 : decode cX1_place 26 = .ok (.iconst 1, 1) := by decide +kernel
theorem dX1_place_27 : decode cX1_place 27 = .ok (.iload_n 1, 1) := by decide +kernel
theorem dX1_place_28 : decode cX1_place 28 = .ok (.ishl, 1) := by decide +kernel
theorem dX1_place_29 : decode cX1_place 29 = .ok (.ior, 1) := by decide +kernel
theorem dX1_place_30 : decode cX1_place 30 = .ok (.iastore, 1) := by decide +kernel
theorem dX1_place_31 : decode cX1_place 31 = .ok (.aload_n 0, 1) := by decide +kernel
theorem dX1_place_32 : decode cX1_place 32 = .ok (.dup, 1) := by decide +kernel
theorem dX1_place_33 : decode cX1_place 33 = .ok (.getfield 43, 3) := by decide +kernel
theorem dX1_place_36 : decode cX1_place 36 = .ok (.iconst 1, 1) := by decide +kernel
theorem dX1_place_37 : decode cX1_place 37 = .ok (.iadd, 1) := by decide +kernel
theorem dX1_place_38 : decode cX1_place 38 = .ok (.putfield 43, 3) := by decide +kernel
theorem dX1_place_41 : decode cX1_place 41 = .ok (.iconst 0, 1) := by decide +kernel
theorem dX1_place_42 : decode cX1_place 42 = .ok (.istore 4, 2) := by decide +kernel
theorem dX1_place_44 : decode cX1_place 44 = .ok (.iload 4, 2) := by decide +kernel
theorem dX1_place_46 : decode cX1_place 46 = .ok (.iload_n 3, 1) := by decide +kernel
theorem dX1_place_47 : decode cX1_place 47 = .ok (.if_icmp .ge 50, 3) := by decide +kernel
theorem dX1_place_50 : decode cX1_place 50 = .ok (.aload_n 0, 1) := by decide +kernel
theorem dX1_place_51 : decode cX1_place 51 = .ok (.iload 4, 2) := by decide +kernel
theorem dX1_place_53 : decode cX1_place 53 = .ok (.iload_n 3, 1) := by decide +kernel
theorem dX1_place_54 : decode cX1_place 54 = .ok (.invokevirtual 46, 3) := by decide +kernel
theorem dX1_place_57 : decode cX1_place 57 = .ok (.ifCond .eq 13, 3) := by decide +kernel
theorem dX1_place_60 : decode cX1_place 60 = .ok (.aload_n 0, 1) := by decide +kernel
theorem dX1_place_61 : decode cX1_place 61 = .ok (.getfield 21, 3) := by decide +kernel
theorem dX1_place_64 : decode cX1_place 64 = .ok (.iload_n 3, 1) := by decide +kernel
theorem dX1_place_65 : decode cX1_place 65 = .ok (.dup2, 1) := by decide +kernel
theorem dX1_place_66 : decode cX1_place 66 = .ok (.iaload, 1) := by decide +kernel
theorem dX1_place_67 : decode cX1_place 67 = .ok (.iconst 1, 1) := by decide +kernel
theorem dX1_place_68 : decode cX1_place 68 = .ok (.iadd, 1) := by decide +kernel
theorem dX1_place_69 : decode cX1_place 69 = .ok (.iastore, 1) := by decide +kernel
theorem dX1_place_70 : decode cX1_place 70 = .ok (.aload_n 0, 1) := by decide +kernel
theorem dX1_place_71 : decode cX1_place 71 = .ok (.iload_n 3, 1) := by decide +kernel
theorem dX1_place_72 : decode cX1_place 72 = .ok (.iload 4, 2) := by decide +kernel
theorem dX1_place_74 : decode cX1_place 74 = .ok (.invokevirtual 46, 3) := by decide +kernel
theorem dX1_place_77 : decode cX1_place 77 = .ok (.ifCond .eq 14, 3) := by decide +kernel
theorem dX1_place_80 : decode cX1_place 80 = .ok (.aload_n 0, 1) := by decide +kernel
theorem dX1_place_81 : decode cX1_place 81 = .ok (.getfield 21, 3) := by decide +kernel
theorem dX1_place_84 : decode cX1_place 84 = .ok (.iload 4, 2) := by decide +kernel
theorem dX1_place_86 : decode cX1_place 86 = .ok (.dup2, 1) := by decide +kernel
theorem dX1_place_87 : decode cX1_place 87 = .ok (.iaload, 1) := by decide +kernel
theorem dX1_place_88 : decode cX1_place 88 = .ok (.iconst 1, 1) := by decide +kernel
theorem dX1_place_89 : decode cX1_place 89 = .ok (.iadd, 1) := by decide +kernel
theorem dX1_place_90 : decode cX1_place 90 = .ok (.iastore, 1) := by decide +kernel
theorem dX1_place_91 : decode cX1_place 91 = .ok (.iinc 4 1, 3) := by decide +kernel
theorem dX1_place_94 : decode cX1_place 94 = .ok (.goto (-50), 3) := by decide +kernel
theorem dX1_place_97 : decode cX1_place 97 = .ok (.iload_n 3, 1) := by decide +kernel
theorem dX1_place_98 : decode cX1_place 98 = .ok (.ireturn, 1) := by decide +kernel
theorem dX1_isBetween_0 : decode cX1_isBetween 0 = .ok (.aload_n 0, 1) := by decide +kernel
theorem dX1_isBetween_1 : decode cX1_isBetween 1 = .ok (.getfield 15, 3) := by decide +kernel
theorem dX1_isBetween_4 : decode cX1_isBetween 4 = .ok (.iload_n 1, 1) := by decide +kernel
theorem dX1_isBetween_5 : decode cX1_isBetween 5 = .ok (.iaload, 1) := by decide +kernel
theorem dX1_isBetween_6 : decode cX1_isBetween 6 = .ok (.bipush 7, 2) := by decide +kernel
theorem dX1_isBetween_8 : decode cX1_isBetween 8 = .ok (.isub, 1) := by decide +kernel
theorem dX1_isBetween_9 : decode cX1_isBetween 9 = .ok (.istore_n 3, 1) := by decide +kernel
theorem dX1_isBetween_10 : decode cX1_isBetween 10 = .ok (.aload_n 0, 1) := by decide +kernel
theorem dX1_isBetween_11 : decode cX1_isBetween 11 = .ok (.getfield 18, 3) := by decide +kernel
theorem dX1_isBetween_14 : decode cX1_isBetween 14 = .ok (.iload_n 1, 1) := by decide +kernel
theorem dX1_isBetween_15 : decode cX1_isBetween 15 = .ok (.iaload, 1) := by decide +kernel
theorem dX1_isBetween_16 : decode cX1_isBetween 16 = .ok (.iconst 0, 1) := by decide +kernel
theorem dX1_isBetween_17 : decode cX1_isBetween 17 = .ok (.isub, 1) := by decide +kernel
theorem dX1_isBetween_18 : decode cX1_isBetween 18 = .ok (.istore 4, 2) := by decide +kernel
theorem dX1_isBetween_20 : decode cX1_isBetween 20 = .ok (.aload_n 0, 1) := by decide +kernel
theorem dX1_isBetween_21 : decode cX1_isBetween 21 = .ok (.getfield 15, 3) := by decide +kernel
theorem dX1_isBetween_24 : decode cX1_isBetween 24 = .ok (.iload_n 2, 1) := by decide +kernel
theorem dX1_isBetween_25 : decode cX1_isBetween 25 = .ok (.iaload, 1) := by decide +kernel
theorem dX1_isBetween_26 : decode cX1_isBetween 26 = .ok (.bipush 7, 2) := by decide +kernel
theorem dX1_isBetween_28 : decode cX1_isBetween 28 = .ok (.isub, 1) := by decide +kernel
theorem dX1_isBetween_29 : decode cX1_isBetween 29 = .ok (.istore 5, 2) := by decide +kernel
theorem dX1_isBetween_31 : decode cX1_isBetween 31 = .ok (.aload_n 0, 1) := by decide +kernel
theorem dX1_isBetween_32 : decode cX1_isBetween 32 = .ok (.getfield 18, 3) := by decide +kernel
theorem dX1_isBetween_35 : decode cX1_isBetween 35 = .ok (.iload_n 2, 1) := by decide +kernel
theorem dX1_isBetween_36 : decode cX1_isBetween 36 = .ok (.iaload, 1) := by decide +kernel
theorem dX1_isBetween_37 : decode cX1_isBetween 37 = .ok (.iconst 0, 1) := by decide +kernel
theorem dX1_isBetween_38 : decode cX1_isBetween 38 = .ok (.isub, 1) := by decide +kernel
theorem dX1_isBetween_39 : decode cX1_isBetween 39 = .ok (.istore 6, 2) := by decide +kernel
theorem dX1_isBetween_41 : decode cX1_isBetween 41 = .ok (.iload_n 3, 1) := by decide +kernel
theorem dX1_isBetween_42 : decode cX1_isBetween 42 = .ok (.iload 6, 2) := by decide +kernel
theorem dX1_isBetween_44 : decode cX1_isBetween 44 = .ok (.imul, 1) := by decide +kernel
theorem dX1_isBetween_45 : decode cX1_isBetween 45 = .ok (.iload 4, 2) := by decide +kernel
theorem dX1_isBetween_47 : decode cX1_isBetween 47 = .ok (.iload 5, 2) := by decide +kernel
theorem dX1_isBetween_49 : decode cX1_isBetween 49 = .ok (.imul, 1) := by decide +kernel
theorem dX1_isBetween_50 : decode cX1_isBetween 50 = .ok (.if_icmp .eq 5, 3) := by decide +kernel
theorem dX1_isBetween_53 : decode cX1_isBetween 53 = .ok (.iconst 0, 1) := by decide +kernel
theorem dX1_isBetween_54 : decode cX1_isBetween 54 = .ok (.ireturn, 1) := by decide +kernel
theorem dX1_isBetween_55 : decode cX1_isBetween 55 = .ok (.iload_n 3, 1) := by decide +kernel
theorem dX1_isBetween_56 : decode cX1_isBetween 56 = .ok (.iload 5, 2) := by decide +kernel
theorem dX1_isBetween_58 : decode cX1_isBetween 58 = .ok (.imul, 1) := by decide +kernel
theorem dX1_isBetween_59 : decode cX1_isBetween 59 = .ok (.iload 4, 2) := by decide +kernel
theorem dX1_isBetween_61 : decode cX1_isBetween 61 = .ok (.iload 6, 2) := by decide +kernel
theorem dX1_isBetween_63 : decode cX1_isBetween 63 = .ok (.imul, 1) := by decide +kernel
theorem dX1_isBetween_64 : decode cX1_isBetween 64 = .ok (.iadd, 1) := by decide +kernel
theorem dX1_isBetween_65 : decode cX1_isBetween 65 = .ok (.istore 7, 2) := by decide +kernel
theorem dX1_isBetween_67 : decode cX1_isBetween 67 = .ok (.iload 7, 2) := by decide +kernel
theorem dX1_isBetween_69 : decode cX1_isBetween 69 = .ok (.ifCond .le 23, 3) := by decide +kernel
theorem dX1_isBetween_72 : decode cX1_isBetween 72 = .ok (.iload 7, 2) := by decide +kernel
theorem dX1_isBetween_74 : decode cX1_isBetween 74 = .ok (.iload 5, 2) := by decide +kernel
theorem dX1_isBetween_76 : decode cX1_isBetween 76 = .ok (.iload 5, 2) := by decide +kernel
theorem dX1_isBetween_78 : decode cX1_isBetween 78 = .ok (.imul, 1) := by decide +kernel
theorem dX1_isBetween_79 : decode cX1_isBetween 79 = .ok (.iload 6, 2) := by decide +kernel
theorem dX1_isBetween_81 : decode cX1_isBetween 81 = .ok (.iload 6, 2) := by decide +kernel
theorem dX1_isBetween_83 : decode cX1_isBetween 83 = .ok (.imul, 1) := by decide +kernel
theorem dX1_isBetween_84 : decode cX1_isBetween 84 = .ok (.iadd, 1) := by decide +kernel
theorem dX1_isBetween_85 : decode cX1_isBetween 85 = .ok (.if_icmp .ge 7, 3) := by decide +kernel
theorem dX1_isBetween_88 : decode cX1_isBetween 88 = .ok (.iconst 1, 1) := by decide +kernel
theorem dX1_isBetween_89 : decode cX1_isBetween 89 = .ok (.goto 4, 3) := by decide +kernel
theorem dX1_isBetween_92 : decode cX1_isBetween 92 = .ok (.iconst 0, 1) := by decide +kernel
theorem dX1_isBetween_93 : decode cX1_isBetween 93 = .ok (.ireturn, 1) := by decide +kernel
theorem dX1_setSun_0 : decode cX1_setSun 0 = .ok (.aload_n 0, 1) := by decide +kernel
theorem dX1_setSun_1 : decode cX1_setSun 1 = .ok (.getfield 27, 3) := by decide +kernel
theorem dX1_setSun_4 : decode cX1_setSun 4 = .ok (.iload_n 1, 1) := by decide +kernel
theorem dX1_setSun_5 : decode cX1_setSun 5 = .ok (.iload_n 2, 1) := by decide +kernel
theorem dX1_setSun_6 : decode cX1_setSun 6 = .ok (.iastore, 1) := by decide +kernel
theorem dX1_setSun_7 : decode cX1_setSun 7 = .ok (.aload_n 0, 1) := by decide +kernel
theorem dX1_setSun_8 : decode cX1_setSun 8 = .ok (.getfield 30, 3) := by decide +kernel
theorem dX1_setSun_11 : decode cX1_setSun 11 = .ok (.iload_n 1, 1) := by decide +kernel
theorem dX1_setSun_12 : decode cX1_setSun 12 = .ok (.iload_n 3, 1) := by decide +kernel
theorem dX1_setSun_13 : decode cX1_setSun 13 = .ok (.iastore, 1) := by decide +kernel
theorem dX1_setSun_14 : decode cX1_setSun 14 = .ok (.aload_n 0, 1) := by decide +kernel
theorem dX1_setSun_15 : decode cX1_setSun 15 = .ok (.getfield 33, 3) := by decide +kernel
theorem dX1_setSun_18 : decode cX1_setSun 18 = .ok (.iload_n 1, 1) := by decide +kernel
theorem dX1_setSun_19 : decode cX1_setSun 19 = .ok (.iload 4, 2) := by decide +kernel
theorem dX1_setSun_21 : decode cX1_setSun 21 = .ok (.iastore, 1) := by decide +kernel
theorem dX1_setSun_22 : decode cX1_setSun 22 = .ok (.return_, 1) := by decide +kernel
theorem dX1_setWind_0 : decode cX1_setWind 0 = .ok (.aload_n 0, 1) := by decide +kernel
theorem dX1_setWind_1 : decode cX1_setWind 1 = .ok (.getfield 36, 3) := by decide +kernel
theorem dX1_setWind_4 : decode cX1_setWind 4 = .ok (.iload_n 1, 1) := by decide +kernel
theorem dX1_setWind_5 : decode cX1_setWind 5 = .ok (.iload_n 2, 1) := by decide +kernel
theorem dX1_setWind_6 : decode cX1_setWind 6 = .ok (.iastore, 1) := by decide +kernel
theorem dX1_setWind_7 : decode cX1_setWind 7 = .ok (.return_, 1) := by decide +kernel
theorem dX1_setDust_0 : decode cX1_setDust 0 = .ok (.aload_n 0, 1) := by decide +kernel
theorem dX1_setDust_1 : decode cX1_setDust 1 = .ok (.iload_n 1, 1) := by decide +kernel
theorem dX1_setDust_2 : decode cX1_setDust 2 = .ok (.putfield 39, 3) := by decide +kernel
theorem dX1_setDust_5 : decode cX1_setDust 5 = .ok (.return_, 1) := by decide +kernel
theorem dX1_blockersOf_0 : decode cX1_blockersOf 0 = .ok (.aload_n 0, 1) := by decide +kernel
theorem dX1_blockersOf_1 : decode cX1_blockersOf 1 = .ok (.getfield 21, 3) := by decide +kernel
theorem dX1_blockersOf_4 : decode cX1_blockersOf 4 = .ok (.iload_n 1, 1) := by decide +kernel
theorem dX1_blockersOf_5 : decode cX1_blockersOf 5 = .ok (.iaload, 1) := by decide +kernel
theorem dX1_blockersOf_6 : decode cX1_blockersOf 6 = .ok (.ireturn, 1) := by decide +kernel
theorem dX1_shadersOf_0 : decode cX1_shadersOf 0 = .ok (.aload_n 0, 1) := by decide +kernel
theorem dX1_shadersOf_1 : decode cX1_shadersOf 1 = .ok (.getfield 33, 3) := by decide +kernel
theorem dX1_shadersOf_4 : decode cX1_shadersOf 4 = .ok (.iload_n 2, 1) := by decide +kernel
theorem dX1_shadersOf_5 : decode cX1_shadersOf 5 = .ok (.iaload, 1) := by decide +kernel
theorem dX1_shadersOf_6 : decode cX1_shadersOf 6 = .ok (.ifCond .ne 5, 3) := by decide +kernel
theorem dX1_shadersOf_9 : decode cX1_shadersOf 9 = .ok (.iconst 0, 1) := by decide +kernel
theorem dX1_shadersOf_10 : decode cX1_shadersOf 10 = .ok (.ireturn, 1) := by decide +kernel
theorem dX1_shadersOf_11 : decode cX1_shadersOf 11 = .ok (.aload_n 0, 1) := by decide +kernel
theorem dX1_shadersOf_12 : decode cX1_shadersOf 12 = .ok (.getfield 15, 3) := by decide +kernel
theorem dX1_shadersOf_15 : decode cX1_shadersOf 15 = .ok (.iload_n 1, 1) := by decide +kernel
theorem dX1_shadersOf_16 : decode cX1_shadersOf 16 = .ok (.iaload, 1) := by decide +kernel
theorem dX1_shadersOf_17 : decode cX1_shadersOf 17 = .ok (.istore_n 3, 1) := by decide +kernel
theorem dX1_shadersOf_18 : decode cX1_shadersOf 18 = .ok (.aload_n 0, 1) := by decide +kernel
theorem dX1_shadersOf_19 : decode cX1_shadersOf 19 = .ok (.getfield 18, 3) := by decide +kernel
theorem dX1_shadersOf_22 : decode cX1_shadersOf 22 = .ok (.iload_n 1, 1) := by decide +kernel
theorem dX1_shadersOf_23 : decode cX1_shadersOf 23 = .ok (.iaload, 1) := by decide +kernel
theorem dX1_shadersOf_24 : decode cX1_shadersOf 24 = .ok (.istore 4, 2) := by decide +kernel
theorem dX1_shadersOf_26 : decode cX1_shadersOf 26 = .ok (.iconst 0, 1) := by decide +kernel
theorem dX1_shadersOf_27 : decode cX1_shadersOf 27 = .ok (.istore 5, 2) := by decide +kernel
theorem dX1_shadersOf_29 : decode cX1_shadersOf 29 = .ok (.bipush 10, 2) := by decide +kernel
theorem dX1_shadersOf_31 : decode cX1_shadersOf 31 = .ok (.aload_n 0, 1) := by decide +kernel
theorem dX1_shadersOf_32 : decode cX1_shadersOf 32 = .ok (.getfield 33, 3) := by decide +kernel
theorem dX1_shadersOf_35 : decode cX1_shadersOf 35 = .ok (.iload_n 2, 1) := by decide +kernel
theorem dX1_shadersOf_36 : decode cX1_shadersOf 36 = .ok (.iaload, 1) := by decide +kernel
theorem dX1_shadersOf_37 : decode cX1_shadersOf 37 = .ok (.isub, 1) := by decide +kernel
theorem dX1_shadersOf_38 : decode cX1_shadersOf 38 = .ok (.istore 6, 2) := by decide +kernel
theorem dX1_shadersOf_40 : decode cX1_shadersOf 40 = .ok (.iload 6, 2) := by decide +kernel
theorem dX1_shadersOf_42 : decode cX1_shadersOf 42 = .ok (.ifCond .le 70, 3) := by decide +kernel
theorem dX1_shadersOf_45 : decode cX1_shadersOf 45 = .ok (.iload_n 3, 1) := by decide +kernel
theorem dX1_shadersOf_46 : decode cX1_shadersOf 46 = .ok (.aload_n 0, 1) := by decide +kernel
theorem dX1_shadersOf_47 : decode cX1_shadersOf 47 = .ok (.getfield 27, 3) := by decide +kernel
theorem dX1_shadersOf_50 : decode cX1_shadersOf 50 = .ok (.iload_n 2, 1) := by decide +kernel
theorem dX1_shadersOf_51 : decode cX1_shadersOf 51 = .ok (.iaload, 1) := by decide +kernel
theorem dX1_shadersOf_52 : decode cX1_shadersOf 52 = .ok (.iadd, 1) := by decide +kernel
theorem dX1_shadersOf_53 : decode cX1_shadersOf 53 = .ok (.istore_n 3, 1) := by decide +kernel
theorem dX1_shadersOf_54 : decode cX1_shadersOf 54 = .ok (.iload 4, 2) := by decide +kernel
theorem dX1_shadersOf_56 : decode cX1_shadersOf 56 = .ok (.aload_n 0, 1) := by decide +kernel
theorem dX1_shadersOf_57 : decode cX1_shadersOf 57 = .ok (.getfield 30, 3) := by decide +kernel
theorem dX1_shadersOf_60 : decode cX1_shadersOf 60 = .ok (.iload_n 2, 1) := by decide +kernel
theorem dX1_shadersOf_61 : decode cX1_shadersOf 61 = .ok (.iaload, 1) := by decide +kernel
theorem dX1_shadersOf_62 : decode cX1_shadersOf 62 = .ok (.iadd, 1) := by decide +kernel
theorem dX1_shadersOf_63 : decode cX1_shadersOf 63 = .ok (.istore 4, 2) := by decide +kernel
theorem dX1_shadersOf_65 : decode cX1_shadersOf 65 = .ok (.iload_n 3, 1) := by decide +kernel
theorem dX1_shadersOf_66 : decode cX1_shadersOf 66 = .ok (.ifCond .lt 21, 3) := by decide +kernel
theorem dX1_shadersOf_69 : decode cX1_shadersOf 69 = .ok (.iload_n 3, 1) := by decide +kernel
theorem dX1_shadersOf_70 : decode cX1_shadersOf 70 = .ok (.bipush 15, 2) := by decide +kernel
theorem dX1_shadersOf_72 : decode cX1_shadersOf 72 = .ok (.if_icmp .ge 15, 3) := by decide +kernel
theorem dX1_shadersOf_75 : decode cX1_shadersOf 75 = .ok (.iload 4, 2) := by decide +kernel
theorem dX1_shadersOf_77 : decode cX1_shadersOf 77 = .ok (.ifCond .lt 10, 3) := by decide +kernel
theorem dX1_shadersOf_80 : decode cX1_shadersOf 80 = .ok (.iload 4, 2) := by decide +kernel
theorem dX1_shadersOf_82 : decode cX1_shadersOf 82 = .ok (.bipush 15, 2) := by decide +kernel
theorem dX1_shadersOf_84 : decode cX1_shadersOf 84 = .ok (.if_icmp .lt 6, 3) := by decide +kernel
theorem dX1_shadersOf_87 : decode cX1_shadersOf 87 = .ok (.iload 5, 2) := by decide +kernel
theorem dX1_shadersOf_89 : decode cX1_shadersOf 89 = .ok (.ireturn, 1) := by decide +kernel
theorem dX1_shadersOf_90 : decode cX1_shadersOf 90 = .ok (.iload 5, 2) := by decide +kernel
theorem dX1_shadersOf_92 : decode cX1_shadersOf 92 = .ok (.aload_n 0, 1) := by decide +kernel
theorem dX1_shadersOf_93 : decode cX1_shadersOf 93 = .ok (.getfield 9, 3) := by decide +kernel
theorem dX1_shadersOf_96 : decode cX1_shadersOf 96 = .ok (.iload 4, 2) := by decide +kernel
theorem dX1_shadersOf_98 : decode cX1_shadersOf 98 = .ok (.iaload, 1) := by decide +kernel
theorem dX1_shadersOf_99 : decode cX1_shadersOf 99 = .ok (.iload_n 3, 1) := by decide +kernel
theorem dX1_shadersOf_100 : decode cX1_shadersOf 100 = .ok (.ishr, 1) := by decide +kernel
theorem dX1_shadersOf_101 : decode cX1_shadersOf 101 = .ok (.iconst 1, 1) := by decide +kernel
theorem dX1_shadersOf_102 : decode cX1_shadersOf 102 = .ok (.iand, 1) := by decide +kernel
theorem dX1_shadersOf_103 : decode cX1_shadersOf 103 = .ok (.iadd, 1) := by decide +kernel
theorem dX1_shadersOf_104 : decode cX1_shadersOf 104 = .ok (.istore 5, 2) := by decide +kernel
theorem dX1_shadersOf_106 : decode cX1_shadersOf 106 = .ok (.iinc 6 (-1), 3) := by decide +kernel
theorem dX1_shadersOf_109 : decode cX1_shadersOf 109 = .ok (.goto (-69), 3) := by decide +kernel
theorem dX1_shadersOf_112 : decode cX1_shadersOf 112 = .ok (.iload 5, 2) := by decide +kernel
theorem dX1_shadersOf_114 : decode cX1_shadersOf 114 = .ok (.ireturn, 1) := by decide +kernel
theorem dX1_isStowed_0 : decode cX1_isStowed 0 = .ok (.aload_n 0, 1) := by decide +kernel
theorem dX1_isStowed_1 : decode cX1_isStowed 1 = .ok (.getfield 36, 3) := by decide +kernel
theorem dX1_isStowed_4 : decode cX1_isStowed 4 = .ok (.iload_n 1, 1) := by decide +kernel
theorem dX1_isStowed_5 : decode cX1_isStowed 5 = .ok (.iaload, 1) := by decide +kernel
theorem dX1_isStowed_6 : decode cX1_isStowed 6 = .ok (.bipush 50, 2) := by decide +kernel
theorem dX1_isStowed_8 : decode cX1_isStowed 8 = .ok (.if_icmp .gt 24, 3) := by decide +kernel
theorem dX1_isStowed_11 : decode cX1_isStowed 11 = .ok (.iload_n 1, 1) := by decide +kernel
theorem dX1_isStowed_12 : decode cX1_isStowed 12 = .ok (.iconst 1, 1) := by decide +kernel
theorem dX1_isStowed_13 : decode cX1_isStowed 13 = .ok (.iadd, 1) := by decide +kernel
theorem dX1_isStowed_14 : decode cX1_isStowed 14 = .ok (.bipush 24, 2) := by decide +kernel
theorem dX1_isStowed_16 : decode cX1_isStowed 16 = .ok (.if_icmp .ge 20, 3) := by decide +kernel
theorem dX1_isStowed_19 : decode cX1_isStowed 19 = .ok (.aload_n 0, 1) := by decide +kernel
theorem dX1_isStowed_20 : decode cX1_isStowed 20 = .ok (.getfield 36, 3) := by decide +kernel
theorem dX1_isStowed_23 : decode cX1_isStowed 23 = .ok (.iload_n 1, 1) := by decide +kernel
theorem dX1_isStowed_24 : decode cX1_isStowed 24 = .ok (.iconst 1, 1) := by decide +kernel
theorem dX1_isStowed_25 : decode cX1_isStowed 25 = .ok (.iadd, 1) := by decide +kernel
theorem dX1_isStowed_26 : decode cX1_isStowed 26 = .ok (.iaload, 1) := by decide +kernel
theorem dX1_isStowed_27 : decode cX1_isStowed 27 = .ok (.bipush 50, 2) := by decide +kernel
theorem dX1_isStowed_29 : decode cX1_isStowed 29 = .ok (.if_icmp .le 7, 3) := by decide +kernel
theorem dX1_isStowed_32 : decode cX1_isStowed 32 = .ok (.iconst 1, 1) := by decide +kernel
theorem dX1_isStowed_33 : decode cX1_isStowed 33 = .ok (.goto 4, 3) := by decide +kernel
theorem dX1_isStowed_36 : decode cX1_isStowed 36 = .ok (.iconst 0, 1) := by decide +kernel
theorem dX1_isStowed_37 : decode cX1_isStowed 37 = .ok (.ireturn, 1) := by decide +kernel
set_option maxRecDepth 20000 in
theorem ggX1_powerOf_X1_isStowed : GoodIn wsX1_powerOf wsX1_isStowed := goodIn_r _ [11, 12, 31, 32, 33, 34, 35, 36, 37, 38, 39, 40, 41] rfl (by decide +kernel)
set_option maxRecDepth 20000 in
theorem gX1_powerOf_X1_isStowed : GoodIn wsX1_powerOf (wsV RX1 50 RX1 yX1_isStowed wsX1_isStowed) := goodIn_app (goodIn_of _ (by decide +kernel)) ggX1_powerOf_X1_isStowed
set_option maxRecDepth 20000 in
theorem ggX1_powerOf_X1_soilOf : GoodIn wsX1_powerOf wsX1_soilOf := goodIn_r _ [16, 17, 18, 19, 20, 4, 21, 31, 32, 33, 34, 35, 36, 37, 38, 39, 40, 41] rfl (by decide +kernel)
set_option maxRecDepth 20000 in
theorem gX1_powerOf_X1_soilOf : GoodIn wsX1_powerOf (wsV RX1 54 RX1 yX1_soilOf wsX1_soilOf) := goodIn_app (goodIn_of _ (by decide +kernel)) ggX1_powerOf_X1_soilOf
set_option maxRecDepth 20000 in
theorem ggX1_powerOf_X1_shadersOf : GoodIn wsX1_powerOf wsX1_shadersOf := goodIn_r _ [25, 1, 26, 27, 28, 29, 30, 31, 32, 33, 34, 35, 36, 37, 38, 39, 40, 41] rfl (by decide +kernel)
set_option maxRecDepth 20000 in
theorem gX1_powerOf_X1_shadersOf : GoodIn wsX1_powerOf (wsV RX1 63 RX1 yX1_shadersOf wsX1_shadersOf) := goodIn_app (goodIn_of _ (by decide +kernel)) ggX1_powerOf_X1_shadersOf
theorem dX1_powerOf_0 : decode cX1_powerOf 0 = .ok (.aload_n 0, 1) := by decide +kernel
theorem dX1_powerOf_1 : decode cX1_powerOf 1 = .ok (.getfield 33, 3) := by decide +kernel
theorem dX1_powerOf_4 : decode cX1_powerOf 4 = .ok (.iload_n 2, 1) := by decide +kernel
theorem dX1_powerOf_5 : decode cX1_powerOf 5 = .ok (.iaload, 1) := by decide +kernel
theorem dX1_powerOf_6 : decode cX1_powerOf 6 = .ok (.ifCond .eq 11, 3) := by decide +kernel
theorem dX1_powerOf_9 : decode cX1_powerOf 9 = .ok (.aload_n 0, 1) := by decide +kernel
theorem dX1_powerOf_10 : decode cX1_powerOf 10 = .ok (.iload_n 2, 1) := by decide +kernel
theorem dX1_powerOf_11 : decode cX1_powerOf 11 = .ok (.invokevirtual 50, 3) := by decide +kernel
theorem dX1_powerOf_14 : decode cX1_powerOf 14 = .ok (.ifCond .eq 5, 3) := by decide +kernel
theorem dX1_powerOf_17 : decode cX1_powerOf 17 = .ok (.iconst 0, 1) := by decide +kernel
theorem dX1_powerOf_18 : decode cX1_powerOf 18 = .ok (.ireturn, 1) := by decide +kernel
theorem dX1_powerOf_19 : decode cX1_powerOf 19 = .ok (.bipush 10, 2) := by decide +kernel
theorem dX1_powerOf_21 : decode cX1_powerOf 21 = .ok (.aload_n 0, 1) := by decide +kernel
theorem dX1_powerOf_22 : decode cX1_powerOf 22 = .ok (.getfield 33, 3) := by decide +kernel
theorem dX1_powerOf_25 : decode cX1_powerOf 25 = .ok (.iload_n 2, 1) := by decide +kernel
theorem dX1_powerOf_26 : decode cX1_powerOf 26 = .ok (.iaload, 1) := by decide +kernel
theorem dX1_powerOf_27 : decode cX1_powerOf 27 = .ok (.imul, 1) := by decide +kernel
theorem dX1_powerOf_28 : decode cX1_powerOf 28 = .ok (.bipush 10, 2) := by decide +kernel
theorem dX1_powerOf_30 : decode cX1_powerOf 30 = .ok (.iadd, 1) := by decide +kernel
theorem dX1_powerOf_31 : decode cX1_powerOf 31 = .ok (.istore 4, 2) := by decide +kernel
theorem dX1_powerOf_33 : decode cX1_powerOf 33 = .ok (.iconst 0, 1) := by decide +kernel
theorem dX1_powerOf_34 : decode cX1_powerOf 34 = .ok (.iload 4, 2) := by decide +kernel
theorem dX1_powerOf_36 : decode cX1_powerOf 36 = .ok (.aload_n 0, 1) := by decide +kernel
theorem dX1_powerOf_37 : decode cX1_powerOf 37 = .ok (.iload_n 1, 1) := by decide +kernel
theorem dX1_powerOf_38 : decode cX1_powerOf 38 = .ok (.iload_n 3, 1) := by decide +kernel
theorem dX1_powerOf_39 : decode cX1_powerOf 39 = .ok (.invokevirtual 54, 3) := by decide +kernel
theorem dX1_powerOf_42 : decode cX1_powerOf 42 = .ok (.isub, 1) := by decide +kernel
theorem dX1_powerOf_43 : decode cX1_powerOf 43 = .ok (.invokestatic 58, 3) := by decide +kernel
theorem dX1_powerOf_46 : decode cX1_powerOf 46 = .ok (.istore 5, 2) := by decide +kernel
theorem dX1_powerOf_48 : decode cX1_powerOf 48 = .ok (.iload 5, 2) := by decide +kernel
theorem dX1_powerOf_50 : decode cX1_powerOf 50 = .ok (.aload_n 0, 1) := by decide +kernel
theorem dX1_powerOf_51 : decode cX1_powerOf 51 = .ok (.iload_n 1, 1) := by decide +kernel
theorem dX1_powerOf_52 : decode cX1_powerOf 52 = .ok (.iload_n 2, 1) := by decide +kernel
theorem dX1_powerOf_53 : decode cX1_powerOf 53 = .ok (.invokevirtual 63, 3) := by decide +kernel
theorem dX1_powerOf_56 : decode cX1_powerOf 56 = .ok (.aload_n 0, 1) := by decide +kernel
theorem dX1_powerOf_57 : decode cX1_powerOf 57 = .ok (.getfield 21, 3) := by decide +kernel
theorem dX1_powerOf_60 : decode cX1_powerOf 60 = .ok (.iload_n 1, 1) := by decide +kernel
theorem dX1_powerOf_61 : decode cX1_powerOf 61 = .ok (.iaload, 1) := by decide +kernel
theorem dX1_powerOf_62 : decode cX1_powerOf 62 = .ok (.iadd, 1) := by decide +kernel
theorem dX1_powerOf_63 : decode cX1_powerOf 63 = .ok (.ishr, 1) := by decide +kernel
theorem dX1_powerOf_64 : decode cX1_powerOf 64 = .ok (.ireturn, 1) := by decide +kernel
theorem dX1_soilOf_0 : decode cX1_soilOf 0 = .ok (.bipush 90, 2) := by decide +kernel
theorem dX1_soilOf_2 : decode cX1_soilOf 2 = .ok (.aload_n 0, 1) := by decide +kernel
theorem dX1_soilOf_3 : decode cX1_soilOf 3 = .ok (.getfield 24, 3) := by decide +kernel
theorem dX1_soilOf_6 : decode cX1_soilOf 6 = .ok (.iload_n 1, 1) := by decide +kernel
theorem dX1_soilOf_7 : decode cX1_soilOf 7 = .ok (.iaload, 1) := by decide +kernel
theorem dX1_soilOf_8 : decode cX1_soilOf 8 = .ok (.iload_n 2, 1) := by decide +kernel
theorem dX1_soilOf_9 : decode cX1_soilOf 9 = .ok (.aload_n 0, 1) := by decide +kernel
theorem dX1_soilOf_10 : decode cX1_soilOf 10 = .ok (.getfield 39, 3) := by decide +kernel
theorem dX1_soilOf_13 : decode cX1_soilOf 13 = .ok (.imul, 1) := by decide +kernel
theorem dX1_soilOf_14 : decode cX1_soilOf 14 = .ok (.iadd, 1) := by decide +kernel
theorem dX1_soilOf_15 : decode cX1_soilOf 15 = .ok (.invokestatic 66, 3) := by decide +kernel
theorem dX1_soilOf_18 : decode cX1_soilOf 18 = .ok (.ireturn, 1) := by decide +kernel
theorem dX1_soilInAll_0 : decode cX1_soilInAll 0 = .ok (.iconst 0, 1) := by decide +kernel
theorem dX1_soilInAll_1 : decode cX1_soilInAll 1 = .ok (.istore_n 1, 1) := by decide +kernel
theorem dX1_soilInAll_2 : decode cX1_soilInAll 2 = .ok (.iconst 0, 1) := by decide +kernel
theorem dX1_soilInAll_3 : decode cX1_soilInAll 3 = .ok (.istore_n 2, 1) := by decide +kernel
theorem dX1_soilInAll_4 : decode cX1_soilInAll 4 = .ok (.iload_n 2, 1) := by decide +kernel
theorem dX1_soilInAll_5 : decode cX1_soilInAll 5 = .ok (.aload_n 0, 1) := by decide +kernel
theorem dX1_soilInAll_6 : decode cX1_soilInAll 6 = .ok (.getfield 43, 3) := by decide +kernel
theorem dX1_soilInAll_9 : decode cX1_soilInAll 9 = .ok (.if_icmp .ge 18, 3) := by decide +kernel
theorem dX1_soilInAll_12 : decode cX1_soilInAll 12 = .ok (.iload_n 1, 1) := by decide +kernel
theorem dX1_soilInAll_13 : decode cX1_soilInAll 13 = .ok (.aload_n 0, 1) := by decide +kernel
theorem dX1_soilInAll_14 : decode cX1_soilInAll 14 = .ok (.getfield 24, 3) := by decide +kernel
theorem dX1_soilInAll_17 : decode cX1_soilInAll 17 = .ok (.iload_n 2, 1) := by decide +kernel
theorem dX1_soilInAll_18 : decode cX1_soilInAll 18 = .ok (.iaload, 1) := by decide +kernel
theorem dX1_soilInAll_19 : decode cX1_soilInAll 19 = .ok (.iadd, 1) := by decide +kernel
theorem dX1_soilInAll_20 : decode cX1_soilInAll 20 = .ok (.istore_n 1, 1) := by decide +kernel
theorem dX1_soilInAll_21 : decode cX1_soilInAll 21 = .ok (.iinc 2 1, 3) := by decide +kernel
theorem dX1_soilInAll_24 : decode cX1_soilInAll 24 = .ok (.goto (-20), 3) := by decide +kernel
theorem dX1_soilInAll_27 : decode cX1_soilInAll 27 = .ok (.iload_n 1, 1) := by decide +kernel
theorem dX1_soilInAll_28 : decode cX1_soilInAll 28 = .ok (.ireturn, 1) := by decide +kernel
set_option maxRecDepth 20000 in
theorem ggX1_growSoil_X1_soilOf : GoodIn wsX1_growSoil wsX1_soilOf := goodIn_r _ [7, 2, 8, 9, 10, 11, 12, 13, 14, 15, 16, 17, 18, 19, 20, 21, 22, 23] rfl (by decide +kernel)
set_option maxRecDepth 20000 in
theorem gX1_growSoil_X1_soilOf : GoodIn wsX1_growSoil (wsV RX1 54 RX1 yX1_soilOf wsX1_soilOf) := goodIn_app (goodIn_of _ (by decide +kernel)) ggX1_growSoil_X1_soilOf
theorem dX1_growSoil_0 : decode cX1_growSoil 0 = .ok (.iconst 0, 1) := by decide +kernel
theorem dX1_growSoil_1 : decode cX1_growSoil 1 = .ok (.istore_n 1, 1) := by decide +kernel
theorem dX1_growSoil_2 : decode cX1_growSoil 2 = .ok (.iload_n 1, 1) := by decide +kernel
theorem dX1_growSoil_3 : decode cX1_growSoil 3 = .ok (.aload_n 0, 1) := by decide +kernel
theorem dX1_growSoil_4 : decode cX1_growSoil 4 = .ok (.getfield 43, 3) := by decide +kernel
theorem dX1_growSoil_7 : decode cX1_growSoil 7 = .ok (.if_icmp .ge 21, 3) := by decide +kernel
theorem dX1_growSoil_10 : decode cX1_growSoil 10 = .ok (.aload_n 0, 1) := by decide +kernel
theorem dX1_growSoil_11 : decode cX1_growSoil 11 = .ok (.getfield 24, 3) := by decide +kernel
theorem dX1_growSoil_14 : decode cX1_growSoil 14 = .ok (.iload_n 1, 1) := by decide +kernel
theorem dX1_growSoil_15 : decode cX1_growSoil 15 = .ok (.aload_n 0, 1) := by decide +kernel
theorem dX1_growSoil_16 : decode cX1_growSoil 16 = .ok (.iload_n 1, 1) := by decide +kernel
theorem dX1_growSoil_17 : decode cX1_growSoil 17 = .ok (.iconst 1, 1) := by decide +kernel
theorem dX1_growSoil_18 : decode cX1_growSoil 18 = .ok (.invokevirtual 54, 3) := by decide +kernel
theorem dX1_growSoil_21 : decode cX1_growSoil 21 = .ok (.iastore, 1) := by decide +kernel
theorem dX1_growSoil_22 : decode cX1_growSoil 22 = .ok (.iinc 1 1, 3) := by decide +kernel
theorem dX1_growSoil_25 : decode cX1_growSoil 25 = .ok (.goto (-23), 3) := by decide +kernel
theorem dX1_growSoil_28 : decode cX1_growSoil 28 = .ok (.return_, 1) := by decide +kernel
set_option maxRecDepth 20000 in
theorem ggX1_washMost_X1_mostSoiled : GoodIn wsX1_washMost wsX1_mostSoiled := goodIn_r _ [11, 1, 6, 12, 13, 14, 15, 16, 17, 18, 19, 20, 21, 22] rfl (by decide +kernel)
set_option maxRecDepth 20000 in
theorem gX1_washMost_X1_mostSoiled : GoodIn wsX1_washMost (wsV RX1 69 RX1 yX1_mostSoiled wsX1_mostSoiled) := goodIn_app (goodIn_of _ (by decide +kernel)) ggX1_washMost_X1_mostSoiled
theorem dX1_washMost_0 : decode cX1_washMost 0 = .ok (.iconst 0, 1) := by decide +kernel
theorem dX1_washMost_1 : decode cX1_washMost 1 = .ok (.istore_n 2, 1) := by decide +kernel
theorem dX1_washMost_2 : decode cX1_washMost 2 = .ok (.iload_n 1, 1) := by decide +kernel
theorem dX1_washMost_3 : decode cX1_washMost 3 = .ok (.aload_n 0, 1) := by decide +kernel
theorem dX1_washMost_4 : decode cX1_washMost 4 = .ok (.getfield 43, 3) := by decide +kernel
theorem dX1_washMost_7 : decode cX1_washMost 7 = .ok (.invokestatic 66, 3) := by decide +kernel
theorem dX1_washMost_10 : decode cX1_washMost 10 = .ok (.istore_n 3, 1) := by decide +kernel
theorem dX1_washMost_11 : decode cX1_washMost 11 = .ok (.iload_n 3, 1) := by decide +kernel
theorem dX1_washMost_12 : decode cX1_washMost 12 = .ok (.ifCond .le 33, 3) := by decide +kernel
theorem dX1_washMost_15 : decode cX1_washMost 15 = .ok (.aload_n 0, 1) := by decide +kernel
theorem dX1_washMost_16 : decode cX1_washMost 16 = .ok (.invokevirtual 69, 3) := by decide +kernel
theorem dX1_washMost_19 : decode cX1_washMost 19 = .ok (.istore 4, 2) := by decide +kernel
theorem dX1_washMost_21 : decode cX1_washMost 21 = .ok (.iload_n 2, 1) := by decide +kernel
theorem dX1_washMost_22 : decode cX1_washMost 22 = .ok (.aload_n 0, 1) := by decide +kernel
theorem dX1_washMost_23 : decode cX1_washMost 23 = .ok (.getfield 24, 3) := by decide +kernel
theorem dX1_washMost_26 : decode cX1_washMost 26 = .ok (.iload 4, 2) := by decide +kernel
theorem dX1_washMost_28 : decode cX1_washMost 28 = .ok (.iaload, 1) := by decide +kernel
theorem dX1_washMost_29 : decode cX1_washMost 29 = .ok (.iadd, 1) := by decide +kernel
theorem dX1_washMost_30 : decode cX1_washMost 30 = .ok (.istore_n 2, 1) := by decide +kernel
theorem dX1_washMost_31 : decode cX1_washMost 31 = .ok (.aload_n 0, 1) := by decide +kernel
theorem dX1_washMost_32 : decode cX1_washMost 32 = .ok (.getfield 24, 3) := by decide +kernel
theorem dX1_washMost_35 : decode cX1_washMost 35 = .ok (.iload 4, 2) := by decide +kernel
theorem dX1_washMost_37 : decode cX1_washMost 37 = .ok (.iconst 0, 1) := by decide +kernel
theorem dX1_washMost_38 : decode cX1_washMost 38 = .ok (.iastore, 1) := by decide +kernel
theorem dX1_washMost_39 : decode cX1_washMost 39 = .ok (.iinc 3 (-1), 3) := by decide +kernel
theorem dX1_washMost_42 : decode cX1_washMost 42 = .ok (.goto (-31), 3) := by decide +kernel
theorem dX1_washMost_45 : decode cX1_washMost 45 = .ok (.iload_n 2, 1) := by decide +kernel
theorem dX1_washMost_46 : decode cX1_washMost 46 = .ok (.ireturn, 1) := by decide +kernel
theorem dX1_mostSoiled_0 : decode cX1_mostSoiled 0 = .ok (.iconst 0, 1) := by decide +kernel
theorem dX1_mostSoiled_1 : decode cX1_mostSoiled 1 = .ok (.istore_n 1, 1) := by decide +kernel
theorem dX1_mostSoiled_2 : decode cX1_mostSoiled 2 = .ok (.iconst 1, 1) := by decide +kernel
theorem dX1_mostSoiled_3 : decode cX1_mostSoiled 3 = .ok (.istore_n 2, 1) := by decide +kernel
theorem dX1_mostSoiled_4 : decode cX1_mostSoiled 4 = .ok (.iload_n 2, 1) := by decide +kernel
theorem dX1_mostSoiled_5 : decode cX1_mostSoiled 5 = .ok (.aload_n 0, 1) := by decide +kernel
theorem dX1_mostSoiled_6 : decode cX1_mostSoiled 6 = .ok (.getfield 43, 3) := by decide +kernel
theorem dX1_mostSoiled_9 : decode cX1_mostSoiled 9 = .ok (.if_icmp .ge 26, 3) := by decide +kernel
theorem dX1_mostSoiled_12 : decode cX1_mostSoiled 12 = .ok (.aload_n 0, 1) := by decide +kernel
theorem dX1_mostSoiled_13 : decode cX1_mostSoiled 13 = .ok (.getfield 24, 3) := by decide +kernel
theorem dX1_mostSoiled_16 : decode cX1_mostSoiled 16 = .ok (.iload_n 2, 1) := by decide +kernel
theorem dX1_mostSoiled_17 : decode cX1_mostSoiled 17 = .ok (.iaload, 1) := by decide +kernel
theorem dX1_mostSoiled_18 : decode cX1_mostSoiled 18 = .ok (.aload_n 0, 1) := by decide +kernel
theorem dX1_mostSoiled_19 : decode cX1_mostSoiled 19 = .ok (.getfield 24, 3) := by decide +kernel
theorem dX1_mostSoiled_22 : decode cX1_mostSoiled 22 = .ok (.iload_n 1, 1) := by decide +kernel
theorem dX1_mostSoiled_23 : decode cX1_mostSoiled 23 = .ok (.iaload, 1) := by decide +kernel
theorem dX1_mostSoiled_24 : decode cX1_mostSoiled 24 = .ok (.if_icmp .le 5, 3) := by decide +kernel
theorem dX1_mostSoiled_27 : decode cX1_mostSoiled 27 = .ok (.iload_n 2, 1) := by decide +kernel
theorem dX1_mostSoiled_28 : decode cX1_mostSoiled 28 = .ok (.istore_n 1, 1) := by decide +kernel
theorem dX1_mostSoiled_29 : decode cX1_mostSoiled 29 = .ok (.iinc 2 1, 3) := by decide +kernel
theorem dX1_mostSoiled_32 : decode cX1_mostSoiled 32 = .ok (.goto (-28), 3) := by decide +kernel
theorem dX1_mostSoiled_35 : decode cX1_mostSoiled 35 = .ok (.iload_n 1, 1) := by decide +kernel
theorem dX1_mostSoiled_36 : decode cX1_mostSoiled 36 = .ok (.ireturn, 1) := by decide +kernel
theorem dX2_init_0 : decode cX2_init 0 = .ok (.aload_n 0, 1) := by decide +kernel
theorem dX2_init_1 : decode cX2_init 1 = .ok (.invokespecial 3, 3) := by decide +kernel
theorem dX2_init_4 : decode cX2_init 4 = .ok (.aload_n 0, 1) := by decide +kernel
theorem dX2_init_5 : decode cX2_init 5 = .ok (.bipush 40, 2) := by decide +kernel
theorem dX2_init_7 : decode cX2_init 7 = .ok (.newarray .int, 2) := by decide +kernel
theorem dX2_init_9 : decode cX2_init 9 = .ok (.putfield 9, 3) := by decide +kernel
theorem dX2_init_12 : decode cX2_init 12 = .ok (.aload_n 0, 1) := by decide +kernel
theorem dX2_init_13 : decode cX2_init 13 = .ok (.bipush 40, 2) := by decide +kernel
theorem dX2_init_15 : decode cX2_init 15 = .ok (.newarray .int, 2) := by decide +kernel
theorem dX2_init_17 : decode cX2_init 17 = .ok (.putfield 15, 3) := by decide +kernel
theorem dX2_init_20 : decode cX2_init 20 = .ok (.return_, 1) := by decide +kernel
theorem dX2_size_0 : decode cX2_size 0 = .ok (.aload_n 0, 1) := by decide +kernel
theorem dX2_size_1 : decode cX2_size 1 = .ok (.getfield 18, 3) := by decide +kernel
theorem dX2_size_4 : decode cX2_size 4 = .ok (.ireturn, 1) := by decide +kernel
set_option maxRecDepth 20000 in
theorem ggX2_note_J13_bitCount_95d88 : GoodIn wsX2_note wsJ13_bitCount_95d88 := goodIn_r _ [11, 12, 13, 14] rfl (by decide +kernel)
set_option maxRecDepth 20000 in
theorem gX2_note_J13_bitCount_95d88 : GoodIn wsX2_note (va_wsS RX2 25 yJ13_bitCount_95d88 wsJ13_bitCount_95d88) := goodIn_app (goodIn_of _ (by decide +kernel)) ggX2_note_J13_bitCount_95d88
theorem dX2_note_0 : decode cX2_note 0 = .ok (.iconst 2, 1) := by decide +kernel
theorem dX2_note_1 : decode cX2_note 1 = .ok (.aload_n 0, 1) := by decide +kernel
theorem dX2_note_2 : decode cX2_note 2 = .ok (.getfield 18, 3) := by decide +kernel
theorem dX2_note_5 : decode cX2_note 5 = .ok (.imul, 1) := by decide +kernel
theorem dX2_note_6 : decode cX2_note 6 = .ok (.istore 4, 2) := by decide +kernel
theorem dX2_note_8 : decode cX2_note 8 = .ok (.iconst 0, 1) := by decide +kernel
theorem dX2_note_9 : decode cX2_note 9 = .ok (.istore 5, 2) := by decide +kernel
theorem dX2_note_11 : decode cX2_note 11 = .ok (.iload 5, 2) := by decide +kernel
theorem dX2_note_13 : decode cX2_note 13 = .ok (.bipush 40, 2) := by decide +kernel
theorem dX2_note_15 : decode cX2_note 15 = .ok (.if_icmp .ge 29, 3) := by decide +kernel
theorem dX2_note_18 : decode cX2_note 18 = .ok (.aload_n 0, 1) := by decide +kernel
theorem dX2_note_19 : decode cX2_note 19 = .ok (.getfield 9, 3) := by decide +kernel
theorem dX2_note_22 : decode cX2_note 22 = .ok (.iload 5, 2) := by decide +kernel
theorem dX2_note_24 : decode cX2_note 24 = .ok (.dup2, 1) := by decide +kernel
theorem dX2_note_25 : decode cX2_note 25 = .ok (.iaload, 1) := by decide +kernel
theorem dX2_note_26 : decode cX2_note 26 = .ok (.lload_n 1, 1) := by decide +kernel
theorem dX2_note_27 : decode cX2_note 27 = .ok (.iload 5, 2) := by decide +kernel
theorem dX2_note_29 : decode cX2_note 29 = .ok (.lushr, 1) := by decide +kernel
theorem dX2_note_30 : decode cX2_note 30 = .ok (.lconst 1, 1) := by decide +kernel
theorem dX2_note_31 : decode cX2_note 31 = .ok (.land, 1) := by decide +kernel
theorem dX2_note_32 : decode cX2_note 32 = .ok (.l2i, 1) := by decide +kernel
theorem dX2_note_33 : decode cX2_note 33 = .ok (.iload 4, 2) := by decide +kernel
theorem dX2_note_35 : decode cX2_note 35 = .ok (.ishl, 1) := by decide +kernel
theorem dX2_note_36 : decode cX2_note 36 = .ok (.ior, 1) := by decide +kernel
theorem dX2_note_37 : decode cX2_note 37 = .ok (.iastore, 1) := by decide +kernel
theorem dX2_note_38 : decode cX2_note 38 = .ok (.iinc 5 1, 3) := by decide +kernel
theorem dX2_note_41 : decode cX2_note 41 = .ok (.goto (-30), 3) := by decide +kernel
theorem dX2_note_44 : decode cX2_note 44 = .ok (.aload_n 0, 1) := by decide +kernel
theorem dX2_note_45 : decode cX2_note 45 = .ok (.dup, 1) := by decide +kernel
theorem dX2_note_46 : decode cX2_note 46 = .ok (.getfield 22, 3) := by decide +kernel
theorem dX2_note_49 : decode cX2_note 49 = .ok (.iconst 3, 1) := by decide +kernel
theorem dX2_note_50 : decode cX2_note 50 = .ok (.lload_n 1, 1) := by decide +kernel
theorem dX2_note_51 : decode cX2_note 51 = .ok (.invokestatic 25, 3) := by decide +kernel
theorem dX2_note_54 : decode cX2_note 54 = .ok (.iload_n 3, 1) := by decide +kernel
theorem dX2_note_55 : decode cX2_note 55 = .ok (.isub, 1) := by decide +kernel
theorem dX2_note_56 : decode cX2_note 56 = .ok (.invokestatic 31, 3) := by decide +kernel
theorem dX2_note_59 : decode cX2_note 59 = .ok (.iload 4, 2) := by decide +kernel
theorem dX2_note_61 : decode cX2_note 61 = .ok (.ishl, 1) := by decide +kernel
theorem dX2_note_62 : decode cX2_note 62 = .ok (.ior, 1) := by decide +kernel
theorem dX2_note_63 : decode cX2_note 63 = .ok (.putfield 22, 3) := by decide +kernel
theorem dX2_note_66 : decode cX2_note 66 = .ok (.aload_n 0, 1) := by decide +kernel
theorem dX2_note_67 : decode cX2_note 67 = .ok (.dup, 1) := by decide +kernel
theorem dX2_note_68 : decode cX2_note 68 = .ok (.getfield 18, 3) := by decide +kernel
theorem dX2_note_71 : decode cX2_note 71 = .ok (.iconst 1, 1) := by decide +kernel
theorem dX2_note_72 : decode cX2_note 72 = .ok (.iadd, 1) := by decide +kernel
theorem dX2_note_73 : decode cX2_note 73 = .ok (.putfield 18, 3) := by decide +kernel
theorem dX2_note_76 : decode cX2_note 76 = .ok (.aload_n 0, 1) := by decide +kernel
theorem dX2_note_77 : decode cX2_note 77 = .ok (.getfield 18, 3) := by decide +kernel
theorem dX2_note_80 : decode cX2_note 80 = .ok (.iconst 1, 1) := by decide +kernel
theorem dX2_note_81 : decode cX2_note 81 = .ok (.isub, 1) := by decide +kernel
theorem dX2_note_82 : decode cX2_note 82 = .ok (.ireturn, 1) := by decide +kernel
set_option maxRecDepth 20000 in
theorem ggX2_drop_J7_fill_53178 : GoodIn wsX2_drop wsJ7_fill_53178 := goodIn_r _ [7] rfl (by decide +kernel)
set_option maxRecDepth 20000 in
theorem gX2_drop_J7_fill_53178 : GoodIn wsX2_drop (va_wsS RX2 37 yJ7_fill_53178 wsJ7_fill_53178) := goodIn_app (goodIn_of _ (by decide +kernel)) ggX2_drop_J7_fill_53178
theorem dX2_drop_0 : decode cX2_drop 0 = .ok (.aload_n 0, 1) := by decide +kernel
theorem dX2_drop_1 : decode cX2_drop 1 = .ok (.getfield 18, 3) := by decide +kernel
theorem dX2_drop_4 : decode cX2_drop 4 = .ok (.istore_n 1, 1) := by decide +kernel
theorem dX2_drop_5 : decode cX2_drop 5 = .ok (.aload_n 0, 1) := by decide +kernel
theorem dX2_drop_6 : decode cX2_drop 6 = .ok (.getfield 9, 3) := by decide +kernel
theorem dX2_drop_9 : decode cX2_drop 9 = .ok (.iconst 0, 1) := by decide +kernel
theorem dX2_drop_10 : decode cX2_drop 10 = .ok (.invokestatic 37, 3) := by decide +kernel
theorem dX2_drop_13 : decode cX2_drop 13 = .ok (.aload_n 0, 1) := by decide +kernel
theorem dX2_drop_14 : decode cX2_drop 14 = .ok (.iconst 0, 1) := by decide +kernel
theorem dX2_drop_15 : decode cX2_drop 15 = .ok (.putfield 22, 3) := by decide +kernel
theorem dX2_drop_18 : decode cX2_drop 18 = .ok (.aload_n 0, 1) := by decide +kernel
theorem dX2_drop_19 : decode cX2_drop 19 = .ok (.iconst 0, 1) := by decide +kernel
theorem dX2_drop_20 : decode cX2_drop 20 = .ok (.putfield 18, 3) := by decide +kernel
theorem dX2_drop_23 : decode cX2_drop 23 = .ok (.iload_n 1, 1) := by decide +kernel
theorem dX2_drop_24 : decode cX2_drop 24 = .ok (.ireturn, 1) := by decide +kernel
set_option maxRecDepth 20000 in
theorem ggX2_setsOf_X2_tally : GoodIn wsX2_setsOf wsX2_tally := goodIn_r _ [6, 7, 8, 1, 9, 10, 11, 12, 13, 14, 15, 16, 17, 18] rfl (by decide +kernel)
set_option maxRecDepth 20000 in
theorem gX2_setsOf_X2_tally : GoodIn wsX2_setsOf (wsV RX2 43 RX2 yX2_tally wsX2_tally) := goodIn_app (goodIn_of _ (by decide +kernel)) ggX2_setsOf_X2_tally
theorem dX2_setsOf_0 : decode cX2_setsOf 0 = .ok (.aload_n 0, 1) := by decide +kernel
theorem dX2_setsOf_1 : decode cX2_setsOf 1 = .ok (.iload_n 1, 1) := by decide +kernel
theorem dX2_setsOf_2 : decode cX2_setsOf 2 = .ok (.invokevirtual 43, 3) := by decide +kernel
theorem dX2_setsOf_5 : decode cX2_setsOf 5 = .ok (.aload_n 0, 1) := by decide +kernel
theorem dX2_setsOf_6 : decode cX2_setsOf 6 = .ok (.getfield 47, 3) := by decide +kernel
theorem dX2_setsOf_9 : decode cX2_setsOf 9 = .ok (.ireturn, 1) := by decide +kernel
set_option maxRecDepth 20000 in
theorem ggX2_verdictOn_X2_tally : GoodIn wsX2_verdictOn wsX2_tally := goodIn_r _ [6, 1, 7, 8, 9, 10, 11, 12, 13, 18, 19, 20, 21, 22] rfl (by decide +kernel)
set_option maxRecDepth 20000 in
theorem gX2_verdictOn_X2_tally : GoodIn wsX2_verdictOn (wsV RX2 43 RX2 yX2_tally wsX2_tally) := goodIn_app (goodIn_of _ (by decide +kernel)) ggX2_verdictOn_X2_tally
set_option maxRecDepth 20000 in
theorem ggX2_verdictOn_X2_isSure : GoodIn wsX2_verdictOn wsX2_isSure := goodIn_r _ [17, 8, 1, 18, 19, 20, 21, 22] rfl (by decide +kernel)
set_option maxRecDepth 20000 in
theorem gX2_verdictOn_X2_isSure : GoodIn wsX2_verdictOn (wsV RX2 50 RX2 yX2_isSure wsX2_isSure) := goodIn_app (goodIn_of _ (by decide +kernel)) ggX2_verdictOn_X2_isSure
theorem dX2_verdictOn_0 : decode cX2_verdictOn 0 = .ok (.aload_n 0, 1) := by decide +kernel
theorem dX2_verdictOn_1 : decode cX2_verdictOn 1 = .ok (.iload_n 2, 1) := by decide +kernel
theorem dX2_verdictOn_2 : decode cX2_verdictOn 2 = .ok (.invokevirtual 43, 3) := by decide +kernel
theorem dX2_verdictOn_5 : decode cX2_verdictOn 5 = .ok (.aload_n 0, 1) := by decide +kernel
theorem dX2_verdictOn_6 : decode cX2_verdictOn 6 = .ok (.iload_n 1, 1) := by decide +kernel
theorem dX2_verdictOn_7 : decode cX2_verdictOn 7 = .ok (.invokevirtual 50, 3) := by decide +kernel
theorem dX2_verdictOn_10 : decode cX2_verdictOn 10 = .ok (.ifCond .ne 5, 3) := by decide +kernel
theorem dX2_verdictOn_13 : decode cX2_verdictOn 13 = .ok (.iconst 2, 1) := by decide +kernel
theorem dX2_verdictOn_14 : decode cX2_verdictOn 14 = .ok (.ireturn, 1) := by decide +kernel
theorem dX2_verdictOn_15 : decode cX2_verdictOn 15 = .ok (.aload_n 0, 1) := by decide +kernel
theorem dX2_verdictOn_16 : decode cX2_verdictOn 16 = .ok (.getfield 15, 3) := by decide +kernel
theorem dX2_verdictOn_19 : decode cX2_verdictOn 19 = .ok (.iload_n 1, 1) := by decide +kernel
theorem dX2_verdictOn_20 : decode cX2_verdictOn 20 = .ok (.iaload, 1) := by decide +kernel
theorem dX2_verdictOn_21 : decode cX2_verdictOn 21 = .ok (.ifCond .ne 7, 3) := by decide +kernel
theorem dX2_verdictOn_24 : decode cX2_verdictOn 24 = .ok (.iconst 0, 1) := by decide +kernel
theorem dX2_verdictOn_25 : decode cX2_verdictOn 25 = .ok (.goto 4, 3) := by decide +kernel
theorem dX2_verdictOn_28 : decode cX2_verdictOn 28 = .ok (.iconst 1, 1) := by decide +kernel
theorem dX2_verdictOn_29 : decode cX2_verdictOn 29 = .ok (.ireturn, 1) := by decide +kernel
set_option maxRecDepth 20000 in
theorem ggX2_unsureOf_X2_tally : GoodIn wsX2_unsureOf wsX2_tally := goodIn_r _ [5, 6, 7, 8, 9, 10, 11, 12, 13, 18, 19, 20, 21, 22] rfl (by decide +kernel)
set_option maxRecDepth 20000 in
theorem gX2_unsureOf_X2_tally : GoodIn wsX2_unsureOf (wsV RX2 43 RX2 yX2_tally wsX2_tally) := goodIn_app (goodIn_of _ (by decide +kernel)) ggX2_unsureOf_X2_tally
set_option maxRecDepth 20000 in
theorem ggX2_unsureOf_X2_isSure : GoodIn wsX2_unsureOf wsX2_isSure := goodIn_r _ [17, 8, 6, 18, 19, 20, 21, 22] rfl (by decide +kernel)
set_option maxRecDepth 20000 in
theorem gX2_unsureOf_X2_isSure : GoodIn wsX2_unsureOf (wsV RX2 50 RX2 yX2_isSure wsX2_isSure) := goodIn_app (goodIn_of _ (by decide +kernel)) ggX2_unsureOf_X2_isSure
theorem dX2_unsureOf_0 : decode cX2_unsureOf 0 = .ok (.aload_n 0, 1) := by decide +kernel
theorem dX2_unsureOf_1 : decode cX2_unsureOf 1 = .ok (.iload_n 1, 1) := by decide +kernel
theorem dX2_unsureOf_2 : decode cX2_unsureOf 2 = .ok (.invokevirtual 43, 3) := by decide +kernel
theorem dX2_unsureOf_5 : decode cX2_unsureOf 5 = .ok (.iconst 0, 1) := by decide +kernel
theorem dX2_unsureOf_6 : decode cX2_unsureOf 6 = .ok (.istore_n 2, 1) := by decide +kernel
theorem dX2_unsureOf_7 : decode cX2_unsureOf 7 = .ok (.iconst 0, 1) := by decide +kernel
theorem dX2_unsureOf_8 : decode cX2_unsureOf 8 = .ok (.istore_n 3, 1) := by decide +kernel
theorem dX2_unsureOf_9 : decode cX2_unsureOf 9 = .ok (.iload_n 3, 1) := by decide +kernel
theorem dX2_unsureOf_10 : decode cX2_unsureOf 10 = .ok (.iload_n 1, 1) := by decide +kernel
theorem dX2_unsureOf_11 : decode cX2_unsureOf 11 = .ok (.if_icmp .ge 20, 3) := by decide +kernel
theorem dX2_unsureOf_14 : decode cX2_unsureOf 14 = .ok (.aload_n 0, 1) := by decide +kernel
theorem dX2_unsureOf_15 : decode cX2_unsureOf 15 = .ok (.iload_n 3, 1) := by decide +kernel
theorem dX2_unsureOf_16 : decode cX2_unsureOf 16 = .ok (.invokevirtual 50, 3) := by decide +kernel
theorem dX2_unsureOf_19 : decode cX2_unsureOf 19 = .ok (.ifCond .ne 6, 3) := by decide +kernel
theorem dX2_unsureOf_22 : decode cX2_unsureOf 22 = .ok (.iinc 2 1, 3) := by decide +kernel
theorem dX2_unsureOf_25 : decode cX2_unsureOf 25 = .ok (.iinc 3 1, 3) := by decide +kernel
theorem dX2_unsureOf_28 : decode cX2_unsureOf 28 = .ok (.goto (-19), 3) := by decide +kernel
theorem dX2_unsureOf_31 : decode cX2_unsureOf 31 = .ok (.iload_n 2, 1) := by decide +kernel
theorem dX2_unsureOf_32 : decode cX2_unsureOf 32 = .ok (.ireturn, 1) := by decide +kernel
theorem dX2_isSure_0 : decode cX2_isSure 0 = .ok (.aload_n 0, 1) := by decide +kernel
theorem dX2_isSure_1 : decode cX2_isSure 1 = .ok (.getfield 47, 3) := by decide +kernel
theorem dX2_isSure_4 : decode cX2_isSure 4 = .ok (.ifCond .le 29, 3) := by decide +kernel
theorem dX2_isSure_7 : decode cX2_isSure 7 = .ok (.aload_n 0, 1) := by decide +kernel
theorem dX2_isSure_8 : decode cX2_isSure 8 = .ok (.getfield 15, 3) := by decide +kernel
theorem dX2_isSure_11 : decode cX2_isSure 11 = .ok (.iload_n 1, 1) := by decide +kernel
theorem dX2_isSure_12 : decode cX2_isSure 12 = .ok (.iaload, 1) := by decide +kernel
theorem dX2_isSure_13 : decode cX2_isSure 13 = .ok (.ifCond .eq 16, 3) := by decide +kernel
theorem dX2_isSure_16 : decode cX2_isSure 16 = .ok (.aload_n 0, 1) := by decide +kernel
theorem dX2_isSure_17 : decode cX2_isSure 17 = .ok (.getfield 15, 3) := by decide +kernel
theorem dX2_isSure_20 : decode cX2_isSure 20 = .ok (.iload_n 1, 1) := by decide +kernel
theorem dX2_isSure_21 : decode cX2_isSure 21 = .ok (.iaload, 1) := by decide +kernel
theorem dX2_isSure_22 : decode cX2_isSure 22 = .ok (.aload_n 0, 1) := by decide +kernel
theorem dX2_isSure_23 : decode cX2_isSure 23 = .ok (.getfield 47, 3) := by decide +kernel
theorem dX2_isSure_26 : decode cX2_isSure 26 = .ok (.if_icmp .ne 7, 3) := by decide +kernel
theorem dX2_isSure_29 : decode cX2_isSure 29 = .ok (.iconst 1, 1) := by decide +kernel
theorem dX2_isSure_30 : decode cX2_isSure 30 = .ok (.goto 4, 3) := by decide +kernel
theorem dX2_isSure_33 : decode cX2_isSure 33 = .ok (.iconst 0, 1) := by decide +kernel
theorem dX2_isSure_34 : decode cX2_isSure 34 = .ok (.ireturn, 1) := by decide +kernel
set_option maxRecDepth 20000 in
theorem ggX2_tally_J7_fill_53178 : GoodIn wsX2_tally wsJ7_fill_53178 := goodIn_r _ [8] rfl (by decide +kernel)
set_option maxRecDepth 20000 in
theorem gX2_tally_J7_fill_53178 : GoodIn wsX2_tally (va_wsS RX2 37 yJ7_fill_53178 wsJ7_fill_53178) := goodIn_app (goodIn_of _ (by decide +kernel)) ggX2_tally_J7_fill_53178
theorem dX2_tally_0 : decode cX2_tally 0 = .ok (.aload_n 0, 1) := by decide +kernel
theorem dX2_tally_1 : decode cX2_tally 1 = .ok (.getfield 15, 3) := by decide +kernel
theorem dX2_tally_4 : decode cX2_tally 4 = .ok (.iconst 0, 1) := by decide +kernel
theorem dX2_tally_5 : decode cX2_tally 5 = .ok (.invokestatic 37, 3) := by decide +kernel
theorem dX2_tally_8 : decode cX2_tally 8 = .ok (.aload_n 0, 1) := by decide +kernel
theorem dX2_tally_9 : decode cX2_tally 9 = .ok (.aload_n 0, 1) := by decide +kernel
theorem dX2_tally_10 : decode cX2_tally 10 = .ok (.getfield 22, 3) := by decide +kernel
theorem dX2_tally_13 : decode cX2_tally 13 = .ok (.ifCond .ne 7, 3) := by decide +kernel
theorem dX2_tally_16 : decode cX2_tally 16 = .ok (.iconst 1, 1) := by decide +kernel
theorem dX2_tally_17 : decode cX2_tally 17 = .ok (.goto 4, 3) := by decide +kernel
theorem dX2_tally_20 : decode cX2_tally 20 = .ok (.iconst 0, 1) := by decide +kernel
theorem dX2_tally_21 : decode cX2_tally 21 = .ok (.putfield 47, 3) := by decide +kernel
theorem dX2_tally_24 : decode cX2_tally 24 = .ok (.iconst 0, 1) := by decide +kernel
