theorem dX4_count_75 : decode cX4_count 75 = .ok (.goto 4, 3) := by decide +kernel
theorem dX4_count_78 : decode cX4_count 78 = .ok (.iconst 0, 1) := by decide +kernel
theorem dX4_count_79 : decode cX4_count 79 = .ok (.ireturn, 1) := by decide +kernel
theorem dX4_count_80 : decode cX4_count 80 = .ok (.aload_n 0, 1) := by decide +kernel
theorem dX4_count_81 : decode cX4_count 81 = .ok (.getfield 37, 3) := by decide +kernel
theorem dX4_count_84 : decode cX4_count 84 = .ok (.invokevirtual 166, 3) := by decide +kernel
theorem dX4_count_87 : decode cX4_count 87 = .ok (.ireturn, 1) := by decide +kernel
theorem dX4_count_88 : decode cX4_count 88 = .ok (.aload_n 0, 1) := by decide +kernel
theorem dX4_count_89 : decode cX4_count 89 = .ok (.getfield 10, 3) := by decide +kernel
theorem dX4_count_92 : decode cX4_count 92 = .ok (.invokevirtual 189, 3) := by decide +kernel
theorem dX4_count_95 : decode cX4_count 95 = .ok (.ireturn, 1) := by decide +kernel
theorem dX4_count_96 : decode cX4_count 96 = .ok (.iconst (-1), 1) := by decide +kernel
theorem dX4_count_97 : decode cX4_count 97 = .ok (.ireturn, 1) := by decide +kernel
theorem dX4_trouble_0 : decode cX4_trouble 0 = .ok (.aload_n 0, 1) := by decide +kernel
theorem dX4_trouble_1 : decode cX4_trouble 1 = .ok (.getfield 41, 3) := by decide +kernel
theorem dX4_trouble_4 : decode cX4_trouble 4 = .ok (.ireturn, 1) := by decide +kernel
set_option maxRecDepth 20000 in
theorem ggX4_isMirror_X1_size : GoodIn wsX4_isMirror wsX1_size := goodIn_r _ [6, 7, 17, 18, 19, 20, 21, 22, 23, 24, 25, 26, 27] rfl (by decide +kernel)
set_option maxRecDepth 20000 in
theorem gX4_isMirror_X1_size : GoodIn wsX4_isMirror (wsV RX4 57 RX1 yX1_size wsX1_size) := goodIn_app (goodIn_of _ (by decide +kernel)) ggX4_isMirror_X1_size
set_option maxRecDepth 20000 in
theorem ggX4_isMirror_X4_isWithin : GoodIn wsX4_isMirror wsX4_isWithin := goodIn_r _ [11] rfl (by decide +kernel)
set_option maxRecDepth 20000 in
theorem gX4_isMirror_X4_isWithin : GoodIn wsX4_isMirror (va_wsS RX4 45 yX4_isWithin wsX4_isWithin) := goodIn_app (goodIn_of _ (by decide +kernel)) ggX4_isMirror_X4_isWithin
theorem dX4_isMirror_0 : decode cX4_isMirror 0 = .ok (.iload_n 1, 1) := by decide +kernel
theorem dX4_isMirror_1 : decode cX4_isMirror 1 = .ok (.iconst 0, 1) := by decide +kernel
theorem dX4_isMirror_2 : decode cX4_isMirror 2 = .ok (.aload_n 0, 1) := by decide +kernel
theorem dX4_isMirror_3 : decode cX4_isMirror 3 = .ok (.getfield 10, 3) := by decide +kernel
theorem dX4_isMirror_6 : decode cX4_isMirror 6 = .ok (.invokevirtual 57, 3) := by decide +kernel
theorem dX4_isMirror_9 : decode cX4_isMirror 9 = .ok (.iconst 1, 1) := by decide +kernel
theorem dX4_isMirror_10 : decode cX4_isMirror 10 = .ok (.isub, 1) := by decide +kernel
theorem dX4_isMirror_11 : decode cX4_isMirror 11 = .ok (.invokestatic 45, 3) := by decide +kernel
theorem dX4_isMirror_14 : decode cX4_isMirror 14 = .ok (.ireturn, 1) := by decide +kernel
set_option maxRecDepth 20000 in
theorem ggX4_isHour_X4_isWithin : GoodIn wsX4_isHour wsX4_isWithin := goodIn_r _ [4] rfl (by decide +kernel)
set_option maxRecDepth 20000 in
theorem gX4_isHour_X4_isWithin : GoodIn wsX4_isHour (va_wsS RX4 45 yX4_isWithin wsX4_isWithin) := goodIn_app (goodIn_of _ (by decide +kernel)) ggX4_isHour_X4_isWithin
theorem dX4_isHour_0 : decode cX4_isHour 0 = .ok (.iload_n 0, 1) := by decide +kernel
theorem dX4_isHour_1 : decode cX4_isHour 1 = .ok (.iconst 0, 1) := by decide +kernel
theorem dX4_isHour_2 : decode cX4_isHour 2 = .ok (.bipush 23, 2) := by decide +kernel
theorem dX4_isHour_4 : decode cX4_isHour 4 = .ok (.invokestatic 45, 3) := by decide +kernel
theorem dX4_isHour_7 : decode cX4_isHour 7 = .ok (.ireturn, 1) := by decide +kernel
set_option maxRecDepth 20000 in
theorem ggX4_isCell_X4_isWithin : GoodIn wsX4_isCell wsX4_isWithin := goodIn_r _ [4] rfl (by decide +kernel)
set_option maxRecDepth 20000 in
theorem gX4_isCell_X4_isWithin : GoodIn wsX4_isCell (va_wsS RX4 45 yX4_isWithin wsX4_isWithin) := goodIn_app (goodIn_of _ (by decide +kernel)) ggX4_isCell_X4_isWithin
theorem dX4_isCell_0 : decode cX4_isCell 0 = .ok (.iload_n 0, 1) := by decide +kernel
theorem dX4_isCell_1 : decode cX4_isCell 1 = .ok (.iconst 0, 1) := by decide +kernel
theorem dX4_isCell_2 : decode cX4_isCell 2 = .ok (.iconst 3, 1) := by decide +kernel
theorem dX4_isCell_3 : decode cX4_isCell 3 = .ok (.invokestatic 45, 3) := by decide +kernel
theorem dX4_isCell_6 : decode cX4_isCell 6 = .ok (.ireturn, 1) := by decide +kernel
theorem dX4_isWithin_0 : decode cX4_isWithin 0 = .ok (.iload_n 0, 1) := by decide +kernel
theorem dX4_isWithin_1 : decode cX4_isWithin 1 = .ok (.iload_n 1, 1) := by decide +kernel
theorem dX4_isWithin_2 : decode cX4_isWithin 2 = .ok (.if_icmp .lt 12, 3) := by decide +kernel
theorem dX4_isWithin_5 : decode cX4_isWithin 5 = .ok (.iload_n 0, 1) := by decide +kernel
theorem dX4_isWithin_6 : decode cX4_isWithin 6 = .ok (.iload_n 2, 1) := by decide +kernel
theorem dX4_isWithin_7 : decode cX4_isWithin 7 = .ok (.if_icmp .gt 7, 3) := by decide +kernel
theorem dX4_isWithin_10 : decode cX4_isWithin 10 = .ok (.iconst 1, 1) := by decide +kernel
theorem dX4_isWithin_11 : decode cX4_isWithin 11 = .ok (.goto 4, 3) := by decide +kernel
theorem dX4_isWithin_14 : decode cX4_isWithin 14 = .ok (.iconst 0, 1) := by decide +kernel
theorem dX4_isWithin_15 : decode cX4_isWithin 15 = .ok (.ireturn, 1) := by decide +kernel
theorem dX4_granted_0 : decode cX4_granted 0 = .ok (.aload_n 0, 1) := by decide +kernel
theorem dX4_granted_1 : decode cX4_granted 1 = .ok (.iconst 0, 1) := by decide +kernel
theorem dX4_granted_2 : decode cX4_granted 2 = .ok (.putfield 41, 3) := by decide +kernel
theorem dX4_granted_5 : decode cX4_granted 5 = .ok (.iload_n 1, 1) := by decide +kernel
theorem dX4_granted_6 : decode cX4_granted 6 = .ok (.ireturn, 1) := by decide +kernel
theorem dX4_refused_0 : decode cX4_refused 0 = .ok (.aload_n 0, 1) := by decide +kernel
theorem dX4_refused_1 : decode cX4_refused 1 = .ok (.iload_n 1, 1) := by decide +kernel
theorem dX4_refused_2 : decode cX4_refused 2 = .ok (.putfield 41, 3) := by decide +kernel
theorem dX4_refused_5 : decode cX4_refused 5 = .ok (.iconst (-1), 1) := by decide +kernel
theorem dX4_refused_6 : decode cX4_refused 6 = .ok (.ireturn, 1) := by decide +kernel
theorem dX4_allowed_0 : decode cX4_allowed 0 = .ok (.aload_n 0, 1) := by decide +kernel
theorem dX4_allowed_1 : decode cX4_allowed 1 = .ok (.iconst 0, 1) := by decide +kernel
theorem dX4_allowed_2 : decode cX4_allowed 2 = .ok (.putfield 41, 3) := by decide +kernel
theorem dX4_allowed_5 : decode cX4_allowed 5 = .ok (.iconst 1, 1) := by decide +kernel
theorem dX4_allowed_6 : decode cX4_allowed 6 = .ok (.ireturn, 1) := by decide +kernel
theorem dX4_denied_0 : decode cX4_denied 0 = .ok (.aload_n 0, 1) := by decide +kernel
theorem dX4_denied_1 : decode cX4_denied 1 = .ok (.iload_n 1, 1) := by decide +kernel
theorem dX4_denied_2 : decode cX4_denied 2 = .ok (.putfield 41, 3) := by decide +kernel
theorem dX4_denied_5 : decode cX4_denied 5 = .ok (.iconst 0, 1) := by decide +kernel
theorem dX4_denied_6 : decode cX4_denied 6 = .ok (.ireturn, 1) := by decide +kernel
theorem dX5_refused_0 : decode cX5_refused 0 = .ok (.aload_n 0, 1) := by decide +kernel
theorem dX5_refused_1 : decode cX5_refused 1 = .ok (.iload_n 1, 1) := by decide +kernel
theorem dX5_refused_2 : decode cX5_refused 2 = .ok (.putfield 7, 3) := by decide +kernel
theorem dX5_refused_5 : decode cX5_refused 5 = .ok (.iconst (-1), 1) := by decide +kernel
theorem dX5_refused_6 : decode cX5_refused 6 = .ok (.ireturn, 1) := by decide +kernel
theorem dX5_denied_0 : decode cX5_denied 0 = .ok (.aload_n 0, 1) := by decide +kernel
theorem dX5_denied_1 : decode cX5_denied 1 = .ok (.iload_n 1, 1) := by decide +kernel
theorem dX5_denied_2 : decode cX5_denied 2 = .ok (.putfield 7, 3) := by decide +kernel
theorem dX5_denied_5 : decode cX5_denied 5 = .ok (.iconst 0, 1) := by decide +kernel
theorem dX5_denied_6 : decode cX5_denied 6 = .ok (.ireturn, 1) := by decide +kernel
theorem dX5_done_0 : decode cX5_done 0 = .ok (.aload_n 0, 1) := by decide +kernel
theorem dX5_done_1 : decode cX5_done 1 = .ok (.iconst 0, 1) := by decide +kernel
theorem dX5_done_2 : decode cX5_done 2 = .ok (.putfield 7, 3) := by decide +kernel
theorem dX5_done_5 : decode cX5_done 5 = .ok (.iload_n 1, 1) := by decide +kernel
theorem dX5_done_6 : decode cX5_done 6 = .ok (.ireturn, 1) := by decide +kernel
theorem dX5_granted_0 : decode cX5_granted 0 = .ok (.aload_n 0, 1) := by decide +kernel
theorem dX5_granted_1 : decode cX5_granted 1 = .ok (.iconst 0, 1) := by decide +kernel
theorem dX5_granted_2 : decode cX5_granted 2 = .ok (.putfield 7, 3) := by decide +kernel
theorem dX5_granted_5 : decode cX5_granted 5 = .ok (.iconst 1, 1) := by decide +kernel
theorem dX5_granted_6 : decode cX5_granted 6 = .ok (.ireturn, 1) := by decide +kernel
theorem dX5_in_0 : decode cX5_in 0 = .ok (.iload_n 0, 1) := by decide +kernel
theorem dX5_in_1 : decode cX5_in 1 = .ok (.iload_n 1, 1) := by decide +kernel
theorem dX5_in_2 : decode cX5_in 2 = .ok (.if_icmp .lt 12, 3) := by decide +kernel
theorem dX5_in_5 : decode cX5_in 5 = .ok (.iload_n 0, 1) := by decide +kernel
theorem dX5_in_6 : decode cX5_in 6 = .ok (.iload_n 2, 1) := by decide +kernel
theorem dX5_in_7 : decode cX5_in 7 = .ok (.if_icmp .gt 7, 3) := by decide +kernel
theorem dX5_in_10 : decode cX5_in 10 = .ok (.iconst 1, 1) := by decide +kernel
theorem dX5_in_11 : decode cX5_in 11 = .ok (.goto 4, 3) := by decide +kernel
theorem dX5_in_14 : decode cX5_in 14 = .ok (.iconst 0, 1) := by decide +kernel
theorem dX5_in_15 : decode cX5_in 15 = .ok (.ireturn, 1) := by decide +kernel
theorem dX5_init_0 : decode cX5_init 0 = .ok (.aload_n 0, 1) := by decide +kernel
theorem dX5_init_1 : decode cX5_init 1 = .ok (.invokespecial 10, 3) := by decide +kernel
theorem dX5_init_4 : decode cX5_init 4 = .ok (.aload_n 0, 1) := by decide +kernel
theorem dX5_init_5 : decode cX5_init 5 = .ok (.iconst 1, 1) := by decide +kernel
theorem dX5_init_6 : decode cX5_init 6 = .ok (.putfield 16, 3) := by decide +kernel
theorem dX5_init_9 : decode cX5_init 9 = .ok (.aload_n 0, 1) := by decide +kernel
theorem dX5_init_10 : decode cX5_init 10 = .ok (.bipush 40, 2) := by decide +kernel
theorem dX5_init_12 : decode cX5_init 12 = .ok (.newarray .int, 2) := by decide +kernel
theorem dX5_init_14 : decode cX5_init 14 = .ok (.putfield 19, 3) := by decide +kernel
theorem dX5_init_17 : decode cX5_init 17 = .ok (.aload_n 0, 1) := by decide +kernel
theorem dX5_init_18 : decode cX5_init 18 = .ok (.bipush 40, 2) := by decide +kernel
theorem dX5_init_20 : decode cX5_init 20 = .ok (.newarray .int, 2) := by decide +kernel
theorem dX5_init_22 : decode cX5_init 22 = .ok (.putfield 23, 3) := by decide +kernel
theorem dX5_init_25 : decode cX5_init 25 = .ok (.aload_n 0, 1) := by decide +kernel
theorem dX5_init_26 : decode cX5_init 26 = .ok (.bipush 40, 2) := by decide +kernel
theorem dX5_init_28 : decode cX5_init 28 = .ok (.newarray .int, 2) := by decide +kernel
theorem dX5_init_30 : decode cX5_init 30 = .ok (.putfield 26, 3) := by decide +kernel
theorem dX5_init_33 : decode cX5_init 33 = .ok (.aload_n 0, 1) := by decide +kernel
theorem dX5_init_34 : decode cX5_init 34 = .ok (.iconst 4, 1) := by decide +kernel
theorem dX5_init_35 : decode cX5_init 35 = .ok (.newarray .int, 2) := by decide +kernel
theorem dX5_init_37 : decode cX5_init 37 = .ok (.putfield 29, 3) := by decide +kernel
theorem dX5_init_40 : decode cX5_init 40 = .ok (.aload_n 0, 1) := by decide +kernel
theorem dX5_init_41 : decode cX5_init 41 = .ok (.bipush 24, 2) := by decide +kernel
theorem dX5_init_43 : decode cX5_init 43 = .ok (.newarray .int, 2) := by decide +kernel
theorem dX5_init_45 : decode cX5_init 45 = .ok (.putfield 32, 3) := by decide +kernel
theorem dX5_init_48 : decode cX5_init 48 = .ok (.aload_n 0, 1) := by decide +kernel
theorem dX5_init_49 : decode cX5_init 49 = .ok (.bipush 24, 2) := by decide +kernel
theorem dX5_init_51 : decode cX5_init 51 = .ok (.newarray .int, 2) := by decide +kernel
theorem dX5_init_53 : decode cX5_init 53 = .ok (.putfield 35, 3) := by decide +kernel
theorem dX5_init_56 : decode cX5_init 56 = .ok (.aload_n 0, 1) := by decide +kernel
theorem dX5_init_57 : decode cX5_init 57 = .ok (.bipush 24, 2) := by decide +kernel
theorem dX5_init_59 : decode cX5_init 59 = .ok (.newarray .int, 2) := by decide +kernel
theorem dX5_init_61 : decode cX5_init 61 = .ok (.putfield 38, 3) := by decide +kernel
theorem dX5_init_64 : decode cX5_init 64 = .ok (.aload_n 0, 1) := by decide +kernel
theorem dX5_init_65 : decode cX5_init 65 = .ok (.bipush 24, 2) := by decide +kernel
theorem dX5_init_67 : decode cX5_init 67 = .ok (.newarray .int, 2) := by decide +kernel
theorem dX5_init_69 : decode cX5_init 69 = .ok (.putfield 41, 3) := by decide +kernel
theorem dX5_init_72 : decode cX5_init 72 = .ok (.aload_n 0, 1) := by decide +kernel
theorem dX5_init_73 : decode cX5_init 73 = .ok (.bipush 24, 2) := by decide +kernel
theorem dX5_init_75 : decode cX5_init 75 = .ok (.newarray .int, 2) := by decide +kernel
theorem dX5_init_77 : decode cX5_init 77 = .ok (.putfield 44, 3) := by decide +kernel
theorem dX5_init_80 : decode cX5_init 80 = .ok (.aload_n 0, 1) := by decide +kernel
theorem dX5_init_81 : decode cX5_init 81 = .ok (.bipush 40, 2) := by decide +kernel
theorem dX5_init_83 : decode cX5_init 83 = .ok (.newarray .int, 2) := by decide +kernel
theorem dX5_init_85 : decode cX5_init 85 = .ok (.putfield 47, 3) := by decide +kernel
theorem dX5_init_88 : decode cX5_init 88 = .ok (.aload_n 0, 1) := by decide +kernel
theorem dX5_init_89 : decode cX5_init 89 = .ok (.bipush 40, 2) := by decide +kernel
theorem dX5_init_91 : decode cX5_init 91 = .ok (.newarray .int, 2) := by decide +kernel
theorem dX5_init_93 : decode cX5_init 93 = .ok (.putfield 50, 3) := by decide +kernel
theorem dX5_init_96 : decode cX5_init 96 = .ok (.aload_n 0, 1) := by decide +kernel
theorem dX5_init_97 : decode cX5_init 97 = .ok (.iconst 4, 1) := by decide +kernel
theorem dX5_init_98 : decode cX5_init 98 = .ok (.newarray .int, 2) := by decide +kernel
theorem dX5_init_100 : decode cX5_init 100 = .ok (.putfield 53, 3) := by decide +kernel
theorem dX5_init_103 : decode cX5_init 103 = .ok (.aload_n 0, 1) := by decide +kernel
theorem dX5_init_104 : decode cX5_init 104 = .ok (.bipush 40, 2) := by decide +kernel
theorem dX5_init_106 : decode cX5_init 106 = .ok (.newarray .int, 2) := by decide +kernel
theorem dX5_init_108 : decode cX5_init 108 = .ok (.putfield 56, 3) := by decide +kernel
theorem dX5_init_111 : decode cX5_init 111 = .ok (.aload_n 0, 1) := by decide +kernel
theorem dX5_init_112 : decode cX5_init 112 = .ok (.bipush 40, 2) := by decide +kernel
theorem dX5_init_114 : decode cX5_init 114 = .ok (.newarray .int, 2) := by decide +kernel
theorem dX5_init_116 : decode cX5_init 116 = .ok (.putfield 59, 3) := by decide +kernel
theorem dX5_init_119 : decode cX5_init 119 = .ok (.aload_n 0, 1) := by decide +kernel
theorem dX5_init_120 : decode cX5_init 120 = .ok (.iconst 4, 1) := by decide +kernel
theorem dX5_init_121 : decode cX5_init 121 = .ok (.newarray .int, 2) := by decide +kernel
theorem dX5_init_123 : decode cX5_init 123 = .ok (.putfield 62, 3) := by decide +kernel
theorem dX5_init_126 : decode cX5_init 126 = .ok (.aload_n 0, 1) := by decide +kernel
theorem dX5_init_127 : decode cX5_init 127 = .ok (.iconst (-1), 1) := by decide +kernel
theorem dX5_init_128 : decode cX5_init 128 = .ok (.putfield 65, 3) := by decide +kernel
theorem dX5_init_131 : decode cX5_init 131 = .ok (.aload_n 0, 1) := by decide +kernel
theorem dX5_init_132 : decode cX5_init 132 = .ok (.sipush 10050, 3) := by decide +kernel
theorem dX5_init_135 : decode cX5_init 135 = .ok (.newarray .int, 2) := by decide +kernel
theorem dX5_init_137 : decode cX5_init 137 = .ok (.putfield 68, 3) := by decide +kernel
theorem dX5_init_140 : decode cX5_init 140 = .ok (.aload_n 0, 1) := by decide +kernel
theorem dX5_init_141 : decode cX5_init 141 = .ok (.bipush 24, 2) := by decide +kernel
theorem dX5_init_143 : decode cX5_init 143 = .ok (.newarray .boolean, 2) := by decide +kernel
theorem dX5_init_145 : decode cX5_init 145 = .ok (.putfield 71, 3) := by decide +kernel
theorem dX5_init_148 : decode cX5_init 148 = .ok (.aload_n 0, 1) := by decide +kernel
theorem dX5_init_149 : decode cX5_init 149 = .ok (.bipush 24, 2) := by decide +kernel
theorem dX5_init_151 : decode cX5_init 151 = .ok (.putfield 75, 3) := by decide +kernel
theorem dX5_init_154 : decode cX5_init 154 = .ok (.aload_n 0, 1) := by decide +kernel
theorem dX5_init_155 : decode cX5_init 155 = .ok (.bipush 24, 2) := by decide +kernel
theorem dX5_init_157 : decode cX5_init 157 = .ok (.newarray .int, 2) := by decide +kernel
theorem dX5_init_159 : decode cX5_init 159 = .ok (.putfield 78, 3) := by decide +kernel
theorem dX5_init_162 : decode cX5_init 162 = .ok (.aload_n 0, 1) := by decide +kernel
theorem dX5_init_163 : decode cX5_init 163 = .ok (.bipush 12, 2) := by decide +kernel
theorem dX5_init_165 : decode cX5_init 165 = .ok (.newarray .long, 2) := by decide +kernel
theorem dX5_init_167 : decode cX5_init 167 = .ok (.putfield 81, 3) := by decide +kernel
theorem dX5_init_170 : decode cX5_init 170 = .ok (.aload_n 0, 1) := by decide +kernel
theorem dX5_init_171 : decode cX5_init 171 = .ok (.bipush 12, 2) := by decide +kernel
theorem dX5_init_173 : decode cX5_init 173 = .ok (.newarray .int, 2) := by decide +kernel
theorem dX5_init_175 : decode cX5_init 175 = .ok (.putfield 85, 3) := by decide +kernel
theorem dX5_init_178 : decode cX5_init 178 = .ok (.aload_n 0, 1) := by decide +kernel
theorem dX5_init_179 : decode cX5_init 179 = .ok (.bipush 40, 2) := by decide +kernel
theorem dX5_init_181 : decode cX5_init 181 = .ok (.newarray .int, 2) := by decide +kernel
theorem dX5_init_183 : decode cX5_init 183 = .ok (.putfield 88, 3) := by decide +kernel
theorem dX5_init_186 : decode cX5_init 186 = .ok (.iconst 0, 1) := by decide +kernel
theorem dX5_init_187 : decode cX5_init 187 = .ok (.istore_n 1, 1) := by decide +kernel
theorem dX5_init_188 : decode cX5_init 188 = .ok (.iload_n 1, 1) := by decide +kernel
theorem dX5_init_189 : decode cX5_init 189 = .ok (.iconst 4, 1) := by decide +kernel
theorem dX5_init_190 : decode cX5_init 190 = .ok (.if_icmp .ge 18, 3) := by decide +kernel
theorem dX5_init_193 : decode cX5_init 193 = .ok (.aload_n 0, 1) := by decide +kernel
theorem dX5_init_194 : decode cX5_init 194 = .ok (.getfield 29, 3) := by decide +kernel
theorem dX5_init_197 : decode cX5_init 197 = .ok (.iload_n 1, 1) := by decide +kernel
theorem dX5_init_198 : decode cX5_init 198 = .ok (.sipush 500, 3) := by decide +kernel
theorem dX5_init_201 : decode cX5_init 201 = .ok (.iastore, 1) := by decide +kernel
theorem dX5_init_202 : decode cX5_init 202 = .ok (.iinc 1 1, 3) := by decide +kernel
theorem dX5_init_205 : decode cX5_init 205 = .ok (.goto (-17), 3) := by decide +kernel
theorem dX5_init_208 : decode cX5_init 208 = .ok (.iconst 0, 1) := by decide +kernel
theorem dX5_init_209 : decode cX5_init 209 = .ok (.istore_n 1, 1) := by decide +kernel
theorem dX5_init_210 : decode cX5_init 210 = .ok (.iload_n 1, 1) := by decide +kernel
theorem dX5_init_211 : decode cX5_init 211 = .ok (.bipush 24, 2) := by decide +kernel
theorem dX5_init_213 : decode cX5_init 213 = .ok (.if_icmp .ge 17, 3) := by decide +kernel
theorem dX5_init_216 : decode cX5_init 216 = .ok (.aload_n 0, 1) := by decide +kernel
theorem dX5_init_217 : decode cX5_init 217 = .ok (.getfield 44, 3) := by decide +kernel
theorem dX5_init_220 : decode cX5_init 220 = .ok (.iload_n 1, 1) := by decide +kernel
theorem dX5_init_221 : decode cX5_init 221 = .ok (.bipush 10, 2) := by decide +kernel
theorem dX5_init_223 : decode cX5_init 223 = .ok (.iastore, 1) := by decide +kernel
theorem dX5_init_224 : decode cX5_init 224 = .ok (.iinc 1 1, 3) := by decide +kernel
theorem dX5_init_227 : decode cX5_init 227 = .ok (.goto (-17), 3) := by decide +kernel
theorem dX5_init_230 : decode cX5_init 230 = .ok (.return_, 1) := by decide +kernel
theorem dX5_isMirror_0 : decode cX5_isMirror 0 = .ok (.iload_n 1, 1) := by decide +kernel
theorem dX5_isMirror_1 : decode cX5_isMirror 1 = .ok (.ifCond .lt 15, 3) := by decide +kernel
theorem dX5_isMirror_4 : decode cX5_isMirror 4 = .ok (.iload_n 1, 1) := by decide +kernel
theorem dX5_isMirror_5 : decode cX5_isMirror 5 = .ok (.aload_n 0, 1) := by decide +kernel
theorem dX5_isMirror_6 : decode cX5_isMirror 6 = .ok (.getfield 91, 3) := by decide +kernel
theorem dX5_isMirror_9 : decode cX5_isMirror 9 = .ok (.if_icmp .ge 7, 3) := by decide +kernel
theorem dX5_isMirror_12 : decode cX5_isMirror 12 = .ok (.iconst 1, 1) := by decide +kernel
theorem dX5_isMirror_13 : decode cX5_isMirror 13 = .ok (.goto 4, 3) := by decide +kernel
theorem dX5_isMirror_16 : decode cX5_isMirror 16 = .ok (.iconst 0, 1) := by decide +kernel
theorem dX5_isMirror_17 : decode cX5_isMirror 17 = .ok (.ireturn, 1) := by decide +kernel
theorem dX5_isHour_0 : decode cX5_isHour 0 = .ok (.iload_n 0, 1) := by decide +kernel
theorem dX5_isHour_1 : decode cX5_isHour 1 = .ok (.ifCond .lt 13, 3) := by decide +kernel
theorem dX5_isHour_4 : decode cX5_isHour 4 = .ok (.iload_n 0, 1) := by decide +kernel
theorem dX5_isHour_5 : decode cX5_isHour 5 = .ok (.bipush 24, 2) := by decide +kernel
theorem dX5_isHour_7 : decode cX5_isHour 7 = .ok (.if_icmp .ge 7, 3) := by decide +kernel
theorem dX5_isHour_10 : decode cX5_isHour 10 = .ok (.iconst 1, 1) := by decide +kernel
theorem dX5_isHour_11 : decode cX5_isHour 11 = .ok (.goto 4, 3) := by decide +kernel
theorem dX5_isHour_14 : decode cX5_isHour 14 = .ok (.iconst 0, 1) := by decide +kernel
theorem dX5_isHour_15 : decode cX5_isHour 15 = .ok (.ireturn, 1) := by decide +kernel
set_option maxRecDepth 20000 in
theorem ggX5_mirror_X5_in : GoodIn wsX5_mirror wsX5_in := goodIn_r _ [8] rfl (by decide +kernel)
set_option maxRecDepth 20000 in
theorem gX5_mirror_X5_in : GoodIn wsX5_mirror (va_wsS RX5 94 yX5_in wsX5_in) := goodIn_app (goodIn_of _ (by decide +kernel)) ggX5_mirror_X5_in
set_option maxRecDepth 20000 in
theorem ggX5_mirror_X5_refused : GoodIn wsX5_mirror wsX5_refused := goodIn_r _ [12, 13, 18, 19, 20, 21, 22, 23, 24, 25, 26, 27, 28, 29, 30, 31, 32, 33, 34, 35, 36, 37, 38, 39, 40, 41, 42, 43, 44, 45, 46, 47, 48, 49, 50] rfl (by decide +kernel)
set_option maxRecDepth 20000 in
theorem gX5_mirror_X5_refused : GoodIn wsX5_mirror (wsV RX5 98 RX5 yX5_refused wsX5_refused) := goodIn_app (goodIn_of _ (by decide +kernel)) ggX5_mirror_X5_refused
set_option maxRecDepth 20000 in
theorem ggX5_mirror_X5_done : GoodIn wsX5_mirror wsX5_done := goodIn_r _ [17, 13, 18, 19, 20, 21, 22, 23, 24, 25, 26, 27, 28, 29, 30, 31, 32, 33, 34, 35, 36, 37, 38, 39, 40, 41, 42, 43, 44, 45, 46, 47, 48, 49, 50] rfl (by decide +kernel)
set_option maxRecDepth 20000 in
theorem gX5_mirror_X5_done : GoodIn wsX5_mirror (wsV RX5 102 RX5 yX5_done wsX5_done) := goodIn_app (goodIn_of _ (by decide +kernel)) ggX5_mirror_X5_done
theorem dX5_mirror_0 : decode cX5_mirror 0 = .ok (.aload_n 0, 1) := by decide +kernel
theorem dX5_mirror_1 : decode cX5_mirror 1 = .ok (.iconst 0, 1) := by decide +kernel
theorem dX5_mirror_2 : decode cX5_mirror 2 = .ok (.putfield 1, 3) := by decide +kernel
theorem dX5_mirror_5 : decode cX5_mirror 5 = .ok (.iload_n 1, 1) := by decide +kernel
theorem dX5_mirror_6 : decode cX5_mirror 6 = .ok (.iconst 0, 1) := by decide +kernel
theorem dX5_mirror_7 : decode cX5_mirror 7 = .ok (.bipush 14, 2) := by decide +kernel
theorem dX5_mirror_9 : decode cX5_mirror 9 = .ok (.invokestatic 94, 3) := by decide +kernel
theorem dX5_mirror_12 : decode cX5_mirror 12 = .ok (.ifCond .eq 13, 3) := by decide +kernel
theorem dX5_mirror_15 : decode cX5_mirror 15 = .ok (.iload_n 2, 1) := by decide +kernel
theorem dX5_mirror_16 : decode cX5_mirror 16 = .ok (.iconst 0, 1) := by decide +kernel
theorem dX5_mirror_17 : decode cX5_mirror 17 = .ok (.bipush 14, 2) := by decide +kernel
theorem dX5_mirror_19 : decode cX5_mirror 19 = .ok (.invokestatic 94, 3) := by decide +kernel
theorem dX5_mirror_22 : decode cX5_mirror 22 = .ok (.ifCond .ne 9, 3) := by decide +kernel
theorem dX5_mirror_25 : decode cX5_mirror 25 = .ok (.aload_n 0, 1) := by decide +kernel
theorem dX5_mirror_26 : decode cX5_mirror 26 = .ok (.iconst 2, 1) := by decide +kernel
theorem dX5_mirror_27 : decode cX5_mirror 27 = .ok (.invokevirtual 98, 3) := by decide +kernel
theorem dX5_mirror_30 : decode cX5_mirror 30 = .ok (.ireturn, 1) := by decide +kernel
theorem dX5_mirror_31 : decode cX5_mirror 31 = .ok (.iload_n 1, 1) := by decide +kernel
theorem dX5_mirror_32 : decode cX5_mirror 32 = .ok (.bipush 7, 2) := by decide +kernel
theorem dX5_mirror_34 : decode cX5_mirror 34 = .ok (.if_icmp .ne 11, 3) := by decide +kernel
theorem dX5_mirror_37 : decode cX5_mirror 37 = .ok (.iload_n 2, 1) := by decide +kernel
theorem dX5_mirror_38 : decode cX5_mirror 38 = .ok (.ifCond .ne 7, 3) := by decide +kernel
theorem dX5_mirror_41 : decode cX5_mirror 41 = .ok (.iconst 1, 1) := by decide +kernel
theorem dX5_mirror_42 : decode cX5_mirror 42 = .ok (.goto 4, 3) := by decide +kernel
theorem dX5_mirror_45 : decode cX5_mirror 45 = .ok (.iconst 0, 1) := by decide +kernel
theorem dX5_mirror_46 : decode cX5_mirror 46 = .ok (.istore_n 3, 1) := by decide +kernel
theorem dX5_mirror_47 : decode cX5_mirror 47 = .ok (.iconst 0, 1) := by decide +kernel
theorem dX5_mirror_48 : decode cX5_mirror 48 = .ok (.istore 4, 2) := by decide +kernel
theorem dX5_mirror_50 : decode cX5_mirror 50 = .ok (.iload 4, 2) := by decide +kernel
theorem dX5_mirror_52 : decode cX5_mirror 52 = .ok (.aload_n 0, 1) := by decide +kernel
theorem dX5_mirror_53 : decode cX5_mirror 53 = .ok (.getfield 91, 3) := by decide +kernel
theorem dX5_mirror_56 : decode cX5_mirror 56 = .ok (.if_icmp .ge 41, 3) := by decide +kernel
theorem dX5_mirror_59 : decode cX5_mirror 59 = .ok (.iload_n 3, 1) := by decide +kernel
theorem dX5_mirror_60 : decode cX5_mirror 60 = .ok (.ifCond .ne 25, 3) := by decide +kernel
theorem dX5_mirror_63 : decode cX5_mirror 63 = .ok (.aload_n 0, 1) := by decide +kernel
theorem dX5_mirror_64 : decode cX5_mirror 64 = .ok (.getfield 19, 3) := by decide +kernel
theorem dX5_mirror_67 : decode cX5_mirror 67 = .ok (.iload 4, 2) := by decide +kernel
theorem dX5_mirror_69 : decode cX5_mirror 69 = .ok (.iaload, 1) := by decide +kernel
theorem dX5_mirror_70 : decode cX5_mirror 70 = .ok (.iload_n 1, 1) := by decide +kernel
theorem dX5_mirror_71 : decode cX5_mirror 71 = .ok (.if_icmp .ne 18, 3) := by decide +kernel
theorem dX5_mirror_74 : decode cX5_mirror 74 = .ok (.aload_n 0, 1) := by decide +kernel
theorem dX5_mirror_75 : decode cX5_mirror 75 = .ok (.getfield 23, 3) := by decide +kernel
theorem dX5_mirror_78 : decode cX5_mirror 78 = .ok (.iload 4, 2) := by decide +kernel
theorem dX5_mirror_80 : decode cX5_mirror 80 = .ok (.iaload, 1) := by decide +kernel
theorem dX5_mirror_81 : decode cX5_mirror 81 = .ok (.iload_n 2, 1) := by decide +kernel
theorem dX5_mirror_82 : decode cX5_mirror 82 = .ok (.if_icmp .ne 7, 3) := by decide +kernel
theorem dX5_mirror_85 : decode cX5_mirror 85 = .ok (.iconst 1, 1) := by decide +kernel
theorem dX5_mirror_86 : decode cX5_mirror 86 = .ok (.goto 4, 3) := by decide +kernel
theorem dX5_mirror_89 : decode cX5_mirror 89 = .ok (.iconst 0, 1) := by decide +kernel
theorem dX5_mirror_90 : decode cX5_mirror 90 = .ok (.istore_n 3, 1) := by decide +kernel
theorem dX5_mirror_91 : decode cX5_mirror 91 = .ok (.iinc 4 1, 3) := by decide +kernel
theorem dX5_mirror_94 : decode cX5_mirror 94 = .ok (.goto (-44), 3) := by decide +kernel
theorem dX5_mirror_97 : decode cX5_mirror 97 = .ok (.iload_n 3, 1) := by decide +kernel
theorem dX5_mirror_98 : decode cX5_mirror 98 = .ok (.ifCond .eq 9, 3) := by decide +kernel
theorem dX5_mirror_101 : decode cX5_mirror 101 = .ok (.aload_n 0, 1) := by decide +kernel
theorem dX5_mirror_102 : decode cX5_mirror 102 = .ok (.iconst 4, 1) := by decide +kernel
theorem dX5_mirror_103 : decode cX5_mirror 103 = .ok (.invokevirtual 98, 3) := by decide +kernel
theorem dX5_mirror_106 : decode cX5_mirror 106 = .ok (.ireturn, 1) := by decide +kernel
theorem dX5_mirror_107 : decode cX5_mirror 107 = .ok (.aload_n 0, 1) := by decide +kernel
theorem dX5_mirror_108 : decode cX5_mirror 108 = .ok (.getfield 91, 3) := by decide +kernel
theorem dX5_mirror_111 : decode cX5_mirror 111 = .ok (.bipush 40, 2) := by decide +kernel
theorem dX5_mirror_113 : decode cX5_mirror 113 = .ok (.if_icmp .ne 9, 3) := by decide +kernel
theorem dX5_mirror_116 : decode cX5_mirror 116 = .ok (.aload_n 0, 1) := by decide +kernel
theorem dX5_mirror_117 : decode cX5_mirror 117 = .ok (.iconst 3, 1) := by decide +kernel
theorem dX5_mirror_118 : decode cX5_mirror 118 = .ok (.invokevirtual 98, 3) := by decide +kernel
theorem dX5_mirror_121 : decode cX5_mirror 121 = .ok (.ireturn, 1) := by decide +kernel
theorem dX5_mirror_122 : decode cX5_mirror 122 = .ok (.aload_n 0, 1) := by decide +kernel
theorem dX5_mirror_123 : decode cX5_mirror 123 = .ok (.getfield 19, 3) := by decide +kernel
theorem dX5_mirror_126 : decode cX5_mirror 126 = .ok (.aload_n 0, 1) := by decide +kernel
theorem dX5_mirror_127 : decode cX5_mirror 127 = .ok (.getfield 91, 3) := by decide +kernel
theorem dX5_mirror_130 : decode cX5_mirror 130 = .ok (.iload_n 1, 1) := by decide +kernel
theorem dX5_mirror_131 : decode cX5_mirror 131 = .ok (.iastore, 1) := by decide +kernel
theorem dX5_mirror_132 : decode cX5_mirror 132 = .ok (.aload_n 0, 1) := by decide +kernel
theorem dX5_mirror_133 : decode cX5_mirror 133 = .ok (.getfield 23, 3) := by decide +kernel
theorem dX5_mirror_136 : decode cX5_mirror 136 = .ok (.aload_n 0, 1) := by decide +kernel
theorem dX5_mirror_137 : decode cX5_mirror 137 = .ok (.getfield 91, 3) := by decide +kernel
theorem dX5_mirror_140 : decode cX5_mirror 140 = .ok (.iload_n 2, 1) := by decide +kernel
theorem dX5_mirror_141 : decode cX5_mirror 141 = .ok (.iastore, 1) := by decide +kernel
theorem dX5_mirror_142 : decode cX5_mirror 142 = .ok (.aload_n 0, 1) := by decide +kernel
theorem dX5_mirror_143 : decode cX5_mirror 143 = .ok (.dup, 1) := by decide +kernel
theorem dX5_mirror_144 : decode cX5_mirror 144 = .ok (.getfield 91, 3) := by decide +kernel
theorem dX5_mirror_147 : decode cX5_mirror 147 = .ok (.iconst 1, 1) := by decide +kernel
theorem dX5_mirror_148 : decode cX5_mirror 148 = .ok (.iadd, 1) := by decide +kernel
theorem dX5_mirror_149 : decode cX5_mirror 149 = .ok (.putfield 91, 3) := by decide +kernel
theorem dX5_mirror_152 : decode cX5_mirror 152 = .ok (.aload_n 0, 1) := by decide +kernel
theorem dX5_mirror_153 : decode cX5_mirror 153 = .ok (.aload_n 0, 1) := by decide +kernel
theorem dX5_mirror_154 : decode cX5_mirror 154 = .ok (.getfield 91, 3) := by decide +kernel
theorem dX5_mirror_157 : decode cX5_mirror 157 = .ok (.iconst 1, 1) := by decide +kernel
theorem dX5_mirror_158 : decode cX5_mirror 158 = .ok (.isub, 1) := by decide +kernel
theorem dX5_mirror_159 : decode cX5_mirror 159 = .ok (.invokevirtual 102, 3) := by decide +kernel
theorem dX5_mirror_162 : decode cX5_mirror 162 = .ok (.ireturn, 1) := by decide +kernel
set_option maxRecDepth 20000 in
theorem ggX5_sun_X5_isHour : GoodIn wsX5_sun wsX5_isHour := goodIn_r _ [8] rfl (by decide +kernel)
set_option maxRecDepth 20000 in
theorem gX5_sun_X5_isHour : GoodIn wsX5_sun (va_wsS RX5 105 yX5_isHour wsX5_isHour) := goodIn_app (goodIn_of _ (by decide +kernel)) ggX5_sun_X5_isHour
set_option maxRecDepth 20000 in
theorem ggX5_sun_X5_in : GoodIn wsX5_sun wsX5_in := goodIn_r _ [11] rfl (by decide +kernel)
set_option maxRecDepth 20000 in
theorem gX5_sun_X5_in : GoodIn wsX5_sun (va_wsS RX5 94 yX5_in wsX5_in) := goodIn_app (goodIn_of _ (by decide +kernel)) ggX5_sun_X5_in
set_option maxRecDepth 20000 in
theorem ggX5_sun_X5_denied : GoodIn wsX5_sun wsX5_denied := goodIn_r _ [15, 16, 21, 22, 23, 24, 25, 26, 27, 28, 29, 30, 31, 32, 33, 34, 35, 36, 37, 38, 39, 40, 41, 42, 43, 44, 45, 46, 47, 48, 49, 50, 51, 52, 53] rfl (by decide +kernel)
set_option maxRecDepth 20000 in
theorem gX5_sun_X5_denied : GoodIn wsX5_sun (wsV RX5 109 RX5 yX5_denied wsX5_denied) := goodIn_app (goodIn_of _ (by decide +kernel)) ggX5_sun_X5_denied
set_option maxRecDepth 20000 in
theorem ggX5_sun_X5_granted : GoodIn wsX5_sun wsX5_granted := goodIn_r _ [20, 16, 21, 22, 23, 24, 25, 26, 27, 28, 29, 30, 31, 32, 33, 34, 35, 36, 37, 38, 39, 40, 41, 42, 43, 44, 45, 46, 47, 48, 49, 50, 51, 52, 53] rfl (by decide +kernel)
set_option maxRecDepth 20000 in
theorem gX5_sun_X5_granted : GoodIn wsX5_sun (wsV RX5 112 RX5 yX5_granted wsX5_granted) := goodIn_app (goodIn_of _ (by decide +kernel)) ggX5_sun_X5_granted
theorem dX5_sun_0 : decode cX5_sun 0 = .ok (.aload_n 0, 1) := by decide +kernel
theorem dX5_sun_1 : decode cX5_sun 1 = .ok (.iconst 0, 1) := by decide +kernel
theorem dX5_sun_2 : decode cX5_sun 2 = .ok (.putfield 1, 3) := by decide +kernel
theorem dX5_sun_5 : decode cX5_sun 5 = .ok (.iload_n 1, 1) := by decide +kernel
theorem dX5_sun_6 : decode cX5_sun 6 = .ok (.invokestatic 105, 3) := by decide +kernel
theorem dX5_sun_9 : decode cX5_sun 9 = .ok (.ifCond .eq 42, 3) := by decide +kernel
theorem dX5_sun_12 : decode cX5_sun 12 = .ok (.iload_n 2, 1) := by decide +kernel
theorem dX5_sun_13 : decode cX5_sun 13 = .ok (.bipush (-2), 2) := by decide +kernel
theorem dX5_sun_15 : decode cX5_sun 15 = .ok (.iconst 2, 1) := by decide +kernel
theorem dX5_sun_16 : decode cX5_sun 16 = .ok (.invokestatic 94, 3) := by decide +kernel
theorem dX5_sun_19 : decode cX5_sun 19 = .ok (.ifCond .eq 32, 3) := by decide +kernel
theorem dX5_sun_22 : decode cX5_sun 22 = .ok (.iload_n 3, 1) := by decide +kernel
theorem dX5_sun_23 : decode cX5_sun 23 = .ok (.bipush (-2), 2) := by decide +kernel
theorem dX5_sun_25 : decode cX5_sun 25 = .ok (.iconst 2, 1) := by decide +kernel
theorem dX5_sun_26 : decode cX5_sun 26 = .ok (.invokestatic 94, 3) := by decide +kernel
theorem dX5_sun_29 : decode cX5_sun 29 = .ok (.ifCond .eq 22, 3) := by decide +kernel
theorem dX5_sun_32 : decode cX5_sun 32 = .ok (.iload_n 2, 1) := by decide +kernel
theorem dX5_sun_33 : decode cX5_sun 33 = .ok (.ifCond .ne 7, 3) := by decide +kernel
theorem dX5_sun_36 : decode cX5_sun 36 = .ok (.iload_n 3, 1) := by decide +kernel
theorem dX5_sun_37 : decode cX5_sun 37 = .ok (.ifCond .eq 14, 3) := by decide +kernel
theorem dX5_sun_40 : decode cX5_sun 40 = .ok (.iload 4, 2) := by decide +kernel
theorem dX5_sun_42 : decode cX5_sun 42 = .ok (.iconst 0, 1) := by decide +kernel
theorem dX5_sun_43 : decode cX5_sun 43 = .ok (.bipush 9, 2) := by decide +kernel
theorem dX5_sun_45 : decode cX5_sun 45 = .ok (.invokestatic 94, 3) := by decide +kernel
theorem dX5_sun_48 : decode cX5_sun 48 = .ok (.ifCond .ne 9, 3) := by decide +kernel
theorem dX5_sun_51 : decode cX5_sun 51 = .ok (.aload_n 0, 1) := by decide +kernel
theorem dX5_sun_52 : decode cX5_sun 52 = .ok (.iconst 2, 1) := by decide +kernel
theorem dX5_sun_53 : decode cX5_sun 53 = .ok (.invokevirtual 109, 3) := by decide +kernel
theorem dX5_sun_56 : decode cX5_sun 56 = .ok (.ireturn, 1) := by decide +kernel
theorem dX5_sun_57 : decode cX5_sun 57 = .ok (.aload_n 0, 1) := by decide +kernel
theorem dX5_sun_58 : decode cX5_sun 58 = .ok (.getfield 32, 3) := by decide +kernel
theorem dX5_sun_61 : decode cX5_sun 61 = .ok (.iload_n 1, 1) := by decide +kernel
theorem dX5_sun_62 : decode cX5_sun 62 = .ok (.iload_n 2, 1) := by decide +kernel
theorem dX5_sun_63 : decode cX5_sun 63 = .ok (.iastore, 1) := by decide +kernel
theorem dX5_sun_64 : decode cX5_sun 64 = .ok (.aload_n 0, 1) := by decide +kernel
theorem dX5_sun_65 : decode cX5_sun 65 = .ok (.getfield 35, 3) := by decide +kernel
theorem dX5_sun_68 : decode cX5_sun 68 = .ok (.iload_n 1, 1) := by decide +kernel
theorem dX5_sun_69 : decode cX5_sun 69 = .ok (.iload_n 3, 1) := by decide +kernel
theorem dX5_sun_70 : decode cX5_sun 70 = .ok (.iastore, 1) := by decide +kernel
theorem dX5_sun_71 : decode cX5_sun 71 = .ok (.aload_n 0, 1) := by decide +kernel
theorem dX5_sun_72 : decode cX5_sun 72 = .ok (.getfield 38, 3) := by decide +kernel
theorem dX5_sun_75 : decode cX5_sun 75 = .ok (.iload_n 1, 1) := by decide +kernel
theorem dX5_sun_76 : decode cX5_sun 76 = .ok (.iload 4, 2) := by decide +kernel
theorem dX5_sun_78 : decode cX5_sun 78 = .ok (.iastore, 1) := by decide +kernel
theorem dX5_sun_79 : decode cX5_sun 79 = .ok (.aload_n 0, 1) := by decide +kernel
theorem dX5_sun_80 : decode cX5_sun 80 = .ok (.invokevirtual 112, 3) := by decide +kernel
theorem dX5_sun_83 : decode cX5_sun 83 = .ok (.ireturn, 1) := by decide +kernel
set_option maxRecDepth 20000 in
theorem ggX5_limit_X5_in : GoodIn wsX5_limit wsX5_in := goodIn_r _ [6] rfl (by decide +kernel)
set_option maxRecDepth 20000 in
theorem gX5_limit_X5_in : GoodIn wsX5_limit (va_wsS RX5 94 yX5_in wsX5_in) := goodIn_app (goodIn_of _ (by decide +kernel)) ggX5_limit_X5_in
set_option maxRecDepth 20000 in
theorem ggX5_limit_X5_denied : GoodIn wsX5_limit wsX5_denied := goodIn_r _ [10, 11, 16, 17, 18, 19, 20, 21, 22, 23, 24, 25, 26, 27, 28, 29, 30, 31, 32, 33, 34, 35, 36, 37, 38, 39, 40, 41, 42, 43, 44, 45, 46, 47, 48] rfl (by decide +kernel)
set_option maxRecDepth 20000 in
theorem gX5_limit_X5_denied : GoodIn wsX5_limit (wsV RX5 109 RX5 yX5_denied wsX5_denied) := goodIn_app (goodIn_of _ (by decide +kernel)) ggX5_limit_X5_denied
set_option maxRecDepth 20000 in
theorem ggX5_limit_X5_granted : GoodIn wsX5_limit wsX5_granted := goodIn_r _ [15, 11, 16, 17, 18, 19, 20, 21, 22, 23, 24, 25, 26, 27, 28, 29, 30, 31, 32, 33, 34, 35, 36, 37, 38, 39, 40, 41, 42, 43, 44, 45, 46, 47, 48] rfl (by decide +kernel)
set_option maxRecDepth 20000 in
theorem gX5_limit_X5_granted : GoodIn wsX5_limit (wsV RX5 112 RX5 yX5_granted wsX5_granted) := goodIn_app (goodIn_of _ (by decide +kernel)) ggX5_limit_X5_granted
theorem dX5_limit_0 : decode cX5_limit 0 = .ok (.aload_n 0, 1) := by decide +kernel
theorem dX5_limit_1 : decode cX5_limit 1 = .ok (.iconst 0, 1) := by decide +kernel
theorem dX5_limit_2 : decode cX5_limit 2 = .ok (.putfield 1, 3) := by decide +kernel
theorem dX5_limit_5 : decode cX5_limit 5 = .ok (.iload_n 1, 1) := by decide +kernel
theorem dX5_limit_6 : decode cX5_limit 6 = .ok (.iconst 0, 1) := by decide +kernel
theorem dX5_limit_7 : decode cX5_limit 7 = .ok (.iconst 3, 1) := by decide +kernel
theorem dX5_limit_8 : decode cX5_limit 8 = .ok (.invokestatic 94, 3) := by decide +kernel
theorem dX5_limit_11 : decode cX5_limit 11 = .ok (.ifCond .ne 9, 3) := by decide +kernel
theorem dX5_limit_14 : decode cX5_limit 14 = .ok (.aload_n 0, 1) := by decide +kernel
theorem dX5_limit_15 : decode cX5_limit 15 = .ok (.iconst 1, 1) := by decide +kernel
theorem dX5_limit_16 : decode cX5_limit 16 = .ok (.invokevirtual 109, 3) := by decide +kernel
theorem dX5_limit_19 : decode cX5_limit 19 = .ok (.ireturn, 1) := by decide +kernel
theorem dX5_limit_20 : decode cX5_limit 20 = .ok (.iload_n 2, 1) := by decide +kernel
theorem dX5_limit_21 : decode cX5_limit 21 = .ok (.iconst 0, 1) := by decide +kernel
theorem dX5_limit_22 : decode cX5_limit 22 = .ok (.sipush 10000, 3) := by decide +kernel
theorem dX5_limit_25 : decode cX5_limit 25 = .ok (.invokestatic 94, 3) := by decide +kernel
theorem dX5_limit_28 : decode cX5_limit 28 = .ok (.ifCond .ne 9, 3) := by decide +kernel
theorem dX5_limit_31 : decode cX5_limit 31 = .ok (.aload_n 0, 1) := by decide +kernel
theorem dX5_limit_32 : decode cX5_limit 32 = .ok (.iconst 2, 1) := by decide +kernel
theorem dX5_limit_33 : decode cX5_limit 33 = .ok (.invokevirtual 109, 3) := by decide +kernel
theorem dX5_limit_36 : decode cX5_limit 36 = .ok (.ireturn, 1) := by decide +kernel
theorem dX5_limit_37 : decode cX5_limit 37 = .ok (.aload_n 0, 1) := by decide +kernel
theorem dX5_limit_38 : decode cX5_limit 38 = .ok (.getfield 29, 3) := by decide +kernel
theorem dX5_limit_41 : decode cX5_limit 41 = .ok (.iload_n 1, 1) := by decide +kernel
theorem dX5_limit_42 : decode cX5_limit 42 = .ok (.iload_n 2, 1) := by decide +kernel
theorem dX5_limit_43 : decode cX5_limit 43 = .ok (.iastore, 1) := by decide +kernel
theorem dX5_limit_44 : decode cX5_limit 44 = .ok (.aload_n 0, 1) := by decide +kernel
theorem dX5_limit_45 : decode cX5_limit 45 = .ok (.invokevirtual 112, 3) := by decide +kernel
theorem dX5_limit_48 : decode cX5_limit 48 = .ok (.ireturn, 1) := by decide +kernel
set_option maxRecDepth 20000 in
theorem ggX5_wind_X5_isHour : GoodIn wsX5_wind wsX5_isHour := goodIn_r _ [6] rfl (by decide +kernel)
set_option maxRecDepth 20000 in
theorem gX5_wind_X5_isHour : GoodIn wsX5_wind (va_wsS RX5 105 yX5_isHour wsX5_isHour) := goodIn_app (goodIn_of _ (by decide +kernel)) ggX5_wind_X5_isHour
set_option maxRecDepth 20000 in
theorem ggX5_wind_X5_in : GoodIn wsX5_wind wsX5_in := goodIn_r _ [9] rfl (by decide +kernel)
set_option maxRecDepth 20000 in
theorem gX5_wind_X5_in : GoodIn wsX5_wind (va_wsS RX5 94 yX5_in wsX5_in) := goodIn_app (goodIn_of _ (by decide +kernel)) ggX5_wind_X5_in
set_option maxRecDepth 20000 in
theorem ggX5_wind_X5_denied : GoodIn wsX5_wind wsX5_denied := goodIn_r _ [13, 14, 19, 20, 21, 22, 23, 24, 25, 26, 27, 28, 29, 30, 31, 32, 33, 34, 35, 36, 37, 38, 39, 40, 41, 42, 43, 44, 45, 46, 47, 48, 49, 50, 51] rfl (by decide +kernel)
set_option maxRecDepth 20000 in
theorem gX5_wind_X5_denied : GoodIn wsX5_wind (wsV RX5 109 RX5 yX5_denied wsX5_denied) := goodIn_app (goodIn_of _ (by decide +kernel)) ggX5_wind_X5_denied
set_option maxRecDepth 20000 in
theorem ggX5_wind_X5_granted : GoodIn wsX5_wind wsX5_granted := goodIn_r _ [18, 14, 19, 20, 21, 22, 23, 24, 25, 26, 27, 28, 29, 30, 31, 32, 33, 34, 35, 36, 37, 38, 39, 40, 41, 42, 43, 44, 45, 46, 47, 48, 49, 50, 51] rfl (by decide +kernel)
set_option maxRecDepth 20000 in
theorem gX5_wind_X5_granted : GoodIn wsX5_wind (wsV RX5 112 RX5 yX5_granted wsX5_granted) := goodIn_app (goodIn_of _ (by decide +kernel)) ggX5_wind_X5_granted
theorem dX5_wind_0 : decode cX5_wind 0 = .ok (.aload_n 0, 1) := by decide +kernel
theorem dX5_wind_1 : decode cX5_wind 1 = .ok (.iconst 0, 1) := by decide +kernel
theorem dX5_wind_2 : decode cX5_wind 2 = .ok (.putfield 1, 3) := by decide +kernel
theorem dX5_wind_5 : decode cX5_wind 5 = .ok (.iload_n 1, 1) := by decide +kernel
theorem dX5_wind_6 : decode cX5_wind 6 = .ok (.invokestatic 105, 3) := by decide +kernel
theorem dX5_wind_9 : decode cX5_wind 9 = .ok (.ifCond .eq 13, 3) := by decide +kernel
theorem dX5_wind_12 : decode cX5_wind 12 = .ok (.iload_n 2, 1) := by decide +kernel
theorem dX5_wind_13 : decode cX5_wind 13 = .ok (.iconst 0, 1) := by decide +kernel
theorem dX5_wind_14 : decode cX5_wind 14 = .ok (.bipush 99, 2) := by decide +kernel
theorem dX5_wind_16 : decode cX5_wind 16 = .ok (.invokestatic 94, 3) := by decide +kernel
theorem dX5_wind_19 : decode cX5_wind 19 = .ok (.ifCond .ne 9, 3) := by decide +kernel
theorem dX5_wind_22 : decode cX5_wind 22 = .ok (.aload_n 0, 1) := by decide +kernel
theorem dX5_wind_23 : decode cX5_wind 23 = .ok (.iconst 2, 1) := by decide +kernel
theorem dX5_wind_24 : decode cX5_wind 24 = .ok (.invokevirtual 109, 3) := by decide +kernel
theorem dX5_wind_27 : decode cX5_wind 27 = .ok (.ireturn, 1) := by decide +kernel
theorem dX5_wind_28 : decode cX5_wind 28 = .ok (.aload_n 0, 1) := by decide +kernel
theorem dX5_wind_29 : decode cX5_wind 29 = .ok (.getfield 41, 3) := by decide +kernel
theorem dX5_wind_32 : decode cX5_wind 32 = .ok (.iload_n 1, 1) := by decide +kernel
theorem dX5_wind_33 : decode cX5_wind 33 = .ok (.iload_n 2, 1) := by decide +kernel
theorem dX5_wind_34 : decode cX5_wind 34 = .ok (.iastore, 1) := by decide +kernel
theorem dX5_wind_35 : decode cX5_wind 35 = .ok (.aload_n 0, 1) := by decide +kernel
theorem dX5_wind_36 : decode cX5_wind 36 = .ok (.invokevirtual 112, 3) := by decide +kernel
theorem dX5_wind_39 : decode cX5_wind 39 = .ok (.ireturn, 1) := by decide +kernel
set_option maxRecDepth 20000 in
theorem ggX5_price_X5_isHour : GoodIn wsX5_price wsX5_isHour := goodIn_r _ [6] rfl (by decide +kernel)
set_option maxRecDepth 20000 in
theorem gX5_price_X5_isHour : GoodIn wsX5_price (va_wsS RX5 105 yX5_isHour wsX5_isHour) := goodIn_app (goodIn_of _ (by decide +kernel)) ggX5_price_X5_isHour
set_option maxRecDepth 20000 in
theorem ggX5_price_X5_in : GoodIn wsX5_price wsX5_in := goodIn_r _ [9] rfl (by decide +kernel)
set_option maxRecDepth 20000 in
theorem gX5_price_X5_in : GoodIn wsX5_price (va_wsS RX5 94 yX5_in wsX5_in) := goodIn_app (goodIn_of _ (by decide +kernel)) ggX5_price_X5_in
set_option maxRecDepth 20000 in
theorem ggX5_price_X5_denied : GoodIn wsX5_price wsX5_denied := goodIn_r _ [13, 14, 19, 20, 21, 22, 23, 24, 25, 26, 27, 28, 29, 30, 31, 32, 33, 34, 35, 36, 37, 38, 39, 40, 41, 42, 43, 44, 45, 46, 47, 48, 49, 50, 51] rfl (by decide +kernel)
set_option maxRecDepth 20000 in
theorem gX5_price_X5_denied : GoodIn wsX5_price (wsV RX5 109 RX5 yX5_denied wsX5_denied) := goodIn_app (goodIn_of _ (by decide +kernel)) ggX5_price_X5_denied
set_option maxRecDepth 20000 in
theorem ggX5_price_X5_granted : GoodIn wsX5_price wsX5_granted := goodIn_r _ [18, 14, 19, 20, 21, 22, 23, 24, 25, 26, 27, 28, 29, 30, 31, 32, 33, 34, 35, 36, 37, 38, 39, 40, 41, 42, 43, 44, 45, 46, 47, 48, 49, 50, 51] rfl (by decide +kernel)
set_option maxRecDepth 20000 in
theorem gX5_price_X5_granted : GoodIn wsX5_price (wsV RX5 112 RX5 yX5_granted wsX5_granted) := goodIn_app (goodIn_of _ (by decide +kernel)) ggX5_price_X5_granted
theorem dX5_price_0 : decode cX5_price 0 = .ok (.aload_n 0, 1) := by decide +kernel
theorem dX5_price_1 : decode cX5_price 1 = .ok (.iconst 0, 1) := by decide +kernel
theorem dX5_price_2 : decode cX5_price 2 = .ok (.putfield 1, 3) := by decide +kernel
theorem dX5_price_5 : decode cX5_price 5 = .ok (.iload_n 1, 1) := by decide +kernel
theorem dX5_price_6 : decode cX5_price 6 = .ok (.invokestatic 105, 3) := by decide +kernel
theorem dX5_price_9 : decode cX5_price 9 = .ok (.ifCond .eq 14, 3) := by decide +kernel
theorem dX5_price_12 : decode cX5_price 12 = .ok (.iload_n 2, 1) := by decide +kernel
theorem dX5_price_13 : decode cX5_price 13 = .ok (.iconst 0, 1) := by decide +kernel
theorem dX5_price_14 : decode cX5_price 14 = .ok (.sipush 999, 3) := by decide +kernel
theorem dX5_price_17 : decode cX5_price 17 = .ok (.invokestatic 94, 3) := by decide +kernel
theorem dX5_price_20 : decode cX5_price 20 = .ok (.ifCond .ne 9, 3) := by decide +kernel
theorem dX5_price_23 : decode cX5_price 23 = .ok (.aload_n 0, 1) := by decide +kernel
theorem dX5_price_24 : decode cX5_price 24 = .ok (.iconst 2, 1) := by decide +kernel
theorem dX5_price_25 : decode cX5_price 25 = .ok (.invokevirtual 109, 3) := by decide +kernel
theorem dX5_price_28 : decode cX5_price 28 = .ok (.ireturn, 1) := by decide +kernel
theorem dX5_price_29 : decode cX5_price 29 = .ok (.aload_n 0, 1) := by decide +kernel
theorem dX5_price_30 : decode cX5_price 30 = .ok (.getfield 44, 3) := by decide +kernel
theorem dX5_price_33 : decode cX5_price 33 = .ok (.iload_n 1, 1) := by decide +kernel
theorem dX5_price_34 : decode cX5_price 34 = .ok (.iload_n 2, 1) := by decide +kernel
theorem dX5_price_35 : decode cX5_price 35 = .ok (.iastore, 1) := by decide +kernel
theorem dX5_price_36 : decode cX5_price 36 = .ok (.aload_n 0, 1) := by decide +kernel
theorem dX5_price_37 : decode cX5_price 37 = .ok (.invokevirtual 112, 3) := by decide +kernel
theorem dX5_price_40 : decode cX5_price 40 = .ok (.ireturn, 1) := by decide +kernel
set_option maxRecDepth 20000 in
theorem ggX5_dust_X5_in : GoodIn wsX5_dust wsX5_in := goodIn_r _ [6] rfl (by decide +kernel)
set_option maxRecDepth 20000 in
theorem gX5_dust_X5_in : GoodIn wsX5_dust (va_wsS RX5 94 yX5_in wsX5_in) := goodIn_app (goodIn_of _ (by decide +kernel)) ggX5_dust_X5_in
set_option maxRecDepth 20000 in
theorem ggX5_dust_X5_denied : GoodIn wsX5_dust wsX5_denied := goodIn_r _ [10, 11, 16, 17, 18, 19, 20, 21, 22, 23, 24, 25, 26, 27, 28, 29, 30, 31, 32, 33, 34, 35, 36, 37, 38, 39, 40, 41, 42, 43, 44, 45, 46, 47, 48] rfl (by decide +kernel)
set_option maxRecDepth 20000 in
theorem gX5_dust_X5_denied : GoodIn wsX5_dust (wsV RX5 109 RX5 yX5_denied wsX5_denied) := goodIn_app (goodIn_of _ (by decide +kernel)) ggX5_dust_X5_denied
set_option maxRecDepth 20000 in
theorem ggX5_dust_X5_granted : GoodIn wsX5_dust wsX5_granted := goodIn_r _ [15, 11, 16, 17, 18, 19, 20, 21, 22, 23, 24, 25, 26, 27, 28, 29, 30, 31, 32, 33, 34, 35, 36, 37, 38, 39, 40, 41, 42, 43, 44, 45, 46, 47, 48] rfl (by decide +kernel)
set_option maxRecDepth 20000 in
theorem gX5_dust_X5_granted : GoodIn wsX5_dust (wsV RX5 112 RX5 yX5_granted wsX5_granted) := goodIn_app (goodIn_of _ (by decide +kernel)) ggX5_dust_X5_granted
theorem dX5_dust_0 : decode cX5_dust 0 = .ok (.aload_n 0, 1) := by decide +kernel
theorem dX5_dust_1 : decode cX5_dust 1 = .ok (.iconst 0, 1) := by decide +kernel
theorem dX5_dust_2 : decode cX5_dust 2 = .ok (.putfield 1, 3) := by decide +kernel
theorem dX5_dust_5 : decode cX5_dust 5 = .ok (.iload_n 1, 1) := by decide +kernel
theorem dX5_dust_6 : decode cX5_dust 6 = .ok (.iconst 0, 1) := by decide +kernel
theorem dX5_dust_7 : decode cX5_dust 7 = .ok (.bipush 20, 2) := by decide +kernel
theorem dX5_dust_9 : decode cX5_dust 9 = .ok (.invokestatic 94, 3) := by decide +kernel
theorem dX5_dust_12 : decode cX5_dust 12 = .ok (.ifCond .ne 9, 3) := by decide +kernel
theorem dX5_dust_15 : decode cX5_dust 15 = .ok (.aload_n 0, 1) := by decide +kernel
theorem dX5_dust_16 : decode cX5_dust 16 = .ok (.iconst 2, 1) := by decide +kernel
theorem dX5_dust_17 : decode cX5_dust 17 = .ok (.invokevirtual 109, 3) := by decide +kernel
theorem dX5_dust_20 : decode cX5_dust 20 = .ok (.ireturn, 1) := by decide +kernel
theorem dX5_dust_21 : decode cX5_dust 21 = .ok (.aload_n 0, 1) := by decide +kernel
theorem dX5_dust_22 : decode cX5_dust 22 = .ok (.iload_n 1, 1) := by decide +kernel
theorem dX5_dust_23 : decode cX5_dust 23 = .ok (.putfield 16, 3) := by decide +kernel
theorem dX5_dust_26 : decode cX5_dust 26 = .ok (.aload_n 0, 1) := by decide +kernel
theorem dX5_dust_27 : decode cX5_dust 27 = .ok (.invokevirtual 112, 3) := by decide +kernel
theorem dX5_dust_30 : decode cX5_dust 30 = .ok (.ireturn, 1) := by decide +kernel
theorem dX5_shades_0 : decode cX5_shades 0 = .ok (.iconst 0, 1) := by decide +kernel
theorem dX5_shades_1 : decode cX5_shades 1 = .ok (.istore_n 3, 1) := by decide +kernel
theorem dX5_shades_2 : decode cX5_shades 2 = .ok (.iconst 1, 1) := by decide +kernel
theorem dX5_shades_3 : decode cX5_shades 3 = .ok (.istore 4, 2) := by decide +kernel
theorem dX5_shades_5 : decode cX5_shades 5 = .ok (.iload 4, 2) := by decide +kernel
theorem dX5_shades_7 : decode cX5_shades 7 = .ok (.bipush 10, 2) := by decide +kernel
theorem dX5_shades_9 : decode cX5_shades 9 = .ok (.aload_n 0, 1) := by decide +kernel
theorem dX5_shades_10 : decode cX5_shades 10 = .ok (.getfield 38, 3) := by decide +kernel
theorem dX5_shades_13 : decode cX5_shades 13 = .ok (.iload_n 2, 1) := by decide +kernel
theorem dX5_shades_14 : decode cX5_shades 14 = .ok (.iaload, 1) := by decide +kernel
theorem dX5_shades_15 : decode cX5_shades 15 = .ok (.isub, 1) := by decide +kernel
theorem dX5_shades_16 : decode cX5_shades 16 = .ok (.if_icmp .gt 96, 3) := by decide +kernel
theorem dX5_shades_19 : decode cX5_shades 19 = .ok (.aload_n 0, 1) := by decide +kernel
theorem dX5_shades_20 : decode cX5_shades 20 = .ok (.getfield 38, 3) := by decide +kernel
theorem dX5_shades_23 : decode cX5_shades 23 = .ok (.iload_n 2, 1) := by decide +kernel
theorem dX5_shades_24 : decode cX5_shades 24 = .ok (.iaload, 1) := by decide +kernel
theorem dX5_shades_25 : decode cX5_shades 25 = .ok (.ifCond .le 87, 3) := by decide +kernel
theorem dX5_shades_28 : decode cX5_shades 28 = .ok (.iconst 0, 1) := by decide +kernel
theorem dX5_shades_29 : decode cX5_shades 29 = .ok (.istore 5, 2) := by decide +kernel
theorem dX5_shades_31 : decode cX5_shades 31 = .ok (.iload 5, 2) := by decide +kernel
theorem dX5_shades_33 : decode cX5_shades 33 = .ok (.aload_n 0, 1) := by decide +kernel
theorem dX5_shades_34 : decode cX5_shades 34 = .ok (.getfield 91, 3) := by decide +kernel
theorem dX5_shades_37 : decode cX5_shades 37 = .ok (.if_icmp .ge 69, 3) := by decide +kernel
theorem dX5_shades_40 : decode cX5_shades 40 = .ok (.iload_n 3, 1) := by decide +kernel
theorem dX5_shades_41 : decode cX5_shades 41 = .ok (.aload_n 0, 1) := by decide +kernel
theorem dX5_shades_42 : decode cX5_shades 42 = .ok (.getfield 19, 3) := by decide +kernel
theorem dX5_shades_45 : decode cX5_shades 45 = .ok (.iload 5, 2) := by decide +kernel
theorem dX5_shades_47 : decode cX5_shades 47 = .ok (.iaload, 1) := by decide +kernel
theorem dX5_shades_48 : decode cX5_shades 48 = .ok (.aload_n 0, 1) := by decide +kernel
theorem dX5_shades_49 : decode cX5_shades 49 = .ok (.getfield 19, 3) := by decide +kernel
theorem dX5_shades_52 : decode cX5_shades 52 = .ok (.iload_n 1, 1) := by decide +kernel
theorem dX5_shades_53 : decode cX5_shades 53 = .ok (.iaload, 1) := by decide +kernel
theorem dX5_shades_54 : decode cX5_shades 54 = .ok (.iload 4, 2) := by decide +kernel
theorem dX5_shades_56 : decode cX5_shades 56 = .ok (.aload_n 0, 1) := by decide +kernel
theorem dX5_shades_57 : decode cX5_shades 57 = .ok (.getfield 32, 3) := by decide +kernel
theorem dX5_shades_60 : decode cX5_shades 60 = .ok (.iload_n 2, 1) := by decide +kernel
theorem dX5_shades_61 : decode cX5_shades 61 = .ok (.iaload, 1) := by decide +kernel
theorem dX5_shades_62 : decode cX5_shades 62 = .ok (.imul, 1) := by decide +kernel
theorem dX5_shades_63 : decode cX5_shades 63 = .ok (.iadd, 1) := by decide +kernel
theorem dX5_shades_64 : decode cX5_shades 64 = .ok (.if_icmp .ne 33, 3) := by decide +kernel
theorem dX5_shades_67 : decode cX5_shades 67 = .ok (.aload_n 0, 1) := by decide +kernel
theorem dX5_shades_68 : decode cX5_shades 68 = .ok (.getfield 23, 3) := by decide +kernel
theorem dX5_shades_71 : decode cX5_shades 71 = .ok (.iload 5, 2) := by decide +kernel
theorem dX5_shades_73 : decode cX5_shades 73 = .ok (.iaload, 1) := by decide +kernel
theorem dX5_shades_74 : decode cX5_shades 74 = .ok (.aload_n 0, 1) := by decide +kernel
theorem dX5_shades_75 : decode cX5_shades 75 = .ok (.getfield 23, 3) := by decide +kernel
theorem dX5_shades_78 : decode cX5_shades 78 = .ok (.iload_n 1, 1) := by decide +kernel
theorem dX5_shades_79 : decode cX5_shades 79 = .ok (.iaload, 1) := by decide +kernel
theorem dX5_shades_80 : decode cX5_shades 80 = .ok (.iload 4, 2) := by decide +kernel
theorem dX5_shades_82 : decode cX5_shades 82 = .ok (.aload_n 0, 1) := by decide +kernel
theorem dX5_shades_83 : decode cX5_shades 83 = .ok (.getfield 35, 3) := by decide +kernel
theorem dX5_shades_86 : decode cX5_shades 86 = .ok (.iload_n 2, 1) := by decide +kernel
theorem dX5_shades_87 : decode cX5_shades 87 = .ok (.iaload, 1) := by decide +kernel
theorem dX5_shades_88 : decode cX5_shades 88 = .ok (.imul, 1) := by decide +kernel
theorem dX5_shades_89 : decode cX5_shades 89 = .ok (.iadd, 1) := by decide +kernel
theorem dX5_shades_90 : decode cX5_shades 90 = .ok (.if_icmp .ne 7, 3) := by decide +kernel
theorem dX5_shades_93 : decode cX5_shades 93 = .ok (.iconst 1, 1) := by decide +kernel
theorem dX5_shades_94 : decode cX5_shades 94 = .ok (.goto 4, 3) := by decide +kernel
theorem dX5_shades_97 : decode cX5_shades 97 = .ok (.iconst 0, 1) := by decide +kernel
theorem dX5_shades_98 : decode cX5_shades 98 = .ok (.iadd, 1) := by decide +kernel
theorem dX5_shades_99 : decode cX5_shades 99 = .ok (.istore_n 3, 1) := by decide +kernel
theorem dX5_shades_100 : decode cX5_shades 100 = .ok (.iinc 5 1, 3) := by decide +kernel
theorem dX5_shades_103 : decode cX5_shades 103 = .ok (.goto (-72), 3) := by decide +kernel
theorem dX5_shades_106 : decode cX5_shades 106 = .ok (.iinc 4 1, 3) := by decide +kernel
theorem dX5_shades_109 : decode cX5_shades 109 = .ok (.goto (-104), 3) := by decide +kernel
theorem dX5_shades_112 : decode cX5_shades 112 = .ok (.iload_n 3, 1) := by decide +kernel
theorem dX5_shades_113 : decode cX5_shades 113 = .ok (.ireturn, 1) := by decide +kernel
theorem dX5_blocks_0 : decode cX5_blocks 0 = .ok (.iconst 0, 1) := by decide +kernel
theorem dX5_blocks_1 : decode cX5_blocks 1 = .ok (.istore_n 2, 1) := by decide +kernel
theorem dX5_blocks_2 : decode cX5_blocks 2 = .ok (.bipush 7, 2) := by decide +kernel
theorem dX5_blocks_4 : decode cX5_blocks 4 = .ok (.aload_n 0, 1) := by decide +kernel
theorem dX5_blocks_5 : decode cX5_blocks 5 = .ok (.getfield 19, 3) := by decide +kernel
theorem dX5_blocks_8 : decode cX5_blocks 8 = .ok (.iload_n 1, 1) := by decide +kernel
theorem dX5_blocks_9 : decode cX5_blocks 9 = .ok (.iaload, 1) := by decide +kernel
theorem dX5_blocks_10 : decode cX5_blocks 10 = .ok (.isub, 1) := by decide +kernel
theorem dX5_blocks_11 : decode cX5_blocks 11 = .ok (.istore_n 3, 1) := by decide +kernel
theorem dX5_blocks_12 : decode cX5_blocks 12 = .ok (.aload_n 0, 1) := by decide +kernel
theorem dX5_blocks_13 : decode cX5_blocks 13 = .ok (.getfield 23, 3) := by decide +kernel
theorem dX5_blocks_16 : decode cX5_blocks 16 = .ok (.iload_n 1, 1) := by decide +kernel
theorem dX5_blocks_17 : decode cX5_blocks 17 = .ok (.iaload, 1) := by decide +kernel
theorem dX5_blocks_18 : decode cX5_blocks 18 = .ok (.ineg, 1) := by decide +kernel
theorem dX5_blocks_19 : decode cX5_blocks 19 = .ok (.istore 4, 2) := by decide +kernel
theorem dX5_blocks_21 : decode cX5_blocks 21 = .ok (.iconst 0, 1) := by decide +kernel
theorem dX5_blocks_22 : decode cX5_blocks 22 = .ok (.istore 5, 2) := by decide +kernel
theorem dX5_blocks_24 : decode cX5_blocks 24 = .ok (.iload 5, 2) := by decide +kernel
theorem dX5_blocks_26 : decode cX5_blocks 26 = .ok (.aload_n 0, 1) := by decide +kernel
theorem dX5_blocks_27 : decode cX5_blocks 27 = .ok (.getfield 91, 3) := by decide +kernel
theorem dX5_blocks_30 : decode cX5_blocks 30 = .ok (.if_icmp .ge 98, 3) := by decide +kernel
theorem dX5_blocks_33 : decode cX5_blocks 33 = .ok (.aload_n 0, 1) := by decide +kernel
theorem dX5_blocks_34 : decode cX5_blocks 34 = .ok (.getfield 19, 3) := by decide +kernel
theorem dX5_blocks_37 : decode cX5_blocks 37 = .ok (.iload 5, 2) := by decide +kernel
theorem dX5_blocks_39 : decode cX5_blocks 39 = .ok (.iaload, 1) := by decide +kernel
theorem dX5_blocks_40 : decode cX5_blocks 40 = .ok (.aload_n 0, 1) := by decide +kernel
theorem dX5_blocks_41 : decode cX5_blocks 41 = .ok (.getfield 19, 3) := by decide +kernel
theorem dX5_blocks_44 : decode cX5_blocks 44 = .ok (.iload_n 1, 1) := by decide +kernel
theorem dX5_blocks_45 : decode cX5_blocks 45 = .ok (.iaload, 1) := by decide +kernel
theorem dX5_blocks_46 : decode cX5_blocks 46 = .ok (.isub, 1) := by decide +kernel
theorem dX5_blocks_47 : decode cX5_blocks 47 = .ok (.istore 6, 2) := by decide +kernel
theorem dX5_blocks_49 : decode cX5_blocks 49 = .ok (.aload_n 0, 1) := by decide +kernel
theorem dX5_blocks_50 : decode cX5_blocks 50 = .ok (.getfield 23, 3) := by decide +kernel
theorem dX5_blocks_53 : decode cX5_blocks 53 = .ok (.iload 5, 2) := by decide +kernel
theorem dX5_blocks_55 : decode cX5_blocks 55 = .ok (.iaload, 1) := by decide +kernel
theorem dX5_blocks_56 : decode cX5_blocks 56 = .ok (.aload_n 0, 1) := by decide +kernel
theorem dX5_blocks_57 : decode cX5_blocks 57 = .ok (.getfield 23, 3) := by decide +kernel
theorem dX5_blocks_60 : decode cX5_blocks 60 = .ok (.iload_n 1, 1) := by decide +kernel
theorem dX5_blocks_61 : decode cX5_blocks 61 = .ok (.iaload, 1) := by decide +kernel
theorem dX5_blocks_62 : decode cX5_blocks 62 = .ok (.isub, 1) := by decide +kernel
theorem dX5_blocks_63 : decode cX5_blocks 63 = .ok (.istore 7, 2) := by decide +kernel
theorem dX5_blocks_65 : decode cX5_blocks 65 = .ok (.iload 6, 2) := by decide +kernel
theorem dX5_blocks_67 : decode cX5_blocks 67 = .ok (.iload_n 3, 1) := by decide +kernel
theorem dX5_blocks_68 : decode cX5_blocks 68 = .ok (.imul, 1) := by decide +kernel
theorem dX5_blocks_69 : decode cX5_blocks 69 = .ok (.iload 7, 2) := by decide +kernel
theorem dX5_blocks_71 : decode cX5_blocks 71 = .ok (.iload 4, 2) := by decide +kernel
theorem dX5_blocks_73 : decode cX5_blocks 73 = .ok (.imul, 1) := by decide +kernel
theorem dX5_blocks_74 : decode cX5_blocks 74 = .ok (.iadd, 1) := by decide +kernel
theorem dX5_blocks_75 : decode cX5_blocks 75 = .ok (.istore 8, 2) := by decide +kernel
theorem dX5_blocks_77 : decode cX5_blocks 77 = .ok (.iload_n 2, 1) := by decide +kernel
theorem dX5_blocks_78 : decode cX5_blocks 78 = .ok (.iload 5, 2) := by decide +kernel
theorem dX5_blocks_80 : decode cX5_blocks 80 = .ok (.iload_n 1, 1) := by decide +kernel
theorem dX5_blocks_81 : decode cX5_blocks 81 = .ok (.if_icmp .eq 38, 3) := by decide +kernel
theorem dX5_blocks_84 : decode cX5_blocks 84 = .ok (.iload 6, 2) := by decide +kernel
theorem dX5_blocks_86 : decode cX5_blocks 86 = .ok (.iload 4, 2) := by decide +kernel
theorem dX5_blocks_88 : decode cX5_blocks 88 = .ok (.imul, 1) := by decide +kernel
theorem dX5_blocks_89 : decode cX5_blocks 89 = .ok (.iload 7, 2) := by decide +kernel
theorem dX5_blocks_91 : decode cX5_blocks 91 = .ok (.iload_n 3, 1) := by decide +kernel
theorem dX5_blocks_92 : decode cX5_blocks 92 = .ok (.imul, 1) := by decide +kernel
theorem dX5_blocks_93 : decode cX5_blocks 93 = .ok (.if_icmp .ne 26, 3) := by decide +kernel
theorem dX5_blocks_96 : decode cX5_blocks 96 = .ok (.iload 8, 2) := by decide +kernel
theorem dX5_blocks_98 : decode cX5_blocks 98 = .ok (.ifCond .le 21, 3) := by decide +kernel
theorem dX5_blocks_101 : decode cX5_blocks 101 = .ok (.iload 8, 2) := by decide +kernel
theorem dX5_blocks_103 : decode cX5_blocks 103 = .ok (.iload_n 3, 1) := by decide +kernel
theorem dX5_blocks_104 : decode cX5_blocks 104 = .ok (.iload_n 3, 1) := by decide +kernel
theorem dX5_blocks_105 : decode cX5_blocks 105 = .ok (.imul, 1) := by decide +kernel
theorem dX5_blocks_106 : decode cX5_blocks 106 = .ok (.iload 4, 2) := by decide +kernel
theorem dX5_blocks_108 : decode cX5_blocks 108 = .ok (.iload 4, 2) := by decide +kernel
