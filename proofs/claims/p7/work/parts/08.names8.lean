theorem dX5_comes_0 : decode cX5_comes 0 = .ok (.aload_n 0, 1) := by decide +kernel
theorem dX5_comes_1 : decode cX5_comes 1 = .ok (.iconst 0, 1) := by decide +kernel
theorem dX5_comes_2 : decode cX5_comes 2 = .ok (.putfield 1, 3) := by decide +kernel
theorem dX5_comes_5 : decode cX5_comes 5 = .ok (.iload_n 1, 1) := by decide +kernel
theorem dX5_comes_6 : decode cX5_comes 6 = .ok (.aload_n 0, 1) := by decide +kernel
theorem dX5_comes_7 : decode cX5_comes 7 = .ok (.getfield 154, 3) := by decide +kernel
theorem dX5_comes_10 : decode cX5_comes 10 = .ok (.bipush 23, 2) := by decide +kernel
theorem dX5_comes_12 : decode cX5_comes 12 = .ok (.invokestatic 94, 3) := by decide +kernel
theorem dX5_comes_15 : decode cX5_comes 15 = .ok (.ifCond .eq 22, 3) := by decide +kernel
theorem dX5_comes_18 : decode cX5_comes 18 = .ok (.aload_n 0, 1) := by decide +kernel
theorem dX5_comes_19 : decode cX5_comes 19 = .ok (.iload_n 1, 1) := by decide +kernel
theorem dX5_comes_20 : decode cX5_comes 20 = .ok (.aload_n 0, 1) := by decide +kernel
theorem dX5_comes_21 : decode cX5_comes 21 = .ok (.getfield 16, 3) := by decide +kernel
theorem dX5_comes_24 : decode cX5_comes 24 = .ok (.iload_n 1, 1) := by decide +kernel
theorem dX5_comes_25 : decode cX5_comes 25 = .ok (.aload_n 0, 1) := by decide +kernel
theorem dX5_comes_26 : decode cX5_comes 26 = .ok (.getfield 154, 3) := by decide +kernel
theorem dX5_comes_29 : decode cX5_comes 29 = .ok (.isub, 1) := by decide +kernel
theorem dX5_comes_30 : decode cX5_comes 30 = .ok (.imul, 1) := by decide +kernel
theorem dX5_comes_31 : decode cX5_comes 31 = .ok (.invokevirtual 145, 3) := by decide +kernel
theorem dX5_comes_34 : decode cX5_comes 34 = .ok (.goto 4, 3) := by decide +kernel
theorem dX5_comes_37 : decode cX5_comes 37 = .ok (.iconst (-1), 1) := by decide +kernel
theorem dX5_comes_38 : decode cX5_comes 38 = .ok (.ireturn, 1) := by decide +kernel
theorem dX5_state_0 : decode cX5_state 0 = .ok (.sipush 201, 3) := by decide +kernel
theorem dX5_state_3 : decode cX5_state 3 = .ok (.iload_n 0, 1) := by decide +kernel
theorem dX5_state_4 : decode cX5_state 4 = .ok (.imul, 1) := by decide +kernel
theorem dX5_state_5 : decode cX5_state 5 = .ok (.iload_n 1, 1) := by decide +kernel
theorem dX5_state_6 : decode cX5_state 6 = .ok (.iadd, 1) := by decide +kernel
theorem dX5_state_7 : decode cX5_state 7 = .ok (.iconst 2, 1) := by decide +kernel
theorem dX5_state_8 : decode cX5_state 8 = .ok (.imul, 1) := by decide +kernel
theorem dX5_state_9 : decode cX5_state 9 = .ok (.iload_n 2, 1) := by decide +kernel
theorem dX5_state_10 : decode cX5_state 10 = .ok (.ifCond .eq 7, 3) := by decide +kernel
theorem dX5_state_13 : decode cX5_state 13 = .ok (.iconst 1, 1) := by decide +kernel
theorem dX5_state_14 : decode cX5_state 14 = .ok (.goto 4, 3) := by decide +kernel
theorem dX5_state_17 : decode cX5_state 17 = .ok (.iconst 0, 1) := by decide +kernel
theorem dX5_state_18 : decode cX5_state 18 = .ok (.iadd, 1) := by decide +kernel
theorem dX5_state_19 : decode cX5_state 19 = .ok (.ireturn, 1) := by decide +kernel
theorem dX5_takes_0 : decode cX5_takes 0 = .ok (.iload_n 0, 1) := by decide +kernel
theorem dX5_takes_1 : decode cX5_takes 1 = .ok (.ifCond .eq 7, 3) := by decide +kernel
theorem dX5_takes_4 : decode cX5_takes 4 = .ok (.iconst 5, 1) := by decide +kernel
theorem dX5_takes_5 : decode cX5_takes 5 = .ok (.goto 5, 3) := by decide +kernel
theorem dX5_takes_8 : decode cX5_takes 8 = .ok (.bipush 7, 2) := by decide +kernel
theorem dX5_takes_10 : decode cX5_takes 10 = .ok (.ireturn, 1) := by decide +kernel
theorem dX5_filled_0 : decode cX5_filled 0 = .ok (.sipush 200, 3) := by decide +kernel
theorem dX5_filled_3 : decode cX5_filled 3 = .ok (.iload_n 0, 1) := by decide +kernel
theorem dX5_filled_4 : decode cX5_filled 4 = .ok (.iload_n 1, 1) := by decide +kernel
theorem dX5_filled_5 : decode cX5_filled 5 = .ok (.iadd, 1) := by decide +kernel
theorem dX5_filled_6 : decode cX5_filled 6 = .ok (.invokestatic 129, 3) := by decide +kernel
theorem dX5_filled_9 : decode cX5_filled 9 = .ok (.ireturn, 1) := by decide +kernel
set_option maxRecDepth 20000 in
theorem ggX5_plan_X5_aims : GoodIn wsX5_plan wsX5_aims := goodIn_r _ [19, 20, 21, 22, 23, 24, 25, 26, 27, 28, 18, 29, 30, 31, 32, 33, 34, 35, 36, 37, 9, 38, 7, 8, 10, 39, 40, 41, 42, 43, 44, 45, 46, 47, 48, 49, 50, 51, 52, 53, 54, 55, 65, 66, 67, 68, 69, 70, 71, 72, 73, 74, 75, 76, 77, 78, 79, 80, 81, 82, 83, 84, 85, 86, 87, 88, 89, 90, 91, 92, 93, 94, 95, 96, 97] rfl (by decide +kernel)
set_option maxRecDepth 20000 in
theorem gX5_plan_X5_aims : GoodIn wsX5_plan (wsV RX5 145 RX5 yX5_aims wsX5_aims) := goodIn_app (goodIn_of _ (by decide +kernel)) ggX5_plan_X5_aims
set_option maxRecDepth 20000 in
theorem ggX5_plan_X5_state : GoodIn wsX5_plan wsX5_state := goodIn_r _ [58] rfl (by decide +kernel)
set_option maxRecDepth 20000 in
theorem gX5_plan_X5_state : GoodIn wsX5_plan (va_wsS RX5 157 yX5_state wsX5_state) := goodIn_app (goodIn_of _ (by decide +kernel)) ggX5_plan_X5_state
set_option maxRecDepth 20000 in
theorem ggX5_plan_X5_filled : GoodIn wsX5_plan wsX5_filled := goodIn_r _ [61, 36, 37, 9, 38] rfl (by decide +kernel)
set_option maxRecDepth 20000 in
theorem gX5_plan_X5_filled : GoodIn wsX5_plan (va_wsS RX5 161 yX5_filled wsX5_filled) := goodIn_app (goodIn_of _ (by decide +kernel)) ggX5_plan_X5_filled
set_option maxRecDepth 20000 in
theorem ggX5_plan_X5_takes : GoodIn wsX5_plan wsX5_takes := goodIn_r _ [64] rfl (by decide +kernel)
set_option maxRecDepth 20000 in
theorem gX5_plan_X5_takes : GoodIn wsX5_plan (va_wsS RX5 164 yX5_takes wsX5_takes) := goodIn_app (goodIn_of _ (by decide +kernel)) ggX5_plan_X5_takes
theorem dX5_plan_0 : decode cX5_plan 0 = .ok (.aload_n 0, 1) := by decide +kernel
theorem dX5_plan_1 : decode cX5_plan 1 = .ok (.iconst 0, 1) := by decide +kernel
theorem dX5_plan_2 : decode cX5_plan 2 = .ok (.putfield 1, 3) := by decide +kernel
theorem dX5_plan_5 : decode cX5_plan 5 = .ok (.aload_n 0, 1) := by decide +kernel
theorem dX5_plan_6 : decode cX5_plan 6 = .ok (.getfield 78, 3) := by decide +kernel
theorem dX5_plan_9 : decode cX5_plan 9 = .ok (.astore_n 1, 1) := by decide +kernel
theorem dX5_plan_10 : decode cX5_plan 10 = .ok (.aload_n 0, 1) := by decide +kernel
theorem dX5_plan_11 : decode cX5_plan 11 = .ok (.getfield 154, 3) := by decide +kernel
theorem dX5_plan_14 : decode cX5_plan 14 = .ok (.istore_n 2, 1) := by decide +kernel
theorem dX5_plan_15 : decode cX5_plan 15 = .ok (.iload_n 2, 1) := by decide +kernel
theorem dX5_plan_16 : decode cX5_plan 16 = .ok (.bipush 24, 2) := by decide +kernel
theorem dX5_plan_18 : decode cX5_plan 18 = .ok (.if_icmp .ge 31, 3) := by decide +kernel
theorem dX5_plan_21 : decode cX5_plan 21 = .ok (.aload_n 1, 1) := by decide +kernel
theorem dX5_plan_22 : decode cX5_plan 22 = .ok (.iload_n 2, 1) := by decide +kernel
theorem dX5_plan_23 : decode cX5_plan 23 = .ok (.aload_n 0, 1) := by decide +kernel
theorem dX5_plan_24 : decode cX5_plan 24 = .ok (.iload_n 2, 1) := by decide +kernel
theorem dX5_plan_25 : decode cX5_plan 25 = .ok (.aload_n 0, 1) := by decide +kernel
theorem dX5_plan_26 : decode cX5_plan 26 = .ok (.getfield 16, 3) := by decide +kernel
theorem dX5_plan_29 : decode cX5_plan 29 = .ok (.iload_n 2, 1) := by decide +kernel
theorem dX5_plan_30 : decode cX5_plan 30 = .ok (.aload_n 0, 1) := by decide +kernel
theorem dX5_plan_31 : decode cX5_plan 31 = .ok (.getfield 154, 3) := by decide +kernel
theorem dX5_plan_34 : decode cX5_plan 34 = .ok (.isub, 1) := by decide +kernel
theorem dX5_plan_35 : decode cX5_plan 35 = .ok (.imul, 1) := by decide +kernel
theorem dX5_plan_36 : decode cX5_plan 36 = .ok (.invokevirtual 145, 3) := by decide +kernel
theorem dX5_plan_39 : decode cX5_plan 39 = .ok (.bipush 100, 2) := by decide +kernel
theorem dX5_plan_41 : decode cX5_plan 41 = .ok (.idiv, 1) := by decide +kernel
theorem dX5_plan_42 : decode cX5_plan 42 = .ok (.iastore, 1) := by decide +kernel
theorem dX5_plan_43 : decode cX5_plan 43 = .ok (.iinc 2 1, 3) := by decide +kernel
theorem dX5_plan_46 : decode cX5_plan 46 = .ok (.goto (-31), 3) := by decide +kernel
theorem dX5_plan_49 : decode cX5_plan 49 = .ok (.iconst 0, 1) := by decide +kernel
theorem dX5_plan_50 : decode cX5_plan 50 = .ok (.istore_n 2, 1) := by decide +kernel
theorem dX5_plan_51 : decode cX5_plan 51 = .ok (.iload_n 2, 1) := by decide +kernel
theorem dX5_plan_52 : decode cX5_plan 52 = .ok (.sipush 402, 3) := by decide +kernel
theorem dX5_plan_55 : decode cX5_plan 55 = .ok (.if_icmp .ge 24, 3) := by decide +kernel
theorem dX5_plan_58 : decode cX5_plan 58 = .ok (.aload_n 0, 1) := by decide +kernel
theorem dX5_plan_59 : decode cX5_plan 59 = .ok (.getfield 68, 3) := by decide +kernel
theorem dX5_plan_62 : decode cX5_plan 62 = .ok (.bipush 24, 2) := by decide +kernel
theorem dX5_plan_64 : decode cX5_plan 64 = .ok (.iconst 0, 1) := by decide +kernel
theorem dX5_plan_65 : decode cX5_plan 65 = .ok (.iconst 0, 1) := by decide +kernel
theorem dX5_plan_66 : decode cX5_plan 66 = .ok (.invokestatic 157, 3) := by decide +kernel
theorem dX5_plan_69 : decode cX5_plan 69 = .ok (.iload_n 2, 1) := by decide +kernel
theorem dX5_plan_70 : decode cX5_plan 70 = .ok (.iadd, 1) := by decide +kernel
theorem dX5_plan_71 : decode cX5_plan 71 = .ok (.iconst 0, 1) := by decide +kernel
theorem dX5_plan_72 : decode cX5_plan 72 = .ok (.iastore, 1) := by decide +kernel
theorem dX5_plan_73 : decode cX5_plan 73 = .ok (.iinc 2 1, 3) := by decide +kernel
theorem dX5_plan_76 : decode cX5_plan 76 = .ok (.goto (-25), 3) := by decide +kernel
theorem dX5_plan_79 : decode cX5_plan 79 = .ok (.bipush 23, 2) := by decide +kernel
theorem dX5_plan_81 : decode cX5_plan 81 = .ok (.istore_n 2, 1) := by decide +kernel
theorem dX5_plan_82 : decode cX5_plan 82 = .ok (.iload_n 2, 1) := by decide +kernel
theorem dX5_plan_83 : decode cX5_plan 83 = .ok (.aload_n 0, 1) := by decide +kernel
theorem dX5_plan_84 : decode cX5_plan 84 = .ok (.getfield 154, 3) := by decide +kernel
theorem dX5_plan_87 : decode cX5_plan 87 = .ok (.if_icmp .lt 143, 3) := by decide +kernel
theorem dX5_plan_90 : decode cX5_plan 90 = .ok (.iconst 0, 1) := by decide +kernel
theorem dX5_plan_91 : decode cX5_plan 91 = .ok (.istore_n 3, 1) := by decide +kernel
theorem dX5_plan_92 : decode cX5_plan 92 = .ok (.iload_n 3, 1) := by decide +kernel
theorem dX5_plan_93 : decode cX5_plan 93 = .ok (.sipush 200, 3) := by decide +kernel
theorem dX5_plan_96 : decode cX5_plan 96 = .ok (.if_icmp .gt 128, 3) := by decide +kernel
theorem dX5_plan_99 : decode cX5_plan 99 = .ok (.iconst 0, 1) := by decide +kernel
theorem dX5_plan_100 : decode cX5_plan 100 = .ok (.istore 4, 2) := by decide +kernel
theorem dX5_plan_102 : decode cX5_plan 102 = .ok (.iload 4, 2) := by decide +kernel
theorem dX5_plan_104 : decode cX5_plan 104 = .ok (.iconst 2, 1) := by decide +kernel
theorem dX5_plan_105 : decode cX5_plan 105 = .ok (.if_icmp .ge 113, 3) := by decide +kernel
theorem dX5_plan_108 : decode cX5_plan 108 = .ok (.iload_n 3, 1) := by decide +kernel
theorem dX5_plan_109 : decode cX5_plan 109 = .ok (.aload_n 1, 1) := by decide +kernel
theorem dX5_plan_110 : decode cX5_plan 110 = .ok (.iload_n 2, 1) := by decide +kernel
theorem dX5_plan_111 : decode cX5_plan 111 = .ok (.iaload, 1) := by decide +kernel
theorem dX5_plan_112 : decode cX5_plan 112 = .ok (.invokestatic 161, 3) := by decide +kernel
theorem dX5_plan_115 : decode cX5_plan 115 = .ok (.istore 5, 2) := by decide +kernel
theorem dX5_plan_117 : decode cX5_plan 117 = .ok (.aload_n 0, 1) := by decide +kernel
theorem dX5_plan_118 : decode cX5_plan 118 = .ok (.getfield 68, 3) := by decide +kernel
theorem dX5_plan_121 : decode cX5_plan 121 = .ok (.iload_n 2, 1) := by decide +kernel
theorem dX5_plan_122 : decode cX5_plan 122 = .ok (.iconst 1, 1) := by decide +kernel
theorem dX5_plan_123 : decode cX5_plan 123 = .ok (.iadd, 1) := by decide +kernel
theorem dX5_plan_124 : decode cX5_plan 124 = .ok (.iload 5, 2) := by decide +kernel
theorem dX5_plan_126 : decode cX5_plan 126 = .ok (.iconst 0, 1) := by decide +kernel
theorem dX5_plan_127 : decode cX5_plan 127 = .ok (.invokestatic 157, 3) := by decide +kernel
theorem dX5_plan_130 : decode cX5_plan 130 = .ok (.iaload, 1) := by decide +kernel
theorem dX5_plan_131 : decode cX5_plan 131 = .ok (.istore 6, 2) := by decide +kernel
theorem dX5_plan_133 : decode cX5_plan 133 = .ok (.iload 4, 2) := by decide +kernel
theorem dX5_plan_135 : decode cX5_plan 135 = .ok (.iconst 1, 1) := by decide +kernel
theorem dX5_plan_136 : decode cX5_plan 136 = .ok (.if_icmp .ne 7, 3) := by decide +kernel
theorem dX5_plan_139 : decode cX5_plan 139 = .ok (.iconst 1, 1) := by decide +kernel
theorem dX5_plan_140 : decode cX5_plan 140 = .ok (.goto 4, 3) := by decide +kernel
theorem dX5_plan_143 : decode cX5_plan 143 = .ok (.iconst 0, 1) := by decide +kernel
theorem dX5_plan_144 : decode cX5_plan 144 = .ok (.invokestatic 164, 3) := by decide +kernel
theorem dX5_plan_147 : decode cX5_plan 147 = .ok (.istore 7, 2) := by decide +kernel
theorem dX5_plan_149 : decode cX5_plan 149 = .ok (.iload 5, 2) := by decide +kernel
theorem dX5_plan_151 : decode cX5_plan 151 = .ok (.iload 7, 2) := by decide +kernel
theorem dX5_plan_153 : decode cX5_plan 153 = .ok (.if_icmp .lt 36, 3) := by decide +kernel
theorem dX5_plan_156 : decode cX5_plan 156 = .ok (.iload 6, 2) := by decide +kernel
theorem dX5_plan_158 : decode cX5_plan 158 = .ok (.iconst 5, 1) := by decide +kernel
theorem dX5_plan_159 : decode cX5_plan 159 = .ok (.aload_n 0, 1) := by decide +kernel
theorem dX5_plan_160 : decode cX5_plan 160 = .ok (.getfield 44, 3) := by decide +kernel
theorem dX5_plan_163 : decode cX5_plan 163 = .ok (.iload_n 2, 1) := by decide +kernel
theorem dX5_plan_164 : decode cX5_plan 164 = .ok (.iaload, 1) := by decide +kernel
theorem dX5_plan_165 : decode cX5_plan 165 = .ok (.imul, 1) := by decide +kernel
theorem dX5_plan_166 : decode cX5_plan 166 = .ok (.aload_n 0, 1) := by decide +kernel
theorem dX5_plan_167 : decode cX5_plan 167 = .ok (.getfield 68, 3) := by decide +kernel
theorem dX5_plan_170 : decode cX5_plan 170 = .ok (.iload_n 2, 1) := by decide +kernel
theorem dX5_plan_171 : decode cX5_plan 171 = .ok (.iconst 1, 1) := by decide +kernel
theorem dX5_plan_172 : decode cX5_plan 172 = .ok (.iadd, 1) := by decide +kernel
theorem dX5_plan_173 : decode cX5_plan 173 = .ok (.iload 5, 2) := by decide +kernel
theorem dX5_plan_175 : decode cX5_plan 175 = .ok (.iload 7, 2) := by decide +kernel
theorem dX5_plan_177 : decode cX5_plan 177 = .ok (.isub, 1) := by decide +kernel
theorem dX5_plan_178 : decode cX5_plan 178 = .ok (.iconst 1, 1) := by decide +kernel
theorem dX5_plan_179 : decode cX5_plan 179 = .ok (.invokestatic 157, 3) := by decide +kernel
theorem dX5_plan_182 : decode cX5_plan 182 = .ok (.iaload, 1) := by decide +kernel
theorem dX5_plan_183 : decode cX5_plan 183 = .ok (.iadd, 1) := by decide +kernel
theorem dX5_plan_184 : decode cX5_plan 184 = .ok (.invokestatic 134, 3) := by decide +kernel
theorem dX5_plan_187 : decode cX5_plan 187 = .ok (.istore 6, 2) := by decide +kernel
theorem dX5_plan_189 : decode cX5_plan 189 = .ok (.aload_n 0, 1) := by decide +kernel
theorem dX5_plan_190 : decode cX5_plan 190 = .ok (.getfield 68, 3) := by decide +kernel
theorem dX5_plan_193 : decode cX5_plan 193 = .ok (.iload_n 2, 1) := by decide +kernel
theorem dX5_plan_194 : decode cX5_plan 194 = .ok (.iload_n 3, 1) := by decide +kernel
theorem dX5_plan_195 : decode cX5_plan 195 = .ok (.iload 4, 2) := by decide +kernel
theorem dX5_plan_197 : decode cX5_plan 197 = .ok (.iconst 1, 1) := by decide +kernel
theorem dX5_plan_198 : decode cX5_plan 198 = .ok (.if_icmp .ne 7, 3) := by decide +kernel
theorem dX5_plan_201 : decode cX5_plan 201 = .ok (.iconst 1, 1) := by decide +kernel
theorem dX5_plan_202 : decode cX5_plan 202 = .ok (.goto 4, 3) := by decide +kernel
theorem dX5_plan_205 : decode cX5_plan 205 = .ok (.iconst 0, 1) := by decide +kernel
theorem dX5_plan_206 : decode cX5_plan 206 = .ok (.invokestatic 157, 3) := by decide +kernel
theorem dX5_plan_209 : decode cX5_plan 209 = .ok (.iload 6, 2) := by decide +kernel
theorem dX5_plan_211 : decode cX5_plan 211 = .ok (.iastore, 1) := by decide +kernel
theorem dX5_plan_212 : decode cX5_plan 212 = .ok (.iinc 4 1, 3) := by decide +kernel
theorem dX5_plan_215 : decode cX5_plan 215 = .ok (.goto (-113), 3) := by decide +kernel
theorem dX5_plan_218 : decode cX5_plan 218 = .ok (.iinc 3 1, 3) := by decide +kernel
theorem dX5_plan_221 : decode cX5_plan 221 = .ok (.goto (-129), 3) := by decide +kernel
theorem dX5_plan_224 : decode cX5_plan 224 = .ok (.iinc 2 (-1), 3) := by decide +kernel
theorem dX5_plan_227 : decode cX5_plan 227 = .ok (.goto (-145), 3) := by decide +kernel
theorem dX5_plan_230 : decode cX5_plan 230 = .ok (.aload_n 0, 1) := by decide +kernel
theorem dX5_plan_231 : decode cX5_plan 231 = .ok (.aload_n 0, 1) := by decide +kernel
theorem dX5_plan_232 : decode cX5_plan 232 = .ok (.getfield 154, 3) := by decide +kernel
theorem dX5_plan_235 : decode cX5_plan 235 = .ok (.putfield 75, 3) := by decide +kernel
theorem dX5_plan_238 : decode cX5_plan 238 = .ok (.aload_n 0, 1) := by decide +kernel
theorem dX5_plan_239 : decode cX5_plan 239 = .ok (.getfield 168, 3) := by decide +kernel
theorem dX5_plan_242 : decode cX5_plan 242 = .ok (.istore_n 2, 1) := by decide +kernel
theorem dX5_plan_243 : decode cX5_plan 243 = .ok (.aload_n 0, 1) := by decide +kernel
theorem dX5_plan_244 : decode cX5_plan 244 = .ok (.getfield 171, 3) := by decide +kernel
theorem dX5_plan_247 : decode cX5_plan 247 = .ok (.istore_n 3, 1) := by decide +kernel
theorem dX5_plan_248 : decode cX5_plan 248 = .ok (.aload_n 0, 1) := by decide +kernel
theorem dX5_plan_249 : decode cX5_plan 249 = .ok (.getfield 154, 3) := by decide +kernel
theorem dX5_plan_252 : decode cX5_plan 252 = .ok (.istore 4, 2) := by decide +kernel
theorem dX5_plan_254 : decode cX5_plan 254 = .ok (.iload 4, 2) := by decide +kernel
theorem dX5_plan_256 : decode cX5_plan 256 = .ok (.bipush 24, 2) := by decide +kernel
theorem dX5_plan_258 : decode cX5_plan 258 = .ok (.if_icmp .ge 92, 3) := by decide +kernel
theorem dX5_plan_261 : decode cX5_plan 261 = .ok (.iload_n 2, 1) := by decide +kernel
theorem dX5_plan_262 : decode cX5_plan 262 = .ok (.aload_n 1, 1) := by decide +kernel
theorem dX5_plan_263 : decode cX5_plan 263 = .ok (.iload 4, 2) := by decide +kernel
theorem dX5_plan_265 : decode cX5_plan 265 = .ok (.iaload, 1) := by decide +kernel
theorem dX5_plan_266 : decode cX5_plan 266 = .ok (.invokestatic 161, 3) := by decide +kernel
theorem dX5_plan_269 : decode cX5_plan 269 = .ok (.istore 5, 2) := by decide +kernel
theorem dX5_plan_271 : decode cX5_plan 271 = .ok (.aload_n 0, 1) := by decide +kernel
theorem dX5_plan_272 : decode cX5_plan 272 = .ok (.getfield 71, 3) := by decide +kernel
theorem dX5_plan_275 : decode cX5_plan 275 = .ok (.iload 4, 2) := by decide +kernel
theorem dX5_plan_277 : decode cX5_plan 277 = .ok (.aload_n 0, 1) := by decide +kernel
theorem dX5_plan_278 : decode cX5_plan 278 = .ok (.getfield 68, 3) := by decide +kernel
theorem dX5_plan_281 : decode cX5_plan 281 = .ok (.iload 4, 2) := by decide +kernel
theorem dX5_plan_283 : decode cX5_plan 283 = .ok (.iconst 1, 1) := by decide +kernel
theorem dX5_plan_284 : decode cX5_plan 284 = .ok (.iadd, 1) := by decide +kernel
theorem dX5_plan_285 : decode cX5_plan 285 = .ok (.iload 5, 2) := by decide +kernel
theorem dX5_plan_287 : decode cX5_plan 287 = .ok (.iconst 0, 1) := by decide +kernel
theorem dX5_plan_288 : decode cX5_plan 288 = .ok (.invokestatic 157, 3) := by decide +kernel
theorem dX5_plan_291 : decode cX5_plan 291 = .ok (.iaload, 1) := by decide +kernel
theorem dX5_plan_292 : decode cX5_plan 292 = .ok (.aload_n 0, 1) := by decide +kernel
theorem dX5_plan_293 : decode cX5_plan 293 = .ok (.getfield 68, 3) := by decide +kernel
theorem dX5_plan_296 : decode cX5_plan 296 = .ok (.iload 4, 2) := by decide +kernel
theorem dX5_plan_298 : decode cX5_plan 298 = .ok (.iload_n 2, 1) := by decide +kernel
theorem dX5_plan_299 : decode cX5_plan 299 = .ok (.iload_n 3, 1) := by decide +kernel
theorem dX5_plan_300 : decode cX5_plan 300 = .ok (.invokestatic 157, 3) := by decide +kernel
theorem dX5_plan_303 : decode cX5_plan 303 = .ok (.iaload, 1) := by decide +kernel
theorem dX5_plan_304 : decode cX5_plan 304 = .ok (.if_icmp .ge 7, 3) := by decide +kernel
theorem dX5_plan_307 : decode cX5_plan 307 = .ok (.iconst 1, 1) := by decide +kernel
theorem dX5_plan_308 : decode cX5_plan 308 = .ok (.goto 4, 3) := by decide +kernel
theorem dX5_plan_311 : decode cX5_plan 311 = .ok (.iconst 0, 1) := by decide +kernel
theorem dX5_plan_312 : decode cX5_plan 312 = .ok (.bastore, 1) := by decide +kernel
theorem dX5_plan_313 : decode cX5_plan 313 = .ok (.aload_n 0, 1) := by decide +kernel
theorem dX5_plan_314 : decode cX5_plan 314 = .ok (.getfield 71, 3) := by decide +kernel
theorem dX5_plan_317 : decode cX5_plan 317 = .ok (.iload 4, 2) := by decide +kernel
theorem dX5_plan_319 : decode cX5_plan 319 = .ok (.baload, 1) := by decide +kernel
theorem dX5_plan_320 : decode cX5_plan 320 = .ok (.ifCond .eq 13, 3) := by decide +kernel
theorem dX5_plan_323 : decode cX5_plan 323 = .ok (.iload 5, 2) := by decide +kernel
theorem dX5_plan_325 : decode cX5_plan 325 = .ok (.iload_n 3, 1) := by decide +kernel
theorem dX5_plan_326 : decode cX5_plan 326 = .ok (.invokestatic 164, 3) := by decide +kernel
theorem dX5_plan_329 : decode cX5_plan 329 = .ok (.isub, 1) := by decide +kernel
theorem dX5_plan_330 : decode cX5_plan 330 = .ok (.goto 5, 3) := by decide +kernel
theorem dX5_plan_333 : decode cX5_plan 333 = .ok (.iload 5, 2) := by decide +kernel
theorem dX5_plan_335 : decode cX5_plan 335 = .ok (.istore_n 2, 1) := by decide +kernel
theorem dX5_plan_336 : decode cX5_plan 336 = .ok (.aload_n 0, 1) := by decide +kernel
theorem dX5_plan_337 : decode cX5_plan 337 = .ok (.getfield 71, 3) := by decide +kernel
theorem dX5_plan_340 : decode cX5_plan 340 = .ok (.iload 4, 2) := by decide +kernel
theorem dX5_plan_342 : decode cX5_plan 342 = .ok (.baload, 1) := by decide +kernel
theorem dX5_plan_343 : decode cX5_plan 343 = .ok (.istore_n 3, 1) := by decide +kernel
theorem dX5_plan_344 : decode cX5_plan 344 = .ok (.iinc 4 1, 3) := by decide +kernel
theorem dX5_plan_347 : decode cX5_plan 347 = .ok (.goto (-93), 3) := by decide +kernel
theorem dX5_plan_350 : decode cX5_plan 350 = .ok (.aload_n 0, 1) := by decide +kernel
theorem dX5_plan_351 : decode cX5_plan 351 = .ok (.getfield 68, 3) := by decide +kernel
theorem dX5_plan_354 : decode cX5_plan 354 = .ok (.aload_n 0, 1) := by decide +kernel
theorem dX5_plan_355 : decode cX5_plan 355 = .ok (.getfield 154, 3) := by decide +kernel
theorem dX5_plan_358 : decode cX5_plan 358 = .ok (.aload_n 0, 1) := by decide +kernel
theorem dX5_plan_359 : decode cX5_plan 359 = .ok (.getfield 168, 3) := by decide +kernel
theorem dX5_plan_362 : decode cX5_plan 362 = .ok (.aload_n 0, 1) := by decide +kernel
theorem dX5_plan_363 : decode cX5_plan 363 = .ok (.getfield 171, 3) := by decide +kernel
theorem dX5_plan_366 : decode cX5_plan 366 = .ok (.invokestatic 157, 3) := by decide +kernel
theorem dX5_plan_369 : decode cX5_plan 369 = .ok (.iaload, 1) := by decide +kernel
theorem dX5_plan_370 : decode cX5_plan 370 = .ok (.ireturn, 1) := by decide +kernel
set_option maxRecDepth 20000 in
theorem ggX5_runs_X5_in : GoodIn wsX5_runs wsX5_in := goodIn_r _ [7] rfl (by decide +kernel)
set_option maxRecDepth 20000 in
theorem gX5_runs_X5_in : GoodIn wsX5_runs (va_wsS RX5 94 yX5_in wsX5_in) := goodIn_app (goodIn_of _ (by decide +kernel)) ggX5_runs_X5_in
theorem dX5_runs_0 : decode cX5_runs 0 = .ok (.aload_n 0, 1) := by decide +kernel
theorem dX5_runs_1 : decode cX5_runs 1 = .ok (.iconst 0, 1) := by decide +kernel
theorem dX5_runs_2 : decode cX5_runs 2 = .ok (.putfield 1, 3) := by decide +kernel
theorem dX5_runs_5 : decode cX5_runs 5 = .ok (.iload_n 1, 1) := by decide +kernel
theorem dX5_runs_6 : decode cX5_runs 6 = .ok (.aload_n 0, 1) := by decide +kernel
theorem dX5_runs_7 : decode cX5_runs 7 = .ok (.getfield 75, 3) := by decide +kernel
theorem dX5_runs_10 : decode cX5_runs 10 = .ok (.bipush 23, 2) := by decide +kernel
theorem dX5_runs_12 : decode cX5_runs 12 = .ok (.invokestatic 94, 3) := by decide +kernel
theorem dX5_runs_15 : decode cX5_runs 15 = .ok (.ifCond .eq 20, 3) := by decide +kernel
theorem dX5_runs_18 : decode cX5_runs 18 = .ok (.aload_n 0, 1) := by decide +kernel
theorem dX5_runs_19 : decode cX5_runs 19 = .ok (.getfield 71, 3) := by decide +kernel
theorem dX5_runs_22 : decode cX5_runs 22 = .ok (.iload_n 1, 1) := by decide +kernel
theorem dX5_runs_23 : decode cX5_runs 23 = .ok (.baload, 1) := by decide +kernel
theorem dX5_runs_24 : decode cX5_runs 24 = .ok (.ifCond .eq 7, 3) := by decide +kernel
theorem dX5_runs_27 : decode cX5_runs 27 = .ok (.iconst 1, 1) := by decide +kernel
theorem dX5_runs_28 : decode cX5_runs 28 = .ok (.goto 8, 3) := by decide +kernel
theorem dX5_runs_31 : decode cX5_runs 31 = .ok (.iconst 0, 1) := by decide +kernel
theorem dX5_runs_32 : decode cX5_runs 32 = .ok (.goto 4, 3) := by decide +kernel
theorem dX5_runs_35 : decode cX5_runs 35 = .ok (.iconst (-1), 1) := by decide +kernel
theorem dX5_runs_36 : decode cX5_runs 36 = .ok (.ireturn, 1) := by decide +kernel
set_option maxRecDepth 20000 in
theorem ggX5_step_X5_aims : GoodIn wsX5_step wsX5_aims := goodIn_r _ [18, 19, 20, 7, 21, 22, 23, 24, 25, 26, 17, 27, 28, 29, 30, 31, 32, 8, 10, 11, 12, 13, 33, 34, 35, 36, 37, 38, 39, 40, 41, 42, 43, 44, 45, 46, 47, 48, 49, 50, 51, 52, 68, 69, 70, 71, 72, 73, 74, 75, 76, 77, 78, 79, 80, 81, 82, 83, 84, 85, 86, 87, 88, 89, 90, 91, 92, 93, 94, 95, 96, 97, 98, 99, 100] rfl (by decide +kernel)
set_option maxRecDepth 20000 in
theorem gX5_step_X5_aims : GoodIn wsX5_step (wsV RX5 145 RX5 yX5_aims wsX5_aims) := goodIn_app (goodIn_of _ (by decide +kernel)) ggX5_step_X5_aims
set_option maxRecDepth 20000 in
theorem ggX5_step_X5_filled : GoodIn wsX5_step wsX5_filled := goodIn_r _ [55, 10, 11, 12, 13] rfl (by decide +kernel)
set_option maxRecDepth 20000 in
theorem gX5_step_X5_filled : GoodIn wsX5_step (va_wsS RX5 161 yX5_filled wsX5_filled) := goodIn_app (goodIn_of _ (by decide +kernel)) ggX5_step_X5_filled
set_option maxRecDepth 20000 in
theorem ggX5_step_X5_takes : GoodIn wsX5_step wsX5_takes := goodIn_r _ [58] rfl (by decide +kernel)
set_option maxRecDepth 20000 in
theorem gX5_step_X5_takes : GoodIn wsX5_step (va_wsS RX5 164 yX5_takes wsX5_takes) := goodIn_app (goodIn_of _ (by decide +kernel)) ggX5_step_X5_takes
set_option maxRecDepth 20000 in
theorem ggX5_step_X5_refused : GoodIn wsX5_step wsX5_refused := goodIn_r _ [62, 63, 68, 69, 70, 71, 72, 73, 74, 75, 76, 77, 78, 79, 80, 81, 82, 83, 84, 85, 86, 87, 88, 89, 90, 91, 92, 93, 94, 95, 96, 97, 98, 99, 100] rfl (by decide +kernel)
set_option maxRecDepth 20000 in
theorem gX5_step_X5_refused : GoodIn wsX5_step (wsV RX5 98 RX5 yX5_refused wsX5_refused) := goodIn_app (goodIn_of _ (by decide +kernel)) ggX5_step_X5_refused
set_option maxRecDepth 20000 in
theorem ggX5_step_X5_done : GoodIn wsX5_step wsX5_done := goodIn_r _ [67, 63, 68, 69, 70, 71, 72, 73, 74, 75, 76, 77, 78, 79, 80, 81, 82, 83, 84, 85, 86, 87, 88, 89, 90, 91, 92, 93, 94, 95, 96, 97, 98, 99, 100] rfl (by decide +kernel)
set_option maxRecDepth 20000 in
theorem gX5_step_X5_done : GoodIn wsX5_step (wsV RX5 102 RX5 yX5_done wsX5_done) := goodIn_app (goodIn_of _ (by decide +kernel)) ggX5_step_X5_done
theorem dX5_step_0 : decode cX5_step 0 = .ok (.aload_n 0, 1) := by decide +kernel
theorem dX5_step_1 : decode cX5_step 1 = .ok (.iconst 0, 1) := by decide +kernel
theorem dX5_step_2 : decode cX5_step 2 = .ok (.putfield 1, 3) := by decide +kernel
theorem dX5_step_5 : decode cX5_step 5 = .ok (.aload_n 0, 1) := by decide +kernel
theorem dX5_step_6 : decode cX5_step 6 = .ok (.getfield 168, 3) := by decide +kernel
theorem dX5_step_9 : decode cX5_step 9 = .ok (.aload_n 0, 1) := by decide +kernel
theorem dX5_step_10 : decode cX5_step 10 = .ok (.aload_n 0, 1) := by decide +kernel
theorem dX5_step_11 : decode cX5_step 11 = .ok (.getfield 154, 3) := by decide +kernel
theorem dX5_step_14 : decode cX5_step 14 = .ok (.iconst 0, 1) := by decide +kernel
theorem dX5_step_15 : decode cX5_step 15 = .ok (.invokevirtual 145, 3) := by decide +kernel
theorem dX5_step_18 : decode cX5_step 18 = .ok (.bipush 100, 2) := by decide +kernel
theorem dX5_step_20 : decode cX5_step 20 = .ok (.idiv, 1) := by decide +kernel
theorem dX5_step_21 : decode cX5_step 21 = .ok (.invokestatic 161, 3) := by decide +kernel
theorem dX5_step_24 : decode cX5_step 24 = .ok (.istore_n 2, 1) := by decide +kernel
theorem dX5_step_25 : decode cX5_step 25 = .ok (.iload_n 1, 1) := by decide +kernel
theorem dX5_step_26 : decode cX5_step 26 = .ok (.ifCond .eq 20, 3) := by decide +kernel
theorem dX5_step_29 : decode cX5_step 29 = .ok (.iload_n 2, 1) := by decide +kernel
theorem dX5_step_30 : decode cX5_step 30 = .ok (.aload_n 0, 1) := by decide +kernel
theorem dX5_step_31 : decode cX5_step 31 = .ok (.getfield 171, 3) := by decide +kernel
theorem dX5_step_34 : decode cX5_step 34 = .ok (.invokestatic 164, 3) := by decide +kernel
theorem dX5_step_37 : decode cX5_step 37 = .ok (.if_icmp .ge 9, 3) := by decide +kernel
theorem dX5_step_40 : decode cX5_step 40 = .ok (.aload_n 0, 1) := by decide +kernel
theorem dX5_step_41 : decode cX5_step 41 = .ok (.iconst 2, 1) := by decide +kernel
theorem dX5_step_42 : decode cX5_step 42 = .ok (.invokevirtual 98, 3) := by decide +kernel
theorem dX5_step_45 : decode cX5_step 45 = .ok (.ireturn, 1) := by decide +kernel
theorem dX5_step_46 : decode cX5_step 46 = .ok (.iload_n 1, 1) := by decide +kernel
theorem dX5_step_47 : decode cX5_step 47 = .ok (.ifCond .eq 17, 3) := by decide +kernel
theorem dX5_step_50 : decode cX5_step 50 = .ok (.iconst 5, 1) := by decide +kernel
theorem dX5_step_51 : decode cX5_step 51 = .ok (.aload_n 0, 1) := by decide +kernel
theorem dX5_step_52 : decode cX5_step 52 = .ok (.getfield 44, 3) := by decide +kernel
theorem dX5_step_55 : decode cX5_step 55 = .ok (.aload_n 0, 1) := by decide +kernel
theorem dX5_step_56 : decode cX5_step 56 = .ok (.getfield 154, 3) := by decide +kernel
theorem dX5_step_59 : decode cX5_step 59 = .ok (.iaload, 1) := by decide +kernel
theorem dX5_step_60 : decode cX5_step 60 = .ok (.imul, 1) := by decide +kernel
theorem dX5_step_61 : decode cX5_step 61 = .ok (.goto 4, 3) := by decide +kernel
theorem dX5_step_64 : decode cX5_step 64 = .ok (.iconst 0, 1) := by decide +kernel
theorem dX5_step_65 : decode cX5_step 65 = .ok (.istore_n 3, 1) := by decide +kernel
theorem dX5_step_66 : decode cX5_step 66 = .ok (.aload_n 0, 1) := by decide +kernel
theorem dX5_step_67 : decode cX5_step 67 = .ok (.iload_n 1, 1) := by decide +kernel
theorem dX5_step_68 : decode cX5_step 68 = .ok (.ifCond .eq 15, 3) := by decide +kernel
theorem dX5_step_71 : decode cX5_step 71 = .ok (.iload_n 2, 1) := by decide +kernel
theorem dX5_step_72 : decode cX5_step 72 = .ok (.aload_n 0, 1) := by decide +kernel
theorem dX5_step_73 : decode cX5_step 73 = .ok (.getfield 171, 3) := by decide +kernel
theorem dX5_step_76 : decode cX5_step 76 = .ok (.invokestatic 164, 3) := by decide +kernel
theorem dX5_step_79 : decode cX5_step 79 = .ok (.isub, 1) := by decide +kernel
theorem dX5_step_80 : decode cX5_step 80 = .ok (.goto 4, 3) := by decide +kernel
theorem dX5_step_83 : decode cX5_step 83 = .ok (.iload_n 2, 1) := by decide +kernel
theorem dX5_step_84 : decode cX5_step 84 = .ok (.putfield 168, 3) := by decide +kernel
theorem dX5_step_87 : decode cX5_step 87 = .ok (.aload_n 0, 1) := by decide +kernel
theorem dX5_step_88 : decode cX5_step 88 = .ok (.iload_n 1, 1) := by decide +kernel
theorem dX5_step_89 : decode cX5_step 89 = .ok (.putfield 171, 3) := by decide +kernel
theorem dX5_step_92 : decode cX5_step 92 = .ok (.aload_n 0, 1) := by decide +kernel
theorem dX5_step_93 : decode cX5_step 93 = .ok (.dup, 1) := by decide +kernel
theorem dX5_step_94 : decode cX5_step 94 = .ok (.getfield 175, 3) := by decide +kernel
theorem dX5_step_97 : decode cX5_step 97 = .ok (.iload_n 3, 1) := by decide +kernel
theorem dX5_step_98 : decode cX5_step 98 = .ok (.iadd, 1) := by decide +kernel
theorem dX5_step_99 : decode cX5_step 99 = .ok (.putfield 175, 3) := by decide +kernel
theorem dX5_step_102 : decode cX5_step 102 = .ok (.iconst 0, 1) := by decide +kernel
theorem dX5_step_103 : decode cX5_step 103 = .ok (.istore 4, 2) := by decide +kernel
theorem dX5_step_105 : decode cX5_step 105 = .ok (.iload 4, 2) := by decide +kernel
theorem dX5_step_107 : decode cX5_step 107 = .ok (.aload_n 0, 1) := by decide +kernel
theorem dX5_step_108 : decode cX5_step 108 = .ok (.getfield 91, 3) := by decide +kernel
theorem dX5_step_111 : decode cX5_step 111 = .ok (.if_icmp .ge 33, 3) := by decide +kernel
theorem dX5_step_114 : decode cX5_step 114 = .ok (.aload_n 0, 1) := by decide +kernel
theorem dX5_step_115 : decode cX5_step 115 = .ok (.getfield 26, 3) := by decide +kernel
theorem dX5_step_118 : decode cX5_step 118 = .ok (.iload 4, 2) := by decide +kernel
theorem dX5_step_120 : decode cX5_step 120 = .ok (.bipush 90, 2) := by decide +kernel
theorem dX5_step_122 : decode cX5_step 122 = .ok (.aload_n 0, 1) := by decide +kernel
theorem dX5_step_123 : decode cX5_step 123 = .ok (.getfield 26, 3) := by decide +kernel
theorem dX5_step_126 : decode cX5_step 126 = .ok (.iload 4, 2) := by decide +kernel
theorem dX5_step_128 : decode cX5_step 128 = .ok (.iaload, 1) := by decide +kernel
theorem dX5_step_129 : decode cX5_step 129 = .ok (.aload_n 0, 1) := by decide +kernel
theorem dX5_step_130 : decode cX5_step 130 = .ok (.getfield 16, 3) := by decide +kernel
theorem dX5_step_133 : decode cX5_step 133 = .ok (.iadd, 1) := by decide +kernel
theorem dX5_step_134 : decode cX5_step 134 = .ok (.invokestatic 129, 3) := by decide +kernel
theorem dX5_step_137 : decode cX5_step 137 = .ok (.iastore, 1) := by decide +kernel
theorem dX5_step_138 : decode cX5_step 138 = .ok (.iinc 4 1, 3) := by decide +kernel
theorem dX5_step_141 : decode cX5_step 141 = .ok (.goto (-36), 3) := by decide +kernel
theorem dX5_step_144 : decode cX5_step 144 = .ok (.aload_n 0, 1) := by decide +kernel
theorem dX5_step_145 : decode cX5_step 145 = .ok (.aload_n 0, 1) := by decide +kernel
theorem dX5_step_146 : decode cX5_step 146 = .ok (.getfield 154, 3) := by decide +kernel
theorem dX5_step_149 : decode cX5_step 149 = .ok (.iconst 1, 1) := by decide +kernel
theorem dX5_step_150 : decode cX5_step 150 = .ok (.iadd, 1) := by decide +kernel
theorem dX5_step_151 : decode cX5_step 151 = .ok (.bipush 24, 2) := by decide +kernel
theorem dX5_step_153 : decode cX5_step 153 = .ok (.irem, 1) := by decide +kernel
theorem dX5_step_154 : decode cX5_step 154 = .ok (.putfield 154, 3) := by decide +kernel
theorem dX5_step_157 : decode cX5_step 157 = .ok (.aload_n 0, 1) := by decide +kernel
theorem dX5_step_158 : decode cX5_step 158 = .ok (.iload_n 3, 1) := by decide +kernel
theorem dX5_step_159 : decode cX5_step 159 = .ok (.invokevirtual 102, 3) := by decide +kernel
theorem dX5_step_162 : decode cX5_step 162 = .ok (.ireturn, 1) := by decide +kernel
theorem dX5_earned_0 : decode cX5_earned 0 = .ok (.aload_n 0, 1) := by decide +kernel
theorem dX5_earned_1 : decode cX5_earned 1 = .ok (.iconst 0, 1) := by decide +kernel
theorem dX5_earned_2 : decode cX5_earned 2 = .ok (.putfield 1, 3) := by decide +kernel
theorem dX5_earned_5 : decode cX5_earned 5 = .ok (.aload_n 0, 1) := by decide +kernel
theorem dX5_earned_6 : decode cX5_earned 6 = .ok (.getfield 175, 3) := by decide +kernel
theorem dX5_earned_9 : decode cX5_earned 9 = .ok (.ireturn, 1) := by decide +kernel
theorem dX5_bits_0 : decode cX5_bits 0 = .ok (.iconst 0, 1) := by decide +kernel
theorem dX5_bits_1 : decode cX5_bits 1 = .ok (.istore_n 2, 1) := by decide +kernel
theorem dX5_bits_2 : decode cX5_bits 2 = .ok (.lload_n 0, 1) := by decide +kernel
theorem dX5_bits_3 : decode cX5_bits 3 = .ok (.lstore_n 3, 1) := by decide +kernel
theorem dX5_bits_4 : decode cX5_bits 4 = .ok (.lload_n 3, 1) := by decide +kernel
theorem dX5_bits_5 : decode cX5_bits 5 = .ok (.lconst 0, 1) := by decide +kernel
theorem dX5_bits_6 : decode cX5_bits 6 = .ok (.lcmp, 1) := by decide +kernel
theorem dX5_bits_7 : decode cX5_bits 7 = .ok (.ifCond .eq 15, 3) := by decide +kernel
theorem dX5_bits_10 : decode cX5_bits 10 = .ok (.iinc 2 1, 3) := by decide +kernel
theorem dX5_bits_13 : decode cX5_bits 13 = .ok (.lload_n 3, 1) := by decide +kernel
theorem dX5_bits_14 : decode cX5_bits 14 = .ok (.lload_n 3, 1) := by decide +kernel
theorem dX5_bits_15 : decode cX5_bits 15 = .ok (.lconst 1, 1) := by decide +kernel
theorem dX5_bits_16 : decode cX5_bits 16 = .ok (.lsub, 1) := by decide +kernel
theorem dX5_bits_17 : decode cX5_bits 17 = .ok (.land, 1) := by decide +kernel
theorem dX5_bits_18 : decode cX5_bits 18 = .ok (.lstore_n 3, 1) := by decide +kernel
theorem dX5_bits_19 : decode cX5_bits 19 = .ok (.goto (-15), 3) := by decide +kernel
theorem dX5_bits_22 : decode cX5_bits 22 = .ok (.iload_n 2, 1) := by decide +kernel
theorem dX5_bits_23 : decode cX5_bits 23 = .ok (.ireturn, 1) := by decide +kernel
set_option maxRecDepth 20000 in
theorem ggX5_shot_X5_bits : GoodIn wsX5_shot wsX5_bits := goodIn_r _ [11] rfl (by decide +kernel)
set_option maxRecDepth 20000 in
theorem gX5_shot_X5_bits : GoodIn wsX5_shot (va_wsS RX5 180 yX5_bits wsX5_bits) := goodIn_app (goodIn_of _ (by decide +kernel)) ggX5_shot_X5_bits
set_option maxRecDepth 20000 in
theorem ggX5_shot_X5_refused : GoodIn wsX5_shot wsX5_refused := goodIn_r _ [15, 16, 21, 22, 23, 24, 25, 26, 27, 28, 29, 30, 31, 32, 33, 34, 35, 36, 37, 38, 39, 40, 41, 42, 43, 44, 45, 46, 47, 48, 49, 50, 51, 52, 53] rfl (by decide +kernel)
set_option maxRecDepth 20000 in
theorem gX5_shot_X5_refused : GoodIn wsX5_shot (wsV RX5 98 RX5 yX5_refused wsX5_refused) := goodIn_app (goodIn_of _ (by decide +kernel)) ggX5_shot_X5_refused
set_option maxRecDepth 20000 in
theorem ggX5_shot_X5_done : GoodIn wsX5_shot wsX5_done := goodIn_r _ [20, 16, 21, 22, 23, 24, 25, 26, 27, 28, 29, 30, 31, 32, 33, 34, 35, 36, 37, 38, 39, 40, 41, 42, 43, 44, 45, 46, 47, 48, 49, 50, 51, 52, 53] rfl (by decide +kernel)
set_option maxRecDepth 20000 in
theorem gX5_shot_X5_done : GoodIn wsX5_shot (wsV RX5 102 RX5 yX5_done wsX5_done) := goodIn_app (goodIn_of _ (by decide +kernel)) ggX5_shot_X5_done
theorem dX5_shot_0 : decode cX5_shot 0 = .ok (.aload_n 0, 1) := by decide +kernel
theorem dX5_shot_1 : decode cX5_shot 1 = .ok (.iconst 0, 1) := by decide +kernel
theorem dX5_shot_2 : decode cX5_shot 2 = .ok (.putfield 1, 3) := by decide +kernel
theorem dX5_shot_5 : decode cX5_shot 5 = .ok (.iload_n 2, 1) := by decide +kernel
theorem dX5_shot_6 : decode cX5_shot 6 = .ok (.i2l, 1) := by decide +kernel
theorem dX5_shot_7 : decode cX5_shot 7 = .ok (.bipush 32, 2) := by decide +kernel
theorem dX5_shot_9 : decode cX5_shot 9 = .ok (.lshl, 1) := by decide +kernel
theorem dX5_shot_10 : decode cX5_shot 10 = .ok (.iload_n 1, 1) := by decide +kernel
theorem dX5_shot_11 : decode cX5_shot 11 = .ok (.i2l, 1) := by decide +kernel
theorem dX5_shot_12 : decode cX5_shot 12 = .ok (.ldc2_w 178, 3) := by decide +kernel
theorem dX5_shot_15 : decode cX5_shot 15 = .ok (.land, 1) := by decide +kernel
theorem dX5_shot_16 : decode cX5_shot 16 = .ok (.lor, 1) := by decide +kernel
theorem dX5_shot_17 : decode cX5_shot 17 = .ok (.lstore 4, 2) := by decide +kernel
theorem dX5_shot_19 : decode cX5_shot 19 = .ok (.iload_n 3, 1) := by decide +kernel
theorem dX5_shot_20 : decode cX5_shot 20 = .ok (.ifCond .lt 12, 3) := by decide +kernel
theorem dX5_shot_23 : decode cX5_shot 23 = .ok (.iload_n 3, 1) := by decide +kernel
theorem dX5_shot_24 : decode cX5_shot 24 = .ok (.lload 4, 2) := by decide +kernel
theorem dX5_shot_26 : decode cX5_shot 26 = .ok (.invokestatic 180, 3) := by decide +kernel
theorem dX5_shot_29 : decode cX5_shot 29 = .ok (.if_icmp .le 9, 3) := by decide +kernel
theorem dX5_shot_32 : decode cX5_shot 32 = .ok (.aload_n 0, 1) := by decide +kernel
theorem dX5_shot_33 : decode cX5_shot 33 = .ok (.iconst 2, 1) := by decide +kernel
theorem dX5_shot_34 : decode cX5_shot 34 = .ok (.invokevirtual 98, 3) := by decide +kernel
theorem dX5_shot_37 : decode cX5_shot 37 = .ok (.ireturn, 1) := by decide +kernel
theorem dX5_shot_38 : decode cX5_shot 38 = .ok (.lload 4, 2) := by decide +kernel
theorem dX5_shot_40 : decode cX5_shot 40 = .ok (.lconst 0, 1) := by decide +kernel
theorem dX5_shot_41 : decode cX5_shot 41 = .ok (.lcmp, 1) := by decide +kernel
theorem dX5_shot_42 : decode cX5_shot 42 = .ok (.ifCond .eq 23, 3) := by decide +kernel
theorem dX5_shot_45 : decode cX5_shot 45 = .ok (.lload 4, 2) := by decide +kernel
theorem dX5_shot_47 : decode cX5_shot 47 = .ok (.lconst 1, 1) := by decide +kernel
theorem dX5_shot_48 : decode cX5_shot 48 = .ok (.aload_n 0, 1) := by decide +kernel
theorem dX5_shot_49 : decode cX5_shot 49 = .ok (.getfield 91, 3) := by decide +kernel
theorem dX5_shot_52 : decode cX5_shot 52 = .ok (.lshl, 1) := by decide +kernel
theorem dX5_shot_53 : decode cX5_shot 53 = .ok (.lconst 1, 1) := by decide +kernel
theorem dX5_shot_54 : decode cX5_shot 54 = .ok (.lsub, 1) := by decide +kernel
theorem dX5_shot_55 : decode cX5_shot 55 = .ok (.ldc2_w 184, 3) := by decide +kernel
theorem dX5_shot_58 : decode cX5_shot 58 = .ok (.lxor, 1) := by decide +kernel
theorem dX5_shot_59 : decode cX5_shot 59 = .ok (.land, 1) := by decide +kernel
theorem dX5_shot_60 : decode cX5_shot 60 = .ok (.lconst 0, 1) := by decide +kernel
theorem dX5_shot_61 : decode cX5_shot 61 = .ok (.lcmp, 1) := by decide +kernel
theorem dX5_shot_62 : decode cX5_shot 62 = .ok (.ifCond .eq 9, 3) := by decide +kernel
theorem dX5_shot_65 : decode cX5_shot 65 = .ok (.aload_n 0, 1) := by decide +kernel
theorem dX5_shot_66 : decode cX5_shot 66 = .ok (.iconst 4, 1) := by decide +kernel
theorem dX5_shot_67 : decode cX5_shot 67 = .ok (.invokevirtual 98, 3) := by decide +kernel
theorem dX5_shot_70 : decode cX5_shot 70 = .ok (.ireturn, 1) := by decide +kernel
theorem dX5_shot_71 : decode cX5_shot 71 = .ok (.aload_n 0, 1) := by decide +kernel
theorem dX5_shot_72 : decode cX5_shot 72 = .ok (.getfield 186, 3) := by decide +kernel
theorem dX5_shot_75 : decode cX5_shot 75 = .ok (.bipush 12, 2) := by decide +kernel
theorem dX5_shot_77 : decode cX5_shot 77 = .ok (.if_icmp .ne 9, 3) := by decide +kernel
theorem dX5_shot_80 : decode cX5_shot 80 = .ok (.aload_n 0, 1) := by decide +kernel
theorem dX5_shot_81 : decode cX5_shot 81 = .ok (.iconst 3, 1) := by decide +kernel
theorem dX5_shot_82 : decode cX5_shot 82 = .ok (.invokevirtual 98, 3) := by decide +kernel
theorem dX5_shot_85 : decode cX5_shot 85 = .ok (.ireturn, 1) := by decide +kernel
theorem dX5_shot_86 : decode cX5_shot 86 = .ok (.aload_n 0, 1) := by decide +kernel
theorem dX5_shot_87 : decode cX5_shot 87 = .ok (.getfield 81, 3) := by decide +kernel
theorem dX5_shot_90 : decode cX5_shot 90 = .ok (.aload_n 0, 1) := by decide +kernel
theorem dX5_shot_91 : decode cX5_shot 91 = .ok (.getfield 186, 3) := by decide +kernel
theorem dX5_shot_94 : decode cX5_shot 94 = .ok (.lload 4, 2) := by decide +kernel
theorem dX5_shot_96 : decode cX5_shot 96 = .ok (.lastore, 1) := by decide +kernel
theorem dX5_shot_97 : decode cX5_shot 97 = .ok (.aload_n 0, 1) := by decide +kernel
theorem dX5_shot_98 : decode cX5_shot 98 = .ok (.getfield 85, 3) := by decide +kernel
theorem dX5_shot_101 : decode cX5_shot 101 = .ok (.aload_n 0, 1) := by decide +kernel
theorem dX5_shot_102 : decode cX5_shot 102 = .ok (.getfield 186, 3) := by decide +kernel
theorem dX5_shot_105 : decode cX5_shot 105 = .ok (.iload_n 3, 1) := by decide +kernel
theorem dX5_shot_106 : decode cX5_shot 106 = .ok (.iastore, 1) := by decide +kernel
theorem dX5_shot_107 : decode cX5_shot 107 = .ok (.aload_n 0, 1) := by decide +kernel
theorem dX5_shot_108 : decode cX5_shot 108 = .ok (.dup, 1) := by decide +kernel
theorem dX5_shot_109 : decode cX5_shot 109 = .ok (.getfield 186, 3) := by decide +kernel
theorem dX5_shot_112 : decode cX5_shot 112 = .ok (.iconst 1, 1) := by decide +kernel
theorem dX5_shot_113 : decode cX5_shot 113 = .ok (.iadd, 1) := by decide +kernel
theorem dX5_shot_114 : decode cX5_shot 114 = .ok (.putfield 186, 3) := by decide +kernel
theorem dX5_shot_117 : decode cX5_shot 117 = .ok (.aload_n 0, 1) := by decide +kernel
theorem dX5_shot_118 : decode cX5_shot 118 = .ok (.aload_n 0, 1) := by decide +kernel
theorem dX5_shot_119 : decode cX5_shot 119 = .ok (.getfield 186, 3) := by decide +kernel
theorem dX5_shot_122 : decode cX5_shot 122 = .ok (.iconst 1, 1) := by decide +kernel
theorem dX5_shot_123 : decode cX5_shot 123 = .ok (.isub, 1) := by decide +kernel
theorem dX5_shot_124 : decode cX5_shot 124 = .ok (.invokevirtual 102, 3) := by decide +kernel
theorem dX5_shot_127 : decode cX5_shot 127 = .ok (.ireturn, 1) := by decide +kernel
theorem dX5_forget_0 : decode cX5_forget 0 = .ok (.aload_n 0, 1) := by decide +kernel
theorem dX5_forget_1 : decode cX5_forget 1 = .ok (.iconst 0, 1) := by decide +kernel
theorem dX5_forget_2 : decode cX5_forget 2 = .ok (.putfield 1, 3) := by decide +kernel
theorem dX5_forget_5 : decode cX5_forget 5 = .ok (.aload_n 0, 1) := by decide +kernel
theorem dX5_forget_6 : decode cX5_forget 6 = .ok (.getfield 186, 3) := by decide +kernel
theorem dX5_forget_9 : decode cX5_forget 9 = .ok (.istore_n 1, 1) := by decide +kernel
theorem dX5_forget_10 : decode cX5_forget 10 = .ok (.aload_n 0, 1) := by decide +kernel
theorem dX5_forget_11 : decode cX5_forget 11 = .ok (.iconst 0, 1) := by decide +kernel
theorem dX5_forget_12 : decode cX5_forget 12 = .ok (.putfield 186, 3) := by decide +kernel
theorem dX5_forget_15 : decode cX5_forget 15 = .ok (.iload_n 1, 1) := by decide +kernel
theorem dX5_forget_16 : decode cX5_forget 16 = .ok (.ireturn, 1) := by decide +kernel
set_option maxRecDepth 20000 in
theorem ggX5_agrees_X5_bits : GoodIn wsX5_agrees wsX5_bits := goodIn_r _ [8] rfl (by decide +kernel)
set_option maxRecDepth 20000 in
theorem gX5_agrees_X5_bits : GoodIn wsX5_agrees (va_wsS RX5 180 yX5_bits wsX5_bits) := goodIn_app (goodIn_of _ (by decide +kernel)) ggX5_agrees_X5_bits
theorem dX5_agrees_0 : decode cX5_agrees 0 = .ok (.iconst 1, 1) := by decide +kernel
theorem dX5_agrees_1 : decode cX5_agrees 1 = .ok (.istore_n 3, 1) := by decide +kernel
theorem dX5_agrees_2 : decode cX5_agrees 2 = .ok (.iconst 0, 1) := by decide +kernel
theorem dX5_agrees_3 : decode cX5_agrees 3 = .ok (.istore 4, 2) := by decide +kernel
theorem dX5_agrees_5 : decode cX5_agrees 5 = .ok (.iload 4, 2) := by decide +kernel
theorem dX5_agrees_7 : decode cX5_agrees 7 = .ok (.aload_n 0, 1) := by decide +kernel
theorem dX5_agrees_8 : decode cX5_agrees 8 = .ok (.getfield 186, 3) := by decide +kernel
theorem dX5_agrees_11 : decode cX5_agrees 11 = .ok (.if_icmp .ge 45, 3) := by decide +kernel
theorem dX5_agrees_14 : decode cX5_agrees 14 = .ok (.iload_n 3, 1) := by decide +kernel
theorem dX5_agrees_15 : decode cX5_agrees 15 = .ok (.ifCond .eq 33, 3) := by decide +kernel
theorem dX5_agrees_18 : decode cX5_agrees 18 = .ok (.aload_n 0, 1) := by decide +kernel
theorem dX5_agrees_19 : decode cX5_agrees 19 = .ok (.getfield 81, 3) := by decide +kernel
theorem dX5_agrees_22 : decode cX5_agrees 22 = .ok (.iload 4, 2) := by decide +kernel
theorem dX5_agrees_24 : decode cX5_agrees 24 = .ok (.laload, 1) := by decide +kernel
theorem dX5_agrees_25 : decode cX5_agrees 25 = .ok (.lload_n 1, 1) := by decide +kernel
theorem dX5_agrees_26 : decode cX5_agrees 26 = .ok (.ldc2_w 184, 3) := by decide +kernel
theorem dX5_agrees_29 : decode cX5_agrees 29 = .ok (.lxor, 1) := by decide +kernel
theorem dX5_agrees_30 : decode cX5_agrees 30 = .ok (.land, 1) := by decide +kernel
theorem dX5_agrees_31 : decode cX5_agrees 31 = .ok (.invokestatic 180, 3) := by decide +kernel
theorem dX5_agrees_34 : decode cX5_agrees 34 = .ok (.aload_n 0, 1) := by decide +kernel
theorem dX5_agrees_35 : decode cX5_agrees 35 = .ok (.getfield 85, 3) := by decide +kernel
theorem dX5_agrees_38 : decode cX5_agrees 38 = .ok (.iload 4, 2) := by decide +kernel
theorem dX5_agrees_40 : decode cX5_agrees 40 = .ok (.iaload, 1) := by decide +kernel
theorem dX5_agrees_41 : decode cX5_agrees 41 = .ok (.if_icmp .ne 7, 3) := by decide +kernel
theorem dX5_agrees_44 : decode cX5_agrees 44 = .ok (.iconst 1, 1) := by decide +kernel
theorem dX5_agrees_45 : decode cX5_agrees 45 = .ok (.goto 4, 3) := by decide +kernel
theorem dX5_agrees_48 : decode cX5_agrees 48 = .ok (.iconst 0, 1) := by decide +kernel
theorem dX5_agrees_49 : decode cX5_agrees 49 = .ok (.istore_n 3, 1) := by decide +kernel
theorem dX5_agrees_50 : decode cX5_agrees 50 = .ok (.iinc 4 1, 3) := by decide +kernel
theorem dX5_agrees_53 : decode cX5_agrees 53 = .ok (.goto (-48), 3) := by decide +kernel
theorem dX5_agrees_56 : decode cX5_agrees 56 = .ok (.iload_n 3, 1) := by decide +kernel
theorem dX5_agrees_57 : decode cX5_agrees 57 = .ok (.ireturn, 1) := by decide +kernel
set_option maxRecDepth 20000 in
theorem ggX5_agreeing_X5_agrees : GoodIn wsX5_agreeing wsX5_agrees := goodIn_r _ [7, 8, 9, 10, 11, 12, 13, 6, 14, 15, 16, 17, 18, 19, 20, 21, 22, 23, 24, 25, 26, 27, 28, 29, 30, 31, 32, 33, 34, 35, 36, 37, 38, 39, 40, 41, 42, 43, 44, 45, 46, 47] rfl (by decide +kernel)
set_option maxRecDepth 20000 in
theorem gX5_agreeing_X5_agrees : GoodIn wsX5_agreeing (wsV RX5 189 RX5 yX5_agrees wsX5_agrees) := goodIn_app (goodIn_of _ (by decide +kernel)) ggX5_agreeing_X5_agrees
theorem dX5_agreeing_0 : decode cX5_agreeing 0 = .ok (.iconst 0, 1) := by decide +kernel
theorem dX5_agreeing_1 : decode cX5_agreeing 1 = .ok (.istore_n 1, 1) := by decide +kernel
theorem dX5_agreeing_2 : decode cX5_agreeing 2 = .ok (.iload_n 1, 1) := by decide +kernel
theorem dX5_agreeing_3 : decode cX5_agreeing 3 = .ok (.bipush 40, 2) := by decide +kernel
theorem dX5_agreeing_5 : decode cX5_agreeing 5 = .ok (.if_icmp .ge 16, 3) := by decide +kernel
theorem dX5_agreeing_8 : decode cX5_agreeing 8 = .ok (.aload_n 0, 1) := by decide +kernel
theorem dX5_agreeing_9 : decode cX5_agreeing 9 = .ok (.getfield 88, 3) := by decide +kernel
theorem dX5_agreeing_12 : decode cX5_agreeing 12 = .ok (.iload_n 1, 1) := by decide +kernel
theorem dX5_agreeing_13 : decode cX5_agreeing 13 = .ok (.iconst 0, 1) := by decide +kernel
theorem dX5_agreeing_14 : decode cX5_agreeing 14 = .ok (.iastore, 1) := by decide +kernel
theorem dX5_agreeing_15 : decode cX5_agreeing 15 = .ok (.iinc 1 1, 3) := by decide +kernel
theorem dX5_agreeing_18 : decode cX5_agreeing 18 = .ok (.goto (-16), 3) := by decide +kernel
theorem dX5_agreeing_21 : decode cX5_agreeing 21 = .ok (.aload_n 0, 1) := by decide +kernel
theorem dX5_agreeing_22 : decode cX5_agreeing 22 = .ok (.lconst 0, 1) := by decide +kernel
theorem dX5_agreeing_23 : decode cX5_agreeing 23 = .ok (.invokevirtual 189, 3) := by decide +kernel
theorem dX5_agreeing_26 : decode cX5_agreeing 26 = .ok (.ifCond .eq 7, 3) := by decide +kernel
theorem dX5_agreeing_29 : decode cX5_agreeing 29 = .ok (.iconst 1, 1) := by decide +kernel
theorem dX5_agreeing_30 : decode cX5_agreeing 30 = .ok (.goto 4, 3) := by decide +kernel
theorem dX5_agreeing_33 : decode cX5_agreeing 33 = .ok (.iconst 0, 1) := by decide +kernel
theorem dX5_agreeing_34 : decode cX5_agreeing 34 = .ok (.istore_n 1, 1) := by decide +kernel
theorem dX5_agreeing_35 : decode cX5_agreeing 35 = .ok (.iconst 0, 1) := by decide +kernel
theorem dX5_agreeing_36 : decode cX5_agreeing 36 = .ok (.istore_n 2, 1) := by decide +kernel
theorem dX5_agreeing_37 : decode cX5_agreeing 37 = .ok (.iload_n 2, 1) := by decide +kernel
theorem dX5_agreeing_38 : decode cX5_agreeing 38 = .ok (.aload_n 0, 1) := by decide +kernel
theorem dX5_agreeing_39 : decode cX5_agreeing 39 = .ok (.getfield 91, 3) := by decide +kernel
theorem dX5_agreeing_42 : decode cX5_agreeing 42 = .ok (.if_icmp .ge 70, 3) := by decide +kernel
theorem dX5_agreeing_45 : decode cX5_agreeing 45 = .ok (.iload_n 2, 1) := by decide +kernel
theorem dX5_agreeing_46 : decode cX5_agreeing 46 = .ok (.istore_n 3, 1) := by decide +kernel
theorem dX5_agreeing_47 : decode cX5_agreeing 47 = .ok (.iload_n 3, 1) := by decide +kernel
theorem dX5_agreeing_48 : decode cX5_agreeing 48 = .ok (.aload_n 0, 1) := by decide +kernel
theorem dX5_agreeing_49 : decode cX5_agreeing 49 = .ok (.getfield 91, 3) := by decide +kernel
theorem dX5_agreeing_52 : decode cX5_agreeing 52 = .ok (.if_icmp .ge 54, 3) := by decide +kernel
theorem dX5_agreeing_55 : decode cX5_agreeing 55 = .ok (.aload_n 0, 1) := by decide +kernel
theorem dX5_agreeing_56 : decode cX5_agreeing 56 = .ok (.lconst 1, 1) := by decide +kernel
theorem dX5_agreeing_57 : decode cX5_agreeing 57 = .ok (.iload_n 2, 1) := by decide +kernel
theorem dX5_agreeing_58 : decode cX5_agreeing 58 = .ok (.lshl, 1) := by decide +kernel
theorem dX5_agreeing_59 : decode cX5_agreeing 59 = .ok (.lconst 1, 1) := by decide +kernel
theorem dX5_agreeing_60 : decode cX5_agreeing 60 = .ok (.iload_n 3, 1) := by decide +kernel
theorem dX5_agreeing_61 : decode cX5_agreeing 61 = .ok (.lshl, 1) := by decide +kernel
theorem dX5_agreeing_62 : decode cX5_agreeing 62 = .ok (.lor, 1) := by decide +kernel
theorem dX5_agreeing_63 : decode cX5_agreeing 63 = .ok (.invokevirtual 189, 3) := by decide +kernel
theorem dX5_agreeing_66 : decode cX5_agreeing 66 = .ok (.ifCond .ne 6, 3) := by decide +kernel
theorem dX5_agreeing_69 : decode cX5_agreeing 69 = .ok (.goto 31, 3) := by decide +kernel
theorem dX5_agreeing_72 : decode cX5_agreeing 72 = .ok (.iinc 1 1, 3) := by decide +kernel
theorem dX5_agreeing_75 : decode cX5_agreeing 75 = .ok (.aload_n 0, 1) := by decide +kernel
theorem dX5_agreeing_76 : decode cX5_agreeing 76 = .ok (.getfield 88, 3) := by decide +kernel
theorem dX5_agreeing_79 : decode cX5_agreeing 79 = .ok (.iload_n 2, 1) := by decide +kernel
theorem dX5_agreeing_80 : decode cX5_agreeing 80 = .ok (.dup2, 1) := by decide +kernel
theorem dX5_agreeing_81 : decode cX5_agreeing 81 = .ok (.iaload, 1) := by decide +kernel
theorem dX5_agreeing_82 : decode cX5_agreeing 82 = .ok (.iconst 1, 1) := by decide +kernel
theorem dX5_agreeing_83 : decode cX5_agreeing 83 = .ok (.iadd, 1) := by decide +kernel
theorem dX5_agreeing_84 : decode cX5_agreeing 84 = .ok (.iastore, 1) := by decide +kernel
theorem dX5_agreeing_85 : decode cX5_agreeing 85 = .ok (.iload_n 3, 1) := by decide +kernel
theorem dX5_agreeing_86 : decode cX5_agreeing 86 = .ok (.iload_n 2, 1) := by decide +kernel
theorem dX5_agreeing_87 : decode cX5_agreeing 87 = .ok (.if_icmp .le 13, 3) := by decide +kernel
theorem dX5_agreeing_90 : decode cX5_agreeing 90 = .ok (.aload_n 0, 1) := by decide +kernel
theorem dX5_agreeing_91 : decode cX5_agreeing 91 = .ok (.getfield 88, 3) := by decide +kernel
theorem dX5_agreeing_94 : decode cX5_agreeing 94 = .ok (.iload_n 3, 1) := by decide +kernel
theorem dX5_agreeing_95 : decode cX5_agreeing 95 = .ok (.dup2, 1) := by decide +kernel
theorem dX5_agreeing_96 : decode cX5_agreeing 96 = .ok (.iaload, 1) := by decide +kernel
theorem dX5_agreeing_97 : decode cX5_agreeing 97 = .ok (.iconst 1, 1) := by decide +kernel
theorem dX5_agreeing_98 : decode cX5_agreeing 98 = .ok (.iadd, 1) := by decide +kernel
theorem dX5_agreeing_99 : decode cX5_agreeing 99 = .ok (.iastore, 1) := by decide +kernel
theorem dX5_agreeing_100 : decode cX5_agreeing 100 = .ok (.iinc 3 1, 3) := by decide +kernel
theorem dX5_agreeing_103 : decode cX5_agreeing 103 = .ok (.goto (-56), 3) := by decide +kernel
theorem dX5_agreeing_106 : decode cX5_agreeing 106 = .ok (.iinc 2 1, 3) := by decide +kernel
theorem dX5_agreeing_109 : decode cX5_agreeing 109 = .ok (.goto (-72), 3) := by decide +kernel
theorem dX5_agreeing_112 : decode cX5_agreeing 112 = .ok (.iload_n 1, 1) := by decide +kernel
theorem dX5_agreeing_113 : decode cX5_agreeing 113 = .ok (.ireturn, 1) := by decide +kernel
set_option maxRecDepth 20000 in
theorem ggX5_agree_X5_agreeing : GoodIn wsX5_agree wsX5_agreeing := goodIn_r _ [6, 7, 8, 9, 10, 11, 5, 12, 13, 14, 15, 16, 17, 18, 19, 20, 21, 22, 23, 24, 25, 26, 27, 28, 29, 30, 31, 32, 33, 34, 35, 36, 37, 38, 39, 40, 41, 42, 43, 44, 45, 46, 47, 48, 49, 50, 51, 52] rfl (by decide +kernel)
set_option maxRecDepth 20000 in
theorem gX5_agree_X5_agreeing : GoodIn wsX5_agree (wsV RX5 193 RX5 yX5_agreeing wsX5_agreeing) := goodIn_app (goodIn_of _ (by decide +kernel)) ggX5_agree_X5_agreeing
theorem dX5_agree_0 : decode cX5_agree 0 = .ok (.aload_n 0, 1) := by decide +kernel
theorem dX5_agree_1 : decode cX5_agree 1 = .ok (.iconst 0, 1) := by decide +kernel
theorem dX5_agree_2 : decode cX5_agree 2 = .ok (.putfield 1, 3) := by decide +kernel
theorem dX5_agree_5 : decode cX5_agree 5 = .ok (.aload_n 0, 1) := by decide +kernel
theorem dX5_agree_6 : decode cX5_agree 6 = .ok (.invokevirtual 193, 3) := by decide +kernel
theorem dX5_agree_9 : decode cX5_agree 9 = .ok (.ireturn, 1) := by decide +kernel
set_option maxRecDepth 20000 in
theorem ggX5_stuck_X5_isMirror : GoodIn wsX5_stuck wsX5_isMirror := goodIn_r _ [7, 8, 24, 25, 26, 27, 28, 29, 30, 31, 32, 33, 34, 35, 36, 37, 38, 39, 40, 41, 42, 43, 44, 45, 46, 47, 48, 49, 50, 51, 52, 53, 54, 55, 56] rfl (by decide +kernel)
set_option maxRecDepth 20000 in
theorem gX5_stuck_X5_isMirror : GoodIn wsX5_stuck (wsV RX5 116 RX5 yX5_isMirror wsX5_isMirror) := goodIn_app (goodIn_of _ (by decide +kernel)) ggX5_stuck_X5_isMirror
set_option maxRecDepth 20000 in
theorem ggX5_stuck_X5_agreeing : GoodIn wsX5_stuck wsX5_agreeing := goodIn_r _ [12, 2, 8, 13, 14, 15, 6, 16, 17, 18, 19, 20, 21, 22, 23, 24, 25, 26, 27, 28, 29, 30, 31, 32, 33, 34, 35, 36, 37, 38, 39, 40, 41, 42, 43, 44, 45, 46, 47, 48, 49, 50, 51, 52, 53, 54, 55, 56] rfl (by decide +kernel)
set_option maxRecDepth 20000 in
theorem gX5_stuck_X5_agreeing : GoodIn wsX5_stuck (wsV RX5 193 RX5 yX5_agreeing wsX5_agreeing) := goodIn_app (goodIn_of _ (by decide +kernel)) ggX5_stuck_X5_agreeing
theorem dX5_stuck_0 : decode cX5_stuck 0 = .ok (.aload_n 0, 1) := by decide +kernel
theorem dX5_stuck_1 : decode cX5_stuck 1 = .ok (.iconst 0, 1) := by decide +kernel
theorem dX5_stuck_2 : decode cX5_stuck 2 = .ok (.putfield 1, 3) := by decide +kernel
theorem dX5_stuck_5 : decode cX5_stuck 5 = .ok (.aload_n 0, 1) := by decide +kernel
theorem dX5_stuck_6 : decode cX5_stuck 6 = .ok (.iload_n 1, 1) := by decide +kernel
theorem dX5_stuck_7 : decode cX5_stuck 7 = .ok (.invokevirtual 116, 3) := by decide +kernel
theorem dX5_stuck_10 : decode cX5_stuck 10 = .ok (.ifCond .ne 5, 3) := by decide +kernel
theorem dX5_stuck_13 : decode cX5_stuck 13 = .ok (.iconst (-1), 1) := by decide +kernel
theorem dX5_stuck_14 : decode cX5_stuck 14 = .ok (.ireturn, 1) := by decide +kernel
theorem dX5_stuck_15 : decode cX5_stuck 15 = .ok (.aload_n 0, 1) := by decide +kernel
theorem dX5_stuck_16 : decode cX5_stuck 16 = .ok (.invokevirtual 193, 3) := by decide +kernel
theorem dX5_stuck_19 : decode cX5_stuck 19 = .ok (.istore_n 2, 1) := by decide +kernel
theorem dX5_stuck_20 : decode cX5_stuck 20 = .ok (.iload_n 2, 1) := by decide +kernel
theorem dX5_stuck_21 : decode cX5_stuck 21 = .ok (.ifCond .ne 7, 3) := by decide +kernel
theorem dX5_stuck_24 : decode cX5_stuck 24 = .ok (.iconst 2, 1) := by decide +kernel
theorem dX5_stuck_25 : decode cX5_stuck 25 = .ok (.goto 31, 3) := by decide +kernel
theorem dX5_stuck_28 : decode cX5_stuck 28 = .ok (.aload_n 0, 1) := by decide +kernel
theorem dX5_stuck_29 : decode cX5_stuck 29 = .ok (.getfield 88, 3) := by decide +kernel
theorem dX5_stuck_32 : decode cX5_stuck 32 = .ok (.iload_n 1, 1) := by decide +kernel
theorem dX5_stuck_33 : decode cX5_stuck 33 = .ok (.iaload, 1) := by decide +kernel
theorem dX5_stuck_34 : decode cX5_stuck 34 = .ok (.iload_n 2, 1) := by decide +kernel
theorem dX5_stuck_35 : decode cX5_stuck 35 = .ok (.if_icmp .ne 7, 3) := by decide +kernel
theorem dX5_stuck_38 : decode cX5_stuck 38 = .ok (.iconst 1, 1) := by decide +kernel
theorem dX5_stuck_39 : decode cX5_stuck 39 = .ok (.goto 17, 3) := by decide +kernel
theorem dX5_stuck_42 : decode cX5_stuck 42 = .ok (.aload_n 0, 1) := by decide +kernel
theorem dX5_stuck_43 : decode cX5_stuck 43 = .ok (.getfield 88, 3) := by decide +kernel
theorem dX5_stuck_46 : decode cX5_stuck 46 = .ok (.iload_n 1, 1) := by decide +kernel
theorem dX5_stuck_47 : decode cX5_stuck 47 = .ok (.iaload, 1) := by decide +kernel
theorem dX5_stuck_48 : decode cX5_stuck 48 = .ok (.ifCond .ne 7, 3) := by decide +kernel
theorem dX5_stuck_51 : decode cX5_stuck 51 = .ok (.iconst 0, 1) := by decide +kernel
theorem dX5_stuck_52 : decode cX5_stuck 52 = .ok (.goto 4, 3) := by decide +kernel
theorem dX5_stuck_55 : decode cX5_stuck 55 = .ok (.iconst 2, 1) := by decide +kernel
theorem dX5_stuck_56 : decode cX5_stuck 56 = .ok (.ireturn, 1) := by decide +kernel
set_option maxRecDepth 20000 in
theorem ggX5_unsure_X5_agreeing : GoodIn wsX5_unsure wsX5_agreeing := goodIn_r _ [8, 3, 2, 9, 10, 11, 7, 12, 13, 14, 15, 16, 17, 18, 19, 20, 21, 22, 23, 24, 25, 26, 27, 28, 29, 30, 31, 32, 33, 34, 35, 36, 37, 38, 39, 40, 41, 42, 43, 44, 45, 46, 47, 48, 49, 50, 51, 52] rfl (by decide +kernel)
set_option maxRecDepth 20000 in
theorem gX5_unsure_X5_agreeing : GoodIn wsX5_unsure (wsV RX5 193 RX5 yX5_agreeing wsX5_agreeing) := goodIn_app (goodIn_of _ (by decide +kernel)) ggX5_unsure_X5_agreeing
theorem dX5_unsure_0 : decode cX5_unsure 0 = .ok (.aload_n 0, 1) := by decide +kernel
theorem dX5_unsure_1 : decode cX5_unsure 1 = .ok (.iconst 0, 1) := by decide +kernel
theorem dX5_unsure_2 : decode cX5_unsure 2 = .ok (.putfield 1, 3) := by decide +kernel
theorem dX5_unsure_5 : decode cX5_unsure 5 = .ok (.aload_n 0, 1) := by decide +kernel
theorem dX5_unsure_6 : decode cX5_unsure 6 = .ok (.invokevirtual 193, 3) := by decide +kernel
theorem dX5_unsure_9 : decode cX5_unsure 9 = .ok (.istore_n 1, 1) := by decide +kernel
theorem dX5_unsure_10 : decode cX5_unsure 10 = .ok (.iconst 0, 1) := by decide +kernel
theorem dX5_unsure_11 : decode cX5_unsure 11 = .ok (.istore_n 2, 1) := by decide +kernel
theorem dX5_unsure_12 : decode cX5_unsure 12 = .ok (.iconst 0, 1) := by decide +kernel
