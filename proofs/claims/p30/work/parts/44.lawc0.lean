theorem dL_cell_0 : decode cL_cell 0 = .ok (.iload_n 1, 1) := by decide +kernel
theorem dL_cell_1 : decode cL_cell 1 = .ok (.aload_n 0, 1) := by decide +kernel
theorem dL_cell_2 : decode cL_cell 2 = .ok (.arraylength, 1) := by decide +kernel
theorem dL_cell_3 : decode cL_cell 3 = .ok (.if_icmp .ge 9, 3) := by decide +kernel
theorem dL_cell_6 : decode cL_cell 6 = .ok (.aload_n 0, 1) := by decide +kernel
theorem dL_cell_7 : decode cL_cell 7 = .ok (.iload_n 1, 1) := by decide +kernel
theorem dL_cell_8 : decode cL_cell 8 = .ok (.iaload, 1) := by decide +kernel
theorem dL_cell_9 : decode cL_cell 9 = .ok (.goto 11, 3) := by decide +kernel
theorem dL_cell_12 : decode cL_cell 12 = .ok (.ldc 7, 2) := by decide +kernel
theorem dL_cell_14 : decode cL_cell 14 = .ok (.iload_n 1, 1) := by decide +kernel
theorem dL_cell_15 : decode cL_cell 15 = .ok (.imul, 1) := by decide +kernel
theorem dL_cell_16 : decode cL_cell 16 = .ok (.sipush 8688, 3) := by decide +kernel
theorem dL_cell_19 : decode cL_cell 19 = .ok (.iadd, 1) := by decide +kernel
theorem dL_cell_20 : decode cL_cell 20 = .ok (.ldc 8, 2) := by decide +kernel
theorem dL_cell_22 : decode cL_cell 22 = .ok (.iand, 1) := by decide +kernel
theorem dL_cell_23 : decode cL_cell 23 = .ok (.ireturn, 1) := by decide +kernel
set_option maxRecDepth 20000 in
theorem ggL_areSums_X5_hearer : GoodIn wsL_areSums wsX5_hearer := goodIn_r _ [5, 6, 7, 8, 9, 4, 10, 36, 37, 38, 39, 40, 41, 42, 43, 44, 45, 46] (by decide +kernel) (by decide +kernel)
set_option maxRecDepth 20000 in
theorem gL_areSums_X5_hearer : GoodIn wsL_areSums (wsV RL 9 RX5 yX5_hearer wsX5_hearer) := goodIn_app (goodIn_of _ (by decide +kernel)) ggL_areSums_X5_hearer
set_option maxRecDepth 20000 in
theorem ggL_areSums_X5_sum : GoodIn wsL_areSums wsX5_sum := goodIn_r _ [14, 6, 15, 16, 17, 18, 19, 20, 36, 37, 38, 39, 40, 41, 42, 43, 44, 45, 46] (by decide +kernel) (by decide +kernel)
set_option maxRecDepth 20000 in
theorem gL_areSums_X5_sum : GoodIn wsL_areSums (wsV RL 15 RX5 yX5_sum wsX5_sum) := goodIn_app (goodIn_of _ (by decide +kernel)) ggL_areSums_X5_sum
set_option maxRecDepth 20000 in
theorem ggL_areSums_X5_share : GoodIn wsL_areSums wsX5_share := goodIn_r _ [24, 6, 15, 16, 17, 18, 19, 20, 36, 37, 38, 39, 40, 41, 42, 43, 44, 45, 46] (by decide +kernel) (by decide +kernel)
set_option maxRecDepth 20000 in
theorem gL_areSums_X5_share : GoodIn wsL_areSums (wsV RL 19 RX5 yX5_share wsX5_share) := goodIn_app (goodIn_of _ (by decide +kernel)) ggL_areSums_X5_share
set_option maxRecDepth 20000 in
theorem ggL_areSums_X5_log : GoodIn wsL_areSums wsX5_log := goodIn_r _ [28, 6, 29, 30, 31, 32, 18, 33, 34, 35, 36, 37, 38, 39, 40, 41, 42, 43, 44, 45, 46] (by decide +kernel) (by decide +kernel)
set_option maxRecDepth 20000 in
theorem gL_areSums_X5_log : GoodIn wsL_areSums (wsV RL 23 RX5 yX5_log wsX5_log) := goodIn_app (goodIn_of _ (by decide +kernel)) ggL_areSums_X5_log
theorem dL_areSums_0 : decode cL_areSums 0 = .ok (.iconst 0, 1) := by decide +kernel
theorem dL_areSums_1 : decode cL_areSums 1 = .ok (.istore_n 1, 1) := by decide +kernel
theorem dL_areSums_2 : decode cL_areSums 2 = .ok (.iconst 0, 1) := by decide +kernel
theorem dL_areSums_3 : decode cL_areSums 3 = .ok (.istore_n 2, 1) := by decide +kernel
theorem dL_areSums_4 : decode cL_areSums 4 = .ok (.iconst 0, 1) := by decide +kernel
theorem dL_areSums_5 : decode cL_areSums 5 = .ok (.istore_n 3, 1) := by decide +kernel
theorem dL_areSums_6 : decode cL_areSums 6 = .ok (.iconst 0, 1) := by decide +kernel
theorem dL_areSums_7 : decode cL_areSums 7 = .ok (.istore 4, 2) := by decide +kernel
theorem dL_areSums_9 : decode cL_areSums 9 = .ok (.aload_n 0, 1) := by decide +kernel
theorem dL_areSums_10 : decode cL_areSums 10 = .ok (.bipush 6, 2) := by decide +kernel
theorem dL_areSums_12 : decode cL_areSums 12 = .ok (.iconst 0, 1) := by decide +kernel
theorem dL_areSums_13 : decode cL_areSums 13 = .ok (.invokevirtual 9, 3) := by decide +kernel
theorem dL_areSums_16 : decode cL_areSums 16 = .ok (.iconst (-1), 1) := by decide +kernel
theorem dL_areSums_17 : decode cL_areSums 17 = .ok (.if_icmp .ne 17, 3) := by decide +kernel
theorem dL_areSums_20 : decode cL_areSums 20 = .ok (.aload_n 0, 1) := by decide +kernel
theorem dL_areSums_21 : decode cL_areSums 21 = .ok (.iconst (-1), 1) := by decide +kernel
theorem dL_areSums_22 : decode cL_areSums 22 = .ok (.iconst 0, 1) := by decide +kernel
theorem dL_areSums_23 : decode cL_areSums 23 = .ok (.invokevirtual 9, 3) := by decide +kernel
theorem dL_areSums_26 : decode cL_areSums 26 = .ok (.iconst (-1), 1) := by decide +kernel
theorem dL_areSums_27 : decode cL_areSums 27 = .ok (.if_icmp .ne 7, 3) := by decide +kernel
theorem dL_areSums_30 : decode cL_areSums 30 = .ok (.iconst 1, 1) := by decide +kernel
theorem dL_areSums_31 : decode cL_areSums 31 = .ok (.goto 4, 3) := by decide +kernel
theorem dL_areSums_34 : decode cL_areSums 34 = .ok (.iconst 0, 1) := by decide +kernel
theorem dL_areSums_35 : decode cL_areSums 35 = .ok (.istore 5, 2) := by decide +kernel
theorem dL_areSums_37 : decode cL_areSums 37 = .ok (.iconst 0, 1) := by decide +kernel
theorem dL_areSums_38 : decode cL_areSums 38 = .ok (.istore 6, 2) := by decide +kernel
theorem dL_areSums_40 : decode cL_areSums 40 = .ok (.iload 6, 2) := by decide +kernel
theorem dL_areSums_42 : decode cL_areSums 42 = .ok (.bipush 6, 2) := by decide +kernel
theorem dL_areSums_44 : decode cL_areSums 44 = .ok (.if_icmp .ge 197, 3) := by decide +kernel
theorem dL_areSums_47 : decode cL_areSums 47 = .ok (.iload 5, 2) := by decide +kernel
theorem dL_areSums_49 : decode cL_areSums 49 = .ok (.ifCond .eq 192, 3) := by decide +kernel
theorem dL_areSums_52 : decode cL_areSums 52 = .ok (.iload_n 1, 1) := by decide +kernel
theorem dL_areSums_53 : decode cL_areSums 53 = .ok (.aload_n 0, 1) := by decide +kernel
theorem dL_areSums_54 : decode cL_areSums 54 = .ok (.iload 6, 2) := by decide +kernel
theorem dL_areSums_56 : decode cL_areSums 56 = .ok (.bipush 7, 2) := by decide +kernel
theorem dL_areSums_58 : decode cL_areSums 58 = .ok (.invokevirtual 9, 3) := by decide +kernel
theorem dL_areSums_61 : decode cL_areSums 61 = .ok (.iadd, 1) := by decide +kernel
theorem dL_areSums_62 : decode cL_areSums 62 = .ok (.istore_n 1, 1) := by decide +kernel
theorem dL_areSums_63 : decode cL_areSums 63 = .ok (.iload_n 2, 1) := by decide +kernel
theorem dL_areSums_64 : decode cL_areSums 64 = .ok (.aload_n 0, 1) := by decide +kernel
theorem dL_areSums_65 : decode cL_areSums 65 = .ok (.iload 6, 2) := by decide +kernel
theorem dL_areSums_67 : decode cL_areSums 67 = .ok (.bipush 8, 2) := by decide +kernel
theorem dL_areSums_69 : decode cL_areSums 69 = .ok (.invokevirtual 9, 3) := by decide +kernel
theorem dL_areSums_72 : decode cL_areSums 72 = .ok (.iadd, 1) := by decide +kernel
theorem dL_areSums_73 : decode cL_areSums 73 = .ok (.istore_n 2, 1) := by decide +kernel
theorem dL_areSums_74 : decode cL_areSums 74 = .ok (.iconst 0, 1) := by decide +kernel
theorem dL_areSums_75 : decode cL_areSums 75 = .ok (.istore 7, 2) := by decide +kernel
theorem dL_areSums_77 : decode cL_areSums 77 = .ok (.iload 7, 2) := by decide +kernel
theorem dL_areSums_79 : decode cL_areSums 79 = .ok (.iconst 3, 1) := by decide +kernel
theorem dL_areSums_80 : decode cL_areSums 80 = .ok (.if_icmp .ge 99, 3) := by decide +kernel
theorem dL_areSums_83 : decode cL_areSums 83 = .ok (.iload 5, 2) := by decide +kernel
theorem dL_areSums_85 : decode cL_areSums 85 = .ok (.ifCond .eq 94, 3) := by decide +kernel
theorem dL_areSums_88 : decode cL_areSums 88 = .ok (.iload_n 3, 1) := by decide +kernel
theorem dL_areSums_89 : decode cL_areSums 89 = .ok (.aload_n 0, 1) := by decide +kernel
theorem dL_areSums_90 : decode cL_areSums 90 = .ok (.iload 6, 2) := by decide +kernel
theorem dL_areSums_92 : decode cL_areSums 92 = .ok (.iload 7, 2) := by decide +kernel
theorem dL_areSums_94 : decode cL_areSums 94 = .ok (.invokevirtual 9, 3) := by decide +kernel
theorem dL_areSums_97 : decode cL_areSums 97 = .ok (.iadd, 1) := by decide +kernel
theorem dL_areSums_98 : decode cL_areSums 98 = .ok (.istore_n 3, 1) := by decide +kernel
theorem dL_areSums_99 : decode cL_areSums 99 = .ok (.iload 4, 2) := by decide +kernel
theorem dL_areSums_101 : decode cL_areSums 101 = .ok (.aload_n 0, 1) := by decide +kernel
theorem dL_areSums_102 : decode cL_areSums 102 = .ok (.iload 6, 2) := by decide +kernel
theorem dL_areSums_104 : decode cL_areSums 104 = .ok (.iconst 3, 1) := by decide +kernel
theorem dL_areSums_105 : decode cL_areSums 105 = .ok (.iload 7, 2) := by decide +kernel
theorem dL_areSums_107 : decode cL_areSums 107 = .ok (.iadd, 1) := by decide +kernel
theorem dL_areSums_108 : decode cL_areSums 108 = .ok (.invokevirtual 9, 3) := by decide +kernel
theorem dL_areSums_111 : decode cL_areSums 111 = .ok (.iadd, 1) := by decide +kernel
theorem dL_areSums_112 : decode cL_areSums 112 = .ok (.istore 4, 2) := by decide +kernel
theorem dL_areSums_114 : decode cL_areSums 114 = .ok (.aload_n 0, 1) := by decide +kernel
theorem dL_areSums_115 : decode cL_areSums 115 = .ok (.iload 6, 2) := by decide +kernel
theorem dL_areSums_117 : decode cL_areSums 117 = .ok (.iconst 3, 1) := by decide +kernel
theorem dL_areSums_118 : decode cL_areSums 118 = .ok (.iload 7, 2) := by decide +kernel
theorem dL_areSums_120 : decode cL_areSums 120 = .ok (.iadd, 1) := by decide +kernel
theorem dL_areSums_121 : decode cL_areSums 121 = .ok (.invokevirtual 9, 3) := by decide +kernel
theorem dL_areSums_124 : decode cL_areSums 124 = .ok (.ifCond .lt 46, 3) := by decide +kernel
theorem dL_areSums_127 : decode cL_areSums 127 = .ok (.aload_n 0, 1) := by decide +kernel
theorem dL_areSums_128 : decode cL_areSums 128 = .ok (.iload 6, 2) := by decide +kernel
theorem dL_areSums_130 : decode cL_areSums 130 = .ok (.iconst 3, 1) := by decide +kernel
theorem dL_areSums_131 : decode cL_areSums 131 = .ok (.iload 7, 2) := by decide +kernel
theorem dL_areSums_133 : decode cL_areSums 133 = .ok (.iadd, 1) := by decide +kernel
theorem dL_areSums_134 : decode cL_areSums 134 = .ok (.invokevirtual 9, 3) := by decide +kernel
theorem dL_areSums_137 : decode cL_areSums 137 = .ok (.bipush 9, 2) := by decide +kernel
theorem dL_areSums_139 : decode cL_areSums 139 = .ok (.if_icmp .gt 31, 3) := by decide +kernel
theorem dL_areSums_142 : decode cL_areSums 142 = .ok (.aload_n 0, 1) := by decide +kernel
theorem dL_areSums_143 : decode cL_areSums 143 = .ok (.iload 6, 2) := by decide +kernel
theorem dL_areSums_145 : decode cL_areSums 145 = .ok (.iload 7, 2) := by decide +kernel
theorem dL_areSums_147 : decode cL_areSums 147 = .ok (.invokevirtual 9, 3) := by decide +kernel
theorem dL_areSums_150 : decode cL_areSums 150 = .ok (.ifCond .eq 16, 3) := by decide +kernel
theorem dL_areSums_153 : decode cL_areSums 153 = .ok (.aload_n 0, 1) := by decide +kernel
theorem dL_areSums_154 : decode cL_areSums 154 = .ok (.iload 6, 2) := by decide +kernel
theorem dL_areSums_156 : decode cL_areSums 156 = .ok (.iconst 3, 1) := by decide +kernel
theorem dL_areSums_157 : decode cL_areSums 157 = .ok (.iload 7, 2) := by decide +kernel
theorem dL_areSums_159 : decode cL_areSums 159 = .ok (.iadd, 1) := by decide +kernel
theorem dL_areSums_160 : decode cL_areSums 160 = .ok (.invokevirtual 9, 3) := by decide +kernel
theorem dL_areSums_163 : decode cL_areSums 163 = .ok (.ifCond .ne 7, 3) := by decide +kernel
theorem dL_areSums_166 : decode cL_areSums 166 = .ok (.iconst 1, 1) := by decide +kernel
theorem dL_areSums_167 : decode cL_areSums 167 = .ok (.goto 4, 3) := by decide +kernel
theorem dL_areSums_170 : decode cL_areSums 170 = .ok (.iconst 0, 1) := by decide +kernel
theorem dL_areSums_171 : decode cL_areSums 171 = .ok (.istore 5, 2) := by decide +kernel
theorem dL_areSums_173 : decode cL_areSums 173 = .ok (.iinc 7 1, 3) := by decide +kernel
theorem dL_areSums_176 : decode cL_areSums 176 = .ok (.goto (-99), 3) := by decide +kernel
theorem dL_areSums_179 : decode cL_areSums 179 = .ok (.iload 5, 2) := by decide +kernel
theorem dL_areSums_181 : decode cL_areSums 181 = .ok (.ifCond .eq 51, 3) := by decide +kernel
theorem dL_areSums_184 : decode cL_areSums 184 = .ok (.aload_n 0, 1) := by decide +kernel
theorem dL_areSums_185 : decode cL_areSums 185 = .ok (.iload 6, 2) := by decide +kernel
theorem dL_areSums_187 : decode cL_areSums 187 = .ok (.bipush 8, 2) := by decide +kernel
theorem dL_areSums_189 : decode cL_areSums 189 = .ok (.invokevirtual 9, 3) := by decide +kernel
theorem dL_areSums_192 : decode cL_areSums 192 = .ok (.aload_n 0, 1) := by decide +kernel
theorem dL_areSums_193 : decode cL_areSums 193 = .ok (.iload 6, 2) := by decide +kernel
theorem dL_areSums_195 : decode cL_areSums 195 = .ok (.bipush 7, 2) := by decide +kernel
theorem dL_areSums_197 : decode cL_areSums 197 = .ok (.invokevirtual 9, 3) := by decide +kernel
theorem dL_areSums_200 : decode cL_areSums 200 = .ok (.if_icmp .gt 32, 3) := by decide +kernel
theorem dL_areSums_203 : decode cL_areSums 203 = .ok (.aload_n 0, 1) := by decide +kernel
theorem dL_areSums_204 : decode cL_areSums 204 = .ok (.iload 6, 2) := by decide +kernel
theorem dL_areSums_206 : decode cL_areSums 206 = .ok (.bipush 6, 2) := by decide +kernel
theorem dL_areSums_208 : decode cL_areSums 208 = .ok (.invokevirtual 9, 3) := by decide +kernel
theorem dL_areSums_211 : decode cL_areSums 211 = .ok (.iconst 1, 1) := by decide +kernel
theorem dL_areSums_212 : decode cL_areSums 212 = .ok (.if_icmp .lt 20, 3) := by decide +kernel
theorem dL_areSums_215 : decode cL_areSums 215 = .ok (.aload_n 0, 1) := by decide +kernel
theorem dL_areSums_216 : decode cL_areSums 216 = .ok (.iload 6, 2) := by decide +kernel
theorem dL_areSums_218 : decode cL_areSums 218 = .ok (.bipush 6, 2) := by decide +kernel
theorem dL_areSums_220 : decode cL_areSums 220 = .ok (.invokevirtual 9, 3) := by decide +kernel
theorem dL_areSums_223 : decode cL_areSums 223 = .ok (.bipush 12, 2) := by decide +kernel
theorem dL_areSums_225 : decode cL_areSums 225 = .ok (.if_icmp .gt 7, 3) := by decide +kernel
theorem dL_areSums_228 : decode cL_areSums 228 = .ok (.iconst 1, 1) := by decide +kernel
theorem dL_areSums_229 : decode cL_areSums 229 = .ok (.goto 4, 3) := by decide +kernel
theorem dL_areSums_232 : decode cL_areSums 232 = .ok (.iconst 0, 1) := by decide +kernel
theorem dL_areSums_233 : decode cL_areSums 233 = .ok (.istore 5, 2) := by decide +kernel
theorem dL_areSums_235 : decode cL_areSums 235 = .ok (.iinc 6 1, 3) := by decide +kernel
theorem dL_areSums_238 : decode cL_areSums 238 = .ok (.goto (-198), 3) := by decide +kernel
theorem dL_areSums_241 : decode cL_areSums 241 = .ok (.iload_n 1, 1) := by decide +kernel
theorem dL_areSums_242 : decode cL_areSums 242 = .ok (.ifCond .ne 7, 3) := by decide +kernel
theorem dL_areSums_245 : decode cL_areSums 245 = .ok (.fconst 1, 1) := by decide +kernel
theorem dL_areSums_246 : decode cL_areSums 246 = .ok (.goto 10, 3) := by decide +kernel
theorem dL_areSums_249 : decode cL_areSums 249 = .ok (.iload_n 1, 1) := by decide +kernel
theorem dL_areSums_250 : decode cL_areSums 250 = .ok (.iload_n 2, 1) := by decide +kernel
theorem dL_areSums_251 : decode cL_areSums 251 = .ok (.isub, 1) := by decide +kernel
theorem dL_areSums_252 : decode cL_areSums 252 = .ok (.i2f, 1) := by decide +kernel
theorem dL_areSums_253 : decode cL_areSums 253 = .ok (.iload_n 1, 1) := by decide +kernel
theorem dL_areSums_254 : decode cL_areSums 254 = .ok (.i2f, 1) := by decide +kernel
theorem dL_areSums_255 : decode cL_areSums 255 = .ok (.fdiv, 1) := by decide +kernel
theorem dL_areSums_256 : decode cL_areSums 256 = .ok (.fstore 6, 2) := by decide +kernel
theorem dL_areSums_258 : decode cL_areSums 258 = .ok (.iload 5, 2) := by decide +kernel
theorem dL_areSums_260 : decode cL_areSums 260 = .ok (.ifCond .eq 89, 3) := by decide +kernel
theorem dL_areSums_263 : decode cL_areSums 263 = .ok (.iload_n 1, 1) := by decide +kernel
theorem dL_areSums_264 : decode cL_areSums 264 = .ok (.aload_n 0, 1) := by decide +kernel
theorem dL_areSums_265 : decode cL_areSums 265 = .ok (.iconst 0, 1) := by decide +kernel
theorem dL_areSums_266 : decode cL_areSums 266 = .ok (.invokevirtual 15, 3) := by decide +kernel
theorem dL_areSums_269 : decode cL_areSums 269 = .ok (.if_icmp .ne 80, 3) := by decide +kernel
theorem dL_areSums_272 : decode cL_areSums 272 = .ok (.iload_n 2, 1) := by decide +kernel
theorem dL_areSums_273 : decode cL_areSums 273 = .ok (.aload_n 0, 1) := by decide +kernel
theorem dL_areSums_274 : decode cL_areSums 274 = .ok (.iconst 1, 1) := by decide +kernel
theorem dL_areSums_275 : decode cL_areSums 275 = .ok (.invokevirtual 15, 3) := by decide +kernel
theorem dL_areSums_278 : decode cL_areSums 278 = .ok (.if_icmp .ne 71, 3) := by decide +kernel
theorem dL_areSums_281 : decode cL_areSums 281 = .ok (.iload_n 3, 1) := by decide +kernel
theorem dL_areSums_282 : decode cL_areSums 282 = .ok (.aload_n 0, 1) := by decide +kernel
theorem dL_areSums_283 : decode cL_areSums 283 = .ok (.iconst 2, 1) := by decide +kernel
theorem dL_areSums_284 : decode cL_areSums 284 = .ok (.invokevirtual 15, 3) := by decide +kernel
theorem dL_areSums_287 : decode cL_areSums 287 = .ok (.if_icmp .ne 62, 3) := by decide +kernel
theorem dL_areSums_290 : decode cL_areSums 290 = .ok (.iload 4, 2) := by decide +kernel
theorem dL_areSums_292 : decode cL_areSums 292 = .ok (.aload_n 0, 1) := by decide +kernel
theorem dL_areSums_293 : decode cL_areSums 293 = .ok (.iconst 3, 1) := by decide +kernel
theorem dL_areSums_294 : decode cL_areSums 294 = .ok (.invokevirtual 15, 3) := by decide +kernel
theorem dL_areSums_297 : decode cL_areSums 297 = .ok (.if_icmp .ne 52, 3) := by decide +kernel
theorem dL_areSums_300 : decode cL_areSums 300 = .ok (.aload_n 0, 1) := by decide +kernel
theorem dL_areSums_301 : decode cL_areSums 301 = .ok (.invokevirtual 19, 3) := by decide +kernel
theorem dL_areSums_304 : decode cL_areSums 304 = .ok (.fload 6, 2) := by decide +kernel
theorem dL_areSums_306 : decode cL_areSums 306 = .ok (.fcmp .l, 1) := by decide +kernel
theorem dL_areSums_307 : decode cL_areSums 307 = .ok (.ifCond .ne 42, 3) := by decide +kernel
theorem dL_areSums_310 : decode cL_areSums 310 = .ok (.aload_n 0, 1) := by decide +kernel
theorem dL_areSums_311 : decode cL_areSums 311 = .ok (.iload_n 1, 1) := by decide +kernel
theorem dL_areSums_312 : decode cL_areSums 312 = .ok (.bipush 10, 2) := by decide +kernel
theorem dL_areSums_314 : decode cL_areSums 314 = .ok (.if_icmp .ge 7, 3) := by decide +kernel
theorem dL_areSums_317 : decode cL_areSums 317 = .ok (.iload_n 1, 1) := by decide +kernel
theorem dL_areSums_318 : decode cL_areSums 318 = .ok (.goto 5, 3) := by decide +kernel
theorem dL_areSums_321 : decode cL_areSums 321 = .ok (.bipush 10, 2) := by decide +kernel
theorem dL_areSums_323 : decode cL_areSums 323 = .ok (.iconst 0, 1) := by decide +kernel
theorem dL_areSums_324 : decode cL_areSums 324 = .ok (.invokevirtual 23, 3) := by decide +kernel
theorem dL_areSums_327 : decode cL_areSums 327 = .ok (.bipush (-5), 2) := by decide +kernel
theorem dL_areSums_329 : decode cL_areSums 329 = .ok (.if_icmp .ne 20, 3) := by decide +kernel
theorem dL_areSums_332 : decode cL_areSums 332 = .ok (.iload_n 1, 1) := by decide +kernel
theorem dL_areSums_333 : decode cL_areSums 333 = .ok (.ifCond .eq 12, 3) := by decide +kernel
theorem dL_areSums_336 : decode cL_areSums 336 = .ok (.aload_n 0, 1) := by decide +kernel
theorem dL_areSums_337 : decode cL_areSums 337 = .ok (.iconst 0, 1) := by decide +kernel
theorem dL_areSums_338 : decode cL_areSums 338 = .ok (.iconst 0, 1) := by decide +kernel
theorem dL_areSums_339 : decode cL_areSums 339 = .ok (.invokevirtual 23, 3) := by decide +kernel
theorem dL_areSums_342 : decode cL_areSums 342 = .ok (.ifCond .lt 7, 3) := by decide +kernel
theorem dL_areSums_345 : decode cL_areSums 345 = .ok (.iconst 1, 1) := by decide +kernel
theorem dL_areSums_346 : decode cL_areSums 346 = .ok (.goto 4, 3) := by decide +kernel
theorem dL_areSums_349 : decode cL_areSums 349 = .ok (.iconst 0, 1) := by decide +kernel
theorem dL_areSums_350 : decode cL_areSums 350 = .ok (.ireturn, 1) := by decide +kernel
set_option maxRecDepth 20000 in
theorem ggL_isTyped_X5_wayLength : GoodIn wsL_isTyped wsX5_wayLength := goodIn_r _ [5, 6, 7, 8, 9, 4, 10, 11, 12, 13, 14, 15, 16, 17, 18, 19, 20, 21, 22, 23, 24, 25, 26, 27, 28, 29, 30, 31, 32, 33, 34, 35, 36, 37, 38, 39, 40, 41, 42, 43, 44, 45, 46, 47, 48, 49, 50, 51, 52, 53, 54, 55, 56, 57, 196, 197, 198, 199, 200, 201, 202, 203] (by decide +kernel) (by decide +kernel)
set_option maxRecDepth 20000 in
theorem gL_isTyped_X5_wayLength : GoodIn wsL_isTyped (wsV RL 26 RX5 yX5_wayLength wsX5_wayLength) := goodIn_app (goodIn_of _ (by decide +kernel)) ggL_isTyped_X5_wayLength
set_option maxRecDepth 20000 in
theorem ggL_isTyped_X5_clearText : GoodIn wsL_isTyped wsX5_clearText := goodIn_r _ [61, 62, 196, 197, 198, 199, 200, 201] (by decide +kernel) (by decide +kernel)
set_option maxRecDepth 20000 in
theorem gL_isTyped_X5_clearText : GoodIn wsL_isTyped (wsV RL 29 RX5 yX5_clearText wsX5_clearText) := goodIn_app (goodIn_of _ (by decide +kernel)) ggL_isTyped_X5_clearText
set_option maxRecDepth 20000 in
theorem ggL_isTyped_X5_wayAt : GoodIn wsL_isTyped wsX5_wayAt := goodIn_r _ [66, 6, 7, 8, 9, 4, 10, 11, 12, 13, 14, 15, 16, 17, 18, 19, 20, 21, 22, 23, 24, 25, 26, 27, 28, 29, 30, 31, 32, 33, 34, 35, 36, 37, 38, 39, 40, 41, 42, 43, 44, 45, 46, 47, 48, 49, 50, 51, 52, 53, 54, 55, 56, 57, 67, 68, 69, 196, 197, 198, 199, 200, 201, 202, 203] (by decide +kernel) (by decide +kernel)
set_option maxRecDepth 20000 in
theorem gL_isTyped_X5_wayAt : GoodIn wsL_isTyped (wsV RL 33 RX5 yX5_wayAt wsX5_wayAt) := goodIn_app (goodIn_of _ (by decide +kernel)) ggL_isTyped_X5_wayAt
set_option maxRecDepth 20000 in
theorem ggL_isTyped_X5_append : GoodIn wsL_isTyped wsX5_append := goodIn_r _ [73, 62, 74, 196, 197, 198, 199, 200, 201] (by decide +kernel) (by decide +kernel)
set_option maxRecDepth 20000 in
theorem gL_isTyped_X5_append : GoodIn wsL_isTyped (wsV RL 37 RX5 yX5_append wsX5_append) := goodIn_app (goodIn_of _ (by decide +kernel)) ggL_isTyped_X5_append
set_option maxRecDepth 20000 in
theorem ggL_isTyped_X5_fault : GoodIn wsL_isTyped wsX5_fault := goodIn_r _ [78, 79, 62, 74, 80, 81, 82, 83, 84, 85, 86, 87, 88, 89, 90, 91, 92, 93, 94, 95, 96, 97, 98, 99, 100, 101, 102, 103, 104, 105, 106, 107, 108, 109, 110, 111, 112, 113, 114, 115, 116, 117, 118, 119, 120, 121, 122, 123, 124, 125, 126, 127, 128, 129, 130, 131, 132, 133, 134, 135, 136, 137, 138, 139, 140, 141, 196, 197, 198, 199, 200, 201, 204, 205, 206, 207, 208, 209, 210, 211, 212, 213, 214] (by decide +kernel) (by decide +kernel)
set_option maxRecDepth 20000 in
theorem gL_isTyped_X5_fault : GoodIn wsL_isTyped (wsV RL 40 RX5 yX5_fault wsX5_fault) := goodIn_app (goodIn_of _ (by decide +kernel)) ggL_isTyped_X5_fault
set_option maxRecDepth 20000 in
theorem ggL_isTyped_X5_meaning : GoodIn wsL_isTyped wsX5_meaning := goodIn_r _ [145, 146, 76, 77, 4, 78, 79, 62, 74, 80, 81, 82, 83, 84, 85, 86, 87, 88, 89, 90, 91, 92, 93, 94, 95, 96, 97, 98, 99, 100, 101, 102, 103, 104, 105, 106, 107, 108, 109, 110, 111, 112, 113, 114, 115, 116, 117, 118, 119, 120, 121, 122, 123, 124, 125, 126, 127, 128, 129, 130, 131, 132, 133, 134, 135, 136, 137, 138, 139, 140, 141, 147, 148, 149, 150, 151, 32, 33, 34, 152, 153, 154, 155, 156, 157, 158, 159, 160, 56, 57, 161, 68, 69, 162, 163, 164, 165, 166, 167, 196, 197, 198, 199, 200, 201, 204, 205, 206, 207, 208, 209, 210, 211, 212, 213, 214] (by decide +kernel) (by decide +kernel)
set_option maxRecDepth 20000 in
theorem gL_isTyped_X5_meaning : GoodIn wsL_isTyped (wsV RL 43 RX5 yX5_meaning wsX5_meaning) := goodIn_app (goodIn_of _ (by decide +kernel)) ggL_isTyped_X5_meaning
set_option maxRecDepth 20000 in
theorem ggL_isTyped_X5_placeOfText : GoodIn wsL_isTyped wsX5_placeOfText := goodIn_r _ [171, 6, 146, 76, 77, 4, 78, 79, 62, 74, 80, 81, 82, 83, 84, 85, 86, 87, 88, 89, 90, 91, 92, 93, 94, 95, 96, 97, 98, 99, 100, 101, 102, 103, 104, 105, 106, 107, 108, 109, 110, 111, 112, 113, 114, 115, 116, 117, 118, 119, 120, 121, 122, 123, 124, 125, 126, 127, 128, 129, 130, 131, 132, 133, 134, 135, 136, 137, 138, 139, 140, 141, 147, 148, 149, 150, 151, 32, 33, 34, 152, 153, 154, 155, 156, 157, 158, 159, 160, 56, 57, 161, 68, 69, 162, 163, 164, 165, 166, 167, 11, 12, 13, 14, 15, 16, 17, 18, 19, 20, 21, 22, 23, 24, 25, 26, 27, 28, 29, 30, 31, 35, 36, 37, 38, 39, 40, 41, 42, 43, 44, 45, 46, 47, 48, 49, 50, 172, 173, 174, 175, 196, 197, 198, 199, 200, 201, 204, 205, 206, 207, 208, 209, 210, 211, 212, 213, 214, 202, 203] (by decide +kernel) (by decide +kernel)
set_option maxRecDepth 20000 in
theorem gL_isTyped_X5_placeOfText : GoodIn wsL_isTyped (wsV RL 46 RX5 yX5_placeOfText wsX5_placeOfText) := goodIn_app (goodIn_of _ (by decide +kernel)) ggL_isTyped_X5_placeOfText
set_option maxRecDepth 20000 in
theorem ggL_isTyped_X5_understoodText : GoodIn wsL_isTyped wsX5_understoodText := goodIn_r _ [179, 180, 181, 4, 182, 146, 76, 77, 78, 79, 62, 74, 80, 81, 82, 83, 84, 85, 86, 87, 88, 89, 90, 91, 92, 93, 94, 95, 96, 97, 98, 99, 100, 101, 102, 103, 104, 105, 106, 107, 108, 109, 110, 111, 112, 113, 114, 115, 116, 117, 118, 119, 120, 121, 122, 123, 124, 125, 126, 127, 128, 129, 130, 131, 132, 133, 134, 135, 136, 137, 138, 139, 140, 141, 147, 148, 149, 150, 151, 32, 33, 34, 183, 184, 185, 186, 187, 188, 156, 157, 158, 159, 160, 56, 57, 161, 68, 69, 162, 163, 164, 165, 166, 167, 189, 190, 191, 196, 197, 198, 199, 200, 201, 204, 205, 206, 207, 208, 209, 210, 211, 212, 213, 214, 215, 216, 217, 218, 219] (by decide +kernel) (by decide +kernel)
set_option maxRecDepth 20000 in
theorem gL_isTyped_X5_understoodText : GoodIn wsL_isTyped (wsV RL 49 RX5 yX5_understoodText wsX5_understoodText) := goodIn_app (goodIn_of _ (by decide +kernel)) ggL_isTyped_X5_understoodText
set_option maxRecDepth 20000 in
theorem ggL_isTyped_X5_understood : GoodIn wsL_isTyped wsX5_understood := goodIn_r _ [195, 6, 7, 180, 181, 4, 182, 8, 9, 10, 11, 12, 13, 14, 15, 16, 17, 18, 19, 20, 21, 22, 23, 24, 25, 26, 27, 28, 29, 30, 31, 32, 33, 34, 35, 36, 37, 38, 39, 40, 41, 42, 43, 44, 45, 46, 47, 48, 49, 50, 51, 52, 53, 54, 183, 184, 185, 186, 187, 188, 79, 80, 81, 82, 83, 84, 85, 86, 87, 88, 89, 90, 91, 92, 93, 94, 95, 156, 157, 158, 159, 160, 56, 57, 161, 68, 69, 162, 97, 98, 99, 100, 101, 102, 103, 104, 105, 106, 107, 108, 109, 110, 111, 112, 113, 114, 115, 116, 117, 118, 119, 120, 121, 122, 123, 124, 125, 126, 127, 128, 129, 130, 131, 132, 133, 134, 135, 136, 137, 163, 139, 140, 141, 164, 165, 166, 167, 189, 190, 191, 196, 197, 198, 199, 200, 201, 202, 203, 215, 216, 217, 218, 219, 204, 205, 206, 207, 208, 209, 210, 211, 212, 213, 214] (by decide +kernel) (by decide +kernel)
set_option maxRecDepth 20000 in
theorem gL_isTyped_X5_understood : GoodIn wsL_isTyped (wsV RL 52 RX5 yX5_understood wsX5_understood) := goodIn_app (goodIn_of _ (by decide +kernel)) ggL_isTyped_X5_understood
theorem dL_isTyped_0 : decode cL_isTyped 0 = .ok (.aload_n 0, 1) := by decide +kernel
theorem dL_isTyped_1 : decode cL_isTyped 1 = .ok (.iload_n 1, 1) := by decide +kernel
theorem dL_isTyped_2 : decode cL_isTyped 2 = .ok (.iload_n 2, 1) := by decide +kernel
theorem dL_isTyped_3 : decode cL_isTyped 3 = .ok (.invokevirtual 26, 3) := by decide +kernel
theorem dL_isTyped_6 : decode cL_isTyped 6 = .ok (.istore_n 3, 1) := by decide +kernel
theorem dL_isTyped_7 : decode cL_isTyped 7 = .ok (.aload_n 0, 1) := by decide +kernel
theorem dL_isTyped_8 : decode cL_isTyped 8 = .ok (.invokevirtual 29, 3) := by decide +kernel
theorem dL_isTyped_11 : decode cL_isTyped 11 = .ok (.ifCond .lt 11, 3) := by decide +kernel
theorem dL_isTyped_14 : decode cL_isTyped 14 = .ok (.iload_n 3, 1) := by decide +kernel
theorem dL_isTyped_15 : decode cL_isTyped 15 = .ok (.ifCond .le 7, 3) := by decide +kernel
theorem dL_isTyped_18 : decode cL_isTyped 18 = .ok (.iconst 1, 1) := by decide +kernel
theorem dL_isTyped_19 : decode cL_isTyped 19 = .ok (.goto 4, 3) := by decide +kernel
theorem dL_isTyped_22 : decode cL_isTyped 22 = .ok (.iconst 0, 1) := by decide +kernel
theorem dL_isTyped_23 : decode cL_isTyped 23 = .ok (.istore 4, 2) := by decide +kernel
theorem dL_isTyped_25 : decode cL_isTyped 25 = .ok (.iconst 0, 1) := by decide +kernel
theorem dL_isTyped_26 : decode cL_isTyped 26 = .ok (.istore 5, 2) := by decide +kernel
theorem dL_isTyped_28 : decode cL_isTyped 28 = .ok (.iload 5, 2) := by decide +kernel
theorem dL_isTyped_30 : decode cL_isTyped 30 = .ok (.iload_n 3, 1) := by decide +kernel
theorem dL_isTyped_31 : decode cL_isTyped 31 = .ok (.if_icmp .ge 40, 3) := by decide +kernel
theorem dL_isTyped_34 : decode cL_isTyped 34 = .ok (.iload 4, 2) := by decide +kernel
theorem dL_isTyped_36 : decode cL_isTyped 36 = .ok (.ifCond .eq 35, 3) := by decide +kernel
theorem dL_isTyped_39 : decode cL_isTyped 39 = .ok (.aload_n 0, 1) := by decide +kernel
theorem dL_isTyped_40 : decode cL_isTyped 40 = .ok (.aload_n 0, 1) := by decide +kernel
theorem dL_isTyped_41 : decode cL_isTyped 41 = .ok (.iload_n 1, 1) := by decide +kernel
theorem dL_isTyped_42 : decode cL_isTyped 42 = .ok (.iload_n 2, 1) := by decide +kernel
theorem dL_isTyped_43 : decode cL_isTyped 43 = .ok (.iload 5, 2) := by decide +kernel
theorem dL_isTyped_45 : decode cL_isTyped 45 = .ok (.invokevirtual 33, 3) := by decide +kernel
theorem dL_isTyped_48 : decode cL_isTyped 48 = .ok (.invokevirtual 37, 3) := by decide +kernel
theorem dL_isTyped_51 : decode cL_isTyped 51 = .ok (.iload 5, 2) := by decide +kernel
theorem dL_isTyped_53 : decode cL_isTyped 53 = .ok (.iconst 1, 1) := by decide +kernel
theorem dL_isTyped_54 : decode cL_isTyped 54 = .ok (.iadd, 1) := by decide +kernel
theorem dL_isTyped_55 : decode cL_isTyped 55 = .ok (.if_icmp .ne 7, 3) := by decide +kernel
theorem dL_isTyped_58 : decode cL_isTyped 58 = .ok (.iconst 1, 1) := by decide +kernel
theorem dL_isTyped_59 : decode cL_isTyped 59 = .ok (.goto 4, 3) := by decide +kernel
theorem dL_isTyped_62 : decode cL_isTyped 62 = .ok (.iconst 0, 1) := by decide +kernel
theorem dL_isTyped_63 : decode cL_isTyped 63 = .ok (.istore 4, 2) := by decide +kernel
theorem dL_isTyped_65 : decode cL_isTyped 65 = .ok (.iinc 5 1, 3) := by decide +kernel
theorem dL_isTyped_68 : decode cL_isTyped 68 = .ok (.goto (-40), 3) := by decide +kernel
theorem dL_isTyped_71 : decode cL_isTyped 71 = .ok (.iload 4, 2) := by decide +kernel
theorem dL_isTyped_73 : decode cL_isTyped 73 = .ok (.ifCond .eq 32, 3) := by decide +kernel
theorem dL_isTyped_76 : decode cL_isTyped 76 = .ok (.aload_n 0, 1) := by decide +kernel
theorem dL_isTyped_77 : decode cL_isTyped 77 = .ok (.invokevirtual 40, 3) := by decide +kernel
theorem dL_isTyped_80 : decode cL_isTyped 80 = .ok (.bipush (-5), 2) := by decide +kernel
theorem dL_isTyped_82 : decode cL_isTyped 82 = .ok (.if_icmp .ne 23, 3) := by decide +kernel
theorem dL_isTyped_85 : decode cL_isTyped 85 = .ok (.aload_n 0, 1) := by decide +kernel
theorem dL_isTyped_86 : decode cL_isTyped 86 = .ok (.invokevirtual 43, 3) := by decide +kernel
theorem dL_isTyped_89 : decode cL_isTyped 89 = .ok (.iload_n 1, 1) := by decide +kernel
theorem dL_isTyped_90 : decode cL_isTyped 90 = .ok (.if_icmp .ne 15, 3) := by decide +kernel
theorem dL_isTyped_93 : decode cL_isTyped 93 = .ok (.aload_n 0, 1) := by decide +kernel
theorem dL_isTyped_94 : decode cL_isTyped 94 = .ok (.invokevirtual 46, 3) := by decide +kernel
theorem dL_isTyped_97 : decode cL_isTyped 97 = .ok (.iload_n 2, 1) := by decide +kernel
theorem dL_isTyped_98 : decode cL_isTyped 98 = .ok (.if_icmp .ne 7, 3) := by decide +kernel
theorem dL_isTyped_101 : decode cL_isTyped 101 = .ok (.iconst 1, 1) := by decide +kernel
theorem dL_isTyped_102 : decode cL_isTyped 102 = .ok (.goto 4, 3) := by decide +kernel
theorem dL_isTyped_105 : decode cL_isTyped 105 = .ok (.iconst 0, 1) := by decide +kernel
theorem dL_isTyped_106 : decode cL_isTyped 106 = .ok (.istore 4, 2) := by decide +kernel
theorem dL_isTyped_108 : decode cL_isTyped 108 = .ok (.iconst 0, 1) := by decide +kernel
theorem dL_isTyped_109 : decode cL_isTyped 109 = .ok (.istore 5, 2) := by decide +kernel
theorem dL_isTyped_111 : decode cL_isTyped 111 = .ok (.iload 5, 2) := by decide +kernel
theorem dL_isTyped_113 : decode cL_isTyped 113 = .ok (.bipush 6, 2) := by decide +kernel
theorem dL_isTyped_115 : decode cL_isTyped 115 = .ok (.if_icmp .ge 38, 3) := by decide +kernel
theorem dL_isTyped_118 : decode cL_isTyped 118 = .ok (.iload 4, 2) := by decide +kernel
theorem dL_isTyped_120 : decode cL_isTyped 120 = .ok (.ifCond .eq 33, 3) := by decide +kernel
theorem dL_isTyped_123 : decode cL_isTyped 123 = .ok (.aload_n 0, 1) := by decide +kernel
theorem dL_isTyped_124 : decode cL_isTyped 124 = .ok (.iload 5, 2) := by decide +kernel
theorem dL_isTyped_126 : decode cL_isTyped 126 = .ok (.invokevirtual 49, 3) := by decide +kernel
theorem dL_isTyped_129 : decode cL_isTyped 129 = .ok (.aload_n 0, 1) := by decide +kernel
theorem dL_isTyped_130 : decode cL_isTyped 130 = .ok (.iload 5, 2) := by decide +kernel
theorem dL_isTyped_132 : decode cL_isTyped 132 = .ok (.iload_n 1, 1) := by decide +kernel
theorem dL_isTyped_133 : decode cL_isTyped 133 = .ok (.iload_n 2, 1) := by decide +kernel
theorem dL_isTyped_134 : decode cL_isTyped 134 = .ok (.invokevirtual 52, 3) := by decide +kernel
theorem dL_isTyped_137 : decode cL_isTyped 137 = .ok (.if_icmp .ne 7, 3) := by decide +kernel
theorem dL_isTyped_140 : decode cL_isTyped 140 = .ok (.iconst 1, 1) := by decide +kernel
theorem dL_isTyped_141 : decode cL_isTyped 141 = .ok (.goto 4, 3) := by decide +kernel
theorem dL_isTyped_144 : decode cL_isTyped 144 = .ok (.iconst 0, 1) := by decide +kernel
theorem dL_isTyped_145 : decode cL_isTyped 145 = .ok (.istore 4, 2) := by decide +kernel
theorem dL_isTyped_147 : decode cL_isTyped 147 = .ok (.iinc 5 1, 3) := by decide +kernel
theorem dL_isTyped_150 : decode cL_isTyped 150 = .ok (.goto (-39), 3) := by decide +kernel
theorem dL_isTyped_153 : decode cL_isTyped 153 = .ok (.iload 4, 2) := by decide +kernel
theorem dL_isTyped_155 : decode cL_isTyped 155 = .ok (.ireturn, 1) := by decide +kernel
set_option maxRecDepth 20000 in
theorem ggL_isTold_X5_styled : GoodIn wsL_isTold wsX5_styled := goodIn_r _ [5, 6, 7, 8, 4, 9, 10, 11, 12, 13, 14, 15, 16, 17, 18, 19, 20, 21, 22, 23, 24, 25, 26, 27, 28, 29, 30, 31, 32, 33, 34, 35, 36, 37, 38, 39, 40, 41, 42, 43, 44, 45, 46, 47, 48, 49, 50, 51, 52, 53, 54, 55, 56, 57, 58, 59, 60, 61, 62, 63, 64, 65, 66, 67, 68, 69, 235, 236, 237, 238, 239, 240, 241, 242] (by decide +kernel) (by decide +kernel)
set_option maxRecDepth 20000 in
theorem gL_isTold_X5_styled : GoodIn wsL_isTold (wsV RL 55 RX5 yX5_styled wsX5_styled) := goodIn_app (goodIn_of _ (by decide +kernel)) ggL_isTold_X5_styled
set_option maxRecDepth 20000 in
theorem ggL_isTold_X5_understood : GoodIn wsL_isTold wsX5_understood := goodIn_r _ [73, 6, 74, 75, 76, 4, 77, 10, 11, 12, 13, 14, 15, 16, 17, 18, 19, 20, 21, 22, 23, 24, 25, 26, 27, 28, 29, 30, 31, 32, 33, 34, 35, 36, 37, 38, 39, 40, 41, 42, 43, 44, 45, 46, 47, 48, 49, 50, 51, 52, 78, 58, 59, 60, 79, 80, 81, 82, 83, 84, 85, 86, 87, 88, 89, 90, 91, 92, 93, 94, 95, 96, 97, 98, 99, 100, 101, 102, 103, 104, 105, 106, 107, 108, 109, 68, 69, 110, 111, 112, 113, 114, 115, 116, 117, 118, 119, 120, 121, 122, 123, 124, 125, 126, 127, 128, 129, 130, 131, 132, 133, 134, 135, 136, 137, 138, 139, 140, 141, 142, 143, 144, 145, 146, 147, 148, 149, 150, 151, 152, 153, 154, 155, 156, 157, 158, 159, 160, 161, 162, 235, 236, 237, 238, 239, 240, 241, 242, 243, 244, 245, 246, 247, 248, 249, 250, 251, 252, 253, 254, 255, 256, 257, 258] (by decide +kernel) (by decide +kernel)
set_option maxRecDepth 20000 in
theorem gL_isTold_X5_understood : GoodIn wsL_isTold (wsV RL 52 RX5 yX5_understood wsX5_understood) := goodIn_app (goodIn_of _ (by decide +kernel)) ggL_isTold_X5_understood
set_option maxRecDepth 20000 in
theorem ggL_isTold_X5_hearer : GoodIn wsL_isTold wsX5_hearer := goodIn_r _ [166, 83, 84, 75, 76, 4, 77, 235, 236, 237, 238, 239, 240, 243, 244, 245, 246, 247] (by decide +kernel) (by decide +kernel)
set_option maxRecDepth 20000 in
theorem gL_isTold_X5_hearer : GoodIn wsL_isTold (wsV RL 9 RX5 yX5_hearer wsX5_hearer) := goodIn_app (goodIn_of _ (by decide +kernel)) ggL_isTold_X5_hearer
set_option maxRecDepth 20000 in
theorem ggL_isTold_X5_reach : GoodIn wsL_isTold wsX5_reach := goodIn_r _ [170, 6, 7, 8, 4, 9, 10, 11, 12, 13, 14, 15, 16, 17, 18, 19, 20, 21, 22, 23, 24, 25, 26, 27, 28, 29, 30, 31, 32, 33, 34, 35, 36, 37, 38, 39, 40, 41, 42, 43, 44, 45, 46, 47, 48, 49, 50, 51, 52, 53, 54, 55, 56, 57, 58, 59, 60, 61, 62, 63, 64, 65, 66, 67, 68, 69, 78, 171, 172, 173, 174, 79, 80, 81, 82, 83, 84, 85, 86, 87, 88, 89, 90, 91, 92, 93, 94, 95, 96, 97, 98, 99, 100, 101, 102, 103, 104, 105, 106, 107, 108, 109, 110, 111, 112, 113, 114, 115, 116, 117, 118, 119, 120, 121, 122, 123, 124, 125, 126, 127, 128, 129, 130, 131, 132, 133, 134, 135, 136, 137, 138, 139, 140, 141, 142, 143, 144, 145, 146, 147, 148, 149, 150, 151, 152, 153, 154, 155, 156, 157, 158, 159, 235, 236, 237, 238, 239, 240, 241, 242, 243, 244, 245, 246, 247, 248, 249, 250, 251, 252, 253, 254, 255, 256, 257, 258] (by decide +kernel) (by decide +kernel)
set_option maxRecDepth 20000 in
theorem gL_isTold_X5_reach : GoodIn wsL_isTold (wsV RL 58 RX5 yX5_reach wsX5_reach) := goodIn_app (goodIn_of _ (by decide +kernel)) ggL_isTold_X5_reach
set_option maxRecDepth 20000 in
theorem ggL_isTold_X5_tell : GoodIn wsL_isTold wsX5_tell := goodIn_r _ [178, 6, 75, 76, 4, 77, 7, 8, 9, 10, 11, 12, 13, 14, 15, 16, 17, 18, 19, 20, 21, 22, 23, 24, 25, 26, 27, 28, 29, 30, 31, 32, 33, 34, 35, 36, 37, 38, 39, 40, 41, 42, 43, 44, 45, 46, 47, 48, 49, 50, 51, 52, 53, 54, 55, 56, 57, 58, 59, 60, 61, 62, 63, 64, 65, 66, 67, 68, 69, 78, 179, 180, 181, 182, 183, 83, 84, 184, 185, 186, 187, 188, 189, 190, 191, 192, 193, 194, 195, 196, 197, 198, 199, 200, 201, 202, 203, 204, 205, 206, 79, 80, 81, 82, 85, 86, 87, 88, 89, 90, 91, 92, 93, 94, 95, 96, 97, 98, 99, 100, 101, 102, 103, 104, 105, 106, 107, 108, 109, 110, 111, 112, 113, 114, 115, 116, 117, 118, 119, 120, 121, 122, 123, 124, 125, 126, 127, 128, 129, 130, 131, 132, 133, 134, 135, 136, 137, 138, 139, 140, 141, 142, 143, 144, 145, 146, 147, 148, 149, 150, 151, 152, 153, 154, 155, 156, 157, 158, 159, 207, 208, 209, 210, 211, 212, 213, 214, 215, 216, 217, 218, 219, 220, 221, 235, 236, 237, 238, 239, 240, 241, 242, 243, 244, 245, 246, 247, 259, 260, 261, 248, 249, 250, 251, 252, 253, 254, 255, 256, 257, 258] (by decide +kernel) (by decide +kernel)
set_option maxRecDepth 20000 in
theorem gL_isTold_X5_tell : GoodIn wsL_isTold (wsV RL 61 RX5 yX5_tell wsX5_tell) := goodIn_app (goodIn_of _ (by decide +kernel)) ggL_isTold_X5_tell
set_option maxRecDepth 20000 in
theorem ggL_isTold_X5_log : GoodIn wsL_isTold wsX5_log := goodIn_r _ [225, 83, 226, 227, 228, 229, 196, 230, 204, 203, 235, 236, 237, 238, 239, 240, 243, 244, 245, 246, 247] (by decide +kernel) (by decide +kernel)
set_option maxRecDepth 20000 in
theorem gL_isTold_X5_log : GoodIn wsL_isTold (wsV RL 23 RX5 yX5_log wsX5_log) := goodIn_app (goodIn_of _ (by decide +kernel)) ggL_isTold_X5_log
set_option maxRecDepth 20000 in
theorem ggL_isTold_X5_wayLength : GoodIn wsL_isTold wsX5_wayLength := goodIn_r _ [234, 6, 74, 10, 11, 4, 12, 13, 14, 15, 16, 17, 18, 19, 20, 21, 22, 23, 24, 25, 26, 27, 28, 29, 30, 31, 32, 33, 34, 35, 36, 37, 38, 39, 40, 41, 42, 43, 44, 45, 46, 47, 48, 49, 50, 51, 52, 78, 58, 59, 60, 221, 107, 108, 235, 236, 237, 238, 239, 240, 241, 242] (by decide +kernel) (by decide +kernel)
set_option maxRecDepth 20000 in
theorem gL_isTold_X5_wayLength : GoodIn wsL_isTold (wsV RL 26 RX5 yX5_wayLength wsX5_wayLength) := goodIn_app (goodIn_of _ (by decide +kernel)) ggL_isTold_X5_wayLength
theorem dL_isTold_0 : decode cL_isTold 0 = .ok (.aload_n 0, 1) := by decide +kernel
theorem dL_isTold_1 : decode cL_isTold 1 = .ok (.iload_n 2, 1) := by decide +kernel
theorem dL_isTold_2 : decode cL_isTold 2 = .ok (.iload_n 3, 1) := by decide +kernel
theorem dL_isTold_3 : decode cL_isTold 3 = .ok (.invokevirtual 55, 3) := by decide +kernel
theorem dL_isTold_6 : decode cL_isTold 6 = .ok (.istore 4, 2) := by decide +kernel
theorem dL_isTold_8 : decode cL_isTold 8 = .ok (.aload_n 0, 1) := by decide +kernel
theorem dL_isTold_9 : decode cL_isTold 9 = .ok (.iload_n 1, 1) := by decide +kernel
theorem dL_isTold_10 : decode cL_isTold 10 = .ok (.iload_n 2, 1) := by decide +kernel
theorem dL_isTold_11 : decode cL_isTold 11 = .ok (.iload 4, 2) := by decide +kernel
theorem dL_isTold_13 : decode cL_isTold 13 = .ok (.invokevirtual 52, 3) := by decide +kernel
theorem dL_isTold_16 : decode cL_isTold 16 = .ok (.istore 5, 2) := by decide +kernel
theorem dL_isTold_18 : decode cL_isTold 18 = .ok (.aload_n 0, 1) := by decide +kernel
theorem dL_isTold_19 : decode cL_isTold 19 = .ok (.iload_n 1, 1) := by decide +kernel
theorem dL_isTold_20 : decode cL_isTold 20 = .ok (.bipush 7, 2) := by decide +kernel
theorem dL_isTold_22 : decode cL_isTold 22 = .ok (.invokevirtual 9, 3) := by decide +kernel
theorem dL_isTold_25 : decode cL_isTold 25 = .ok (.istore 6, 2) := by decide +kernel
theorem dL_isTold_27 : decode cL_isTold 27 = .ok (.aload_n 0, 1) := by decide +kernel
theorem dL_isTold_28 : decode cL_isTold 28 = .ok (.iload_n 1, 1) := by decide +kernel
theorem dL_isTold_29 : decode cL_isTold 29 = .ok (.bipush 8, 2) := by decide +kernel
theorem dL_isTold_31 : decode cL_isTold 31 = .ok (.invokevirtual 9, 3) := by decide +kernel
theorem dL_isTold_34 : decode cL_isTold 34 = .ok (.istore 7, 2) := by decide +kernel
theorem dL_isTold_36 : decode cL_isTold 36 = .ok (.aload_n 0, 1) := by decide +kernel
theorem dL_isTold_37 : decode cL_isTold 37 = .ok (.iload_n 1, 1) := by decide +kernel
theorem dL_isTold_38 : decode cL_isTold 38 = .ok (.iconst 0, 1) := by decide +kernel
theorem dL_isTold_39 : decode cL_isTold 39 = .ok (.invokevirtual 9, 3) := by decide +kernel
theorem dL_isTold_42 : decode cL_isTold 42 = .ok (.aload_n 0, 1) := by decide +kernel
theorem dL_isTold_43 : decode cL_isTold 43 = .ok (.iload_n 1, 1) := by decide +kernel
theorem dL_isTold_44 : decode cL_isTold 44 = .ok (.iconst 1, 1) := by decide +kernel
theorem dL_isTold_45 : decode cL_isTold 45 = .ok (.invokevirtual 9, 3) := by decide +kernel
theorem dL_isTold_48 : decode cL_isTold 48 = .ok (.iadd, 1) := by decide +kernel
theorem dL_isTold_49 : decode cL_isTold 49 = .ok (.aload_n 0, 1) := by decide +kernel
theorem dL_isTold_50 : decode cL_isTold 50 = .ok (.iload_n 1, 1) := by decide +kernel
theorem dL_isTold_51 : decode cL_isTold 51 = .ok (.iconst 2, 1) := by decide +kernel
