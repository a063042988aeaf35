theorem dL_isTold_52 : decode cL_isTold 52 = .ok (.invokevirtual 9, 3) := by decide +kernel
theorem dL_isTold_55 : decode cL_isTold 55 = .ok (.iadd, 1) := by decide +kernel
theorem dL_isTold_56 : decode cL_isTold 56 = .ok (.istore 8, 2) := by decide +kernel
theorem dL_isTold_58 : decode cL_isTold 58 = .ok (.aload_n 0, 1) := by decide +kernel
theorem dL_isTold_59 : decode cL_isTold 59 = .ok (.iload_n 2, 1) := by decide +kernel
theorem dL_isTold_60 : decode cL_isTold 60 = .ok (.iload_n 3, 1) := by decide +kernel
theorem dL_isTold_61 : decode cL_isTold 61 = .ok (.invokevirtual 58, 3) := by decide +kernel
theorem dL_isTold_64 : decode cL_isTold 64 = .ok (.istore 9, 2) := by decide +kernel
theorem dL_isTold_66 : decode cL_isTold 66 = .ok (.aload_n 0, 1) := by decide +kernel
theorem dL_isTold_67 : decode cL_isTold 67 = .ok (.iload_n 1, 1) := by decide +kernel
theorem dL_isTold_68 : decode cL_isTold 68 = .ok (.iload_n 2, 1) := by decide +kernel
theorem dL_isTold_69 : decode cL_isTold 69 = .ok (.iload_n 3, 1) := by decide +kernel
theorem dL_isTold_70 : decode cL_isTold 70 = .ok (.invokevirtual 61, 3) := by decide +kernel
theorem dL_isTold_73 : decode cL_isTold 73 = .ok (.istore 10, 2) := by decide +kernel
theorem dL_isTold_75 : decode cL_isTold 75 = .ok (.iload 5, 2) := by decide +kernel
theorem dL_isTold_77 : decode cL_isTold 77 = .ok (.iload_n 2, 1) := by decide +kernel
theorem dL_isTold_78 : decode cL_isTold 78 = .ok (.if_icmp .ne 7, 3) := by decide +kernel
theorem dL_isTold_81 : decode cL_isTold 81 = .ok (.iconst 1, 1) := by decide +kernel
theorem dL_isTold_82 : decode cL_isTold 82 = .ok (.goto 4, 3) := by decide +kernel
theorem dL_isTold_85 : decode cL_isTold 85 = .ok (.iconst 0, 1) := by decide +kernel
theorem dL_isTold_86 : decode cL_isTold 86 = .ok (.istore 11, 2) := by decide +kernel
theorem dL_isTold_88 : decode cL_isTold 88 = .ok (.aload_n 0, 1) := by decide +kernel
theorem dL_isTold_89 : decode cL_isTold 89 = .ok (.iload_n 1, 1) := by decide +kernel
theorem dL_isTold_90 : decode cL_isTold 90 = .ok (.iconst 0, 1) := by decide +kernel
theorem dL_isTold_91 : decode cL_isTold 91 = .ok (.invokevirtual 9, 3) := by decide +kernel
theorem dL_isTold_94 : decode cL_isTold 94 = .ok (.aload_n 0, 1) := by decide +kernel
theorem dL_isTold_95 : decode cL_isTold 95 = .ok (.iload_n 1, 1) := by decide +kernel
theorem dL_isTold_96 : decode cL_isTold 96 = .ok (.iconst 1, 1) := by decide +kernel
theorem dL_isTold_97 : decode cL_isTold 97 = .ok (.invokevirtual 9, 3) := by decide +kernel
theorem dL_isTold_100 : decode cL_isTold 100 = .ok (.iadd, 1) := by decide +kernel
theorem dL_isTold_101 : decode cL_isTold 101 = .ok (.aload_n 0, 1) := by decide +kernel
theorem dL_isTold_102 : decode cL_isTold 102 = .ok (.iload_n 1, 1) := by decide +kernel
theorem dL_isTold_103 : decode cL_isTold 103 = .ok (.iconst 2, 1) := by decide +kernel
theorem dL_isTold_104 : decode cL_isTold 104 = .ok (.invokevirtual 9, 3) := by decide +kernel
theorem dL_isTold_107 : decode cL_isTold 107 = .ok (.iadd, 1) := by decide +kernel
theorem dL_isTold_108 : decode cL_isTold 108 = .ok (.istore 12, 2) := by decide +kernel
theorem dL_isTold_110 : decode cL_isTold 110 = .ok (.iload 10, 2) := by decide +kernel
theorem dL_isTold_112 : decode cL_isTold 112 = .ok (.iload 11, 2) := by decide +kernel
theorem dL_isTold_114 : decode cL_isTold 114 = .ok (.ifCond .eq 7, 3) := by decide +kernel
theorem dL_isTold_117 : decode cL_isTold 117 = .ok (.iconst 1, 1) := by decide +kernel
theorem dL_isTold_118 : decode cL_isTold 118 = .ok (.goto 4, 3) := by decide +kernel
theorem dL_isTold_121 : decode cL_isTold 121 = .ok (.iconst 0, 1) := by decide +kernel
theorem dL_isTold_122 : decode cL_isTold 122 = .ok (.if_icmp .ne 155, 3) := by decide +kernel
theorem dL_isTold_125 : decode cL_isTold 125 = .ok (.aload_n 0, 1) := by decide +kernel
theorem dL_isTold_126 : decode cL_isTold 126 = .ok (.iload_n 1, 1) := by decide +kernel
theorem dL_isTold_127 : decode cL_isTold 127 = .ok (.bipush 7, 2) := by decide +kernel
theorem dL_isTold_129 : decode cL_isTold 129 = .ok (.invokevirtual 9, 3) := by decide +kernel
theorem dL_isTold_132 : decode cL_isTold 132 = .ok (.iload 6, 2) := by decide +kernel
theorem dL_isTold_134 : decode cL_isTold 134 = .ok (.iconst 1, 1) := by decide +kernel
theorem dL_isTold_135 : decode cL_isTold 135 = .ok (.iadd, 1) := by decide +kernel
theorem dL_isTold_136 : decode cL_isTold 136 = .ok (.if_icmp .ne 141, 3) := by decide +kernel
theorem dL_isTold_139 : decode cL_isTold 139 = .ok (.aload_n 0, 1) := by decide +kernel
theorem dL_isTold_140 : decode cL_isTold 140 = .ok (.iload_n 1, 1) := by decide +kernel
theorem dL_isTold_141 : decode cL_isTold 141 = .ok (.bipush 8, 2) := by decide +kernel
theorem dL_isTold_143 : decode cL_isTold 143 = .ok (.invokevirtual 9, 3) := by decide +kernel
theorem dL_isTold_146 : decode cL_isTold 146 = .ok (.iload 7, 2) := by decide +kernel
theorem dL_isTold_148 : decode cL_isTold 148 = .ok (.iload 11, 2) := by decide +kernel
theorem dL_isTold_150 : decode cL_isTold 150 = .ok (.ifCond .eq 7, 3) := by decide +kernel
theorem dL_isTold_153 : decode cL_isTold 153 = .ok (.iconst 0, 1) := by decide +kernel
theorem dL_isTold_154 : decode cL_isTold 154 = .ok (.goto 4, 3) := by decide +kernel
theorem dL_isTold_157 : decode cL_isTold 157 = .ok (.iconst 1, 1) := by decide +kernel
theorem dL_isTold_158 : decode cL_isTold 158 = .ok (.iadd, 1) := by decide +kernel
theorem dL_isTold_159 : decode cL_isTold 159 = .ok (.if_icmp .ne 118, 3) := by decide +kernel
theorem dL_isTold_162 : decode cL_isTold 162 = .ok (.iload 11, 2) := by decide +kernel
theorem dL_isTold_164 : decode cL_isTold 164 = .ok (.ifCond .eq 13, 3) := by decide +kernel
theorem dL_isTold_167 : decode cL_isTold 167 = .ok (.iload 12, 2) := by decide +kernel
theorem dL_isTold_169 : decode cL_isTold 169 = .ok (.iload 8, 2) := by decide +kernel
theorem dL_isTold_171 : decode cL_isTold 171 = .ok (.if_icmp .ne 106, 3) := by decide +kernel
theorem dL_isTold_174 : decode cL_isTold 174 = .ok (.goto 10, 3) := by decide +kernel
theorem dL_isTold_177 : decode cL_isTold 177 = .ok (.iload 12, 2) := by decide +kernel
theorem dL_isTold_179 : decode cL_isTold 179 = .ok (.iload 8, 2) := by decide +kernel
theorem dL_isTold_181 : decode cL_isTold 181 = .ok (.if_icmp .lt 96, 3) := by decide +kernel
theorem dL_isTold_184 : decode cL_isTold 184 = .ok (.aload_n 0, 1) := by decide +kernel
theorem dL_isTold_185 : decode cL_isTold 185 = .ok (.iconst 0, 1) := by decide +kernel
theorem dL_isTold_186 : decode cL_isTold 186 = .ok (.iconst 0, 1) := by decide +kernel
theorem dL_isTold_187 : decode cL_isTold 187 = .ok (.invokevirtual 23, 3) := by decide +kernel
theorem dL_isTold_190 : decode cL_isTold 190 = .ok (.iload_n 1, 1) := by decide +kernel
theorem dL_isTold_191 : decode cL_isTold 191 = .ok (.if_icmp .ne 86, 3) := by decide +kernel
theorem dL_isTold_194 : decode cL_isTold 194 = .ok (.aload_n 0, 1) := by decide +kernel
theorem dL_isTold_195 : decode cL_isTold 195 = .ok (.iconst 0, 1) := by decide +kernel
theorem dL_isTold_196 : decode cL_isTold 196 = .ok (.iconst 1, 1) := by decide +kernel
theorem dL_isTold_197 : decode cL_isTold 197 = .ok (.invokevirtual 23, 3) := by decide +kernel
theorem dL_isTold_200 : decode cL_isTold 200 = .ok (.iload_n 2, 1) := by decide +kernel
theorem dL_isTold_201 : decode cL_isTold 201 = .ok (.if_icmp .ne 76, 3) := by decide +kernel
theorem dL_isTold_204 : decode cL_isTold 204 = .ok (.aload_n 0, 1) := by decide +kernel
theorem dL_isTold_205 : decode cL_isTold 205 = .ok (.iconst 0, 1) := by decide +kernel
theorem dL_isTold_206 : decode cL_isTold 206 = .ok (.iconst 2, 1) := by decide +kernel
theorem dL_isTold_207 : decode cL_isTold 207 = .ok (.invokevirtual 23, 3) := by decide +kernel
theorem dL_isTold_210 : decode cL_isTold 210 = .ok (.aload_n 0, 1) := by decide +kernel
theorem dL_isTold_211 : decode cL_isTold 211 = .ok (.iload_n 2, 1) := by decide +kernel
theorem dL_isTold_212 : decode cL_isTold 212 = .ok (.iload 4, 2) := by decide +kernel
theorem dL_isTold_214 : decode cL_isTold 214 = .ok (.invokevirtual 26, 3) := by decide +kernel
theorem dL_isTold_217 : decode cL_isTold 217 = .ok (.if_icmp .ne 60, 3) := by decide +kernel
theorem dL_isTold_220 : decode cL_isTold 220 = .ok (.aload_n 0, 1) := by decide +kernel
theorem dL_isTold_221 : decode cL_isTold 221 = .ok (.iconst 0, 1) := by decide +kernel
theorem dL_isTold_222 : decode cL_isTold 222 = .ok (.iconst 3, 1) := by decide +kernel
theorem dL_isTold_223 : decode cL_isTold 223 = .ok (.invokevirtual 23, 3) := by decide +kernel
theorem dL_isTold_226 : decode cL_isTold 226 = .ok (.iload 5, 2) := by decide +kernel
theorem dL_isTold_228 : decode cL_isTold 228 = .ok (.bipush (-5), 2) := by decide +kernel
theorem dL_isTold_230 : decode cL_isTold 230 = .ok (.if_icmp .ne 7, 3) := by decide +kernel
theorem dL_isTold_233 : decode cL_isTold 233 = .ok (.iconst 0, 1) := by decide +kernel
theorem dL_isTold_234 : decode cL_isTold 234 = .ok (.goto 5, 3) := by decide +kernel
theorem dL_isTold_237 : decode cL_isTold 237 = .ok (.iload 5, 2) := by decide +kernel
theorem dL_isTold_239 : decode cL_isTold 239 = .ok (.if_icmp .ne 38, 3) := by decide +kernel
theorem dL_isTold_242 : decode cL_isTold 242 = .ok (.aload_n 0, 1) := by decide +kernel
theorem dL_isTold_243 : decode cL_isTold 243 = .ok (.iconst 0, 1) := by decide +kernel
theorem dL_isTold_244 : decode cL_isTold 244 = .ok (.iconst 4, 1) := by decide +kernel
theorem dL_isTold_245 : decode cL_isTold 245 = .ok (.invokevirtual 23, 3) := by decide +kernel
theorem dL_isTold_248 : decode cL_isTold 248 = .ok (.iload 12, 2) := by decide +kernel
theorem dL_isTold_250 : decode cL_isTold 250 = .ok (.iload 8, 2) := by decide +kernel
theorem dL_isTold_252 : decode cL_isTold 252 = .ok (.if_icmp .le 7, 3) := by decide +kernel
theorem dL_isTold_255 : decode cL_isTold 255 = .ok (.iconst 1, 1) := by decide +kernel
theorem dL_isTold_256 : decode cL_isTold 256 = .ok (.goto 4, 3) := by decide +kernel
theorem dL_isTold_259 : decode cL_isTold 259 = .ok (.iconst 0, 1) := by decide +kernel
theorem dL_isTold_260 : decode cL_isTold 260 = .ok (.if_icmp .ne 17, 3) := by decide +kernel
theorem dL_isTold_263 : decode cL_isTold 263 = .ok (.iload 9, 2) := by decide +kernel
theorem dL_isTold_265 : decode cL_isTold 265 = .ok (.ifCond .gt 8, 3) := by decide +kernel
theorem dL_isTold_268 : decode cL_isTold 268 = .ok (.iload 11, 2) := by decide +kernel
theorem dL_isTold_270 : decode cL_isTold 270 = .ok (.ifCond .ne 7, 3) := by decide +kernel
theorem dL_isTold_273 : decode cL_isTold 273 = .ok (.iconst 1, 1) := by decide +kernel
theorem dL_isTold_274 : decode cL_isTold 274 = .ok (.goto 4, 3) := by decide +kernel
theorem dL_isTold_277 : decode cL_isTold 277 = .ok (.iconst 0, 1) := by decide +kernel
theorem dL_isTold_278 : decode cL_isTold 278 = .ok (.ireturn, 1) := by decide +kernel
set_option maxRecDepth 20000 in
theorem ggL_acts_X5_learn : GoodIn wsL_acts wsX5_learn := goodIn_r _ [5, 6, 7, 8, 4, 9, 10, 11, 12, 13, 14, 15, 16, 17, 18, 19, 20, 21, 22, 23, 24, 25, 26, 27, 28, 29, 30, 31, 32, 33, 34, 35, 36, 37, 38, 39, 40, 41, 42, 43, 44, 324, 325, 326, 327, 328, 329, 330, 331, 332, 333, 334, 335, 336, 337] (by decide +kernel) (by decide +kernel)
set_option maxRecDepth 20000 in
theorem gL_acts_X5_learn : GoodIn wsL_acts (wsV RL 64 RX5 yX5_learn wsX5_learn) := goodIn_app (goodIn_of _ (by decide +kernel)) ggL_acts_X5_learn
set_option maxRecDepth 20000 in
theorem ggL_acts_X5_hearer : GoodIn wsL_acts wsX5_hearer := goodIn_r _ [48, 11, 12, 13, 14, 4, 15, 324, 325, 326, 327, 328, 329, 330, 331, 332, 333, 334] (by decide +kernel) (by decide +kernel)
set_option maxRecDepth 20000 in
theorem gL_acts_X5_hearer : GoodIn wsL_acts (wsV RL 9 RX5 yX5_hearer wsX5_hearer) := goodIn_app (goodIn_of _ (by decide +kernel)) ggL_acts_X5_hearer
set_option maxRecDepth 20000 in
theorem ggL_acts_X5_unlearn : GoodIn wsL_acts wsX5_unlearn := goodIn_r _ [52, 6, 7, 8, 4, 9, 10, 11, 12, 13, 14, 15, 16, 17, 18, 19, 20, 21, 22, 23, 24, 25, 26, 27, 28, 29, 30, 31, 32, 33, 34, 35, 36, 37, 38, 39, 40, 41, 42, 43, 44, 324, 325, 326, 327, 328, 329, 330, 331, 332, 333, 334, 335, 336, 337] (by decide +kernel) (by decide +kernel)
set_option maxRecDepth 20000 in
theorem gL_acts_X5_unlearn : GoodIn wsL_acts (wsV RL 67 RX5 yX5_unlearn wsX5_unlearn) := goodIn_app (goodIn_of _ (by decide +kernel)) ggL_acts_X5_unlearn
set_option maxRecDepth 20000 in
theorem ggL_acts_X5_attend : GoodIn wsL_acts wsX5_attend := goodIn_r _ [56, 10, 11, 12, 13, 14, 4, 15, 19, 20, 21, 22, 23, 24, 25, 26, 27, 28, 29, 30, 31, 32, 33, 34, 35, 36, 37, 38, 39, 40, 41, 42, 43, 44, 324, 325, 326, 327, 328, 329, 330, 331, 332, 333, 334, 335, 336, 337] (by decide +kernel) (by decide +kernel)
set_option maxRecDepth 20000 in
theorem gL_acts_X5_attend : GoodIn wsL_acts (wsV RL 70 RX5 yX5_attend wsX5_attend) := goodIn_app (goodIn_of _ (by decide +kernel)) ggL_acts_X5_attend
set_option maxRecDepth 20000 in
theorem ggL_acts_X5_patience : GoodIn wsL_acts wsX5_patience := goodIn_r _ [60, 11, 61, 324, 325, 326, 327, 328, 329, 330, 331, 332, 333, 334] (by decide +kernel) (by decide +kernel)
set_option maxRecDepth 20000 in
theorem gL_acts_X5_patience : GoodIn wsL_acts (wsV RL 73 RX5 yX5_patience wsX5_patience) := goodIn_app (goodIn_of _ (by decide +kernel)) ggL_acts_X5_patience
set_option maxRecDepth 20000 in
theorem ggL_acts_X5_set : GoodIn wsL_acts wsX5_set := goodIn_r _ [65, 10, 11, 61, 19, 20, 21, 22, 23, 24, 25, 26, 27, 28, 29, 30, 31, 32, 33, 34, 35, 36, 37, 38, 39, 40, 41, 42, 43, 44, 324, 325, 326, 327, 328, 329, 330, 331, 332, 333, 334, 335, 336, 337] (by decide +kernel) (by decide +kernel)
set_option maxRecDepth 20000 in
theorem gL_acts_X5_set : GoodIn wsL_acts (wsV RL 76 RX5 yX5_set wsX5_set) := goodIn_app (goodIn_of _ (by decide +kernel)) ggL_acts_X5_set
set_option maxRecDepth 20000 in
theorem ggL_acts_X5_ways : GoodIn wsL_acts wsX5_ways := goodIn_r _ [69, 70, 71, 72, 73, 4, 74, 75, 76, 77, 78, 79, 80, 81, 82, 29, 83, 84, 28, 30, 85, 86, 87, 88, 89, 90, 91, 92, 93, 94, 95, 96, 97, 98, 99, 100, 101, 102, 103, 104, 105, 106, 107, 108, 109, 110, 111, 324, 325, 326, 327, 328, 329, 338, 339] (by decide +kernel) (by decide +kernel)
set_option maxRecDepth 20000 in
theorem gL_acts_X5_ways : GoodIn wsL_acts (wsV RL 79 RX5 yX5_ways wsX5_ways) := goodIn_app (goodIn_of _ (by decide +kernel)) ggL_acts_X5_ways
set_option maxRecDepth 20000 in
theorem ggL_acts_X5_understood : GoodIn wsL_acts wsX5_understood := goodIn_r _ [115, 70, 71, 13, 14, 4, 15, 72, 73, 74, 75, 76, 77, 78, 79, 80, 81, 82, 29, 83, 84, 28, 30, 85, 86, 87, 88, 89, 90, 91, 92, 93, 94, 95, 96, 97, 98, 99, 100, 101, 102, 103, 104, 105, 106, 107, 108, 109, 110, 111, 116, 117, 118, 119, 120, 121, 122, 123, 11, 12, 124, 125, 126, 127, 128, 129, 130, 131, 132, 133, 134, 135, 136, 137, 138, 139, 140, 141, 142, 143, 144, 145, 146, 147, 148, 149, 150, 151, 152, 153, 154, 155, 156, 157, 158, 159, 160, 161, 162, 163, 164, 165, 166, 167, 168, 169, 170, 171, 172, 173, 174, 175, 176, 177, 178, 179, 180, 181, 182, 183, 184, 185, 186, 187, 188, 189, 190, 191, 192, 193, 194, 195, 196, 197, 198, 199, 200, 201, 202, 203, 324, 325, 326, 327, 328, 329, 338, 339, 330, 331, 332, 333, 334, 340, 341, 342, 343, 344, 345, 346, 347, 348, 349, 350] (by decide +kernel) (by decide +kernel)
set_option maxRecDepth 20000 in
theorem gL_acts_X5_understood : GoodIn wsL_acts (wsV RL 52 RX5 yX5_understood wsX5_understood) := goodIn_app (goodIn_of _ (by decide +kernel)) ggL_acts_X5_understood
set_option maxRecDepth 20000 in
theorem ggL_acts_L_isTyped : GoodIn wsL_acts wsL_isTyped := goodIn_r _ [207, 208, 209, 210, 4, 211, 70, 71, 72, 73, 74, 75, 76, 77, 78, 79, 80, 81, 82, 29, 83, 84, 28, 30, 85, 86, 87, 88, 89, 90, 91, 92, 93, 94, 95, 96, 97, 98, 99, 100, 101, 102, 103, 104, 105, 106, 107, 108, 109, 110, 111, 116, 117, 118, 119, 212, 146, 147, 213, 214, 215, 216, 217, 218, 219, 220, 221, 222, 149, 150, 223, 224, 225, 226, 227, 228, 229, 230, 231, 124, 125, 126, 127, 128, 129, 130, 131, 132, 133, 134, 135, 136, 137, 138, 139, 140, 232, 152, 153, 154, 155, 156, 157, 158, 159, 160, 161, 162, 163, 164, 165, 166, 167, 168, 169, 170, 171, 172, 173, 174, 175, 176, 177, 178, 179, 180, 181, 182, 183, 184, 185, 186, 187, 188, 189, 190, 191, 192, 233, 194, 195, 196, 234, 235, 236, 237, 238, 239, 240, 241, 242, 243, 244, 245, 246, 247, 141, 142, 143, 144, 145, 148, 151, 193, 197, 198, 199, 200, 248, 249, 250, 251, 252, 253, 254, 255, 256, 257, 258, 259, 13, 14, 15, 120, 121, 122, 123, 11, 12, 201, 202, 203, 112, 113, 114, 115, 324, 325, 326, 327, 328, 329, 338, 339, 340, 341, 342, 343, 344, 345, 346, 347, 348, 349, 350, 330, 331, 332, 333, 334] (by decide +kernel) (by decide +kernel)
set_option maxRecDepth 20000 in
theorem gL_acts_L_isTyped : GoodIn wsL_acts (va_wsS RL 82 yL_isTyped wsL_isTyped) := goodIn_app (goodIn_of _ (by decide +kernel)) ggL_acts_L_isTyped
set_option maxRecDepth 20000 in
theorem ggL_acts_X5_tellText : GoodIn wsL_acts wsX5_tellText := goodIn_r _ [263, 13, 14, 4, 15, 238, 229, 230, 231, 124, 217, 227, 125, 126, 127, 128, 129, 130, 131, 132, 133, 134, 135, 136, 137, 138, 139, 140, 232, 152, 153, 154, 155, 156, 157, 158, 159, 160, 161, 162, 163, 164, 165, 166, 167, 168, 169, 170, 171, 172, 173, 174, 175, 176, 177, 178, 179, 180, 181, 182, 183, 184, 185, 186, 187, 188, 189, 190, 191, 192, 233, 194, 195, 196, 239, 240, 241, 242, 243, 93, 94, 95, 244, 245, 246, 247, 141, 142, 143, 144, 145, 146, 147, 148, 149, 150, 151, 193, 197, 198, 199, 200, 264, 265, 266, 267, 10, 11, 12, 19, 20, 21, 22, 23, 24, 25, 26, 27, 28, 29, 30, 31, 32, 33, 34, 35, 36, 37, 38, 39, 40, 41, 42, 43, 44, 120, 121, 122, 123, 268, 269, 270, 271, 61, 272, 273, 274, 275, 276, 277, 278, 279, 280, 281, 282, 283, 212, 324, 325, 326, 327, 328, 329, 340, 341, 342, 343, 344, 345, 346, 347, 348, 349, 350, 330, 331, 332, 333, 334, 335, 336, 337] (by decide +kernel) (by decide +kernel)
set_option maxRecDepth 20000 in
theorem gL_acts_X5_tellText : GoodIn wsL_acts (wsV RL 88 RX5 yX5_tellText wsX5_tellText) := goodIn_app (goodIn_of _ (by decide +kernel)) ggL_acts_X5_tellText
set_option maxRecDepth 20000 in
theorem ggL_acts_X5_log : GoodIn wsL_acts wsX5_log := goodIn_r _ [287, 11, 288, 289, 290, 291, 34, 292, 42, 41, 324, 325, 326, 327, 328, 329, 330, 331, 332, 333, 334] (by decide +kernel) (by decide +kernel)
set_option maxRecDepth 20000 in
theorem gL_acts_X5_log : GoodIn wsL_acts (wsV RL 23 RX5 yX5_log wsX5_log) := goodIn_app (goodIn_of _ (by decide +kernel)) ggL_acts_X5_log
set_option maxRecDepth 20000 in
theorem ggL_acts_X5_wayLength : GoodIn wsL_acts wsX5_wayLength := goodIn_r _ [211, 70, 71, 72, 73, 4, 74, 75, 76, 77, 78, 79, 80, 81, 82, 29, 83, 84, 28, 30, 85, 86, 87, 88, 89, 90, 91, 92, 93, 94, 95, 96, 97, 98, 99, 100, 101, 102, 103, 104, 105, 106, 107, 108, 109, 110, 111, 116, 117, 118, 119, 212, 146, 147, 324, 325, 326, 327, 328, 329, 338, 339] (by decide +kernel) (by decide +kernel)
set_option maxRecDepth 20000 in
theorem gL_acts_X5_wayLength : GoodIn wsL_acts (wsV RL 26 RX5 yX5_wayLength wsX5_wayLength) := goodIn_app (goodIn_of _ (by decide +kernel)) ggL_acts_X5_wayLength
set_option maxRecDepth 20000 in
theorem ggL_acts_L_isTold : GoodIn wsL_acts wsL_isTold := goodIn_r _ [295, 296, 297, 298, 4, 299, 70, 300, 301, 302, 72, 73, 74, 75, 76, 77, 78, 79, 80, 81, 82, 29, 83, 84, 28, 30, 85, 86, 87, 88, 89, 90, 91, 92, 93, 94, 95, 96, 97, 98, 99, 100, 101, 102, 103, 104, 105, 106, 107, 108, 109, 110, 111, 303, 304, 305, 306, 307, 117, 118, 119, 308, 309, 310, 311, 276, 277, 278, 149, 150, 112, 113, 114, 115, 71, 13, 14, 15, 116, 120, 121, 122, 123, 11, 12, 124, 125, 126, 127, 128, 129, 130, 131, 132, 133, 134, 135, 136, 137, 138, 139, 140, 141, 142, 143, 144, 145, 146, 147, 148, 151, 152, 153, 154, 155, 156, 157, 158, 159, 160, 161, 162, 163, 164, 165, 166, 167, 168, 169, 170, 171, 172, 173, 174, 175, 176, 177, 178, 179, 180, 181, 182, 183, 184, 185, 186, 187, 188, 189, 190, 191, 192, 193, 194, 195, 196, 197, 198, 199, 200, 201, 202, 203, 45, 46, 47, 48, 312, 313, 314, 315, 316, 317, 318, 319, 320, 321, 322, 323, 264, 265, 266, 267, 10, 19, 20, 21, 22, 23, 24, 25, 26, 27, 31, 32, 33, 34, 35, 36, 37, 38, 39, 40, 41, 42, 43, 44, 268, 269, 270, 271, 61, 272, 273, 274, 275, 279, 280, 281, 282, 283, 212, 284, 285, 286, 287, 288, 289, 290, 291, 292, 208, 209, 210, 211, 324, 325, 326, 327, 328, 329, 338, 339, 330, 331, 332, 333, 334, 340, 341, 342, 343, 344, 345, 346, 347, 348, 349, 350, 335, 336, 337] (by decide +kernel) (by decide +kernel)
set_option maxRecDepth 20000 in
theorem gL_acts_L_isTold : GoodIn wsL_acts (va_wsS RL 91 yL_isTold wsL_isTold) := goodIn_app (goodIn_of _ (by decide +kernel)) ggL_acts_L_isTold
theorem dL_acts_0 : decode cL_acts 0 = .ok (.iload_n 1, 1) := by decide +kernel
theorem dL_acts_1 : decode cL_acts 1 = .ok (.iconst 4, 1) := by decide +kernel
theorem dL_acts_2 : decode cL_acts 2 = .ok (.ishr, 1) := by decide +kernel
theorem dL_acts_3 : decode cL_acts 3 = .ok (.bipush 6, 2) := by decide +kernel
theorem dL_acts_5 : decode cL_acts 5 = .ok (.irem, 1) := by decide +kernel
theorem dL_acts_6 : decode cL_acts 6 = .ok (.istore_n 2, 1) := by decide +kernel
theorem dL_acts_7 : decode cL_acts 7 = .ok (.iload_n 1, 1) := by decide +kernel
theorem dL_acts_8 : decode cL_acts 8 = .ok (.bipush 7, 2) := by decide +kernel
theorem dL_acts_10 : decode cL_acts 10 = .ok (.ishr, 1) := by decide +kernel
theorem dL_acts_11 : decode cL_acts 11 = .ok (.iconst 3, 1) := by decide +kernel
theorem dL_acts_12 : decode cL_acts 12 = .ok (.irem, 1) := by decide +kernel
theorem dL_acts_13 : decode cL_acts 13 = .ok (.istore_n 3, 1) := by decide +kernel
theorem dL_acts_14 : decode cL_acts 14 = .ok (.iload_n 1, 1) := by decide +kernel
theorem dL_acts_15 : decode cL_acts 15 = .ok (.iconst 3, 1) := by decide +kernel
theorem dL_acts_16 : decode cL_acts 16 = .ok (.ishr, 1) := by decide +kernel
theorem dL_acts_17 : decode cL_acts 17 = .ok (.iconst 2, 1) := by decide +kernel
theorem dL_acts_18 : decode cL_acts 18 = .ok (.irem, 1) := by decide +kernel
theorem dL_acts_19 : decode cL_acts 19 = .ok (.ifCond .ne 16, 3) := by decide +kernel
theorem dL_acts_22 : decode cL_acts 22 = .ok (.iconst 1, 1) := by decide +kernel
theorem dL_acts_23 : decode cL_acts 23 = .ok (.iload_n 1, 1) := by decide +kernel
theorem dL_acts_24 : decode cL_acts 24 = .ok (.bipush 9, 2) := by decide +kernel
theorem dL_acts_26 : decode cL_acts 26 = .ok (.ishr, 1) := by decide +kernel
theorem dL_acts_27 : decode cL_acts 27 = .ok (.sipush 450, 3) := by decide +kernel
theorem dL_acts_30 : decode cL_acts 30 = .ok (.irem, 1) := by decide +kernel
theorem dL_acts_31 : decode cL_acts 31 = .ok (.iadd, 1) := by decide +kernel
theorem dL_acts_32 : decode cL_acts 32 = .ok (.goto 13, 3) := by decide +kernel
theorem dL_acts_35 : decode cL_acts 35 = .ok (.iconst 1, 1) := by decide +kernel
theorem dL_acts_36 : decode cL_acts 36 = .ok (.iload_n 1, 1) := by decide +kernel
theorem dL_acts_37 : decode cL_acts 37 = .ok (.bipush 9, 2) := by decide +kernel
theorem dL_acts_39 : decode cL_acts 39 = .ok (.ishr, 1) := by decide +kernel
theorem dL_acts_40 : decode cL_acts 40 = .ok (.sipush 7999, 3) := by decide +kernel
theorem dL_acts_43 : decode cL_acts 43 = .ok (.irem, 1) := by decide +kernel
theorem dL_acts_44 : decode cL_acts 44 = .ok (.iadd, 1) := by decide +kernel
theorem dL_acts_45 : decode cL_acts 45 = .ok (.istore 4, 2) := by decide +kernel
theorem dL_acts_47 : decode cL_acts 47 = .ok (.iload_n 1, 1) := by decide +kernel
theorem dL_acts_48 : decode cL_acts 48 = .ok (.bipush 8, 2) := by decide +kernel
theorem dL_acts_50 : decode cL_acts 50 = .ok (.irem, 1) := by decide +kernel
theorem dL_acts_51 : decode cL_acts 51 = .ok (.tableswitch 320 0 5 #[37, 74, 74, 110, 163, 209], 37) := by decide +kernel
theorem dL_acts_88 : decode cL_acts 88 = .ok (.aload_n 0, 1) := by decide +kernel
theorem dL_acts_89 : decode cL_acts 89 = .ok (.iload_n 2, 1) := by decide +kernel
theorem dL_acts_90 : decode cL_acts 90 = .ok (.iload_n 3, 1) := by decide +kernel
theorem dL_acts_91 : decode cL_acts 91 = .ok (.invokevirtual 64, 3) := by decide +kernel
theorem dL_acts_94 : decode cL_acts 94 = .ok (.iconst 1, 1) := by decide +kernel
theorem dL_acts_95 : decode cL_acts 95 = .ok (.if_icmp .lt 28, 3) := by decide +kernel
theorem dL_acts_98 : decode cL_acts 98 = .ok (.aload_n 0, 1) := by decide +kernel
theorem dL_acts_99 : decode cL_acts 99 = .ok (.iload_n 2, 1) := by decide +kernel
theorem dL_acts_100 : decode cL_acts 100 = .ok (.iload_n 3, 1) := by decide +kernel
theorem dL_acts_101 : decode cL_acts 101 = .ok (.invokevirtual 9, 3) := by decide +kernel
theorem dL_acts_104 : decode cL_acts 104 = .ok (.iconst 1, 1) := by decide +kernel
theorem dL_acts_105 : decode cL_acts 105 = .ok (.if_icmp .ne 18, 3) := by decide +kernel
theorem dL_acts_108 : decode cL_acts 108 = .ok (.aload_n 0, 1) := by decide +kernel
theorem dL_acts_109 : decode cL_acts 109 = .ok (.iload_n 2, 1) := by decide +kernel
theorem dL_acts_110 : decode cL_acts 110 = .ok (.iconst 3, 1) := by decide +kernel
theorem dL_acts_111 : decode cL_acts 111 = .ok (.iload_n 3, 1) := by decide +kernel
theorem dL_acts_112 : decode cL_acts 112 = .ok (.iadd, 1) := by decide +kernel
theorem dL_acts_113 : decode cL_acts 113 = .ok (.invokevirtual 9, 3) := by decide +kernel
theorem dL_acts_116 : decode cL_acts 116 = .ok (.ifCond .ne 7, 3) := by decide +kernel
theorem dL_acts_119 : decode cL_acts 119 = .ok (.iconst 1, 1) := by decide +kernel
theorem dL_acts_120 : decode cL_acts 120 = .ok (.goto 4, 3) := by decide +kernel
theorem dL_acts_123 : decode cL_acts 123 = .ok (.iconst 0, 1) := by decide +kernel
theorem dL_acts_124 : decode cL_acts 124 = .ok (.ireturn, 1) := by decide +kernel
theorem dL_acts_125 : decode cL_acts 125 = .ok (.aload_n 0, 1) := by decide +kernel
theorem dL_acts_126 : decode cL_acts 126 = .ok (.iload_n 2, 1) := by decide +kernel
theorem dL_acts_127 : decode cL_acts 127 = .ok (.iload_n 3, 1) := by decide +kernel
theorem dL_acts_128 : decode cL_acts 128 = .ok (.invokevirtual 67, 3) := by decide +kernel
theorem dL_acts_131 : decode cL_acts 131 = .ok (.iconst 2, 1) := by decide +kernel
theorem dL_acts_132 : decode cL_acts 132 = .ok (.if_icmp .gt 27, 3) := by decide +kernel
theorem dL_acts_135 : decode cL_acts 135 = .ok (.aload_n 0, 1) := by decide +kernel
theorem dL_acts_136 : decode cL_acts 136 = .ok (.iload_n 2, 1) := by decide +kernel
theorem dL_acts_137 : decode cL_acts 137 = .ok (.iload_n 3, 1) := by decide +kernel
theorem dL_acts_138 : decode cL_acts 138 = .ok (.invokevirtual 9, 3) := by decide +kernel
theorem dL_acts_141 : decode cL_acts 141 = .ok (.ifCond .ne 18, 3) := by decide +kernel
theorem dL_acts_144 : decode cL_acts 144 = .ok (.aload_n 0, 1) := by decide +kernel
theorem dL_acts_145 : decode cL_acts 145 = .ok (.iload_n 2, 1) := by decide +kernel
theorem dL_acts_146 : decode cL_acts 146 = .ok (.iconst 3, 1) := by decide +kernel
theorem dL_acts_147 : decode cL_acts 147 = .ok (.iload_n 3, 1) := by decide +kernel
theorem dL_acts_148 : decode cL_acts 148 = .ok (.iadd, 1) := by decide +kernel
theorem dL_acts_149 : decode cL_acts 149 = .ok (.invokevirtual 9, 3) := by decide +kernel
theorem dL_acts_152 : decode cL_acts 152 = .ok (.ifCond .ne 7, 3) := by decide +kernel
theorem dL_acts_155 : decode cL_acts 155 = .ok (.iconst 1, 1) := by decide +kernel
theorem dL_acts_156 : decode cL_acts 156 = .ok (.goto 4, 3) := by decide +kernel
theorem dL_acts_159 : decode cL_acts 159 = .ok (.iconst 0, 1) := by decide +kernel
theorem dL_acts_160 : decode cL_acts 160 = .ok (.ireturn, 1) := by decide +kernel
theorem dL_acts_161 : decode cL_acts 161 = .ok (.aload_n 0, 1) := by decide +kernel
theorem dL_acts_162 : decode cL_acts 162 = .ok (.iload_n 2, 1) := by decide +kernel
theorem dL_acts_163 : decode cL_acts 163 = .ok (.bipush 6, 2) := by decide +kernel
theorem dL_acts_165 : decode cL_acts 165 = .ok (.invokevirtual 9, 3) := by decide +kernel
theorem dL_acts_168 : decode cL_acts 168 = .ok (.istore 5, 2) := by decide +kernel
theorem dL_acts_170 : decode cL_acts 170 = .ok (.aload_n 0, 1) := by decide +kernel
theorem dL_acts_171 : decode cL_acts 171 = .ok (.iload_n 2, 1) := by decide +kernel
theorem dL_acts_172 : decode cL_acts 172 = .ok (.iconst 1, 1) := by decide +kernel
theorem dL_acts_173 : decode cL_acts 173 = .ok (.iload_n 1, 1) := by decide +kernel
theorem dL_acts_174 : decode cL_acts 174 = .ok (.bipush 9, 2) := by decide +kernel
theorem dL_acts_176 : decode cL_acts 176 = .ok (.ishr, 1) := by decide +kernel
theorem dL_acts_177 : decode cL_acts 177 = .ok (.bipush 12, 2) := by decide +kernel
theorem dL_acts_179 : decode cL_acts 179 = .ok (.irem, 1) := by decide +kernel
theorem dL_acts_180 : decode cL_acts 180 = .ok (.iadd, 1) := by decide +kernel
theorem dL_acts_181 : decode cL_acts 181 = .ok (.invokevirtual 70, 3) := by decide +kernel
theorem dL_acts_184 : decode cL_acts 184 = .ok (.iload 5, 2) := by decide +kernel
theorem dL_acts_186 : decode cL_acts 186 = .ok (.if_icmp .ne 26, 3) := by decide +kernel
theorem dL_acts_189 : decode cL_acts 189 = .ok (.aload_n 0, 1) := by decide +kernel
theorem dL_acts_190 : decode cL_acts 190 = .ok (.iload_n 2, 1) := by decide +kernel
theorem dL_acts_191 : decode cL_acts 191 = .ok (.bipush 6, 2) := by decide +kernel
theorem dL_acts_193 : decode cL_acts 193 = .ok (.invokevirtual 9, 3) := by decide +kernel
theorem dL_acts_196 : decode cL_acts 196 = .ok (.iconst 1, 1) := by decide +kernel
theorem dL_acts_197 : decode cL_acts 197 = .ok (.iload_n 1, 1) := by decide +kernel
theorem dL_acts_198 : decode cL_acts 198 = .ok (.bipush 9, 2) := by decide +kernel
theorem dL_acts_200 : decode cL_acts 200 = .ok (.ishr, 1) := by decide +kernel
theorem dL_acts_201 : decode cL_acts 201 = .ok (.bipush 12, 2) := by decide +kernel
theorem dL_acts_203 : decode cL_acts 203 = .ok (.irem, 1) := by decide +kernel
theorem dL_acts_204 : decode cL_acts 204 = .ok (.iadd, 1) := by decide +kernel
theorem dL_acts_205 : decode cL_acts 205 = .ok (.if_icmp .ne 7, 3) := by decide +kernel
theorem dL_acts_208 : decode cL_acts 208 = .ok (.iconst 1, 1) := by decide +kernel
theorem dL_acts_209 : decode cL_acts 209 = .ok (.goto 4, 3) := by decide +kernel
theorem dL_acts_212 : decode cL_acts 212 = .ok (.iconst 0, 1) := by decide +kernel
theorem dL_acts_213 : decode cL_acts 213 = .ok (.ireturn, 1) := by decide +kernel
theorem dL_acts_214 : decode cL_acts 214 = .ok (.aload_n 0, 1) := by decide +kernel
theorem dL_acts_215 : decode cL_acts 215 = .ok (.invokevirtual 73, 3) := by decide +kernel
theorem dL_acts_218 : decode cL_acts 218 = .ok (.istore 6, 2) := by decide +kernel
theorem dL_acts_220 : decode cL_acts 220 = .ok (.aload_n 0, 1) := by decide +kernel
theorem dL_acts_221 : decode cL_acts 221 = .ok (.iconst 1, 1) := by decide +kernel
theorem dL_acts_222 : decode cL_acts 222 = .ok (.iload_n 1, 1) := by decide +kernel
theorem dL_acts_223 : decode cL_acts 223 = .ok (.bipush 9, 2) := by decide +kernel
theorem dL_acts_225 : decode cL_acts 225 = .ok (.ishr, 1) := by decide +kernel
theorem dL_acts_226 : decode cL_acts 226 = .ok (.bipush 9, 2) := by decide +kernel
theorem dL_acts_228 : decode cL_acts 228 = .ok (.irem, 1) := by decide +kernel
theorem dL_acts_229 : decode cL_acts 229 = .ok (.iadd, 1) := by decide +kernel
theorem dL_acts_230 : decode cL_acts 230 = .ok (.invokevirtual 76, 3) := by decide +kernel
theorem dL_acts_233 : decode cL_acts 233 = .ok (.iload 6, 2) := by decide +kernel
theorem dL_acts_235 : decode cL_acts 235 = .ok (.if_icmp .ne 23, 3) := by decide +kernel
theorem dL_acts_238 : decode cL_acts 238 = .ok (.aload_n 0, 1) := by decide +kernel
theorem dL_acts_239 : decode cL_acts 239 = .ok (.invokevirtual 73, 3) := by decide +kernel
theorem dL_acts_242 : decode cL_acts 242 = .ok (.iconst 1, 1) := by decide +kernel
theorem dL_acts_243 : decode cL_acts 243 = .ok (.iload_n 1, 1) := by decide +kernel
theorem dL_acts_244 : decode cL_acts 244 = .ok (.bipush 9, 2) := by decide +kernel
theorem dL_acts_246 : decode cL_acts 246 = .ok (.ishr, 1) := by decide +kernel
theorem dL_acts_247 : decode cL_acts 247 = .ok (.bipush 9, 2) := by decide +kernel
theorem dL_acts_249 : decode cL_acts 249 = .ok (.irem, 1) := by decide +kernel
theorem dL_acts_250 : decode cL_acts 250 = .ok (.iadd, 1) := by decide +kernel
theorem dL_acts_251 : decode cL_acts 251 = .ok (.if_icmp .ne 7, 3) := by decide +kernel
theorem dL_acts_254 : decode cL_acts 254 = .ok (.iconst 1, 1) := by decide +kernel
theorem dL_acts_255 : decode cL_acts 255 = .ok (.goto 4, 3) := by decide +kernel
theorem dL_acts_258 : decode cL_acts 258 = .ok (.iconst 0, 1) := by decide +kernel
theorem dL_acts_259 : decode cL_acts 259 = .ok (.ireturn, 1) := by decide +kernel
theorem dL_acts_260 : decode cL_acts 260 = .ok (.iload_n 1, 1) := by decide +kernel
theorem dL_acts_261 : decode cL_acts 261 = .ok (.bipush 24, 2) := by decide +kernel
theorem dL_acts_263 : decode cL_acts 263 = .ok (.ishr, 1) := by decide +kernel
theorem dL_acts_264 : decode cL_acts 264 = .ok (.aload_n 0, 1) := by decide +kernel
theorem dL_acts_265 : decode cL_acts 265 = .ok (.iload 4, 2) := by decide +kernel
theorem dL_acts_267 : decode cL_acts 267 = .ok (.invokevirtual 79, 3) := by decide +kernel
theorem dL_acts_270 : decode cL_acts 270 = .ok (.irem, 1) := by decide +kernel
theorem dL_acts_271 : decode cL_acts 271 = .ok (.istore 7, 2) := by decide +kernel
theorem dL_acts_273 : decode cL_acts 273 = .ok (.aload_n 0, 1) := by decide +kernel
theorem dL_acts_274 : decode cL_acts 274 = .ok (.iload_n 2, 1) := by decide +kernel
theorem dL_acts_275 : decode cL_acts 275 = .ok (.iload 4, 2) := by decide +kernel
theorem dL_acts_277 : decode cL_acts 277 = .ok (.iload 7, 2) := by decide +kernel
theorem dL_acts_279 : decode cL_acts 279 = .ok (.invokevirtual 52, 3) := by decide +kernel
theorem dL_acts_282 : decode cL_acts 282 = .ok (.istore 8, 2) := by decide +kernel
theorem dL_acts_284 : decode cL_acts 284 = .ok (.aload_n 0, 1) := by decide +kernel
theorem dL_acts_285 : decode cL_acts 285 = .ok (.iload 4, 2) := by decide +kernel
theorem dL_acts_287 : decode cL_acts 287 = .ok (.iload 7, 2) := by decide +kernel
theorem dL_acts_289 : decode cL_acts 289 = .ok (.invokestatic 82, 3) := by decide +kernel
theorem dL_acts_292 : decode cL_acts 292 = .ok (.ifCond .eq 77, 3) := by decide +kernel
theorem dL_acts_295 : decode cL_acts 295 = .ok (.aload_n 0, 1) := by decide +kernel
theorem dL_acts_296 : decode cL_acts 296 = .ok (.iload_n 2, 1) := by decide +kernel
theorem dL_acts_297 : decode cL_acts 297 = .ok (.invokevirtual 88, 3) := by decide +kernel
theorem dL_acts_300 : decode cL_acts 300 = .ok (.iload 8, 2) := by decide +kernel
theorem dL_acts_302 : decode cL_acts 302 = .ok (.iload 4, 2) := by decide +kernel
theorem dL_acts_304 : decode cL_acts 304 = .ok (.if_icmp .ne 7, 3) := by decide +kernel
theorem dL_acts_307 : decode cL_acts 307 = .ok (.iconst 1, 1) := by decide +kernel
theorem dL_acts_308 : decode cL_acts 308 = .ok (.goto 4, 3) := by decide +kernel
theorem dL_acts_311 : decode cL_acts 311 = .ok (.iconst 0, 1) := by decide +kernel
theorem dL_acts_312 : decode cL_acts 312 = .ok (.if_icmp .ne 57, 3) := by decide +kernel
theorem dL_acts_315 : decode cL_acts 315 = .ok (.aload_n 0, 1) := by decide +kernel
theorem dL_acts_316 : decode cL_acts 316 = .ok (.iconst 0, 1) := by decide +kernel
theorem dL_acts_317 : decode cL_acts 317 = .ok (.iconst 1, 1) := by decide +kernel
theorem dL_acts_318 : decode cL_acts 318 = .ok (.invokevirtual 23, 3) := by decide +kernel
theorem dL_acts_321 : decode cL_acts 321 = .ok (.iload 4, 2) := by decide +kernel
theorem dL_acts_323 : decode cL_acts 323 = .ok (.if_icmp .ne 46, 3) := by decide +kernel
theorem dL_acts_326 : decode cL_acts 326 = .ok (.aload_n 0, 1) := by decide +kernel
theorem dL_acts_327 : decode cL_acts 327 = .ok (.iconst 0, 1) := by decide +kernel
theorem dL_acts_328 : decode cL_acts 328 = .ok (.iconst 2, 1) := by decide +kernel
theorem dL_acts_329 : decode cL_acts 329 = .ok (.invokevirtual 23, 3) := by decide +kernel
theorem dL_acts_332 : decode cL_acts 332 = .ok (.aload_n 0, 1) := by decide +kernel
theorem dL_acts_333 : decode cL_acts 333 = .ok (.iload 4, 2) := by decide +kernel
theorem dL_acts_335 : decode cL_acts 335 = .ok (.iload 7, 2) := by decide +kernel
theorem dL_acts_337 : decode cL_acts 337 = .ok (.invokevirtual 26, 3) := by decide +kernel
theorem dL_acts_340 : decode cL_acts 340 = .ok (.if_icmp .ne 29, 3) := by decide +kernel
theorem dL_acts_343 : decode cL_acts 343 = .ok (.aload_n 0, 1) := by decide +kernel
theorem dL_acts_344 : decode cL_acts 344 = .ok (.iconst 0, 1) := by decide +kernel
theorem dL_acts_345 : decode cL_acts 345 = .ok (.iconst 3, 1) := by decide +kernel
theorem dL_acts_346 : decode cL_acts 346 = .ok (.invokevirtual 23, 3) := by decide +kernel
theorem dL_acts_349 : decode cL_acts 349 = .ok (.iload 8, 2) := by decide +kernel
theorem dL_acts_351 : decode cL_acts 351 = .ok (.bipush (-5), 2) := by decide +kernel
theorem dL_acts_353 : decode cL_acts 353 = .ok (.if_icmp .ne 7, 3) := by decide +kernel
theorem dL_acts_356 : decode cL_acts 356 = .ok (.iconst 0, 1) := by decide +kernel
theorem dL_acts_357 : decode cL_acts 357 = .ok (.goto 5, 3) := by decide +kernel
theorem dL_acts_360 : decode cL_acts 360 = .ok (.iload 8, 2) := by decide +kernel
theorem dL_acts_362 : decode cL_acts 362 = .ok (.if_icmp .ne 7, 3) := by decide +kernel
theorem dL_acts_365 : decode cL_acts 365 = .ok (.iconst 1, 1) := by decide +kernel
theorem dL_acts_366 : decode cL_acts 366 = .ok (.goto 4, 3) := by decide +kernel
theorem dL_acts_369 : decode cL_acts 369 = .ok (.iconst 0, 1) := by decide +kernel
theorem dL_acts_370 : decode cL_acts 370 = .ok (.ireturn, 1) := by decide +kernel
theorem dL_acts_371 : decode cL_acts 371 = .ok (.aload_n 0, 1) := by decide +kernel
theorem dL_acts_372 : decode cL_acts 372 = .ok (.iload_n 2, 1) := by decide +kernel
theorem dL_acts_373 : decode cL_acts 373 = .ok (.iload 4, 2) := by decide +kernel
theorem dL_acts_375 : decode cL_acts 375 = .ok (.iload_n 1, 1) := by decide +kernel
theorem dL_acts_376 : decode cL_acts 376 = .ok (.bipush 24, 2) := by decide +kernel
theorem dL_acts_378 : decode cL_acts 378 = .ok (.ishr, 1) := by decide +kernel
theorem dL_acts_379 : decode cL_acts 379 = .ok (.iconst 4, 1) := by decide +kernel
theorem dL_acts_380 : decode cL_acts 380 = .ok (.irem, 1) := by decide +kernel
theorem dL_acts_381 : decode cL_acts 381 = .ok (.invokestatic 91, 3) := by decide +kernel
theorem dL_acts_384 : decode cL_acts 384 = .ok (.ireturn, 1) := by decide +kernel
set_option maxRecDepth 20000 in
theorem ggL_law_X5_init : GoodIn wsL_law wsX5_init := goodIn_r _ [5, 6, 7, 8, 9, 10, 11, 12, 13, 14, 15, 16, 17, 18, 19, 20, 21, 22, 23, 24, 25, 26, 27, 28, 29, 30, 31, 32, 33, 34, 35, 36, 37, 38, 39, 40, 41, 42, 43, 44, 45, 46, 47, 48, 49, 50, 51, 52, 53, 54, 55, 56, 413, 414, 415, 416, 417, 407, 408, 409, 410, 411, 412, 418, 419, 420, 421, 422, 423, 424, 425, 426, 427, 428, 429, 430, 431, 432, 433] (by decide +kernel) (by decide +kernel)
set_option maxRecDepth 20000 in
theorem gL_law_X5_init : GoodIn wsL_law (wsX5_init) := ggL_law_X5_init
set_option maxRecDepth 20000 in
theorem ggL_law_X5_undo : GoodIn wsL_law wsX5_undo := goodIn_r _ [60, 16, 12, 61, 62, 63, 15, 64, 46, 45, 44, 65, 66, 67, 11, 68, 34, 69, 70, 71, 72, 35, 36, 37, 38, 407, 408, 409, 410, 411, 412, 418, 419, 420, 413, 414, 415, 416, 417] (by decide +kernel) (by decide +kernel)
set_option maxRecDepth 20000 in
theorem gL_law_X5_undo : GoodIn wsL_law (wsV RL 96 RX5 yX5_undo wsX5_undo) := goodIn_app (goodIn_of _ (by decide +kernel)) ggL_law_X5_undo
set_option maxRecDepth 20000 in
theorem ggL_law_X5_fault : GoodIn wsL_law wsX5_fault := goodIn_r _ [76, 27, 19, 18, 77, 78, 79, 26, 80, 81, 82, 83, 84, 85, 86, 87, 88, 89, 90, 91, 92, 93, 94, 95, 96, 97, 98, 99, 100, 101, 102, 103, 104, 105, 106, 107, 108, 109, 110, 111, 112, 113, 114, 115, 116, 117, 118, 119, 120, 121, 122, 123, 124, 125, 126, 127, 128, 129, 130, 131, 132, 133, 134, 135, 136, 137, 407, 408, 409, 410, 411, 412, 423, 424, 425, 426, 427, 428, 429, 430, 431, 432, 433] (by decide +kernel) (by decide +kernel)
set_option maxRecDepth 20000 in
theorem gL_law_X5_fault : GoodIn wsL_law (wsV RL 40 RX5 yX5_fault wsX5_fault) := goodIn_app (goodIn_of _ (by decide +kernel)) ggL_law_X5_fault
