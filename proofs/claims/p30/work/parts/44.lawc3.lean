set_option maxRecDepth 20000 in
theorem ggq_acts_r1 : GoodIn wsL_law wsL_acts_r1 := goodIn_r _ [284, 285, 286, 2, 287, 288, 289, 290, 291, 16, 12, 182, 175, 176, 177, 292, 293, 294, 183, 184, 185, 15, 186, 45] (by decide +kernel) (by decide +kernel)
set_option maxRecDepth 20000 in
theorem ggq_acts_r2 : GoodIn wsL_law wsL_acts_r2 := goodIn_r _ [44, 46, 187, 188, 189, 190, 65, 66, 67, 11, 68, 34, 69, 70, 71, 72, 35, 36, 37, 38, 295, 296, 297, 298] (by decide +kernel) (by decide +kernel)
set_option maxRecDepth 20000 in
theorem ggq_acts_r3 : GoodIn wsL_law wsL_acts_r3 := goodIn_r _ [299, 300, 301, 302, 303, 304, 305, 306, 271, 272, 273, 274, 199, 307, 308, 309, 310, 311, 312, 313, 314, 23, 315, 316] (by decide +kernel) (by decide +kernel)
set_option maxRecDepth 20000 in
theorem ggq_acts_r4 : GoodIn wsL_law wsL_acts_r4 := goodIn_r _ [317, 318, 217, 218, 219, 22, 220, 53, 221, 222, 223, 224, 225, 226, 227, 228, 229, 230, 231, 232, 148, 149, 150, 233] (by decide +kernel) (by decide +kernel)
set_option maxRecDepth 20000 in
theorem ggq_acts_r5 : GoodIn wsL_law wsL_acts_r5 := goodIn_r _ [234, 235, 236, 52, 237, 238, 239, 240, 241, 242, 243, 244, 245, 246, 247, 319, 320, 321, 322, 323, 324, 325, 326, 191] (by decide +kernel) (by decide +kernel)
set_option maxRecDepth 20000 in
theorem ggq_acts_r6 : GoodIn wsL_law wsL_acts_r6 := goodIn_r _ [192, 193, 194, 27, 77, 78, 79, 26, 80, 81, 82, 83, 84, 85, 86, 87, 88, 89, 90, 91, 155, 156, 157, 158] (by decide +kernel) (by decide +kernel)
set_option maxRecDepth 20000 in
theorem ggq_acts_r7 : GoodIn wsL_law wsL_acts_r7 := goodIn_r _ [159, 160, 161, 162, 163, 164, 165, 93, 94, 95, 96, 97, 98, 99, 100, 101, 102, 103, 104, 105, 106, 107, 108, 109] (by decide +kernel) (by decide +kernel)
set_option maxRecDepth 20000 in
theorem ggq_acts_r8 : GoodIn wsL_law wsL_acts_r8 := goodIn_r _ [110, 111, 112, 113, 114, 115, 116, 117, 118, 119, 120, 121, 122, 123, 124, 125, 126, 127, 128, 129, 130, 131, 132, 133] (by decide +kernel) (by decide +kernel)
set_option maxRecDepth 20000 in
theorem ggq_acts_r9 : GoodIn wsL_law wsL_acts_r9 := goodIn_r _ [166, 135, 136, 137, 167, 168, 169, 170, 256, 257, 258, 327, 328, 277, 329, 330, 331, 332, 333, 212, 334, 335, 336, 337] (by decide +kernel) (by decide +kernel)
set_option maxRecDepth 20000 in
theorem ggq_acts_r10 : GoodIn wsL_law wsL_acts_r10 := goodIn_r _ [19, 338, 339, 340, 341, 342, 343, 344, 345, 346, 18, 73, 74, 75, 76, 92, 134, 138, 139, 140, 141, 142, 143, 144] (by decide +kernel) (by decide +kernel)
set_option maxRecDepth 20000 in
theorem ggq_acts_r11 : GoodIn wsL_law wsL_acts_r11 := goodIn_r _ [145, 146, 147, 151, 152, 153, 154, 213, 214, 215, 216, 248, 249, 250, 251, 252, 253, 254, 255, 171, 172, 173, 174, 178] (by decide +kernel) (by decide +kernel)
set_option maxRecDepth 20000 in
theorem ggq_acts_r12 : GoodIn wsL_law wsL_acts_r12 := goodIn_r _ [179, 180, 181, 195, 196, 197, 198, 200, 201, 202, 203, 204, 205, 206, 207, 208, 209, 210, 211, 347, 348, 349, 350, 351] (by decide +kernel) (by decide +kernel)
set_option maxRecDepth 20000 in
theorem ggq_acts_r13 : GoodIn wsL_law wsL_acts_r13 := goodIn_r _ [352, 353, 354, 355, 356, 357, 358, 359, 360, 361, 362, 363, 364, 365, 366, 367, 368, 369, 370, 371, 372, 373, 374, 375] (by decide +kernel) (by decide +kernel)
set_option maxRecDepth 20000 in
theorem ggq_acts_r14 : GoodIn wsL_law wsL_acts_r14 := goodIn_r _ [376, 377, 378, 379, 380, 381, 382, 383, 384, 385, 386] (by decide +kernel) (by decide +kernel)
theorem ggq_acts_X50 : GoodIn wsL_law wsX50 := goodIn_r _ [407, 408, 409, 410, 411, 412] (by decide +kernel) (by decide +kernel)
theorem ggq_acts_X30 : GoodIn wsL_law wsX30 := goodIn_r _ [413, 414, 415, 416, 417] (by decide +kernel) (by decide +kernel)
theorem ggq_acts_X10 : GoodIn wsL_law wsX10 := goodIn_r _ [418, 419, 420] (by decide +kernel) (by decide +kernel)
theorem ggq_acts_X40 : GoodIn wsL_law wsX40 := goodIn_r _ [421, 422] (by decide +kernel) (by decide +kernel)
theorem ggq_acts_X00 : GoodIn wsL_law wsX00 := goodIn_r _ [423, 424, 425, 426, 427, 428, 429, 430, 431, 432, 433] (by decide +kernel) (by decide +kernel)
theorem ggq_acts_c : GoodIn wsL_law [Cond.code yL_acts cL_acts 9 (some .boolean)] := goodIn_r _ [283] (by decide +kernel) (by decide +kernel)
theorem ggL_law_L_acts : GoodIn wsL_law wsL_acts := by
  unfold wsL_acts
  exact fun w h => (List.mem_cons.mp h).elim (fun e => by rw [e]; exact ggq_acts_c _ List.mem_cons_self) ((goodIn_app (goodIn_app (goodIn_app (goodIn_app (goodIn_app (goodIn_app ggq_acts_r1 (goodIn_app ggq_acts_r2 (goodIn_app ggq_acts_r3 (goodIn_app ggq_acts_r4 (goodIn_app ggq_acts_r5 (goodIn_app ggq_acts_r6 (goodIn_app ggq_acts_r7 (goodIn_app ggq_acts_r8 (goodIn_app ggq_acts_r9 (goodIn_app ggq_acts_r10 (goodIn_app ggq_acts_r11 (goodIn_app ggq_acts_r12 (goodIn_app ggq_acts_r13 ggq_acts_r14))))))))))))) ggq_acts_X50) ggq_acts_X30) ggq_acts_X10) ggq_acts_X40) ggq_acts_X00) w)
