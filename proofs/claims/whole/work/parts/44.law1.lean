theorem dJ9_min_7cf53_5 : decode cJ9_min_7cf53 5 = .ok (.iload_n 0, 1) := by decide +kernel
theorem dJ9_min_7cf53_6 : decode cJ9_min_7cf53 6 = .ok (.goto 4, 3) := by decide +kernel
theorem dJ9_min_7cf53_9 : decode cJ9_min_7cf53 9 = .ok (.iload_n 1, 1) := by decide +kernel
theorem dJ9_min_7cf53_10 : decode cJ9_min_7cf53 10 = .ok (.ireturn, 1) := by decide +kernel
set_option maxRecDepth 20000 in
theorem ggL_law_X5_init : GoodIn wsL_law wsX5_init := goodIn_r _ [8, 9, 10, 11, 12, 13, 14, 15, 16, 17, 18, 19, 20, 21, 22, 23, 24, 25, 26, 27, 28, 29, 30, 31, 32, 33, 34, 35, 36, 37, 38, 39, 40, 41, 42, 43, 44, 45, 46, 47, 48, 49, 50, 51, 52, 53, 54, 55, 56, 57, 58, 59, 698, 699, 700, 701, 702, 674, 675, 676, 677, 678, 679, 703, 704, 705, 706, 707, 708, 709, 710, 711, 712, 713, 714, 715, 716, 717, 718] (by decide +kernel) (by decide +kernel)
set_option maxRecDepth 20000 in
theorem gL_law_X5_init : GoodIn wsL_law (wsX5_init) := ggL_law_X5_init
set_option maxRecDepth 20000 in
theorem ggL_law_X6_init : GoodIn wsL_law wsX6_init := goodIn_r _ [62, 63, 10, 11, 36, 64, 65, 20, 66, 67, 68, 69, 70, 680, 681, 682, 683, 684, 685, 686, 687, 688, 689, 690, 691, 692, 693, 694, 695, 696, 697] (by decide +kernel) (by decide +kernel)
set_option maxRecDepth 20000 in
theorem gL_law_X6_init : GoodIn wsL_law (wsX6_init) := ggL_law_X6_init
set_option maxRecDepth 20000 in
theorem ggL_law_X5_learn : GoodIn wsL_law wsX5_learn := goodIn_r _ [74, 75, 76, 77, 2, 78, 19, 15, 79, 80, 81, 82, 83, 84, 85, 86, 87, 88, 18, 89, 48, 47, 49, 90, 91, 92, 93, 94, 95, 96, 14, 97, 37, 98, 99, 100, 101, 38, 39, 40, 41, 674, 675, 676, 677, 678, 679, 698, 699, 700, 701, 702, 703, 704, 705] (by decide +kernel) (by decide +kernel)
set_option maxRecDepth 20000 in
theorem gL_law_X5_learn : GoodIn wsL_law (wsV RL 13 RX5 yX5_learn wsX5_learn) := goodIn_app (goodIn_of _ (by decide +kernel)) ggL_law_X5_learn
set_option maxRecDepth 20000 in
theorem ggL_law_X6_learn : GoodIn wsL_law wsX6_learn := goodIn_r _ [105, 106, 107, 108, 5, 109, 64, 110, 111, 112, 113, 114, 115, 116, 117, 118, 119, 120, 65, 121, 122, 123, 124, 680, 681, 682, 683, 684, 685, 686, 687, 688, 689, 690, 691, 692, 693, 694, 695, 696, 697] (by decide +kernel) (by decide +kernel)
set_option maxRecDepth 20000 in
theorem gL_law_X6_learn : GoodIn wsL_law (wsV RL 17 RX6 yX6_learn wsX6_learn) := goodIn_app (goodIn_of _ (by decide +kernel)) ggL_law_X6_learn
set_option maxRecDepth 20000 in
theorem ggL_law_X5_unlearn : GoodIn wsL_law wsX5_unlearn := goodIn_r _ [128, 75, 76, 77, 2, 78, 19, 15, 79, 80, 81, 82, 83, 84, 85, 86, 87, 88, 18, 89, 48, 47, 49, 90, 91, 92, 93, 94, 95, 96, 14, 97, 37, 98, 99, 100, 101, 38, 39, 40, 41, 674, 675, 676, 677, 678, 679, 698, 699, 700, 701, 702, 703, 704, 705] (by decide +kernel) (by decide +kernel)
set_option maxRecDepth 20000 in
theorem gL_law_X5_unlearn : GoodIn wsL_law (wsV RL 18 RX5 yX5_unlearn wsX5_unlearn) := goodIn_app (goodIn_of _ (by decide +kernel)) ggL_law_X5_unlearn
set_option maxRecDepth 20000 in
theorem ggL_law_X6_unlearn : GoodIn wsL_law wsX6_unlearn := goodIn_r _ [132, 106, 107, 108, 5, 109, 64, 110, 111, 112, 113, 114, 115, 116, 117, 118, 119, 120, 65, 121, 122, 123, 124, 680, 681, 682, 683, 684, 685, 686, 687, 688, 689, 690, 691, 692, 693, 694, 695, 696, 697] (by decide +kernel) (by decide +kernel)
set_option maxRecDepth 20000 in
theorem gL_law_X6_unlearn : GoodIn wsL_law (wsV RL 21 RX6 yX6_unlearn wsX6_unlearn) := goodIn_app (goodIn_of _ (by decide +kernel)) ggL_law_X6_unlearn
set_option maxRecDepth 20000 in
theorem ggL_law_X5_attend : GoodIn wsL_law wsX5_attend := goodIn_r _ [136, 19, 15, 79, 80, 81, 2, 82, 86, 87, 88, 18, 89, 48, 47, 49, 90, 91, 92, 93, 94, 95, 96, 14, 97, 37, 98, 99, 100, 101, 38, 39, 40, 41, 674, 675, 676, 677, 678, 679, 698, 699, 700, 701, 702, 703, 704, 705] (by decide +kernel) (by decide +kernel)
set_option maxRecDepth 20000 in
theorem gL_law_X5_attend : GoodIn wsL_law (wsV RL 22 RX5 yX5_attend wsX5_attend) := goodIn_app (goodIn_of _ (by decide +kernel)) ggL_law_X5_attend
set_option maxRecDepth 20000 in
theorem ggL_law_X6_attend : GoodIn wsL_law wsX6_attend := goodIn_r _ [140, 64, 110, 111, 5, 112, 113, 114, 115, 116, 117, 118, 119, 120, 65, 680, 681, 682, 683, 684, 685, 686, 687, 688, 689, 690, 691, 692, 693, 694, 695, 696, 697] (by decide +kernel) (by decide +kernel)
set_option maxRecDepth 20000 in
theorem gL_law_X6_attend : GoodIn wsL_law (wsV RL 25 RX6 yX6_attend wsX6_attend) := goodIn_app (goodIn_of _ (by decide +kernel)) ggL_law_X6_attend
set_option maxRecDepth 20000 in
theorem ggL_law_X5_set : GoodIn wsL_law wsX5_set := goodIn_r _ [144, 19, 15, 145, 86, 87, 88, 18, 89, 48, 47, 49, 90, 91, 92, 93, 94, 95, 96, 14, 97, 37, 98, 99, 100, 101, 38, 39, 40, 41, 674, 675, 676, 677, 678, 679, 698, 699, 700, 701, 702, 703, 704, 705] (by decide +kernel) (by decide +kernel)
set_option maxRecDepth 20000 in
theorem gL_law_X5_set : GoodIn wsL_law (wsV RL 26 RX5 yX5_set wsX5_set) := goodIn_app (goodIn_of _ (by decide +kernel)) ggL_law_X5_set
set_option maxRecDepth 20000 in
theorem ggL_law_X6_set : GoodIn wsL_law wsX6_set := goodIn_r _ [149, 64, 113, 114, 5, 115, 116, 117, 118, 119, 120, 65, 680, 681, 682, 683, 684, 685, 686, 687, 688, 689, 690, 691, 692, 693, 694, 695, 696, 697] (by decide +kernel) (by decide +kernel)
set_option maxRecDepth 20000 in
theorem gL_law_X6_set : GoodIn wsL_law (wsV RL 30 RX6 yX6_set wsX6_set) := goodIn_app (goodIn_of _ (by decide +kernel)) ggL_law_X6_set
set_option maxRecDepth 20000 in
theorem ggL_law_X5_tell : GoodIn wsL_law wsX5_tell := goodIn_r _ [153, 26, 80, 81, 2, 82, 154, 155, 156, 157, 158, 159, 160, 161, 162, 25, 163, 56, 164, 165, 92, 166, 167, 91, 93, 168, 169, 170, 171, 172, 173, 174, 175, 176, 177, 178, 179, 180, 181, 182, 55, 183, 184, 185, 186, 187, 188, 189, 190, 191, 192, 193, 194, 195, 196, 197, 198, 199, 200, 201, 202, 203, 204, 205, 206, 207, 208, 209, 210, 211, 212, 213, 214, 215, 19, 15, 79, 86, 87, 88, 18, 89, 48, 47, 49, 90, 94, 95, 96, 14, 97, 37, 98, 99, 100, 101, 38, 39, 40, 41, 216, 217, 218, 219, 30, 220, 221, 222, 29, 223, 224, 225, 226, 227, 228, 229, 230, 231, 232, 233, 234, 235, 236, 237, 238, 239, 240, 241, 242, 243, 244, 245, 246, 247, 248, 249, 250, 251, 252, 253, 254, 255, 256, 257, 258, 259, 260, 261, 262, 263, 264, 265, 266, 267, 268, 269, 270, 271, 272, 273, 274, 275, 276, 277, 278, 279, 280, 281, 282, 283, 284, 285, 286, 287, 288, 289, 290, 291, 292, 293, 294, 295, 296, 145, 297, 298, 299, 300, 301, 302, 303, 304, 305, 306, 674, 675, 676, 677, 678, 679, 706, 707, 698, 699, 700, 701, 702, 703, 704, 705, 708, 709, 710, 711, 712, 713, 714, 715, 716, 717, 718] (by decide +kernel) (by decide +kernel)
set_option maxRecDepth 20000 in
theorem gL_law_X5_tell : GoodIn wsL_law (wsV RL 31 RX5 yX5_tell wsX5_tell) := goodIn_app (goodIn_of _ (by decide +kernel)) ggL_law_X5_tell
set_option maxRecDepth 20000 in
theorem ggL_law_X6_tell : GoodIn wsL_law wsX6_tell := goodIn_r _ [310, 110, 111, 5, 112, 113, 114, 115, 311, 312, 313, 314, 315, 316, 317, 318, 70, 319, 320, 321, 322, 69, 323, 324, 325, 326, 327, 328, 329, 330, 68, 331, 332, 333, 334, 335, 336, 337, 338, 339, 340, 341, 342, 343, 344, 345, 346, 347, 348, 349, 350, 351, 352, 353, 354, 355, 356, 357, 66, 358, 359, 360, 361, 64, 116, 117, 118, 119, 120, 65, 362, 363, 364, 365, 366, 367, 368, 369, 370, 371, 372, 373, 374, 375, 376, 377, 378, 379, 380, 381, 382, 383, 384, 385, 386, 387, 388, 389, 390, 391, 392, 393, 394, 395, 396, 397, 398, 399, 400, 401, 402, 403, 404, 405, 406, 407, 408, 409, 410, 411, 412, 413, 414, 415, 416, 417, 418, 419, 420, 421, 422, 423, 424, 425, 426, 427, 428, 429, 430, 431, 432, 433, 680, 681, 682, 683, 684, 685, 686, 687, 688, 689, 690, 691, 692, 693, 694, 695, 696, 697] (by decide +kernel) (by decide +kernel)
set_option maxRecDepth 20000 in
theorem gL_law_X6_tell : GoodIn wsL_law (wsV RL 35 RX6 yX6_tell wsX6_tell) := goodIn_app (goodIn_of _ (by decide +kernel)) ggL_law_X6_tell
set_option maxRecDepth 20000 in
theorem ggL_law_X5_tellText : GoodIn wsL_law wsX5_tellText := goodIn_r _ [437, 80, 81, 2, 82, 438, 439, 440, 441, 30, 22, 21, 220, 221, 222, 29, 223, 224, 225, 226, 227, 228, 229, 230, 231, 232, 233, 234, 442, 244, 245, 246, 247, 248, 249, 250, 251, 252, 253, 254, 255, 256, 257, 258, 259, 260, 261, 262, 263, 264, 265, 266, 267, 268, 269, 270, 271, 272, 273, 274, 275, 276, 277, 278, 279, 280, 281, 282, 283, 284, 443, 286, 287, 288, 444, 445, 446, 447, 448, 176, 177, 178, 449, 450, 451, 452, 235, 236, 237, 238, 239, 240, 241, 242, 209, 210, 243, 285, 289, 290, 291, 292, 212, 213, 214, 215, 19, 15, 79, 86, 87, 88, 18, 89, 48, 47, 49, 90, 91, 92, 93, 94, 95, 96, 14, 97, 37, 98, 99, 100, 101, 38, 39, 40, 41, 216, 217, 218, 219, 293, 294, 295, 296, 145, 297, 298, 299, 300, 206, 207, 208, 301, 302, 303, 304, 305, 306, 674, 675, 676, 677, 678, 679, 708, 709, 710, 711, 712, 713, 714, 715, 716, 717, 718, 698, 699, 700, 701, 702, 703, 704, 705] (by decide +kernel) (by decide +kernel)
set_option maxRecDepth 20000 in
theorem gL_law_X5_tellText : GoodIn wsL_law (wsV RL 36 RX5 yX5_tellText wsX5_tellText) := goodIn_app (goodIn_of _ (by decide +kernel)) ggL_law_X5_tellText
set_option maxRecDepth 20000 in
theorem ggL_law_X6_tellText : GoodIn wsL_law wsX6_tellText := goodIn_r _ [456, 457, 110, 111, 5, 112, 113, 114, 115, 458, 459, 460, 461, 66, 67, 366, 367, 368, 369, 370, 371, 372, 373, 374, 375, 376, 377, 378, 379, 380, 381, 382, 383, 384, 385, 386, 387, 388, 389, 390, 391, 392, 393, 394, 395, 396, 397, 398, 399, 400, 401, 402, 403, 404, 405, 406, 407, 408, 409, 410, 411, 412, 413, 414, 415, 416, 417, 418, 419, 420, 421, 358, 359, 360, 361, 64, 116, 117, 118, 119, 120, 65, 362, 363, 364, 365, 422, 423, 424, 425, 426, 427, 428, 429, 430, 431, 432, 433, 680, 681, 682, 683, 684, 685, 686, 687, 688, 689, 690, 691, 692, 693, 694, 695, 696, 697] (by decide +kernel) (by decide +kernel)
set_option maxRecDepth 20000 in
theorem gL_law_X6_tellText : GoodIn wsL_law (wsV RL 39 RX6 yX6_tellText wsX6_tellText) := goodIn_app (goodIn_of _ (by decide +kernel)) ggL_law_X6_tellText
set_option maxRecDepth 20000 in
theorem ggL_law_X5_append : GoodIn wsL_law wsX5_append := goodIn_r _ [465, 22, 21, 674, 675, 676, 677, 678, 679] (by decide +kernel) (by decide +kernel)
set_option maxRecDepth 20000 in
theorem gL_law_X5_append : GoodIn wsL_law (wsV RL 40 RX5 yX5_append wsX5_append) := goodIn_app (goodIn_of _ (by decide +kernel)) ggL_law_X5_append
set_option maxRecDepth 20000 in
theorem ggL_law_X6_append : GoodIn wsL_law wsX6_append := goodIn_r _ [469, 457, 67, 113, 114, 5, 115, 680, 681, 682, 683, 684, 685, 686, 687, 688, 689, 690, 691, 692, 693, 694, 695, 696, 697] (by decide +kernel) (by decide +kernel)
set_option maxRecDepth 20000 in
theorem gL_law_X6_append : GoodIn wsL_law (wsV RL 43 RX6 yX6_append wsX6_append) := goodIn_app (goodIn_of _ (by decide +kernel)) ggL_law_X6_append
set_option maxRecDepth 20000 in
theorem ggL_law_X5_clearText : GoodIn wsL_law wsX5_clearText := goodIn_r _ [473, 22, 674, 675, 676, 677, 678, 679] (by decide +kernel) (by decide +kernel)
set_option maxRecDepth 20000 in
theorem gL_law_X5_clearText : GoodIn wsL_law (wsV RL 44 RX5 yX5_clearText wsX5_clearText) := goodIn_app (goodIn_of _ (by decide +kernel)) ggL_law_X5_clearText
set_option maxRecDepth 20000 in
theorem ggL_law_X6_clearText : GoodIn wsL_law wsX6_clearText := goodIn_r _ [477, 457, 680, 681, 682, 683, 684, 685, 686, 687, 688, 689, 690, 691, 692, 693, 694, 695, 696, 697] (by decide +kernel) (by decide +kernel)
set_option maxRecDepth 20000 in
theorem gL_law_X6_clearText : GoodIn wsL_law (wsV RL 48 RX6 yX6_clearText wsX6_clearText) := goodIn_app (goodIn_of _ (by decide +kernel)) ggL_law_X6_clearText
set_option maxRecDepth 20000 in
theorem ggL_law_X5_fault : GoodIn wsL_law wsX5_fault := goodIn_r _ [441, 30, 22, 21, 220, 221, 222, 29, 223, 224, 225, 226, 227, 228, 229, 230, 231, 232, 233, 234, 442, 244, 245, 246, 247, 248, 249, 250, 251, 252, 253, 254, 255, 256, 257, 258, 259, 260, 261, 262, 263, 264, 265, 266, 267, 268, 269, 270, 271, 272, 273, 274, 275, 276, 277, 278, 279, 280, 281, 282, 283, 284, 443, 286, 287, 288, 674, 675, 676, 677, 678, 679, 708, 709, 710, 711, 712, 713, 714, 715, 716, 717, 718] (by decide +kernel) (by decide +kernel)
set_option maxRecDepth 20000 in
theorem gL_law_X5_fault : GoodIn wsL_law (wsV RL 49 RX5 yX5_fault wsX5_fault) := goodIn_app (goodIn_of _ (by decide +kernel)) ggL_law_X5_fault
set_option maxRecDepth 20000 in
theorem ggL_law_X6_fault : GoodIn wsL_law wsX6_fault := goodIn_r _ [482, 458, 459, 460, 5, 461, 457, 66, 67, 366, 367, 368, 369, 370, 371, 372, 373, 374, 375, 376, 377, 378, 379, 380, 381, 382, 383, 384, 385, 386, 387, 388, 389, 390, 391, 392, 393, 394, 395, 396, 397, 398, 399, 400, 401, 402, 403, 404, 405, 406, 407, 408, 409, 410, 411, 412, 413, 414, 415, 416, 417, 680, 681, 682, 683, 684, 685, 686, 687, 688, 689, 690, 691, 692, 693, 694, 695, 696, 697] (by decide +kernel) (by decide +kernel)
set_option maxRecDepth 20000 in
theorem gL_law_X6_fault : GoodIn wsL_law (wsV RL 52 RX6 yX6_fault wsX6_fault) := goodIn_app (goodIn_of _ (by decide +kernel)) ggL_law_X6_fault
set_option maxRecDepth 20000 in
theorem ggL_law_X5_meaning : GoodIn wsL_law wsX5_meaning := goodIn_r _ [486, 438, 439, 440, 2, 441, 30, 22, 21, 220, 221, 222, 29, 223, 224, 225, 226, 227, 228, 229, 230, 231, 232, 233, 234, 442, 244, 245, 246, 247, 248, 249, 250, 251, 252, 253, 254, 255, 256, 257, 258, 259, 260, 261, 262, 263, 264, 265, 266, 267, 268, 269, 270, 271, 272, 273, 274, 275, 276, 277, 278, 279, 280, 281, 282, 283, 284, 443, 286, 287, 288, 444, 445, 446, 447, 448, 176, 177, 178, 449, 450, 451, 452, 235, 236, 237, 238, 239, 240, 241, 242, 209, 210, 243, 285, 289, 290, 291, 292, 674, 675, 676, 677, 678, 679, 708, 709, 710, 711, 712, 713, 714, 715, 716, 717, 718] (by decide +kernel) (by decide +kernel)
set_option maxRecDepth 20000 in
theorem gL_law_X5_meaning : GoodIn wsL_law (wsV RL 53 RX5 yX5_meaning wsX5_meaning) := goodIn_app (goodIn_of _ (by decide +kernel)) ggL_law_X5_meaning
set_option maxRecDepth 20000 in
theorem ggL_law_X6_meaning : GoodIn wsL_law wsX6_meaning := goodIn_r _ [490, 458, 459, 460, 5, 461, 457, 66, 67, 366, 367, 368, 369, 370, 371, 372, 373, 374, 375, 376, 377, 378, 379, 380, 381, 382, 383, 384, 385, 386, 387, 388, 389, 390, 391, 392, 393, 394, 395, 396, 397, 398, 399, 400, 401, 402, 403, 404, 405, 406, 407, 408, 409, 410, 411, 412, 413, 414, 415, 416, 417, 418, 419, 420, 421, 680, 681, 682, 683, 684, 685, 686, 687, 688, 689, 690, 691, 692, 693, 694, 695, 696, 697] (by decide +kernel) (by decide +kernel)
set_option maxRecDepth 20000 in
theorem gL_law_X6_meaning : GoodIn wsL_law (wsV RL 56 RX6 yX6_meaning wsX6_meaning) := goodIn_app (goodIn_of _ (by decide +kernel)) ggL_law_X6_meaning
set_option maxRecDepth 20000 in
theorem ggL_law_X5_undo : GoodIn wsL_law wsX5_undo := goodIn_r _ [494, 19, 15, 495, 496, 497, 18, 498, 49, 48, 47, 94, 95, 96, 14, 97, 37, 98, 99, 100, 101, 38, 39, 40, 41, 674, 675, 676, 677, 678, 679, 703, 704, 705, 698, 699, 700, 701, 702] (by decide +kernel) (by decide +kernel)
set_option maxRecDepth 20000 in
theorem gL_law_X5_undo : GoodIn wsL_law (wsV RL 57 RX5 yX5_undo wsX5_undo) := goodIn_app (goodIn_of _ (by decide +kernel)) ggL_law_X5_undo
set_option maxRecDepth 20000 in
theorem ggL_law_X6_undo : GoodIn wsL_law wsX6_undo := goodIn_r _ [502, 120, 64, 65, 680, 681, 682, 683, 684, 685, 686, 687, 688, 689, 690, 691, 692, 693, 694, 695, 696, 697] (by decide +kernel) (by decide +kernel)
set_option maxRecDepth 20000 in
theorem gL_law_X6_undo : GoodIn wsL_law (wsV RL 60 RX6 yX6_undo wsX6_undo) := goodIn_app (goodIn_of _ (by decide +kernel)) ggL_law_X6_undo
set_option maxRecDepth 20000 in
theorem ggL_law_X5_ways : GoodIn wsL_law wsX5_ways := goodIn_r _ [506, 26, 507, 157, 158, 2, 159, 160, 161, 162, 25, 163, 56, 164, 165, 92, 166, 167, 91, 93, 168, 169, 170, 171, 172, 173, 174, 175, 176, 177, 178, 179, 180, 181, 182, 55, 183, 184, 185, 186, 187, 188, 189, 190, 191, 192, 193, 674, 675, 676, 677, 678, 679, 706, 707] (by decide +kernel) (by decide +kernel)
set_option maxRecDepth 20000 in
theorem gL_law_X5_ways : GoodIn wsL_law (wsV RL 61 RX5 yX5_ways wsX5_ways) := goodIn_app (goodIn_of _ (by decide +kernel)) ggL_law_X5_ways
set_option maxRecDepth 20000 in
theorem ggL_law_X6_ways : GoodIn wsL_law wsX6_ways := goodIn_r _ [511, 318, 311, 312, 5, 313, 113, 114, 115, 314, 315, 316, 317, 70, 319, 320, 321, 322, 69, 323, 324, 325, 326, 327, 328, 329, 330, 68, 331, 332, 333, 334, 335, 336, 337, 338, 339, 340, 341, 342, 343, 344, 345, 680, 681, 682, 683, 684, 685, 686, 687, 688, 689, 690, 691, 692, 693, 694, 695, 696, 697] (by decide +kernel) (by decide +kernel)
set_option maxRecDepth 20000 in
theorem gL_law_X6_ways : GoodIn wsL_law (wsV RL 64 RX6 yX6_ways wsX6_ways) := goodIn_app (goodIn_of _ (by decide +kernel)) ggL_law_X6_ways
set_option maxRecDepth 20000 in
theorem ggL_law_X5_wayLength : GoodIn wsL_law wsX5_wayLength := goodIn_r _ [515, 26, 507, 157, 158, 2, 159, 160, 161, 162, 25, 163, 56, 164, 165, 92, 166, 167, 91, 93, 168, 169, 170, 171, 172, 173, 174, 175, 176, 177, 178, 179, 180, 181, 182, 55, 183, 184, 185, 186, 187, 188, 189, 190, 191, 192, 193, 211, 199, 200, 201, 306, 240, 241, 674, 675, 676, 677, 678, 679, 706, 707] (by decide +kernel) (by decide +kernel)
set_option maxRecDepth 20000 in
theorem gL_law_X5_wayLength : GoodIn wsL_law (wsV RL 65 RX5 yX5_wayLength wsX5_wayLength) := goodIn_app (goodIn_of _ (by decide +kernel)) ggL_law_X5_wayLength
set_option maxRecDepth 20000 in
theorem ggL_law_X6_wayLength : GoodIn wsL_law wsX6_wayLength := goodIn_r _ [519, 318, 69, 70, 311, 312, 5, 313, 113, 114, 115, 314, 315, 316, 317, 319, 320, 321, 322, 323, 324, 325, 326, 327, 328, 329, 330, 68, 331, 332, 333, 334, 335, 336, 337, 338, 339, 340, 341, 342, 343, 344, 345, 680, 681, 682, 683, 684, 685, 686, 687, 688, 689, 690, 691, 692, 693, 694, 695, 696, 697] (by decide +kernel) (by decide +kernel)
set_option maxRecDepth 20000 in
theorem gL_law_X6_wayLength : GoodIn wsL_law (wsV RL 68 RX6 yX6_wayLength wsX6_wayLength) := goodIn_app (goodIn_of _ (by decide +kernel)) ggL_law_X6_wayLength
set_option maxRecDepth 20000 in
theorem ggL_law_X5_wayAt : GoodIn wsL_law wsX5_wayAt := goodIn_r _ [523, 26, 507, 157, 158, 2, 159, 160, 161, 162, 25, 163, 56, 164, 165, 92, 166, 167, 91, 93, 168, 169, 170, 171, 172, 173, 174, 175, 176, 177, 178, 179, 180, 181, 182, 55, 183, 184, 185, 186, 187, 188, 189, 190, 191, 192, 193, 211, 199, 200, 201, 306, 240, 241, 524, 209, 210, 674, 675, 676, 677, 678, 679, 706, 707] (by decide +kernel) (by decide +kernel)
set_option maxRecDepth 20000 in
theorem gL_law_X5_wayAt : GoodIn wsL_law (wsV RL 69 RX5 yX5_wayAt wsX5_wayAt) := goodIn_app (goodIn_of _ (by decide +kernel)) ggL_law_X5_wayAt
set_option maxRecDepth 20000 in
theorem ggL_law_X6_wayAt : GoodIn wsL_law wsX6_wayAt := goodIn_r _ [528, 318, 69, 70, 68, 311, 312, 5, 313, 113, 114, 115, 314, 315, 316, 317, 319, 320, 321, 322, 323, 324, 325, 326, 327, 328, 329, 330, 331, 332, 333, 334, 335, 336, 337, 338, 339, 340, 341, 342, 343, 344, 345, 680, 681, 682, 683, 684, 685, 686, 687, 688, 689, 690, 691, 692, 693, 694, 695, 696, 697] (by decide +kernel) (by decide +kernel)
set_option maxRecDepth 20000 in
theorem gL_law_X6_wayAt : GoodIn wsL_law (wsV RL 72 RX6 yX6_wayAt wsX6_wayAt) := goodIn_app (goodIn_of _ (by decide +kernel)) ggL_law_X6_wayAt
set_option maxRecDepth 20000 in
theorem ggL_law_X5_styled : GoodIn wsL_law wsX5_styled := goodIn_r _ [532, 26, 154, 155, 2, 156, 157, 158, 159, 160, 161, 162, 25, 163, 56, 164, 165, 92, 166, 167, 91, 93, 168, 169, 170, 171, 172, 173, 174, 175, 176, 177, 178, 179, 180, 181, 182, 55, 183, 184, 185, 186, 187, 188, 189, 190, 191, 192, 193, 194, 195, 196, 197, 198, 199, 200, 201, 202, 203, 204, 205, 206, 207, 208, 209, 210, 674, 675, 676, 677, 678, 679, 706, 707] (by decide +kernel) (by decide +kernel)
set_option maxRecDepth 20000 in
theorem gL_law_X5_styled : GoodIn wsL_law (wsV RL 73 RX5 yX5_styled wsX5_styled) := goodIn_app (goodIn_of _ (by decide +kernel)) ggL_law_X5_styled
set_option maxRecDepth 20000 in
theorem ggL_law_X6_styled : GoodIn wsL_law wsX6_styled := goodIn_r _ [536, 113, 114, 5, 115, 311, 312, 313, 314, 315, 316, 317, 318, 70, 319, 320, 321, 322, 69, 323, 324, 325, 326, 327, 328, 329, 330, 68, 331, 332, 333, 334, 335, 336, 337, 338, 339, 340, 341, 342, 343, 344, 345, 346, 347, 348, 349, 350, 351, 352, 353, 680, 681, 682, 683, 684, 685, 686, 687, 688, 689, 690, 691, 692, 693, 694, 695, 696, 697] (by decide +kernel) (by decide +kernel)
set_option maxRecDepth 20000 in
theorem gL_law_X6_styled : GoodIn wsL_law (wsV RL 76 RX6 yX6_styled wsX6_styled) := goodIn_app (goodIn_of _ (by decide +kernel)) ggL_law_X6_styled
set_option maxRecDepth 20000 in
theorem ggL_law_X5_placeOfText : GoodIn wsL_law wsX5_placeOfText := goodIn_r _ [540, 26, 438, 439, 440, 2, 441, 30, 22, 21, 220, 221, 222, 29, 223, 224, 225, 226, 227, 228, 229, 230, 231, 232, 233, 234, 442, 244, 245, 246, 247, 248, 249, 250, 251, 252, 253, 254, 255, 256, 257, 258, 259, 260, 261, 262, 263, 264, 265, 266, 267, 268, 269, 270, 271, 272, 273, 274, 275, 276, 277, 278, 279, 280, 281, 282, 283, 284, 443, 286, 287, 288, 444, 445, 446, 447, 448, 176, 177, 178, 449, 450, 451, 452, 235, 236, 237, 238, 239, 240, 241, 242, 209, 210, 243, 285, 289, 290, 291, 292, 160, 161, 162, 25, 163, 56, 164, 165, 92, 166, 167, 91, 93, 168, 169, 170, 171, 172, 173, 174, 175, 179, 180, 181, 182, 55, 183, 184, 185, 186, 187, 188, 189, 190, 191, 192, 193, 541, 542, 543, 544, 674, 675, 676, 677, 678, 679, 708, 709, 710, 711, 712, 713, 714, 715, 716, 717, 718, 706, 707] (by decide +kernel) (by decide +kernel)
set_option maxRecDepth 20000 in
theorem gL_law_X5_placeOfText : GoodIn wsL_law (wsV RL 77 RX5 yX5_placeOfText wsX5_placeOfText) := goodIn_app (goodIn_of _ (by decide +kernel)) ggL_law_X5_placeOfText
set_option maxRecDepth 20000 in
theorem ggL_law_X6_placeOfText : GoodIn wsL_law wsX6_placeOfText := goodIn_r _ [548, 318, 70, 458, 459, 460, 5, 461, 457, 66, 67, 366, 367, 368, 369, 370, 371, 372, 373, 374, 375, 376, 377, 378, 379, 380, 381, 382, 383, 384, 385, 386, 387, 388, 389, 390, 391, 392, 393, 394, 395, 396, 397, 398, 399, 400, 401, 402, 403, 404, 405, 406, 407, 408, 409, 410, 411, 412, 413, 414, 415, 416, 417, 418, 419, 420, 421, 314, 315, 316, 317, 319, 320, 321, 322, 69, 323, 324, 325, 326, 327, 328, 329, 330, 68, 331, 332, 333, 334, 335, 336, 337, 113, 114, 115, 338, 339, 340, 341, 342, 343, 344, 345, 549, 550, 551, 552, 680, 681, 682, 683, 684, 685, 686, 687, 688, 689, 690, 691, 692, 693, 694, 695, 696, 697] (by decide +kernel) (by decide +kernel)
set_option maxRecDepth 20000 in
theorem gL_law_X6_placeOfText : GoodIn wsL_law (wsV RL 80 RX6 yX6_placeOfText wsX6_placeOfText) := goodIn_app (goodIn_of _ (by decide +kernel)) ggL_law_X6_placeOfText
set_option maxRecDepth 20000 in
theorem ggL_law_X5_hearer : GoodIn wsL_law wsX5_hearer := goodIn_r _ [556, 15, 79, 80, 81, 2, 82, 674, 675, 676, 677, 678, 679, 698, 699, 700, 701, 702] (by decide +kernel) (by decide +kernel)
set_option maxRecDepth 20000 in
theorem gL_law_X5_hearer : GoodIn wsL_law (wsV RL 81 RX5 yX5_hearer wsX5_hearer) := goodIn_app (goodIn_of _ (by decide +kernel)) ggL_law_X5_hearer
set_option maxRecDepth 20000 in
theorem ggL_law_X6_hearer : GoodIn wsL_law wsX6_hearer := goodIn_r _ [560, 64, 110, 111, 5, 112, 113, 114, 115, 680, 681, 682, 683, 684, 685, 686, 687, 688, 689, 690, 691, 692, 693, 694, 695, 696, 697] (by decide +kernel) (by decide +kernel)
set_option maxRecDepth 20000 in
theorem gL_law_X6_hearer : GoodIn wsL_law (wsV RL 84 RX6 yX6_hearer wsX6_hearer) := goodIn_app (goodIn_of _ (by decide +kernel)) ggL_law_X6_hearer
set_option maxRecDepth 20000 in
theorem ggL_law_X5_understood : GoodIn wsL_law wsX5_understood := goodIn_r _ [564, 26, 507, 80, 81, 2, 82, 157, 158, 159, 160, 161, 162, 25, 163, 56, 164, 165, 92, 166, 167, 91, 93, 168, 169, 170, 171, 172, 173, 174, 175, 176, 177, 178, 179, 180, 181, 182, 55, 183, 184, 185, 186, 187, 188, 189, 190, 191, 192, 193, 211, 199, 200, 201, 216, 217, 218, 219, 15, 79, 30, 220, 221, 222, 29, 223, 224, 225, 226, 227, 228, 229, 230, 231, 232, 233, 234, 235, 236, 237, 238, 239, 240, 241, 242, 209, 210, 243, 244, 245, 246, 247, 248, 249, 250, 251, 252, 253, 254, 255, 256, 257, 258, 259, 260, 261, 262, 263, 264, 265, 266, 267, 268, 269, 270, 271, 272, 273, 274, 275, 276, 277, 278, 279, 280, 281, 282, 283, 284, 285, 286, 287, 288, 289, 290, 291, 292, 565, 566, 567, 674, 675, 676, 677, 678, 679, 706, 707, 698, 699, 700, 701, 702, 708, 709, 710, 711, 712, 713, 714, 715, 716, 717, 718] (by decide +kernel) (by decide +kernel)
set_option maxRecDepth 20000 in
theorem gL_law_X5_understood : GoodIn wsL_law (wsV RL 85 RX5 yX5_understood wsX5_understood) := goodIn_app (goodIn_of _ (by decide +kernel)) ggL_law_X5_understood
set_option maxRecDepth 20000 in
theorem ggL_law_X6_understood : GoodIn wsL_law wsX6_understood := goodIn_r _ [571, 318, 110, 111, 5, 112, 113, 114, 115, 311, 312, 313, 314, 315, 316, 317, 70, 319, 320, 321, 322, 69, 323, 324, 325, 326, 327, 328, 329, 330, 68, 331, 332, 333, 334, 335, 336, 337, 338, 339, 340, 341, 342, 343, 344, 345, 354, 355, 356, 357, 66, 362, 363, 364, 365, 64, 366, 367, 368, 369, 370, 371, 372, 373, 374, 375, 376, 377, 378, 379, 380, 381, 382, 383, 384, 385, 386, 387, 388, 389, 390, 391, 392, 393, 394, 395, 396, 397, 398, 399, 400, 401, 402, 403, 404, 405, 406, 407, 408, 409, 410, 411, 412, 413, 414, 415, 416, 417, 418, 419, 420, 421, 680, 681, 682, 683, 684, 685, 686, 687, 688, 689, 690, 691, 692, 693, 694, 695, 696, 697] (by decide +kernel) (by decide +kernel)
set_option maxRecDepth 20000 in
theorem gL_law_X6_understood : GoodIn wsL_law (wsV RL 88 RX6 yX6_understood wsX6_understood) := goodIn_app (goodIn_of _ (by decide +kernel)) ggL_law_X6_understood
set_option maxRecDepth 20000 in
theorem ggL_law_X5_understoodText : GoodIn wsL_law wsX5_understoodText := goodIn_r _ [575, 80, 81, 2, 82, 438, 439, 440, 441, 30, 22, 21, 220, 221, 222, 29, 223, 224, 225, 226, 227, 228, 229, 230, 231, 232, 233, 234, 442, 244, 245, 246, 247, 248, 249, 250, 251, 252, 253, 254, 255, 256, 257, 258, 259, 260, 261, 262, 263, 264, 265, 266, 267, 268, 269, 270, 271, 272, 273, 274, 275, 276, 277, 278, 279, 280, 281, 282, 283, 284, 443, 286, 287, 288, 444, 445, 446, 447, 448, 176, 177, 178, 216, 217, 218, 219, 15, 79, 235, 236, 237, 238, 239, 240, 241, 242, 209, 210, 243, 285, 289, 290, 291, 292, 565, 566, 567, 674, 675, 676, 677, 678, 679, 708, 709, 710, 711, 712, 713, 714, 715, 716, 717, 718, 698, 699, 700, 701, 702] (by decide +kernel) (by decide +kernel)
set_option maxRecDepth 20000 in
theorem gL_law_X5_understoodText : GoodIn wsL_law (wsV RL 89 RX5 yX5_understoodText wsX5_understoodText) := goodIn_app (goodIn_of _ (by decide +kernel)) ggL_law_X5_understoodText
set_option maxRecDepth 20000 in
theorem ggL_law_X6_understoodText : GoodIn wsL_law wsX6_understoodText := goodIn_r _ [579, 457, 110, 111, 5, 112, 113, 114, 115, 458, 459, 460, 461, 66, 67, 366, 367, 368, 369, 370, 371, 372, 373, 374, 375, 376, 377, 378, 379, 380, 381, 382, 383, 384, 385, 386, 387, 388, 389, 390, 391, 392, 393, 394, 395, 396, 397, 398, 399, 400, 401, 402, 403, 404, 405, 406, 407, 408, 409, 410, 411, 412, 413, 414, 415, 416, 417, 362, 363, 364, 365, 64, 418, 419, 420, 421, 680, 681, 682, 683, 684, 685, 686, 687, 688, 689, 690, 691, 692, 693, 694, 695, 696, 697] (by decide +kernel) (by decide +kernel)
set_option maxRecDepth 20000 in
theorem gL_law_X6_understoodText : GoodIn wsL_law (wsV RL 92 RX6 yX6_understoodText wsX6_understoodText) := goodIn_app (goodIn_of _ (by decide +kernel)) ggL_law_X6_understoodText
set_option maxRecDepth 20000 in
theorem ggL_law_X5_bestWay : GoodIn wsL_law wsX5_bestWay := goodIn_r _ [583, 80, 81, 2, 82, 157, 158, 159, 584, 585, 586, 587, 26, 507, 160, 161, 162, 25, 163, 56, 164, 165, 92, 166, 167, 91, 93, 168, 169, 170, 171, 172, 173, 174, 175, 176, 177, 178, 179, 180, 181, 182, 55, 183, 184, 185, 186, 187, 188, 189, 190, 191, 192, 193, 211, 199, 200, 201, 216, 217, 218, 219, 15, 79, 30, 220, 221, 222, 29, 223, 224, 225, 226, 227, 228, 229, 230, 231, 232, 233, 234, 235, 236, 237, 238, 239, 240, 241, 242, 209, 210, 243, 244, 245, 246, 247, 248, 249, 250, 251, 252, 253, 254, 255, 256, 257, 258, 259, 260, 261, 262, 263, 264, 265, 266, 267, 268, 269, 270, 271, 272, 273, 274, 275, 276, 277, 278, 279, 280, 281, 282, 283, 284, 285, 286, 287, 288, 289, 290, 291, 292, 674, 675, 676, 677, 678, 679, 706, 707, 698, 699, 700, 701, 702, 708, 709, 710, 711, 712, 713, 714, 715, 716, 717, 718] (by decide +kernel) (by decide +kernel)
set_option maxRecDepth 20000 in
theorem gL_law_X5_bestWay : GoodIn wsL_law (wsV RL 93 RX5 yX5_bestWay wsX5_bestWay) := goodIn_app (goodIn_of _ (by decide +kernel)) ggL_law_X5_bestWay
set_option maxRecDepth 20000 in
theorem ggL_law_X6_bestWay : GoodIn wsL_law wsX6_bestWay := goodIn_r _ [591, 110, 111, 5, 112, 113, 114, 115, 311, 312, 313, 592, 593, 594, 595, 318, 314, 315, 316, 317, 70, 319, 320, 321, 322, 69, 323, 324, 325, 326, 327, 328, 329, 330, 68, 331, 332, 333, 334, 335, 336, 337, 338, 339, 340, 341, 342, 343, 344, 345, 354, 355, 356, 357, 66, 362, 363, 364, 365, 64, 366, 367, 368, 369, 370, 371, 372, 373, 374, 375, 376, 377, 378, 379, 380, 381, 382, 383, 384, 385, 386, 387, 388, 389, 390, 391, 392, 393, 394, 395, 396, 397, 398, 399, 400, 401, 402, 403, 404, 405, 406, 407, 408, 409, 410, 411, 412, 413, 414, 415, 416, 417, 418, 419, 420, 421, 680, 681, 682, 683, 684, 685, 686, 687, 688, 689, 690, 691, 692, 693, 694, 695, 696, 697] (by decide +kernel) (by decide +kernel)
set_option maxRecDepth 20000 in
theorem gL_law_X6_bestWay : GoodIn wsL_law (wsV RL 96 RX6 yX6_bestWay wsX6_bestWay) := goodIn_app (goodIn_of _ (by decide +kernel)) ggL_law_X6_bestWay
set_option maxRecDepth 20000 in
theorem ggL_law_X5_commonWay : GoodIn wsL_law wsX5_commonWay := goodIn_r _ [599, 26, 507, 157, 158, 2, 159, 160, 161, 162, 25, 163, 56, 164, 165, 92, 166, 167, 91, 93, 168, 169, 170, 171, 172, 173, 174, 175, 176, 177, 178, 179, 180, 181, 182, 55, 183, 184, 185, 186, 187, 188, 189, 190, 191, 192, 193, 211, 199, 200, 201, 600, 601, 602, 603, 216, 217, 218, 219, 15, 79, 30, 220, 221, 222, 29, 223, 224, 225, 226, 227, 228, 229, 230, 231, 232, 233, 234, 235, 236, 237, 238, 239, 240, 241, 242, 209, 210, 243, 244, 245, 246, 247, 248, 249, 250, 251, 252, 253, 254, 255, 256, 257, 258, 259, 260, 261, 262, 263, 264, 265, 266, 267, 268, 269, 270, 271, 272, 273, 274, 275, 276, 277, 278, 279, 280, 281, 282, 283, 284, 285, 286, 287, 288, 289, 290, 291, 292, 674, 675, 676, 677, 678, 679, 706, 707, 698, 699, 700, 701, 702, 708, 709, 710, 711, 712, 713, 714, 715, 716, 717, 718] (by decide +kernel) (by decide +kernel)
set_option maxRecDepth 20000 in
theorem gL_law_X5_commonWay : GoodIn wsL_law (wsV RL 97 RX5 yX5_commonWay wsX5_commonWay) := goodIn_app (goodIn_of _ (by decide +kernel)) ggL_law_X5_commonWay
set_option maxRecDepth 20000 in
theorem ggL_law_X6_commonWay : GoodIn wsL_law wsX6_commonWay := goodIn_r _ [607, 318, 311, 312, 5, 313, 113, 114, 115, 314, 315, 316, 317, 70, 319, 320, 321, 322, 69, 323, 324, 325, 326, 327, 328, 329, 330, 68, 331, 332, 333, 334, 335, 336, 337, 338, 339, 340, 341, 342, 343, 344, 345, 608, 609, 610, 611, 354, 355, 356, 357, 66, 362, 363, 364, 365, 64, 366, 367, 368, 369, 370, 371, 372, 373, 374, 375, 376, 377, 378, 379, 380, 381, 382, 383, 384, 385, 386, 387, 388, 389, 390, 391, 392, 393, 394, 395, 396, 397, 398, 399, 400, 401, 402, 403, 404, 405, 406, 407, 408, 409, 410, 411, 412, 413, 414, 415, 416, 417, 418, 419, 420, 421, 680, 681, 682, 683, 684, 685, 686, 687, 688, 689, 690, 691, 692, 693, 694, 695, 696, 697] (by decide +kernel) (by decide +kernel)
set_option maxRecDepth 20000 in
theorem gL_law_X6_commonWay : GoodIn wsL_law (wsV RL 100 RX6 yX6_commonWay wsX6_commonWay) := goodIn_app (goodIn_of _ (by decide +kernel)) ggL_law_X6_commonWay
set_option maxRecDepth 20000 in
theorem ggL_law_X5_reach : GoodIn wsL_law wsX5_reach := goodIn_r _ [615, 26, 154, 155, 2, 156, 157, 158, 159, 160, 161, 162, 25, 163, 56, 164, 165, 92, 166, 167, 91, 93, 168, 169, 170, 171, 172, 173, 174, 175, 176, 177, 178, 179, 180, 181, 182, 55, 183, 184, 185, 186, 187, 188, 189, 190, 191, 192, 193, 194, 195, 196, 197, 198, 199, 200, 201, 202, 203, 204, 205, 206, 207, 208, 209, 210, 211, 600, 601, 602, 603, 216, 217, 218, 219, 15, 79, 30, 220, 221, 222, 29, 223, 224, 225, 226, 227, 228, 229, 230, 231, 232, 233, 234, 235, 236, 237, 238, 239, 240, 241, 242, 243, 244, 245, 246, 247, 248, 249, 250, 251, 252, 253, 254, 255, 256, 257, 258, 259, 260, 261, 262, 263, 264, 265, 266, 267, 268, 269, 270, 271, 272, 273, 274, 275, 276, 277, 278, 279, 280, 281, 282, 283, 284, 285, 286, 287, 288, 289, 290, 291, 292, 674, 675, 676, 677, 678, 679, 706, 707, 698, 699, 700, 701, 702, 708, 709, 710, 711, 712, 713, 714, 715, 716, 717, 718] (by decide +kernel) (by decide +kernel)
set_option maxRecDepth 20000 in
theorem gL_law_X5_reach : GoodIn wsL_law (wsV RL 101 RX5 yX5_reach wsX5_reach) := goodIn_app (goodIn_of _ (by decide +kernel)) ggL_law_X5_reach
set_option maxRecDepth 20000 in
theorem ggL_law_X6_reach : GoodIn wsL_law wsX6_reach := goodIn_r _ [619, 113, 114, 5, 115, 311, 312, 313, 314, 315, 316, 317, 318, 70, 319, 320, 321, 322, 69, 323, 324, 325, 326, 327, 328, 329, 330, 68, 331, 332, 333, 334, 335, 336, 337, 338, 339, 340, 341, 342, 343, 344, 345, 346, 347, 348, 349, 350, 351, 352, 353, 608, 609, 610, 611, 354, 355, 356, 357, 66, 362, 363, 364, 365, 64, 366, 367, 368, 369, 370, 371, 372, 373, 374, 375, 376, 377, 378, 379, 380, 381, 382, 383, 384, 385, 386, 387, 388, 389, 390, 391, 392, 393, 394, 395, 396, 397, 398, 399, 400, 401, 402, 403, 404, 405, 406, 407, 408, 409, 410, 411, 412, 413, 414, 415, 416, 417, 418, 419, 420, 421, 680, 681, 682, 683, 684, 685, 686, 687, 688, 689, 690, 691, 692, 693, 694, 695, 696, 697] (by decide +kernel) (by decide +kernel)
set_option maxRecDepth 20000 in
theorem gL_law_X6_reach : GoodIn wsL_law (wsV RL 104 RX6 yX6_reach wsX6_reach) := goodIn_app (goodIn_of _ (by decide +kernel)) ggL_law_X6_reach
set_option maxRecDepth 20000 in
theorem ggL_law_X5_untellable : GoodIn wsL_law wsX5_untellable := goodIn_r _ [623, 624, 91, 92, 93, 80, 81, 2, 82, 157, 158, 159, 584, 585, 586, 587, 26, 507, 160, 161, 162, 25, 163, 56, 164, 165, 166, 167, 168, 169, 170, 171, 172, 173, 174, 175, 176, 177, 178, 179, 180, 181, 182, 55, 183, 184, 185, 186, 187, 188, 189, 190, 191, 192, 193, 211, 199, 200, 201, 216, 217, 218, 219, 15, 79, 30, 220, 221, 222, 29, 223, 224, 225, 226, 227, 228, 229, 230, 231, 232, 233, 234, 235, 236, 237, 238, 239, 240, 241, 242, 209, 210, 243, 244, 245, 246, 247, 248, 249, 250, 251, 252, 253, 254, 255, 256, 257, 258, 259, 260, 261, 262, 263, 264, 265, 266, 267, 268, 269, 270, 271, 272, 273, 274, 275, 276, 277, 278, 279, 280, 281, 282, 283, 284, 285, 286, 287, 288, 289, 290, 291, 292, 674, 675, 676, 677, 678, 679, 706, 707, 698, 699, 700, 701, 702, 708, 709, 710, 711, 712, 713, 714, 715, 716, 717, 718] (by decide +kernel) (by decide +kernel)
set_option maxRecDepth 20000 in
theorem gL_law_X5_untellable : GoodIn wsL_law (wsV RL 105 RX5 yX5_untellable wsX5_untellable) := goodIn_app (goodIn_of _ (by decide +kernel)) ggL_law_X5_untellable
set_option maxRecDepth 20000 in
theorem ggL_law_X6_untellable : GoodIn wsL_law wsX6_untellable := goodIn_r _ [628, 110, 111, 5, 112, 113, 114, 115, 311, 312, 313, 592, 593, 594, 595, 318, 314, 315, 316, 317, 70, 319, 320, 321, 322, 69, 323, 324, 325, 326, 327, 328, 329, 330, 68, 331, 332, 333, 334, 335, 336, 337, 338, 339, 340, 341, 342, 343, 344, 345, 354, 355, 356, 357, 66, 362, 363, 364, 365, 64, 366, 367, 368, 369, 370, 371, 372, 373, 374, 375, 376, 377, 378, 379, 380, 381, 382, 383, 384, 385, 386, 387, 388, 389, 390, 391, 392, 393, 394, 395, 396, 397, 398, 399, 400, 401, 402, 403, 404, 405, 406, 407, 408, 409, 410, 411, 412, 413, 414, 415, 416, 417, 418, 419, 420, 421, 680, 681, 682, 683, 684, 685, 686, 687, 688, 689, 690, 691, 692, 693, 694, 695, 696, 697] (by decide +kernel) (by decide +kernel)
set_option maxRecDepth 20000 in
theorem gL_law_X6_untellable : GoodIn wsL_law (wsV RL 108 RX6 yX6_untellable wsX6_untellable) := goodIn_app (goodIn_of _ (by decide +kernel)) ggL_law_X6_untellable
set_option maxRecDepth 20000 in
theorem ggL_law_X5_log : GoodIn wsL_law wsX5_log := goodIn_r _ [632, 15, 633, 634, 635, 636, 14, 637, 39, 38, 674, 675, 676, 677, 678, 679, 698, 699, 700, 701, 702] (by decide +kernel) (by decide +kernel)
set_option maxRecDepth 20000 in
theorem gL_law_X5_log : GoodIn wsL_law (wsV RL 109 RX5 yX5_log wsX5_log) := goodIn_app (goodIn_of _ (by decide +kernel)) ggL_law_X5_log
set_option maxRecDepth 20000 in
theorem ggL_law_X6_log : GoodIn wsL_law wsX6_log := goodIn_r _ [641, 64, 113, 114, 5, 115, 680, 681, 682, 683, 684, 685, 686, 687, 688, 689, 690, 691, 692, 693, 694, 695, 696, 697] (by decide +kernel) (by decide +kernel)
set_option maxRecDepth 20000 in
theorem gL_law_X6_log : GoodIn wsL_law (wsV RL 112 RX6 yX6_log wsX6_log) := goodIn_app (goodIn_of _ (by decide +kernel)) ggL_law_X6_log
set_option maxRecDepth 20000 in
theorem ggL_law_X5_sum : GoodIn wsL_law wsX5_sum := goodIn_r _ [645, 15, 646, 647, 648, 14, 649, 37, 674, 675, 676, 677, 678, 679, 698, 699, 700, 701, 702] (by decide +kernel) (by decide +kernel)
set_option maxRecDepth 20000 in
theorem gL_law_X5_sum : GoodIn wsL_law (wsV RL 113 RX5 yX5_sum wsX5_sum) := goodIn_app (goodIn_of _ (by decide +kernel)) ggL_law_X5_sum
set_option maxRecDepth 20000 in
theorem ggL_law_X6_sum : GoodIn wsL_law wsX6_sum := goodIn_r _ [653, 113, 114, 5, 115, 654, 655, 656, 657, 64, 121, 122, 123, 124, 680, 681, 682, 683, 684, 685, 686, 687, 688, 689, 690, 691, 692, 693, 694, 695, 696, 697] (by decide +kernel) (by decide +kernel)
set_option maxRecDepth 20000 in
theorem gL_law_X6_sum : GoodIn wsL_law (wsV RL 116 RX6 yX6_sum wsX6_sum) := goodIn_app (goodIn_of _ (by decide +kernel)) ggL_law_X6_sum
set_option maxRecDepth 20000 in
theorem ggL_law_X5_patience : GoodIn wsL_law wsX5_patience := goodIn_r _ [661, 15, 145, 674, 675, 676, 677, 678, 679, 698, 699, 700, 701, 702] (by decide +kernel) (by decide +kernel)
set_option maxRecDepth 20000 in
theorem gL_law_X5_patience : GoodIn wsL_law (wsV RL 117 RX5 yX5_patience wsX5_patience) := goodIn_app (goodIn_of _ (by decide +kernel)) ggL_law_X5_patience
set_option maxRecDepth 20000 in
theorem ggL_law_X6_patience : GoodIn wsL_law wsX6_patience := goodIn_r _ [665, 64, 680, 681, 682, 683, 684, 685, 686, 687, 688, 689, 690, 691, 692, 693, 694, 695, 696, 697] (by decide +kernel) (by decide +kernel)
set_option maxRecDepth 20000 in
theorem gL_law_X6_patience : GoodIn wsL_law (wsV RL 120 RX6 yX6_patience wsX6_patience) := goodIn_app (goodIn_of _ (by decide +kernel)) ggL_law_X6_patience
set_option maxRecDepth 20000 in
theorem ggL_law_X5_share : GoodIn wsL_law wsX5_share := goodIn_r _ [669, 15, 646, 647, 648, 14, 649, 37, 674, 675, 676, 677, 678, 679, 698, 699, 700, 701, 702] (by decide +kernel) (by decide +kernel)
set_option maxRecDepth 20000 in
theorem gL_law_X5_share : GoodIn wsL_law (wsV RL 121 RX5 yX5_share wsX5_share) := goodIn_app (goodIn_of _ (by decide +kernel)) ggL_law_X5_share
set_option maxRecDepth 20000 in
theorem ggL_law_X6_share : GoodIn wsL_law wsX6_share := goodIn_r _ [673, 654, 655, 656, 5, 657, 64, 121, 122, 123, 124, 680, 681, 682, 683, 684, 685, 686, 687, 688, 689, 690, 691, 692, 693, 694, 695, 696, 697] (by decide +kernel) (by decide +kernel)
set_option maxRecDepth 20000 in
theorem gL_law_X6_share : GoodIn wsL_law (wsV RL 125 RX6 yX6_share wsX6_share) := goodIn_app (goodIn_of _ (by decide +kernel)) ggL_law_X6_share
