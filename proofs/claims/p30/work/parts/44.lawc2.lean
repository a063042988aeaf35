set_option maxRecDepth 20000 in
theorem ggL_law_X5_meaning : GoodIn wsL_law wsX5_meaning := goodIn_r _ [141, 142, 74, 75, 2, 76, 27, 19, 18, 77, 78, 79, 26, 80, 81, 82, 83, 84, 85, 86, 87, 88, 89, 90, 91, 92, 93, 94, 95, 96, 97, 98, 99, 100, 101, 102, 103, 104, 105, 106, 107, 108, 109, 110, 111, 112, 113, 114, 115, 116, 117, 118, 119, 120, 121, 122, 123, 124, 125, 126, 127, 128, 129, 130, 131, 132, 133, 134, 135, 136, 137, 143, 144, 145, 146, 147, 148, 149, 150, 151, 152, 153, 154, 155, 156, 157, 158, 159, 160, 161, 162, 163, 164, 165, 166, 167, 168, 169, 170, 407, 408, 409, 410, 411, 412, 423, 424, 425, 426, 427, 428, 429, 430, 431, 432, 433] (by decide +kernel) (by decide +kernel)
set_option maxRecDepth 20000 in
theorem gL_law_X5_meaning : GoodIn wsL_law (wsV RL 43 RX5 yX5_meaning wsX5_meaning) := goodIn_app (goodIn_of _ (by decide +kernel)) ggL_law_X5_meaning
set_option maxRecDepth 20000 in
theorem ggL_law_X5_tellText : GoodIn wsL_law wsX5_tellText := goodIn_r _ [174, 175, 176, 2, 177, 142, 74, 75, 76, 27, 19, 18, 77, 78, 79, 26, 80, 81, 82, 83, 84, 85, 86, 87, 88, 89, 90, 91, 92, 93, 94, 95, 96, 97, 98, 99, 100, 101, 102, 103, 104, 105, 106, 107, 108, 109, 110, 111, 112, 113, 114, 115, 116, 117, 118, 119, 120, 121, 122, 123, 124, 125, 126, 127, 128, 129, 130, 131, 132, 133, 134, 135, 136, 137, 143, 144, 145, 146, 147, 148, 149, 150, 151, 152, 153, 154, 155, 156, 157, 158, 159, 160, 161, 162, 163, 164, 165, 166, 167, 168, 169, 170, 178, 179, 180, 181, 16, 12, 182, 183, 184, 185, 15, 186, 45, 44, 46, 187, 188, 189, 190, 65, 66, 67, 11, 68, 34, 69, 70, 71, 72, 35, 36, 37, 38, 191, 192, 193, 194, 195, 196, 197, 198, 199, 200, 201, 202, 203, 204, 205, 206, 207, 208, 209, 210, 211, 212, 407, 408, 409, 410, 411, 412, 423, 424, 425, 426, 427, 428, 429, 430, 431, 432, 433, 413, 414, 415, 416, 417, 418, 419, 420] (by decide +kernel) (by decide +kernel)
set_option maxRecDepth 20000 in
theorem gL_law_X5_tellText : GoodIn wsL_law (wsV RL 88 RX5 yX5_tellText wsX5_tellText) := goodIn_app (goodIn_of _ (by decide +kernel)) ggL_law_X5_tellText
set_option maxRecDepth 20000 in
theorem ggL_law_X5_placeOfText : GoodIn wsL_law wsX5_placeOfText := goodIn_r _ [216, 23, 142, 74, 75, 2, 76, 27, 19, 18, 77, 78, 79, 26, 80, 81, 82, 83, 84, 85, 86, 87, 88, 89, 90, 91, 92, 93, 94, 95, 96, 97, 98, 99, 100, 101, 102, 103, 104, 105, 106, 107, 108, 109, 110, 111, 112, 113, 114, 115, 116, 117, 118, 119, 120, 121, 122, 123, 124, 125, 126, 127, 128, 129, 130, 131, 132, 133, 134, 135, 136, 137, 143, 144, 145, 146, 147, 148, 149, 150, 151, 152, 153, 154, 155, 156, 157, 158, 159, 160, 161, 162, 163, 164, 165, 166, 167, 168, 169, 170, 217, 218, 219, 22, 220, 53, 221, 222, 189, 223, 224, 188, 190, 225, 226, 227, 228, 229, 230, 231, 232, 233, 234, 235, 236, 52, 237, 238, 239, 240, 241, 242, 243, 244, 245, 246, 247, 248, 249, 250, 251, 407, 408, 409, 410, 411, 412, 423, 424, 425, 426, 427, 428, 429, 430, 431, 432, 433, 421, 422] (by decide +kernel) (by decide +kernel)
set_option maxRecDepth 20000 in
theorem gL_law_X5_placeOfText : GoodIn wsL_law (wsV RL 46 RX5 yX5_placeOfText wsX5_placeOfText) := goodIn_app (goodIn_of _ (by decide +kernel)) ggL_law_X5_placeOfText
set_option maxRecDepth 20000 in
theorem ggL_law_X5_understoodText : GoodIn wsL_law wsX5_understoodText := goodIn_r _ [255, 175, 176, 2, 177, 142, 74, 75, 76, 27, 19, 18, 77, 78, 79, 26, 80, 81, 82, 83, 84, 85, 86, 87, 88, 89, 90, 91, 92, 93, 94, 95, 96, 97, 98, 99, 100, 101, 102, 103, 104, 105, 106, 107, 108, 109, 110, 111, 112, 113, 114, 115, 116, 117, 118, 119, 120, 121, 122, 123, 124, 125, 126, 127, 128, 129, 130, 131, 132, 133, 134, 135, 136, 137, 143, 144, 145, 146, 147, 148, 149, 150, 191, 192, 193, 194, 12, 182, 155, 156, 157, 158, 159, 160, 161, 162, 163, 164, 165, 166, 167, 168, 169, 170, 256, 257, 258, 407, 408, 409, 410, 411, 412, 423, 424, 425, 426, 427, 428, 429, 430, 431, 432, 433, 413, 414, 415, 416, 417] (by decide +kernel) (by decide +kernel)
set_option maxRecDepth 20000 in
theorem gL_law_X5_understoodText : GoodIn wsL_law (wsV RL 49 RX5 yX5_understoodText wsX5_understoodText) := goodIn_app (goodIn_of _ (by decide +kernel)) ggL_law_X5_understoodText
set_option maxRecDepth 20000 in
theorem ggL_law_X5_share : GoodIn wsL_law wsX5_share := goodIn_r _ [262, 12, 263, 264, 265, 11, 266, 34, 407, 408, 409, 410, 411, 412, 413, 414, 415, 416, 417] (by decide +kernel) (by decide +kernel)
set_option maxRecDepth 20000 in
theorem gL_law_X5_share : GoodIn wsL_law (wsV RL 19 RX5 yX5_share wsX5_share) := goodIn_app (goodIn_of _ (by decide +kernel)) ggL_law_X5_share
set_option maxRecDepth 20000 in
theorem ggL_law_X5_sum : GoodIn wsL_law wsX5_sum := goodIn_r _ [270, 12, 263, 264, 265, 11, 266, 34, 407, 408, 409, 410, 411, 412, 413, 414, 415, 416, 417] (by decide +kernel) (by decide +kernel)
set_option maxRecDepth 20000 in
theorem gL_law_X5_sum : GoodIn wsL_law (wsV RL 15 RX5 yX5_sum wsX5_sum) := goodIn_app (goodIn_of _ (by decide +kernel)) ggL_law_X5_sum
set_option maxRecDepth 20000 in
theorem ggL_law_X5_patience : GoodIn wsL_law wsX5_patience := goodIn_r _ [274, 12, 199, 407, 408, 409, 410, 411, 412, 413, 414, 415, 416, 417] (by decide +kernel) (by decide +kernel)
set_option maxRecDepth 20000 in
theorem gL_law_X5_patience : GoodIn wsL_law (wsV RL 73 RX5 yX5_patience wsX5_patience) := goodIn_app (goodIn_of _ (by decide +kernel)) ggL_law_X5_patience
set_option maxRecDepth 20000 in
theorem ggL_law_L_cell : GoodIn wsL_law wsL_cell := goodIn_r _ [278, 279, 280] (by decide +kernel) (by decide +kernel)
set_option maxRecDepth 20000 in
theorem gL_law_L_cell : GoodIn wsL_law (va_wsS RL 99 yL_cell wsL_cell) := goodIn_app (goodIn_of _ (by decide +kernel)) ggL_law_L_cell
