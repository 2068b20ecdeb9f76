set_option maxRecDepth 20000 in
theorem ggL_law_X6_chance : GoodIn wsL_law wsX6_chance := goodIn_r _ [192, 193, 19, 194, 195, 196, 197, 2, 198, 15, 199, 200, 168, 142, 143, 201, 202, 203, 204, 205, 206, 18, 207, 48, 49, 50, 208, 51, 209, 177, 58, 178, 210, 211, 212, 14, 213, 32, 33, 214, 215, 216, 217, 46, 47, 218, 219, 173, 174, 175, 141, 57, 59, 176, 34, 179, 180, 181, 220, 221, 222, 223, 224, 225, 226, 227, 228, 229, 45, 230, 62, 60, 231, 232, 233, 234, 235, 236, 237, 238, 239, 240, 241, 242, 243, 244, 245, 246, 477, 478, 479, 480, 481, 500, 501, 502, 503, 504, 493, 494, 495, 496, 497, 498, 499, 518, 519] (by decide +kernel) (by decide +kernel)
set_option maxRecDepth 20000 in
theorem gL_law_X6_chance : GoodIn wsL_law (wsV RL 23 RX6 yX6_chance wsX6_chance) := goodIn_app (goodIn_of _ (by decide +kernel)) ggL_law_X6_chance
set_option maxRecDepth 20000 in
theorem ggL_law_X7_chance : GoodIn wsL_law wsX7_chance := goodIn_r _ [250, 156, 251, 110, 252, 253, 254, 5, 255, 108, 157, 158, 159, 256, 257, 258, 259, 260, 261, 111, 262, 263, 264, 265, 124, 125, 126, 127, 266, 267, 268, 269, 270, 271, 272, 482, 483, 484, 485, 486, 487, 488, 489, 490, 491, 492] (by decide +kernel) (by decide +kernel)
set_option maxRecDepth 20000 in
theorem gL_law_X7_chance : GoodIn wsL_law (wsV RL 27 RX7 yX7_chance wsX7_chance) := goodIn_app (goodIn_of _ (by decide +kernel)) ggL_law_X7_chance
set_option maxRecDepth 20000 in
theorem ggL_law_X6_lasts : GoodIn wsL_law wsX6_lasts := goodIn_r _ [276, 193, 19, 277, 195, 196, 197, 2, 198, 15, 199, 200, 168, 142, 143, 201, 202, 203, 204, 205, 206, 18, 207, 48, 49, 50, 208, 51, 209, 177, 58, 178, 210, 211, 212, 14, 213, 32, 33, 214, 215, 216, 217, 46, 47, 218, 219, 173, 174, 175, 141, 57, 59, 176, 34, 179, 180, 181, 220, 221, 222, 223, 224, 225, 226, 227, 228, 229, 45, 230, 62, 60, 231, 232, 233, 234, 235, 236, 237, 238, 239, 240, 241, 242, 243, 244, 245, 246, 477, 478, 479, 480, 481, 500, 501, 502, 503, 504, 493, 494, 495, 496, 497, 498, 499, 518, 519] (by decide +kernel) (by decide +kernel)
set_option maxRecDepth 20000 in
theorem gL_law_X6_lasts : GoodIn wsL_law (wsV RL 28 RX6 yX6_lasts wsX6_lasts) := goodIn_app (goodIn_of _ (by decide +kernel)) ggL_law_X6_lasts
set_option maxRecDepth 20000 in
theorem ggL_law_X7_lasts : GoodIn wsL_law wsX7_lasts := goodIn_r _ [281, 156, 251, 111, 252, 253, 254, 5, 255, 108, 157, 158, 159, 256, 257, 258, 259, 260, 261, 110, 262, 263, 264, 265, 124, 125, 126, 127, 266, 267, 268, 269, 270, 271, 272, 482, 483, 484, 485, 486, 487, 488, 489, 490, 491, 492] (by decide +kernel) (by decide +kernel)
set_option maxRecDepth 20000 in
theorem gL_law_X7_lasts : GoodIn wsL_law (wsV RL 31 RX7 yX7_lasts wsX7_lasts) := goodIn_app (goodIn_of _ (by decide +kernel)) ggL_law_X7_lasts
set_option maxRecDepth 20000 in
theorem ggL_law_X6_weight : GoodIn wsL_law wsX6_weight := goodIn_r _ [285, 193, 15, 200, 19, 199, 195, 196, 197, 2, 198, 168, 142, 143, 201, 202, 203, 172, 173, 174, 14, 175, 141, 57, 58, 59, 176, 177, 178, 34, 179, 180, 181, 204, 205, 206, 18, 207, 48, 49, 50, 208, 51, 209, 210, 211, 212, 213, 32, 33, 214, 215, 216, 217, 46, 47, 218, 219, 220, 221, 222, 223, 224, 225, 226, 227, 228, 229, 45, 230, 62, 60, 231, 232, 233, 234, 235, 236, 237, 238, 286, 287, 288, 289, 240, 241, 242, 243, 244, 245, 246, 477, 478, 479, 480, 481, 493, 494, 495, 496, 497, 498, 499, 500, 501, 502, 503, 504, 518, 519] (by decide +kernel) (by decide +kernel)
set_option maxRecDepth 20000 in
theorem gL_law_X6_weight : GoodIn wsL_law (wsV RL 32 RX6 yX6_weight wsX6_weight) := goodIn_app (goodIn_of _ (by decide +kernel)) ggL_law_X6_weight
set_option maxRecDepth 20000 in
theorem ggL_law_X7_weight : GoodIn wsL_law wsX7_weight := goodIn_r _ [293, 156, 108, 251, 110, 252, 253, 254, 5, 255, 157, 158, 159, 124, 125, 126, 127, 256, 257, 258, 259, 260, 261, 111, 262, 263, 264, 265, 266, 267, 268, 269, 270, 271, 272, 482, 483, 484, 485, 486, 487, 488, 489, 490, 491, 492] (by decide +kernel) (by decide +kernel)
set_option maxRecDepth 20000 in
theorem gL_law_X7_weight : GoodIn wsL_law (wsV RL 35 RX7 yX7_weight wsX7_weight) := goodIn_app (goodIn_of _ (by decide +kernel)) ggL_law_X7_weight
