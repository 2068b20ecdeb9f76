set_option maxRecDepth 20000 in
theorem ggL_law_X6_heaviest : GoodIn wsL_law wsX6_heaviest := goodIn_r _ [297, 19, 201, 202, 2, 203, 204, 205, 206, 18, 207, 48, 49, 50, 208, 51, 209, 177, 58, 178, 210, 211, 212, 14, 213, 32, 33, 214, 215, 216, 217, 46, 47, 218, 219, 173, 174, 175, 141, 57, 59, 176, 34, 179, 180, 181, 220, 221, 222, 223, 224, 225, 226, 227, 228, 229, 45, 230, 62, 60, 231, 232, 233, 234, 235, 236, 237, 238, 298, 299, 300, 301, 302, 303, 287, 288, 289, 477, 478, 479, 480, 481, 500, 501, 502, 503, 504, 493, 494, 495, 496, 497, 498, 499, 518, 519] (by decide +kernel) (by decide +kernel)
set_option maxRecDepth 20000 in
theorem gL_law_X6_heaviest : GoodIn wsL_law (wsV RL 36 RX6 yX6_heaviest wsX6_heaviest) := goodIn_app (goodIn_of _ (by decide +kernel)) ggL_law_X6_heaviest
set_option maxRecDepth 20000 in
theorem ggL_law_X7_heaviest : GoodIn wsL_law wsX7_heaviest := goodIn_r _ [307, 156, 308, 108, 110, 157, 158, 5, 159, 256, 257, 258, 259, 260, 261, 111, 262, 263, 264, 265, 124, 125, 126, 127, 482, 483, 484, 485, 486, 487, 488, 489, 490, 491, 492] (by decide +kernel) (by decide +kernel)
set_option maxRecDepth 20000 in
theorem gL_law_X7_heaviest : GoodIn wsL_law (wsV RL 39 RX7 yX7_heaviest wsX7_heaviest) := goodIn_app (goodIn_of _ (by decide +kernel)) ggL_law_X7_heaviest
set_option maxRecDepth 20000 in
theorem ggL_law_X6_game : GoodIn wsL_law wsX6_game := goodIn_r _ [312, 19, 201, 202, 2, 203, 313, 314, 315, 18, 316, 48, 46, 317, 318, 205, 206, 207, 49, 50, 208, 51, 209, 177, 58, 178, 210, 211, 212, 14, 213, 32, 33, 214, 215, 216, 217, 47, 218, 219, 173, 174, 175, 141, 57, 59, 176, 34, 179, 180, 181, 220, 221, 222, 223, 224, 225, 226, 227, 228, 229, 45, 230, 62, 60, 231, 232, 233, 234, 235, 236, 237, 238, 319, 320, 321, 322, 37, 477, 478, 479, 480, 481, 500, 501, 502, 503, 504, 493, 494, 495, 496, 497, 498, 499, 518, 519] (by decide +kernel) (by decide +kernel)
set_option maxRecDepth 20000 in
theorem gL_law_X6_game : GoodIn wsL_law (wsV RL 40 RX6 yX6_game wsX6_game) := goodIn_app (goodIn_of _ (by decide +kernel)) ggL_law_X6_game
set_option maxRecDepth 20000 in
theorem ggL_law_X7_game : GoodIn wsL_law wsX7_game := goodIn_r _ [326, 156, 157, 158, 5, 159, 327, 328, 329, 330, 110, 108, 331, 261, 256, 257, 258, 259, 260, 111, 262, 263, 264, 265, 124, 125, 126, 127, 482, 483, 484, 485, 486, 487, 488, 489, 490, 491, 492] (by decide +kernel) (by decide +kernel)
set_option maxRecDepth 20000 in
theorem gL_law_X7_game : GoodIn wsL_law (wsV RL 44 RX7 yX7_game wsX7_game) := goodIn_app (goodIn_of _ (by decide +kernel)) ggL_law_X7_game
set_option maxRecDepth 20000 in
theorem ggL_law_X6_round : GoodIn wsL_law wsX6_round := goodIn_r _ [335, 15, 336, 23, 19, 168, 142, 2, 143, 201, 202, 203, 313, 314, 315, 18, 316, 48, 46, 317, 318, 205, 206, 207, 49, 50, 208, 51, 209, 177, 58, 178, 210, 211, 212, 14, 213, 32, 33, 214, 215, 216, 217, 47, 218, 219, 173, 174, 175, 141, 57, 59, 176, 34, 179, 180, 181, 220, 221, 222, 223, 224, 225, 226, 227, 228, 229, 45, 230, 62, 60, 231, 232, 233, 234, 235, 236, 237, 238, 319, 320, 321, 322, 37, 337, 338, 339, 22, 340, 70, 341, 342, 68, 343, 344, 345, 346, 35, 347, 348, 349, 350, 351, 352, 353, 354, 355, 477, 478, 479, 480, 481, 493, 494, 495, 496, 497, 498, 499, 500, 501, 502, 503, 504, 518, 519, 505, 506, 507] (by decide +kernel) (by decide +kernel)
set_option maxRecDepth 20000 in
theorem gL_law_X6_round : GoodIn wsL_law (wsV RL 45 RX6 yX6_round wsX6_round) := goodIn_app (goodIn_of _ (by decide +kernel)) ggL_law_X6_round
set_option maxRecDepth 20000 in
theorem ggL_law_X7_round : GoodIn wsL_law wsX7_round := goodIn_r _ [359, 156, 108, 112, 157, 158, 5, 159, 360, 361, 362, 363, 331, 364, 327, 328, 329, 330, 110, 261, 256, 257, 258, 259, 260, 111, 262, 263, 264, 265, 124, 125, 126, 127, 482, 483, 484, 485, 486, 487, 488, 489, 490, 491, 492] (by decide +kernel) (by decide +kernel)
set_option maxRecDepth 20000 in
theorem gL_law_X7_round : GoodIn wsL_law (wsV RL 48 RX7 yX7_round wsX7_round) := goodIn_app (goodIn_of _ (by decide +kernel)) ggL_law_X7_round
