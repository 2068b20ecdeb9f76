set_option maxRecDepth 20000 in
theorem ggL_law_X6_init : GoodIn wsL_law wsX6_init := goodIn_r _ [8, 9, 10, 11, 12, 13, 14, 15, 16, 17, 18, 19, 20, 21, 22, 23, 24, 25, 26, 27, 28, 29, 30, 31, 32, 33, 34, 35, 36, 37, 38, 39, 40, 41, 42, 43, 44, 45, 46, 47, 48, 49, 50, 51, 52, 53, 54, 55, 56, 57, 58, 59, 60, 61, 62, 63, 64, 65, 66, 67, 68, 69, 70, 71, 72, 73, 74, 75, 76, 77, 78, 79, 80, 81, 82, 83, 84, 85, 86, 87, 88, 89, 90, 91, 92, 93, 94, 95, 96, 97, 98, 99, 100, 101, 102, 493, 494, 495, 496, 497, 498, 499, 477, 478, 479, 480, 481, 500, 501, 502, 503, 504, 505, 506, 507, 508, 509, 510, 511, 512, 513, 514, 515, 516, 517, 518, 519, 520, 521] (by decide +kernel) (by decide +kernel)
set_option maxRecDepth 20000 in
theorem gL_law_X6_init : GoodIn wsL_law (wsX6_init) := ggL_law_X6_init
set_option maxRecDepth 20000 in
theorem ggL_law_X7_init : GoodIn wsL_law wsX7_init := goodIn_r _ [105, 106, 10, 11, 107, 108, 109, 61, 110, 111, 112, 113, 114, 115, 116, 5, 117, 118, 119, 120, 121, 122, 123, 124, 125, 126, 127, 128, 129, 130, 131, 482, 483, 484, 485, 486, 487, 488, 489, 490, 491, 492] (by decide +kernel) (by decide +kernel)
set_option maxRecDepth 20000 in
theorem gL_law_X7_init : GoodIn wsL_law (wsX7_init) := ggL_law_X7_init
set_option maxRecDepth 20000 in
theorem ggL_law_X6_set : GoodIn wsL_law wsX6_set := goodIn_r _ [135, 15, 27, 136, 137, 138, 139, 14, 140, 34, 141, 57, 58, 59, 142, 2, 143, 144, 145, 146, 147, 32, 33, 35, 36, 37, 38, 148, 149, 150, 151, 477, 478, 479, 480, 481, 508, 509, 510, 511, 512, 513, 514, 515, 516, 517, 493, 494, 495, 496, 497, 498, 499] (by decide +kernel) (by decide +kernel)
set_option maxRecDepth 20000 in
theorem gL_law_X6_set : GoodIn wsL_law (wsV RL 13 RX6 yX6_set wsX6_set) := goodIn_app (goodIn_of _ (by decide +kernel)) ggL_law_X6_set
set_option maxRecDepth 20000 in
theorem ggL_law_X7_set : GoodIn wsL_law wsX7_set := goodIn_r _ [155, 156, 119, 108, 157, 158, 5, 159, 160, 161, 162, 163, 114, 115, 116, 117, 113, 118, 109, 120, 121, 122, 123, 124, 125, 126, 127, 128, 129, 130, 131, 482, 483, 484, 485, 486, 487, 488, 489, 490, 491, 492] (by decide +kernel) (by decide +kernel)
set_option maxRecDepth 20000 in
theorem gL_law_X7_set : GoodIn wsL_law (wsV RL 17 RX7 yX7_set wsX7_set) := goodIn_app (goodIn_of _ (by decide +kernel)) ggL_law_X7_set
set_option maxRecDepth 20000 in
theorem ggL_law_X6_won : GoodIn wsL_law wsX6_won := goodIn_r _ [167, 28, 15, 168, 142, 2, 143, 169, 170, 171, 172, 173, 174, 14, 175, 141, 57, 58, 59, 176, 177, 178, 34, 179, 180, 181, 477, 478, 479, 480, 481, 493, 494, 495, 496, 497, 498, 499] (by decide +kernel) (by decide +kernel)
set_option maxRecDepth 20000 in
theorem gL_law_X6_won : GoodIn wsL_law (wsV RL 18 RX6 yX6_won wsX6_won) := goodIn_app (goodIn_of _ (by decide +kernel)) ggL_law_X6_won
set_option maxRecDepth 20000 in
theorem ggL_law_X7_won : GoodIn wsL_law wsX7_won := goodIn_r _ [185, 156, 186, 187, 188, 157, 158, 5, 159, 124, 125, 126, 127, 108, 482, 483, 484, 485, 486, 487, 488, 489, 490, 491, 492] (by decide +kernel) (by decide +kernel)
set_option maxRecDepth 20000 in
theorem gL_law_X7_won : GoodIn wsL_law (wsV RL 22 RX7 yX7_won wsX7_won) := goodIn_app (goodIn_of _ (by decide +kernel)) ggL_law_X7_won
