set_option maxRecDepth 20000 in
theorem ggL_law_X6_score : GoodIn wsL_law wsX6_score := goodIn_r _ [440, 27, 168, 142, 2, 143, 441, 442, 443, 26, 444, 81, 393, 82, 392, 83, 95, 96, 84, 85, 404, 405, 406, 407, 86, 408, 320, 321, 14, 322, 37, 445, 389, 390, 391, 394, 377, 378, 379, 36, 179, 180, 181, 477, 478, 479, 480, 481, 508, 509, 510, 511, 512, 513, 514, 515, 516, 517, 520, 521, 493, 494, 495, 496, 497, 498, 499] (by decide +kernel) (by decide +kernel)
set_option maxRecDepth 20000 in
theorem gL_law_X6_score : GoodIn wsL_law (wsV RL 61 RX6 yX6_score wsX6_score) := goodIn_app (goodIn_of _ (by decide +kernel)) ggL_law_X6_score
set_option maxRecDepth 20000 in
theorem ggL_law_X7_score : GoodIn wsL_law wsX7_score := goodIn_r _ [449, 156, 113, 157, 158, 5, 159, 482, 483, 484, 485, 486, 487, 488, 489, 490, 491, 492] (by decide +kernel) (by decide +kernel)
set_option maxRecDepth 20000 in
theorem gL_law_X7_score : GoodIn wsL_law (wsV RL 64 RX7 yX7_score wsX7_score) := goodIn_app (goodIn_of _ (by decide +kernel)) ggL_law_X7_score
set_option maxRecDepth 20000 in
theorem ggL_law_X6_likeliest : GoodIn wsL_law wsX6_likeliest := goodIn_r _ [453, 168, 142, 2, 143, 454, 455, 456] (by decide +kernel) (by decide +kernel)
set_option maxRecDepth 20000 in
theorem gL_law_X6_likeliest : GoodIn wsL_law (wsV RL 65 RX6 yX6_likeliest wsX6_likeliest) := goodIn_app (goodIn_of _ (by decide +kernel)) ggL_law_X6_likeliest
set_option maxRecDepth 20000 in
theorem ggL_law_X7_likeliest : GoodIn wsL_law wsX7_likeliest := goodIn_r _ [460, 156, 157, 158, 5, 159, 482, 483, 484, 485, 486, 487, 488, 489, 490, 491, 492] (by decide +kernel) (by decide +kernel)
set_option maxRecDepth 20000 in
theorem gL_law_X7_likeliest : GoodIn wsL_law (wsV RL 68 RX7 yX7_likeliest wsX7_likeliest) := goodIn_app (goodIn_of _ (by decide +kernel)) ggL_law_X7_likeliest
set_option maxRecDepth 20000 in
theorem ggL_law_X6_count : GoodIn wsL_law wsX6_count := goodIn_r _ [464, 15, 144, 145, 146, 14, 147, 32, 33, 34, 35, 36, 37, 38, 477, 478, 479, 480, 481, 493, 494, 495, 496, 497, 498, 499] (by decide +kernel) (by decide +kernel)
set_option maxRecDepth 20000 in
theorem gL_law_X6_count : GoodIn wsL_law (wsV RL 69 RX6 yX6_count wsX6_count) := goodIn_app (goodIn_of _ (by decide +kernel)) ggL_law_X6_count
set_option maxRecDepth 20000 in
theorem ggL_law_X7_count : GoodIn wsL_law wsX7_count := goodIn_r _ [468, 156, 108, 157, 158, 5, 159, 482, 483, 484, 485, 486, 487, 488, 489, 490, 491, 492] (by decide +kernel) (by decide +kernel)
set_option maxRecDepth 20000 in
theorem gL_law_X7_count : GoodIn wsL_law (wsV RL 72 RX7 yX7_count wsX7_count) := goodIn_app (goodIn_of _ (by decide +kernel)) ggL_law_X7_count
