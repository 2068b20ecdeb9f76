set_option maxRecDepth 20000 in
theorem ggL_law_X6_match : GoodIn wsL_law wsX6_match := goodIn_r _ [368, 15, 369, 23, 19, 168, 142, 2, 143, 201, 202, 203, 313, 314, 315, 18, 316, 48, 46, 317, 318, 205, 206, 207, 49, 50, 208, 51, 209, 177, 58, 178, 210, 211, 212, 14, 213, 32, 33, 214, 215, 216, 217, 47, 218, 219, 173, 174, 175, 141, 57, 59, 176, 34, 179, 180, 181, 220, 221, 222, 223, 224, 225, 226, 227, 228, 229, 45, 230, 62, 60, 231, 232, 233, 234, 235, 236, 237, 238, 319, 320, 321, 322, 37, 370, 371, 372, 22, 373, 70, 374, 69, 375, 338, 339, 340, 341, 342, 68, 343, 344, 345, 346, 35, 347, 348, 349, 350, 351, 352, 353, 354, 355, 376, 377, 378, 379, 36, 477, 478, 479, 480, 481, 493, 494, 495, 496, 497, 498, 499, 500, 501, 502, 503, 504, 518, 519, 505, 506, 507] (by decide +kernel) (by decide +kernel)
set_option maxRecDepth 20000 in
theorem gL_law_X6_match : GoodIn wsL_law (wsV RL 49 RX6 yX6_match wsX6_match) := goodIn_app (goodIn_of _ (by decide +kernel)) ggL_law_X6_match
set_option maxRecDepth 20000 in
theorem ggL_law_X7_match : GoodIn wsL_law wsX7_match := goodIn_r _ [383, 156, 108, 112, 331, 157, 158, 5, 159, 360, 361, 362, 363, 364, 327, 328, 329, 330, 110, 261, 256, 257, 258, 259, 260, 111, 262, 263, 264, 265, 124, 125, 126, 127, 482, 483, 484, 485, 486, 487, 488, 489, 490, 491, 492] (by decide +kernel) (by decide +kernel)
set_option maxRecDepth 20000 in
theorem gL_law_X7_match : GoodIn wsL_law (wsV RL 52 RX7 yX7_match wsX7_match) := goodIn_app (goodIn_of _ (by decide +kernel)) ggL_law_X7_match
set_option maxRecDepth 20000 in
theorem ggL_law_X6_point : GoodIn wsL_law wsX6_point := goodIn_r _ [387, 27, 136, 201, 202, 2, 203, 388, 389, 390, 26, 391, 86, 83, 392, 393, 394, 377, 378, 14, 379, 36, 179, 180, 181, 395, 396, 397, 398, 96, 77, 95, 84, 85, 81, 399, 400, 401, 402, 80, 403, 101, 102, 404, 405, 406, 407, 408, 320, 321, 322, 37, 409, 173, 174, 175, 141, 57, 58, 59, 176, 177, 178, 34, 410, 411, 412, 413, 82, 97, 98, 99, 100, 414, 344, 345, 346, 35, 347, 348, 349, 415, 416, 417, 418, 94, 477, 478, 479, 480, 481, 508, 509, 510, 511, 512, 513, 514, 515, 516, 517, 520, 521, 493, 494, 495, 496, 497, 498, 499] (by decide +kernel) (by decide +kernel)
set_option maxRecDepth 20000 in
theorem gL_law_X6_point : GoodIn wsL_law (wsV RL 53 RX6 yX6_point wsX6_point) := goodIn_app (goodIn_of _ (by decide +kernel)) ggL_law_X6_point
set_option maxRecDepth 20000 in
theorem ggL_law_X7_point : GoodIn wsL_law wsX7_point := goodIn_r _ [422, 156, 113, 119, 109, 157, 158, 5, 159, 114, 115, 116, 117, 118, 108, 120, 121, 122, 123, 124, 125, 126, 127, 128, 129, 130, 131, 482, 483, 484, 485, 486, 487, 488, 489, 490, 491, 492] (by decide +kernel) (by decide +kernel)
set_option maxRecDepth 20000 in
theorem gL_law_X7_point : GoodIn wsL_law (wsV RL 56 RX7 yX7_point wsX7_point) := goodIn_app (goodIn_of _ (by decide +kernel)) ggL_law_X7_point
set_option maxRecDepth 20000 in
theorem ggL_law_X6_back : GoodIn wsL_law wsX6_back := goodIn_r _ [426, 27, 168, 142, 2, 143, 427, 428, 429, 26, 430, 96, 431, 57, 58, 59, 77, 90, 91, 92, 93, 81, 82, 83, 84, 85, 94, 95, 97, 98, 99, 80, 100, 101, 102, 432, 396, 397, 398, 86, 399, 393, 400, 401, 402, 403, 404, 405, 406, 407, 392, 408, 320, 321, 14, 322, 37, 409, 173, 174, 175, 141, 176, 177, 178, 34, 179, 180, 181, 410, 411, 412, 413, 414, 344, 345, 346, 35, 347, 348, 349, 415, 416, 417, 418, 477, 478, 479, 480, 481, 508, 509, 510, 511, 512, 513, 514, 515, 516, 517, 520, 521, 493, 494, 495, 496, 497, 498, 499] (by decide +kernel) (by decide +kernel)
set_option maxRecDepth 20000 in
theorem gL_law_X6_back : GoodIn wsL_law (wsV RL 57 RX6 yX6_back wsX6_back) := goodIn_app (goodIn_of _ (by decide +kernel)) ggL_law_X6_back
set_option maxRecDepth 20000 in
theorem ggL_law_X7_back : GoodIn wsL_law wsX7_back := goodIn_r _ [436, 156, 119, 157, 158, 5, 159, 114, 115, 116, 117, 113, 118, 109, 108, 120, 121, 122, 123, 124, 125, 126, 127, 128, 129, 130, 131, 482, 483, 484, 485, 486, 487, 488, 489, 490, 491, 492] (by decide +kernel) (by decide +kernel)
set_option maxRecDepth 20000 in
theorem gL_law_X7_back : GoodIn wsL_law (wsV RL 60 RX7 yX7_back wsX7_back) := goodIn_app (goodIn_of _ (by decide +kernel)) ggL_law_X7_back
