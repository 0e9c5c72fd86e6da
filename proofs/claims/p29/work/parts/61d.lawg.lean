/-! THE LAW WORDS: each method among them, 4 -/
set_option maxRecDepth 20000 in
theorem ggL_law_X5_wind : GoodIn wsL_law wsX5_wind := goodIn_r _ [362, 14, 13, 145, 138, 139, 12, 140, 29, 30, 31, 32, 33, 34, 35, 36, 37, 38, 39, 40, 2, 41, 238, 239, 240, 241, 100, 101, 102, 242, 71, 72, 73, 74, 75, 227, 228, 229, 146, 147, 148, 149, 20, 150, 151, 152, 153, 154, 155, 19, 156, 49, 48, 133, 134, 135, 136, 47, 137, 497, 498, 499, 500, 501, 502, 503, 504, 505, 506, 507, 508, 509, 510, 511, 512, 513, 514, 515, 516] rfl (by decide +kernel)
set_option maxRecDepth 20000 in
theorem gL_law_X5_wind : GoodIn wsL_law (wsV RL 78 RX5 yX5_wind wsX5_wind) := goodIn_app (goodIn_of _ (by decide +kernel)) ggL_law_X5_wind
set_option maxRecDepth 20000 in
theorem ggL_law_X5_set : GoodIn wsL_law wsX5_set := goodIn_r _ [366, 367, 368, 369, 13, 14, 301, 74, 2, 75, 314, 283, 284, 12, 285, 30, 145, 138, 139, 140, 29, 31, 32, 33, 34, 35, 36, 37, 38, 39, 40, 41, 227, 228, 229, 146, 147, 148, 149, 20, 150, 151, 152, 153, 154, 155, 19, 156, 49, 48, 133, 134, 135, 136, 47, 137, 497, 498, 499, 500, 501, 502, 503, 504, 505, 506, 507, 508, 509, 510, 511, 512, 513, 514, 515, 516] rfl (by decide +kernel)
set_option maxRecDepth 20000 in
theorem gL_law_X5_set : GoodIn wsL_law (wsV RL 81 RX5 yX5_set wsX5_set) := goodIn_app (goodIn_of _ (by decide +kernel)) ggL_law_X5_set
set_option maxRecDepth 20000 in
theorem ggL_law_X5_yardOf : GoodIn wsL_law wsX5_yardOf := goodIn_r _ [348, 13, 209, 210, 2, 211, 349, 217, 218, 12, 219, 34, 32, 220, 221, 222, 74, 75, 350, 224, 225, 226, 37, 36, 497, 498, 499, 500, 501, 502, 503, 504, 505, 506, 507, 508, 509, 510, 511, 512, 513] rfl (by decide +kernel)
set_option maxRecDepth 20000 in
theorem gL_law_X5_yardOf : GoodIn wsL_law (wsV RL 32 RX5 yX5_yardOf wsX5_yardOf) := goodIn_app (goodIn_of _ (by decide +kernel)) ggL_law_X5_yardOf
set_option maxRecDepth 20000 in
theorem ggL_law_X5_quietHours : GoodIn wsL_law wsX5_quietHours := goodIn_r _ [489, 13, 377, 256, 257, 12, 258, 32, 490, 67, 68, 69, 70, 71, 72, 73, 29, 74, 2, 75, 491, 437, 438, 439, 36, 274, 275, 276, 277, 37, 34, 33, 111, 112, 113, 114, 115, 116, 117, 118, 119, 120, 121, 122, 123, 124, 278, 279, 280, 281, 282, 283, 284, 285, 30, 66, 286, 287, 272, 288, 289, 290, 291, 292, 293, 294, 295, 296, 297, 497, 498, 499, 500, 501, 502, 503, 504, 505, 506, 507, 508, 509, 510, 511, 512, 513] rfl (by decide +kernel)
set_option maxRecDepth 20000 in
theorem gL_law_X5_quietHours : GoodIn wsL_law (wsV RL 54 RX5 yX5_quietHours wsX5_quietHours) := goodIn_app (goodIn_of _ (by decide +kernel)) ggL_law_X5_quietHours
