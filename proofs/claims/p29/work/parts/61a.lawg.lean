/-! THE LAW WORDS: each method among them, 1 -/
set_option maxRecDepth 20000 in
theorem ggL_law_X5_init : GoodIn wsL_law wsX5_init := goodIn_r _ [6, 7, 8, 9, 10, 11, 12, 13, 14, 15, 16, 17, 18, 19, 20, 21, 22, 23, 24, 25, 26, 27, 28, 3, 29, 30, 31, 32, 33, 34, 35, 36, 37, 38, 39, 40, 2, 41, 42, 43, 44, 45, 46, 47, 48, 49, 50, 51, 52, 53, 54, 55, 56, 57, 503, 504, 505, 506, 507, 508, 509, 510, 511, 512, 513, 497, 498, 499, 500, 501, 502, 514, 515, 516, 517, 518] rfl (by decide +kernel)
set_option maxRecDepth 20000 in
theorem gL_law_X5_init : GoodIn wsL_law (wsX5_init) := ggL_law_X5_init
set_option maxRecDepth 20000 in
theorem ggL_law_X5_ground : GoodIn wsL_law wsX5_ground := goodIn_r _ [61, 13, 62, 63, 64, 12, 65, 32, 66, 67, 68, 69, 70, 71, 72, 73, 29, 74, 2, 75, 76, 77, 78, 79, 80, 81, 82, 83, 84, 85, 86, 87, 88, 89, 90, 91, 92, 93, 94, 95, 35, 497, 498, 499, 500, 501, 502, 503, 504, 505, 506, 507, 508, 509, 510, 511, 512, 513] rfl (by decide +kernel)
set_option maxRecDepth 20000 in
theorem gL_law_X5_ground : GoodIn wsL_law (wsV RL 44 RX5 yX5_ground wsX5_ground) := goodIn_app (goodIn_of _ (by decide +kernel)) ggL_law_X5_ground
set_option maxRecDepth 20000 in
theorem ggL_law_X5_loudest : GoodIn wsL_law wsX5_loudest := goodIn_r _ [99, 13, 100, 101, 2, 102, 103, 104, 105, 12, 106, 32, 37, 74, 75, 107, 108, 109, 110, 88, 89, 90, 91, 92, 93, 94, 95, 35, 111, 112, 113, 114, 34, 115, 116, 117, 118, 70, 71, 72, 73, 29, 119, 120, 121, 122, 123, 124, 497, 498, 499, 500, 501, 502, 503, 504, 505, 506, 507, 508, 509, 510, 511, 512, 513] rfl (by decide +kernel)
set_option maxRecDepth 20000 in
theorem gL_law_X5_loudest : GoodIn wsL_law (wsV RL 51 RX5 yX5_loudest wsX5_loudest) := goodIn_app (goodIn_of _ (by decide +kernel)) ggL_law_X5_loudest
set_option maxRecDepth 20000 in
theorem ggL_law_X5_undo : GoodIn wsL_law wsX5_undo := goodIn_r _ [128, 20, 13, 129, 130, 131, 19, 132, 49, 133, 134, 135, 136, 48, 47, 137, 138, 139, 12, 140, 29, 30, 31, 32, 33, 34, 35, 36, 37, 38, 39, 40, 2, 41, 497, 498, 499, 500, 501, 502, 514, 515, 516, 503, 504, 505, 506, 507, 508, 509, 510, 511, 512, 513] rfl (by decide +kernel)
set_option maxRecDepth 20000 in
theorem gL_law_X5_undo : GoodIn wsL_law (wsV RL 97 RX5 yX5_undo wsX5_undo) := goodIn_app (goodIn_of _ (by decide +kernel)) ggL_law_X5_undo
set_option maxRecDepth 20000 in
theorem ggL_law_X5_restore : GoodIn wsL_law wsX5_restore := goodIn_r _ [144, 16, 14, 13, 15, 145, 138, 139, 12, 140, 29, 30, 31, 32, 33, 34, 35, 36, 37, 38, 39, 40, 2, 41, 146, 147, 148, 149, 20, 150, 151, 152, 153, 154, 155, 19, 156, 49, 48, 133, 134, 135, 136, 47, 137, 497, 498, 499, 500, 501, 502, 503, 504, 505, 506, 507, 508, 509, 510, 511, 512, 513, 514, 515, 516] rfl (by decide +kernel)
set_option maxRecDepth 20000 in
theorem gL_law_X5_restore : GoodIn wsL_law (wsV RL 101 RX5 yX5_restore wsX5_restore) := goodIn_app (goodIn_of _ (by decide +kernel)) ggL_law_X5_restore
