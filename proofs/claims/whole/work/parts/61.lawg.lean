/-! THE LAW WORDS: each method among them -/
set_option maxRecDepth 20000 in
theorem ggL_law_X5_mill : GoodIn wsL_law wsX5_mill := goodIn_r _ [72, 16, 15, 73, 74, 75, 14, 76, 32, 33, 34, 35, 36, 37, 38, 39, 40, 41, 42, 43, 2, 44, 77, 78, 79, 80, 81, 82, 83, 84, 85, 86, 87, 88, 89, 90, 91, 92, 93, 94, 95, 96, 97, 98, 99, 100, 101, 102, 103, 104, 105, 106, 107, 22, 108, 109, 110, 111, 112, 113, 21, 114, 52, 51, 115, 116, 117, 118, 50, 119, 828, 829, 830, 831, 832, 833, 841, 842, 843, 844, 845, 846, 847, 848, 849, 850, 851, 852, 853, 854] (by decide +kernel) (by decide +kernel)
set_option maxRecDepth 20000 in
theorem gL_law_X5_mill : GoodIn wsL_law (wsV RL 13 RX5 yX5_mill wsX5_mill) := goodIn_app (goodIn_of _ (by decide +kernel)) ggL_law_X5_mill
set_option maxRecDepth 20000 in
theorem ggL_law_X6_set : GoodIn wsL_law wsX6_set := goodIn_r _ [226, 65, 227, 228, 5, 229, 135, 136, 137, 164, 165, 166, 167, 168, 66, 834, 835, 836, 837, 838, 839, 840] (by decide +kernel) (by decide +kernel)
set_option maxRecDepth 20000 in
theorem gL_law_X6_set : GoodIn wsL_law (wsV RL 31 RX6 yX6_set wsX6_set) := goodIn_app (goodIn_of _ (by decide +kernel)) ggL_law_X6_set
