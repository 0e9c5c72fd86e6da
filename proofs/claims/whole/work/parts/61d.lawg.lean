/-! THE LAW WORDS: each method among them, 4 -/
set_option maxRecDepth 20000 in
theorem ggL_law_X5_count : GoodIn wsL_law wsX5_count := goodIn_r _ [754, 15, 22, 26, 218, 95, 2, 96, 755, 756, 757, 14, 758, 35, 313, 314, 315, 316, 38, 665, 521, 357, 522, 523, 524, 525, 759, 760, 761, 762, 763, 654, 655, 656, 649, 650, 651, 652, 317, 318, 319, 320, 321, 197, 198, 199, 32, 309, 310, 311, 312, 219, 220, 221, 222, 33, 828, 829, 830, 831, 832, 833, 841, 842, 843, 844, 845, 846, 847, 848, 849, 850, 851, 852, 853, 854, 855, 856] rfl (by decide +kernel)
set_option maxRecDepth 20000 in
theorem gL_law_X5_count : GoodIn wsL_law (wsV RL 99 RX5 yX5_count wsX5_count) := goodIn_app (goodIn_of _ (by decide +kernel)) ggL_law_X5_count
set_option maxRecDepth 20000 in
theorem ggL_law_X6_count : GoodIn wsL_law wsX6_count := goodIn_r _ [767, 65, 168, 388, 768, 769, 770, 5, 771, 146, 147, 148, 546, 547, 548, 670, 671, 672, 673, 674, 675, 676, 677, 463, 464, 465, 466, 678, 679, 680, 681, 135, 136, 137, 834, 835, 836, 837, 838, 839, 840] rfl (by decide +kernel)
set_option maxRecDepth 20000 in
theorem gL_law_X6_count : GoodIn wsL_law (wsV RL 102 RX6 yX6_count wsX6_count) := goodIn_app (goodIn_of _ (by decide +kernel)) ggL_law_X6_count
set_option maxRecDepth 20000 in
theorem ggL_law_X5_ground : GoodIn wsL_law wsX5_ground := goodIn_r _ [775, 15, 776, 777, 778, 14, 779, 35, 317, 318, 319, 320, 321, 197, 198, 199, 32, 95, 2, 96, 759, 760, 761, 762, 763, 654, 655, 656, 649, 650, 651, 652, 309, 310, 311, 312, 313, 314, 315, 316, 38, 828, 829, 830, 831, 832, 833, 841, 842, 843, 844, 845, 846, 847, 848, 849, 850, 851] rfl (by decide +kernel)
set_option maxRecDepth 20000 in
theorem gL_law_X5_ground : GoodIn wsL_law (wsV RL 103 RX5 yX5_ground wsX5_ground) := goodIn_app (goodIn_of _ (by decide +kernel)) ggL_law_X5_ground
set_option maxRecDepth 20000 in
theorem ggL_law_X6_ground : GoodIn wsL_law wsX6_ground := goodIn_r _ [783, 768, 769, 770, 5, 771, 65, 146, 147, 148, 546, 547, 548, 670, 671, 672, 673, 674, 675, 676, 677, 463, 464, 465, 466, 678, 679, 680, 681, 834, 835, 836, 837, 838, 839, 840] rfl (by decide +kernel)
set_option maxRecDepth 20000 in
theorem gL_law_X6_ground : GoodIn wsL_law (wsV RL 107 RX6 yX6_ground wsX6_ground) := goodIn_app (goodIn_of _ (by decide +kernel)) ggL_law_X6_ground
set_option maxRecDepth 20000 in
theorem ggL_law_X5_quietHours : GoodIn wsL_law wsX5_quietHours := goodIn_r _ [787, 15, 515, 295, 296, 14, 297, 35, 788, 318, 319, 320, 321, 197, 198, 199, 32, 95, 2, 96, 789, 562, 563, 564, 39, 326, 327, 328, 329, 40, 37, 36, 330, 331, 332, 333, 334, 335, 336, 337, 317, 338, 339, 340, 341, 342, 343, 344, 345, 346, 347, 348, 220, 221, 222, 33, 349, 350, 324, 351, 352, 353, 354, 355, 356, 357, 358, 359, 360, 361, 362, 363, 364, 828, 829, 830, 831, 832, 833, 841, 842, 843, 844, 845, 846, 847, 848, 849, 850, 851] rfl (by decide +kernel)
set_option maxRecDepth 20000 in
theorem gL_law_X5_quietHours : GoodIn wsL_law (wsV RL 108 RX5 yX5_quietHours wsX5_quietHours) := goodIn_app (goodIn_of _ (by decide +kernel)) ggL_law_X5_quietHours
set_option maxRecDepth 20000 in
theorem ggL_law_X6_quietHours : GoodIn wsL_law wsX6_quietHours := goodIn_r _ [793, 65, 445, 446, 447, 5, 448, 135, 136, 137, 794, 795, 796, 797, 569, 570, 571, 572, 573, 574, 575, 576, 467, 468, 469, 470, 153, 154, 155, 471, 472, 473, 474, 146, 147, 148, 475, 476, 477, 478, 479, 480, 481, 482, 483, 484, 485, 486, 487, 488, 489, 490, 491, 492, 493, 494, 495, 496, 497, 498, 834, 835, 836, 837, 838, 839, 840] rfl (by decide +kernel)
set_option maxRecDepth 20000 in
theorem gL_law_X6_quietHours : GoodIn wsL_law (wsV RL 111 RX6 yX6_quietHours wsX6_quietHours) := goodIn_app (goodIn_of _ (by decide +kernel)) ggL_law_X6_quietHours
set_option maxRecDepth 20000 in
theorem ggL_law_X5_loudest : GoodIn wsL_law wsX5_loudest := goodIn_r _ [801, 15, 193, 194, 2, 195, 802, 803, 804, 14, 805, 35, 40, 95, 96, 806, 716, 717, 718, 309, 310, 311, 312, 313, 314, 315, 316, 38, 330, 331, 332, 333, 37, 334, 335, 336, 337, 317, 318, 319, 320, 321, 197, 198, 199, 32, 338, 339, 340, 341, 342, 343, 828, 829, 830, 831, 832, 833, 841, 842, 843, 844, 845, 846, 847, 848, 849, 850, 851] rfl (by decide +kernel)
set_option maxRecDepth 20000 in
theorem gL_law_X5_loudest : GoodIn wsL_law (wsV RL 112 RX5 yX5_loudest wsX5_loudest) := goodIn_app (goodIn_of _ (by decide +kernel)) ggL_law_X5_loudest
set_option maxRecDepth 20000 in
theorem ggL_law_X6_loudest : GoodIn wsL_law wsX6_loudest := goodIn_r _ [810, 65, 204, 205, 5, 206, 135, 136, 137, 153, 154, 155, 723, 724, 725, 726, 674, 675, 676, 677, 463, 464, 465, 466, 146, 147, 148, 471, 472, 473, 474, 475, 476, 477, 834, 835, 836, 837, 838, 839, 840] rfl (by decide +kernel)
set_option maxRecDepth 20000 in
theorem gL_law_X6_loudest : GoodIn wsL_law (wsV RL 115 RX6 yX6_loudest wsX6_loudest) := goodIn_app (goodIn_of _ (by decide +kernel)) ggL_law_X6_loudest
set_option maxRecDepth 20000 in
theorem ggL_law_X5_bestTied : GoodIn wsL_law wsX5_bestTied := goodIn_r _ [814, 15, 515, 295, 296, 14, 297, 35, 815, 650, 651, 652, 317, 318, 319, 320, 321, 197, 198, 199, 32, 95, 2, 96, 309, 310, 311, 312, 313, 314, 315, 316, 38, 789, 562, 563, 564, 39, 326, 327, 328, 329, 40, 37, 36, 330, 331, 332, 333, 334, 335, 336, 337, 338, 339, 340, 341, 342, 343, 344, 345, 346, 347, 348, 220, 221, 222, 33, 349, 350, 324, 351, 352, 353, 354, 355, 356, 357, 358, 359, 360, 361, 362, 363, 364, 196, 828, 829, 830, 831, 832, 833, 841, 842, 843, 844, 845, 846, 847, 848, 849, 850, 851] rfl (by decide +kernel)
set_option maxRecDepth 20000 in
theorem gL_law_X5_bestTied : GoodIn wsL_law (wsV RL 116 RX5 yX5_bestTied wsX5_bestTied) := goodIn_app (goodIn_of _ (by decide +kernel)) ggL_law_X5_bestTied
set_option maxRecDepth 20000 in
theorem ggL_law_X6_bestTied : GoodIn wsL_law wsX6_bestTied := goodIn_r _ [819, 65, 445, 446, 447, 5, 448, 135, 136, 137, 674, 675, 676, 677, 463, 464, 465, 466, 146, 147, 148, 794, 795, 796, 797, 569, 570, 571, 572, 573, 574, 575, 576, 467, 468, 469, 470, 153, 154, 155, 471, 472, 473, 474, 475, 476, 477, 478, 479, 480, 481, 482, 483, 484, 485, 486, 487, 488, 489, 490, 491, 492, 493, 494, 495, 496, 497, 498, 834, 835, 836, 837, 838, 839, 840] rfl (by decide +kernel)
set_option maxRecDepth 20000 in
theorem gL_law_X6_bestTied : GoodIn wsL_law (wsV RL 119 RX6 yX6_bestTied wsX6_bestTied) := goodIn_app (goodIn_of _ (by decide +kernel)) ggL_law_X6_bestTied
set_option maxRecDepth 20000 in
theorem ggL_law_X5_ifVoted : GoodIn wsL_law wsX5_ifVoted := goodIn_r _ [823, 15, 515, 295, 296, 14, 297, 35, 193, 194, 2, 195, 557, 558, 559, 560, 39, 561, 562, 563, 564, 326, 327, 328, 329, 40, 37, 36, 95, 96, 330, 331, 332, 333, 334, 335, 336, 337, 317, 318, 319, 320, 321, 197, 198, 199, 32, 338, 339, 340, 341, 342, 343, 344, 345, 346, 347, 348, 220, 221, 222, 33, 349, 350, 324, 351, 352, 353, 354, 355, 356, 357, 358, 359, 360, 361, 362, 363, 364, 828, 829, 830, 831, 832, 833, 841, 842, 843, 844, 845, 846, 847, 848, 849, 850, 851] rfl (by decide +kernel)
set_option maxRecDepth 20000 in
theorem gL_law_X5_ifVoted : GoodIn wsL_law (wsV RL 120 RX5 yX5_ifVoted wsX5_ifVoted) := goodIn_app (goodIn_of _ (by decide +kernel)) ggL_law_X5_ifVoted
set_option maxRecDepth 20000 in
theorem ggL_law_X6_ifVoted : GoodIn wsL_law wsX6_ifVoted := goodIn_r _ [827, 445, 446, 447, 5, 448, 65, 135, 136, 137, 204, 205, 206, 569, 570, 571, 572, 573, 574, 575, 576, 467, 468, 469, 470, 153, 154, 155, 471, 472, 473, 474, 146, 147, 148, 475, 476, 477, 478, 479, 480, 481, 482, 483, 484, 485, 486, 487, 488, 489, 490, 491, 492, 493, 494, 495, 496, 497, 498, 834, 835, 836, 837, 838, 839, 840] rfl (by decide +kernel)
set_option maxRecDepth 20000 in
theorem gL_law_X6_ifVoted : GoodIn wsL_law (wsV RL 123 RX6 yX6_ifVoted wsX6_ifVoted) := goodIn_app (goodIn_of _ (by decide +kernel)) ggL_law_X6_ifVoted
