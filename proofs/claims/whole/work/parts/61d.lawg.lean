/-! THE LAW WORDS: each method among them, 4 -/
set_option maxRecDepth 20000 in
theorem ggL_law_X5_count : GoodIn wsL_law wsX5_count := goodIn_r _ [751, 15, 22, 26, 218, 95, 2, 96, 752, 753, 754, 14, 755, 35, 313, 314, 315, 316, 38, 662, 517, 518, 519, 520, 521, 522, 756, 757, 758, 759, 760, 651, 652, 653, 646, 647, 648, 649, 317, 318, 319, 320, 321, 197, 198, 199, 32, 309, 310, 311, 312, 219, 220, 221, 222, 33, 825, 826, 827, 828, 829, 830, 838, 839, 840, 841, 842, 843, 844, 845, 846, 847, 848, 849, 850, 851, 852, 853] rfl (by decide +kernel)
set_option maxRecDepth 20000 in
theorem gL_law_X5_count : GoodIn wsL_law (wsV RL 99 RX5 yX5_count wsX5_count) := goodIn_app (goodIn_of _ (by decide +kernel)) ggL_law_X5_count
set_option maxRecDepth 20000 in
theorem ggL_law_X6_count : GoodIn wsL_law wsX6_count := goodIn_r _ [764, 65, 168, 384, 765, 766, 767, 5, 768, 146, 147, 148, 543, 544, 545, 667, 668, 669, 670, 671, 672, 673, 674, 459, 460, 461, 462, 675, 676, 677, 678, 135, 136, 137, 831, 832, 833, 834, 835, 836, 837] rfl (by decide +kernel)
set_option maxRecDepth 20000 in
theorem gL_law_X6_count : GoodIn wsL_law (wsV RL 102 RX6 yX6_count wsX6_count) := goodIn_app (goodIn_of _ (by decide +kernel)) ggL_law_X6_count
set_option maxRecDepth 20000 in
theorem ggL_law_X5_ground : GoodIn wsL_law wsX5_ground := goodIn_r _ [772, 15, 773, 774, 775, 14, 776, 35, 317, 318, 319, 320, 321, 197, 198, 199, 32, 95, 2, 96, 756, 757, 758, 759, 760, 651, 652, 653, 646, 647, 648, 649, 309, 310, 311, 312, 313, 314, 315, 316, 38, 825, 826, 827, 828, 829, 830, 838, 839, 840, 841, 842, 843, 844, 845, 846, 847, 848] rfl (by decide +kernel)
set_option maxRecDepth 20000 in
theorem gL_law_X5_ground : GoodIn wsL_law (wsV RL 103 RX5 yX5_ground wsX5_ground) := goodIn_app (goodIn_of _ (by decide +kernel)) ggL_law_X5_ground
set_option maxRecDepth 20000 in
theorem ggL_law_X6_ground : GoodIn wsL_law wsX6_ground := goodIn_r _ [780, 765, 766, 767, 5, 768, 65, 146, 147, 148, 543, 544, 545, 667, 668, 669, 670, 671, 672, 673, 674, 459, 460, 461, 462, 675, 676, 677, 678, 831, 832, 833, 834, 835, 836, 837] rfl (by decide +kernel)
set_option maxRecDepth 20000 in
theorem gL_law_X6_ground : GoodIn wsL_law (wsV RL 107 RX6 yX6_ground wsX6_ground) := goodIn_app (goodIn_of _ (by decide +kernel)) ggL_law_X6_ground
set_option maxRecDepth 20000 in
theorem ggL_law_X5_quietHours : GoodIn wsL_law wsX5_quietHours := goodIn_r _ [784, 15, 511, 295, 296, 14, 297, 35, 785, 318, 319, 320, 321, 197, 198, 199, 32, 95, 2, 96, 786, 559, 560, 561, 39, 326, 327, 328, 329, 40, 37, 36, 330, 331, 332, 333, 334, 335, 336, 337, 338, 339, 340, 341, 342, 343, 344, 345, 346, 347, 348, 220, 221, 222, 33, 317, 349, 350, 324, 351, 352, 353, 354, 355, 356, 357, 358, 359, 360, 825, 826, 827, 828, 829, 830, 838, 839, 840, 841, 842, 843, 844, 845, 846, 847, 848] rfl (by decide +kernel)
set_option maxRecDepth 20000 in
theorem gL_law_X5_quietHours : GoodIn wsL_law (wsV RL 108 RX5 yX5_quietHours wsX5_quietHours) := goodIn_app (goodIn_of _ (by decide +kernel)) ggL_law_X5_quietHours
set_option maxRecDepth 20000 in
theorem ggL_law_X6_quietHours : GoodIn wsL_law wsX6_quietHours := goodIn_r _ [790, 65, 441, 442, 443, 5, 444, 135, 136, 137, 791, 792, 793, 794, 566, 567, 568, 569, 570, 571, 572, 573, 463, 464, 465, 466, 153, 154, 155, 467, 468, 469, 470, 146, 147, 148, 471, 472, 473, 474, 475, 476, 477, 478, 479, 480, 481, 482, 483, 484, 485, 486, 487, 488, 489, 490, 491, 492, 493, 494, 831, 832, 833, 834, 835, 836, 837] rfl (by decide +kernel)
set_option maxRecDepth 20000 in
theorem gL_law_X6_quietHours : GoodIn wsL_law (wsV RL 111 RX6 yX6_quietHours wsX6_quietHours) := goodIn_app (goodIn_of _ (by decide +kernel)) ggL_law_X6_quietHours
set_option maxRecDepth 20000 in
theorem ggL_law_X5_loudest : GoodIn wsL_law wsX5_loudest := goodIn_r _ [798, 15, 193, 194, 2, 195, 799, 800, 801, 14, 802, 35, 40, 95, 96, 803, 713, 714, 715, 309, 310, 311, 312, 313, 314, 315, 316, 38, 330, 331, 332, 333, 37, 334, 335, 336, 337, 321, 197, 198, 199, 32, 338, 339, 340, 341, 342, 343, 825, 826, 827, 828, 829, 830, 838, 839, 840, 841, 842, 843, 844, 845, 846, 847, 848] rfl (by decide +kernel)
set_option maxRecDepth 20000 in
theorem gL_law_X5_loudest : GoodIn wsL_law (wsV RL 112 RX5 yX5_loudest wsX5_loudest) := goodIn_app (goodIn_of _ (by decide +kernel)) ggL_law_X5_loudest
set_option maxRecDepth 20000 in
theorem ggL_law_X6_loudest : GoodIn wsL_law wsX6_loudest := goodIn_r _ [807, 65, 204, 205, 5, 206, 135, 136, 137, 153, 154, 155, 720, 721, 722, 723, 671, 672, 673, 674, 459, 460, 461, 462, 146, 147, 148, 467, 468, 469, 470, 471, 472, 473, 831, 832, 833, 834, 835, 836, 837] rfl (by decide +kernel)
set_option maxRecDepth 20000 in
theorem gL_law_X6_loudest : GoodIn wsL_law (wsV RL 115 RX6 yX6_loudest wsX6_loudest) := goodIn_app (goodIn_of _ (by decide +kernel)) ggL_law_X6_loudest
set_option maxRecDepth 20000 in
theorem ggL_law_X5_bestTied : GoodIn wsL_law wsX5_bestTied := goodIn_r _ [811, 15, 511, 295, 296, 14, 297, 35, 812, 647, 648, 649, 317, 318, 319, 320, 321, 197, 198, 199, 32, 95, 2, 96, 309, 310, 311, 312, 313, 314, 315, 316, 38, 786, 559, 560, 561, 39, 326, 327, 328, 329, 40, 37, 36, 330, 331, 332, 333, 334, 335, 336, 337, 338, 339, 340, 341, 342, 343, 344, 345, 346, 347, 348, 220, 221, 222, 33, 349, 350, 324, 351, 352, 353, 354, 355, 356, 357, 358, 359, 360, 196, 825, 826, 827, 828, 829, 830, 838, 839, 840, 841, 842, 843, 844, 845, 846, 847, 848] rfl (by decide +kernel)
set_option maxRecDepth 20000 in
theorem gL_law_X5_bestTied : GoodIn wsL_law (wsV RL 116 RX5 yX5_bestTied wsX5_bestTied) := goodIn_app (goodIn_of _ (by decide +kernel)) ggL_law_X5_bestTied
set_option maxRecDepth 20000 in
theorem ggL_law_X6_bestTied : GoodIn wsL_law wsX6_bestTied := goodIn_r _ [816, 65, 441, 442, 443, 5, 444, 135, 136, 137, 671, 672, 673, 674, 459, 460, 461, 462, 146, 147, 148, 791, 792, 793, 794, 566, 567, 568, 569, 570, 571, 572, 573, 463, 464, 465, 466, 153, 154, 155, 467, 468, 469, 470, 471, 472, 473, 474, 475, 476, 477, 478, 479, 480, 481, 482, 483, 484, 485, 486, 487, 488, 489, 490, 491, 492, 493, 494, 831, 832, 833, 834, 835, 836, 837] rfl (by decide +kernel)
set_option maxRecDepth 20000 in
theorem gL_law_X6_bestTied : GoodIn wsL_law (wsV RL 119 RX6 yX6_bestTied wsX6_bestTied) := goodIn_app (goodIn_of _ (by decide +kernel)) ggL_law_X6_bestTied
set_option maxRecDepth 20000 in
theorem ggL_law_X5_ifVoted : GoodIn wsL_law wsX5_ifVoted := goodIn_r _ [820, 15, 511, 295, 296, 14, 297, 35, 193, 194, 2, 195, 554, 555, 556, 557, 39, 558, 559, 560, 561, 326, 327, 328, 329, 40, 37, 36, 95, 96, 330, 331, 332, 333, 334, 335, 336, 337, 321, 197, 198, 199, 32, 338, 339, 340, 341, 342, 343, 344, 345, 346, 347, 348, 220, 221, 222, 33, 317, 318, 319, 320, 349, 350, 324, 351, 352, 353, 354, 355, 356, 357, 358, 359, 360, 825, 826, 827, 828, 829, 830, 838, 839, 840, 841, 842, 843, 844, 845, 846, 847, 848] rfl (by decide +kernel)
set_option maxRecDepth 20000 in
theorem gL_law_X5_ifVoted : GoodIn wsL_law (wsV RL 120 RX5 yX5_ifVoted wsX5_ifVoted) := goodIn_app (goodIn_of _ (by decide +kernel)) ggL_law_X5_ifVoted
set_option maxRecDepth 20000 in
theorem ggL_law_X6_ifVoted : GoodIn wsL_law wsX6_ifVoted := goodIn_r _ [824, 441, 442, 443, 5, 444, 65, 135, 136, 137, 204, 205, 206, 566, 567, 568, 569, 570, 571, 572, 573, 463, 464, 465, 466, 153, 154, 155, 467, 468, 469, 470, 146, 147, 148, 471, 472, 473, 474, 475, 476, 477, 478, 479, 480, 481, 482, 483, 484, 485, 486, 487, 488, 489, 490, 491, 492, 493, 494, 831, 832, 833, 834, 835, 836, 837] rfl (by decide +kernel)
set_option maxRecDepth 20000 in
theorem gL_law_X6_ifVoted : GoodIn wsL_law (wsV RL 123 RX6 yX6_ifVoted wsX6_ifVoted) := goodIn_app (goodIn_of _ (by decide +kernel)) ggL_law_X6_ifVoted
