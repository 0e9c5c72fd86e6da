/-! THE LAW WORDS: each method among them, 3 -/
set_option maxRecDepth 20000 in
theorem ggL_law_X5_restore : GoodIn wsL_law wsX5_restore := goodIn_r _ [623, 18, 16, 15, 17, 73, 74, 75, 14, 76, 32, 33, 34, 35, 36, 37, 38, 39, 40, 41, 42, 43, 2, 44, 104, 105, 106, 107, 22, 108, 109, 110, 111, 112, 113, 21, 114, 52, 51, 115, 116, 117, 118, 50, 119, 825, 826, 827, 828, 829, 830, 838, 839, 840, 841, 842, 843, 844, 845, 846, 847, 848, 849, 850, 851] rfl (by decide +kernel)
set_option maxRecDepth 20000 in
theorem gL_law_X5_restore : GoodIn wsL_law (wsV RL 71 RX5 yX5_restore wsX5_restore) := goodIn_app (goodIn_of _ (by decide +kernel)) ggL_law_X5_restore
set_option maxRecDepth 20000 in
theorem ggL_law_X6_restore : GoodIn wsL_law wsX6_restore := goodIn_r _ [627, 619, 65, 67, 164, 165, 166, 5, 167, 168, 66, 831, 832, 833, 834, 835, 836, 837] rfl (by decide +kernel)
set_option maxRecDepth 20000 in
theorem gL_law_X6_restore : GoodIn wsL_law (wsV RL 74 RX6 yX6_restore wsX6_restore) := goodIn_app (goodIn_of _ (by decide +kernel)) ggL_law_X6_restore
set_option maxRecDepth 20000 in
theorem ggL_law_X5_yardOf : GoodIn wsL_law wsX5_yardOf := goodIn_r _ [631, 15, 81, 82, 2, 83, 632, 89, 90, 14, 91, 37, 35, 92, 93, 94, 95, 96, 633, 98, 99, 100, 40, 39, 825, 826, 827, 828, 829, 830, 838, 839, 840, 841, 842, 843, 844, 845, 846, 847, 848] rfl (by decide +kernel)
set_option maxRecDepth 20000 in
theorem gL_law_X5_yardOf : GoodIn wsL_law (wsV RL 75 RX5 yX5_yardOf wsX5_yardOf) := goodIn_app (goodIn_of _ (by decide +kernel)) ggL_law_X5_yardOf
set_option maxRecDepth 20000 in
theorem ggL_law_X6_yardOf : GoodIn wsL_law wsX6_yardOf := goodIn_r _ [637, 132, 133, 5, 134, 135, 136, 137, 142, 143, 144, 145, 65, 146, 147, 148, 149, 150, 151, 152, 153, 154, 155, 831, 832, 833, 834, 835, 836, 837] rfl (by decide +kernel)
set_option maxRecDepth 20000 in
theorem gL_law_X6_yardOf : GoodIn wsL_law (wsV RL 78 RX6 yX6_yardOf wsX6_yardOf) := goodIn_app (goodIn_of _ (by decide +kernel)) ggL_law_X6_yardOf
set_option maxRecDepth 20000 in
theorem ggL_law_X5_millOf : GoodIn wsL_law wsX5_millOf := goodIn_r _ [641, 15, 511, 295, 296, 14, 297, 35, 218, 95, 2, 96, 515, 314, 315, 316, 38, 642, 643, 644, 645, 646, 647, 648, 649, 317, 318, 319, 320, 321, 197, 198, 199, 32, 309, 310, 311, 312, 313, 650, 651, 652, 653, 654, 655, 656, 657, 39, 658, 659, 660, 661, 42, 306, 307, 308, 662, 517, 518, 519, 520, 521, 522, 825, 826, 827, 828, 829, 830, 838, 839, 840, 841, 842, 843, 844, 845, 846, 847, 848] rfl (by decide +kernel)
set_option maxRecDepth 20000 in
theorem gL_law_X5_millOf : GoodIn wsL_law (wsV RL 79 RX5 yX5_millOf wsX5_millOf) := goodIn_app (goodIn_of _ (by decide +kernel)) ggL_law_X5_millOf
set_option maxRecDepth 20000 in
theorem ggL_law_X6_millOf : GoodIn wsL_law wsX6_millOf := goodIn_r _ [666, 65, 441, 442, 443, 5, 444, 135, 136, 137, 146, 147, 148, 667, 668, 669, 670, 671, 672, 673, 674, 459, 460, 461, 462, 675, 676, 677, 678, 679, 680, 681, 682, 495, 496, 497, 498, 456, 457, 458, 831, 832, 833, 834, 835, 836, 837] rfl (by decide +kernel)
set_option maxRecDepth 20000 in
theorem gL_law_X6_millOf : GoodIn wsL_law (wsV RL 82 RX6 yX6_millOf wsX6_millOf) := goodIn_app (goodIn_of _ (by decide +kernel)) ggL_law_X6_millOf
set_option maxRecDepth 20000 in
theorem ggL_law_X5_houseOf : GoodIn wsL_law wsX5_houseOf := goodIn_r _ [686, 15, 512, 291, 292, 14, 293, 39, 218, 95, 2, 96, 687, 299, 300, 301, 41, 688, 689, 690, 691, 35, 658, 659, 660, 661, 42, 306, 307, 308, 662, 517, 518, 519, 520, 521, 522, 692, 693, 694, 695, 646, 647, 648, 649, 317, 318, 319, 320, 321, 197, 198, 199, 32, 309, 310, 311, 312, 313, 314, 315, 316, 38, 326, 327, 328, 329, 40, 37, 36, 330, 331, 332, 333, 334, 335, 336, 337, 338, 339, 340, 341, 342, 343, 344, 345, 346, 347, 348, 220, 221, 222, 33, 349, 350, 324, 351, 352, 353, 354, 355, 356, 357, 358, 359, 360, 825, 826, 827, 828, 829, 830, 838, 839, 840, 841, 842, 843, 844, 845, 846, 847, 848] rfl (by decide +kernel)
set_option maxRecDepth 20000 in
theorem gL_law_X5_houseOf : GoodIn wsL_law (wsV RL 83 RX5 yX5_houseOf wsX5_houseOf) := goodIn_app (goodIn_of _ (by decide +kernel)) ggL_law_X5_houseOf
set_option maxRecDepth 20000 in
theorem ggL_law_X6_houseOf : GoodIn wsL_law wsX6_houseOf := goodIn_r _ [699, 65, 437, 438, 439, 5, 440, 135, 136, 137, 153, 154, 155, 700, 701, 702, 703, 543, 544, 545, 704, 705, 706, 707, 671, 672, 673, 674, 459, 460, 461, 462, 146, 147, 148, 463, 464, 465, 466, 467, 468, 469, 470, 471, 472, 473, 474, 475, 476, 477, 478, 479, 480, 481, 482, 483, 484, 485, 486, 487, 488, 489, 490, 491, 492, 493, 494, 831, 832, 833, 834, 835, 836, 837] rfl (by decide +kernel)
set_option maxRecDepth 20000 in
theorem gL_law_X6_houseOf : GoodIn wsL_law (wsV RL 86 RX6 yX6_houseOf wsX6_houseOf) := goodIn_app (goodIn_of _ (by decide +kernel)) ggL_law_X6_houseOf
set_option maxRecDepth 20000 in
theorem ggL_law_X5_noise : GoodIn wsL_law wsX5_noise := goodIn_r _ [711, 15, 511, 295, 296, 14, 297, 35, 81, 82, 2, 83, 193, 194, 195, 712, 713, 714, 715, 309, 310, 311, 312, 313, 314, 315, 316, 38, 95, 96, 330, 331, 332, 333, 37, 334, 335, 336, 337, 321, 197, 198, 199, 32, 338, 339, 340, 341, 342, 343, 825, 826, 827, 828, 829, 830, 838, 839, 840, 841, 842, 843, 844, 845, 846, 847, 848] rfl (by decide +kernel)
set_option maxRecDepth 20000 in
theorem gL_law_X5_noise : GoodIn wsL_law (wsV RL 87 RX5 yX5_noise wsX5_noise) := goodIn_app (goodIn_of _ (by decide +kernel)) ggL_law_X5_noise
set_option maxRecDepth 20000 in
theorem ggL_law_X6_noise : GoodIn wsL_law wsX6_noise := goodIn_r _ [719, 441, 442, 443, 5, 444, 65, 135, 136, 137, 132, 133, 134, 204, 205, 206, 720, 721, 722, 723, 671, 672, 673, 674, 459, 460, 461, 462, 146, 147, 148, 467, 468, 469, 470, 471, 472, 473, 831, 832, 833, 834, 835, 836, 837] rfl (by decide +kernel)
set_option maxRecDepth 20000 in
theorem gL_law_X6_noise : GoodIn wsL_law (wsV RL 90 RX6 yX6_noise wsX6_noise) := goodIn_app (goodIn_of _ (by decide +kernel)) ggL_law_X6_noise
set_option maxRecDepth 20000 in
theorem ggL_law_X5_shadow : GoodIn wsL_law wsX5_shadow := goodIn_r _ [727, 15, 511, 295, 296, 14, 297, 35, 81, 82, 2, 83, 193, 194, 195, 218, 95, 96, 728, 729, 324, 730, 358, 359, 360, 352, 353, 354, 355, 356, 357, 731, 350, 351, 338, 339, 340, 341, 336, 342, 343, 335, 337, 825, 826, 827, 828, 829, 830, 838, 839, 840, 841, 842, 843, 844, 845, 846, 847, 848] rfl (by decide +kernel)
set_option maxRecDepth 20000 in
theorem gL_law_X5_shadow : GoodIn wsL_law (wsV RL 91 RX5 yX5_shadow wsX5_shadow) := goodIn_app (goodIn_of _ (by decide +kernel)) ggL_law_X5_shadow
set_option maxRecDepth 20000 in
theorem ggL_law_X6_shadow : GoodIn wsL_law wsX6_shadow := goodIn_r _ [735, 441, 442, 443, 5, 444, 65, 135, 136, 137, 132, 133, 134, 204, 205, 206, 478, 479, 480, 481, 146, 147, 148, 482, 483, 484, 485, 486, 487, 488, 489, 490, 491, 492, 493, 494, 736, 737, 738, 739, 471, 472, 473, 831, 832, 833, 834, 835, 836, 837] rfl (by decide +kernel)
set_option maxRecDepth 20000 in
theorem gL_law_X6_shadow : GoodIn wsL_law (wsV RL 94 RX6 yX6_shadow wsX6_shadow) := goodIn_app (goodIn_of _ (by decide +kernel)) ggL_law_X6_shadow
set_option maxRecDepth 20000 in
theorem ggL_law_X5_why : GoodIn wsL_law wsX5_why := goodIn_r _ [743, 15, 286, 287, 288, 14, 289, 290, 291, 292, 293, 39, 294, 295, 296, 297, 35, 194, 2, 195, 298, 299, 300, 301, 41, 95, 96, 302, 303, 304, 305, 42, 306, 307, 308, 309, 310, 311, 312, 313, 314, 315, 316, 38, 317, 318, 319, 320, 321, 197, 198, 199, 32, 322, 323, 324, 325, 326, 327, 328, 329, 40, 37, 36, 330, 331, 332, 333, 334, 335, 336, 337, 338, 339, 340, 341, 342, 343, 344, 345, 346, 347, 348, 220, 221, 222, 33, 349, 350, 351, 352, 353, 354, 355, 356, 357, 358, 359, 360, 825, 826, 827, 828, 829, 830, 838, 839, 840, 841, 842, 843, 844, 845, 846, 847, 848] rfl (by decide +kernel)
set_option maxRecDepth 20000 in
theorem gL_law_X5_why : GoodIn wsL_law (wsV RL 95 RX5 yX5_why wsX5_why) := goodIn_app (goodIn_of _ (by decide +kernel)) ggL_law_X5_why
set_option maxRecDepth 20000 in
theorem ggL_law_X6_why : GoodIn wsL_law wsX6_why := goodIn_r _ [747, 433, 434, 435, 5, 436, 437, 438, 439, 440, 65, 135, 136, 137, 441, 442, 443, 444, 204, 205, 206, 445, 446, 447, 452, 453, 454, 455, 153, 154, 155, 456, 457, 458, 459, 460, 461, 462, 146, 147, 148, 463, 464, 465, 466, 467, 468, 469, 470, 471, 472, 473, 474, 475, 476, 477, 478, 479, 480, 481, 482, 483, 484, 485, 486, 487, 488, 489, 490, 491, 492, 493, 494, 831, 832, 833, 834, 835, 836, 837] rfl (by decide +kernel)
set_option maxRecDepth 20000 in
theorem gL_law_X6_why : GoodIn wsL_law (wsV RL 98 RX6 yX6_why wsX6_why) := goodIn_app (goodIn_of _ (by decide +kernel)) ggL_law_X6_why
