/-! THE LAW WORDS: each method among them, 3 -/
set_option maxRecDepth 20000 in
theorem ggL_law_X5_restore : GoodIn wsL_law wsX5_restore := goodIn_r _ [626, 18, 16, 15, 17, 73, 74, 75, 14, 76, 32, 33, 34, 35, 36, 37, 38, 39, 40, 41, 42, 43, 2, 44, 104, 105, 106, 107, 22, 108, 109, 110, 111, 112, 113, 21, 114, 52, 51, 115, 116, 117, 118, 50, 119, 828, 829, 830, 831, 832, 833, 841, 842, 843, 844, 845, 846, 847, 848, 849, 850, 851, 852, 853, 854] rfl (by decide +kernel)
set_option maxRecDepth 20000 in
theorem gL_law_X5_restore : GoodIn wsL_law (wsV RL 71 RX5 yX5_restore wsX5_restore) := goodIn_app (goodIn_of _ (by decide +kernel)) ggL_law_X5_restore
set_option maxRecDepth 20000 in
theorem ggL_law_X6_restore : GoodIn wsL_law wsX6_restore := goodIn_r _ [630, 622, 65, 67, 164, 165, 166, 5, 167, 168, 66, 834, 835, 836, 837, 838, 839, 840] rfl (by decide +kernel)
set_option maxRecDepth 20000 in
theorem gL_law_X6_restore : GoodIn wsL_law (wsV RL 74 RX6 yX6_restore wsX6_restore) := goodIn_app (goodIn_of _ (by decide +kernel)) ggL_law_X6_restore
set_option maxRecDepth 20000 in
theorem ggL_law_X5_yardOf : GoodIn wsL_law wsX5_yardOf := goodIn_r _ [634, 15, 81, 82, 2, 83, 635, 89, 90, 14, 91, 37, 35, 92, 93, 94, 95, 96, 636, 98, 99, 100, 40, 39, 828, 829, 830, 831, 832, 833, 841, 842, 843, 844, 845, 846, 847, 848, 849, 850, 851] rfl (by decide +kernel)
set_option maxRecDepth 20000 in
theorem gL_law_X5_yardOf : GoodIn wsL_law (wsV RL 75 RX5 yX5_yardOf wsX5_yardOf) := goodIn_app (goodIn_of _ (by decide +kernel)) ggL_law_X5_yardOf
set_option maxRecDepth 20000 in
theorem ggL_law_X6_yardOf : GoodIn wsL_law wsX6_yardOf := goodIn_r _ [640, 132, 133, 5, 134, 135, 136, 137, 142, 143, 144, 145, 65, 146, 147, 148, 149, 150, 151, 152, 153, 154, 155, 834, 835, 836, 837, 838, 839, 840] rfl (by decide +kernel)
set_option maxRecDepth 20000 in
theorem gL_law_X6_yardOf : GoodIn wsL_law (wsV RL 78 RX6 yX6_yardOf wsX6_yardOf) := goodIn_app (goodIn_of _ (by decide +kernel)) ggL_law_X6_yardOf
set_option maxRecDepth 20000 in
theorem ggL_law_X5_millOf : GoodIn wsL_law wsX5_millOf := goodIn_r _ [644, 15, 515, 295, 296, 14, 297, 35, 218, 95, 2, 96, 519, 314, 315, 316, 38, 645, 646, 647, 648, 649, 650, 651, 652, 317, 318, 319, 320, 321, 197, 198, 199, 32, 309, 310, 311, 312, 313, 653, 654, 655, 656, 657, 658, 659, 660, 39, 661, 662, 663, 664, 42, 306, 307, 308, 665, 521, 357, 522, 523, 524, 525, 828, 829, 830, 831, 832, 833, 841, 842, 843, 844, 845, 846, 847, 848, 849, 850, 851] rfl (by decide +kernel)
set_option maxRecDepth 20000 in
theorem gL_law_X5_millOf : GoodIn wsL_law (wsV RL 79 RX5 yX5_millOf wsX5_millOf) := goodIn_app (goodIn_of _ (by decide +kernel)) ggL_law_X5_millOf
set_option maxRecDepth 20000 in
theorem ggL_law_X6_millOf : GoodIn wsL_law wsX6_millOf := goodIn_r _ [669, 65, 445, 446, 447, 5, 448, 135, 136, 137, 146, 147, 148, 670, 671, 672, 673, 674, 675, 676, 677, 463, 464, 465, 466, 678, 679, 680, 681, 682, 683, 684, 685, 499, 500, 501, 502, 460, 461, 462, 834, 835, 836, 837, 838, 839, 840] rfl (by decide +kernel)
set_option maxRecDepth 20000 in
theorem gL_law_X6_millOf : GoodIn wsL_law (wsV RL 82 RX6 yX6_millOf wsX6_millOf) := goodIn_app (goodIn_of _ (by decide +kernel)) ggL_law_X6_millOf
set_option maxRecDepth 20000 in
theorem ggL_law_X5_houseOf : GoodIn wsL_law wsX5_houseOf := goodIn_r _ [689, 15, 516, 291, 292, 14, 293, 39, 218, 95, 2, 96, 690, 299, 300, 301, 41, 691, 692, 693, 694, 35, 661, 662, 663, 664, 42, 306, 307, 308, 665, 521, 357, 522, 523, 524, 525, 695, 696, 697, 698, 649, 650, 651, 652, 317, 318, 319, 320, 321, 197, 198, 199, 32, 309, 310, 311, 312, 313, 314, 315, 316, 38, 326, 327, 328, 329, 40, 37, 36, 330, 331, 332, 333, 334, 335, 336, 337, 338, 339, 340, 341, 342, 343, 344, 345, 346, 347, 348, 220, 221, 222, 33, 349, 350, 324, 351, 352, 353, 354, 355, 356, 358, 359, 360, 361, 362, 363, 364, 828, 829, 830, 831, 832, 833, 841, 842, 843, 844, 845, 846, 847, 848, 849, 850, 851] rfl (by decide +kernel)
set_option maxRecDepth 20000 in
theorem gL_law_X5_houseOf : GoodIn wsL_law (wsV RL 83 RX5 yX5_houseOf wsX5_houseOf) := goodIn_app (goodIn_of _ (by decide +kernel)) ggL_law_X5_houseOf
set_option maxRecDepth 20000 in
theorem ggL_law_X6_houseOf : GoodIn wsL_law wsX6_houseOf := goodIn_r _ [702, 65, 441, 442, 443, 5, 444, 135, 136, 137, 153, 154, 155, 703, 704, 705, 706, 546, 547, 548, 707, 708, 709, 710, 674, 675, 676, 677, 463, 464, 465, 466, 146, 147, 148, 467, 468, 469, 470, 471, 472, 473, 474, 475, 476, 477, 478, 479, 480, 481, 482, 483, 484, 485, 486, 487, 488, 489, 490, 491, 492, 493, 494, 495, 496, 497, 498, 834, 835, 836, 837, 838, 839, 840] rfl (by decide +kernel)
set_option maxRecDepth 20000 in
theorem gL_law_X6_houseOf : GoodIn wsL_law (wsV RL 86 RX6 yX6_houseOf wsX6_houseOf) := goodIn_app (goodIn_of _ (by decide +kernel)) ggL_law_X6_houseOf
set_option maxRecDepth 20000 in
theorem ggL_law_X5_noise : GoodIn wsL_law wsX5_noise := goodIn_r _ [714, 15, 515, 295, 296, 14, 297, 35, 81, 82, 2, 83, 193, 194, 195, 715, 716, 717, 718, 309, 310, 311, 312, 313, 314, 315, 316, 38, 95, 96, 330, 331, 332, 333, 37, 334, 335, 336, 337, 317, 318, 319, 320, 321, 197, 198, 199, 32, 338, 339, 340, 341, 342, 343, 828, 829, 830, 831, 832, 833, 841, 842, 843, 844, 845, 846, 847, 848, 849, 850, 851] rfl (by decide +kernel)
set_option maxRecDepth 20000 in
theorem gL_law_X5_noise : GoodIn wsL_law (wsV RL 87 RX5 yX5_noise wsX5_noise) := goodIn_app (goodIn_of _ (by decide +kernel)) ggL_law_X5_noise
set_option maxRecDepth 20000 in
theorem ggL_law_X6_noise : GoodIn wsL_law wsX6_noise := goodIn_r _ [722, 445, 446, 447, 5, 448, 65, 135, 136, 137, 132, 133, 134, 204, 205, 206, 723, 724, 725, 726, 674, 675, 676, 677, 463, 464, 465, 466, 146, 147, 148, 471, 472, 473, 474, 475, 476, 477, 834, 835, 836, 837, 838, 839, 840] rfl (by decide +kernel)
set_option maxRecDepth 20000 in
theorem gL_law_X6_noise : GoodIn wsL_law (wsV RL 90 RX6 yX6_noise wsX6_noise) := goodIn_app (goodIn_of _ (by decide +kernel)) ggL_law_X6_noise
set_option maxRecDepth 20000 in
theorem ggL_law_X5_shadow : GoodIn wsL_law wsX5_shadow := goodIn_r _ [730, 15, 515, 295, 296, 14, 297, 35, 81, 82, 2, 83, 193, 194, 195, 218, 95, 96, 731, 732, 324, 733, 362, 363, 364, 352, 353, 354, 355, 356, 357, 358, 359, 360, 361, 734, 350, 351, 338, 339, 340, 341, 336, 342, 343, 335, 337, 828, 829, 830, 831, 832, 833, 841, 842, 843, 844, 845, 846, 847, 848, 849, 850, 851] rfl (by decide +kernel)
set_option maxRecDepth 20000 in
theorem gL_law_X5_shadow : GoodIn wsL_law (wsV RL 91 RX5 yX5_shadow wsX5_shadow) := goodIn_app (goodIn_of _ (by decide +kernel)) ggL_law_X5_shadow
set_option maxRecDepth 20000 in
theorem ggL_law_X6_shadow : GoodIn wsL_law wsX6_shadow := goodIn_r _ [738, 445, 446, 447, 5, 448, 65, 135, 136, 137, 132, 133, 134, 204, 205, 206, 482, 483, 484, 485, 146, 147, 148, 486, 487, 488, 489, 490, 491, 492, 493, 494, 495, 496, 497, 498, 739, 740, 741, 742, 475, 476, 477, 834, 835, 836, 837, 838, 839, 840] rfl (by decide +kernel)
set_option maxRecDepth 20000 in
theorem gL_law_X6_shadow : GoodIn wsL_law (wsV RL 94 RX6 yX6_shadow wsX6_shadow) := goodIn_app (goodIn_of _ (by decide +kernel)) ggL_law_X6_shadow
set_option maxRecDepth 20000 in
theorem ggL_law_X5_why : GoodIn wsL_law wsX5_why := goodIn_r _ [746, 15, 286, 287, 288, 14, 289, 290, 291, 292, 293, 39, 294, 295, 296, 297, 35, 194, 2, 195, 298, 299, 300, 301, 41, 95, 96, 302, 303, 304, 305, 42, 306, 307, 308, 309, 310, 311, 312, 313, 314, 315, 316, 38, 317, 318, 319, 320, 321, 197, 198, 199, 32, 322, 323, 324, 325, 326, 327, 328, 329, 40, 37, 36, 330, 331, 332, 333, 334, 335, 336, 337, 338, 339, 340, 341, 342, 343, 344, 345, 346, 347, 348, 220, 221, 222, 33, 349, 350, 351, 352, 353, 354, 355, 356, 357, 358, 359, 360, 361, 362, 363, 364, 828, 829, 830, 831, 832, 833, 841, 842, 843, 844, 845, 846, 847, 848, 849, 850, 851] rfl (by decide +kernel)
set_option maxRecDepth 20000 in
theorem gL_law_X5_why : GoodIn wsL_law (wsV RL 95 RX5 yX5_why wsX5_why) := goodIn_app (goodIn_of _ (by decide +kernel)) ggL_law_X5_why
set_option maxRecDepth 20000 in
theorem ggL_law_X6_why : GoodIn wsL_law wsX6_why := goodIn_r _ [750, 437, 438, 439, 5, 440, 441, 442, 443, 444, 65, 135, 136, 137, 445, 446, 447, 448, 204, 205, 206, 449, 450, 451, 456, 457, 458, 459, 153, 154, 155, 460, 461, 462, 463, 464, 465, 466, 146, 147, 148, 467, 468, 469, 470, 471, 472, 473, 474, 475, 476, 477, 478, 479, 480, 481, 482, 483, 484, 485, 486, 487, 488, 489, 490, 491, 492, 493, 494, 495, 496, 497, 498, 834, 835, 836, 837, 838, 839, 840] rfl (by decide +kernel)
set_option maxRecDepth 20000 in
theorem gL_law_X6_why : GoodIn wsL_law (wsV RL 98 RX6 yX6_why wsX6_why) := goodIn_app (goodIn_of _ (by decide +kernel)) ggL_law_X6_why
