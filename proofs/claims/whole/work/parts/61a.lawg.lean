/-! THE LAW WORDS: each method among them, 1 -/
set_option maxRecDepth 20000 in
theorem ggL_law_X5_init : GoodIn wsL_law wsX5_init := goodIn_r _ [8, 9, 10, 11, 12, 13, 14, 15, 16, 17, 18, 19, 20, 21, 22, 23, 24, 25, 26, 27, 28, 29, 30, 31, 32, 33, 34, 35, 36, 37, 38, 39, 40, 41, 42, 43, 2, 44, 45, 46, 47, 48, 49, 50, 51, 52, 53, 54, 55, 56, 57, 58, 59, 60, 838, 839, 840, 841, 842, 843, 844, 845, 846, 847, 848, 825, 826, 827, 828, 829, 830, 849, 850, 851, 852, 853] rfl (by decide +kernel)
set_option maxRecDepth 20000 in
theorem gL_law_X5_init : GoodIn wsL_law (wsX5_init) := ggL_law_X5_init
set_option maxRecDepth 20000 in
theorem ggL_law_X6_init : GoodIn wsL_law wsX6_init := goodIn_r _ [63, 64, 10, 11, 31, 65, 66, 67, 68, 831, 832, 833, 834, 835, 836, 837] rfl (by decide +kernel)
set_option maxRecDepth 20000 in
theorem gL_law_X6_init : GoodIn wsL_law (wsX6_init) := ggL_law_X6_init
set_option maxRecDepth 20000 in
theorem ggL_law_X5_mill : GoodIn wsL_law wsX5_mill := goodIn_r _ [72, 16, 15, 73, 74, 75, 14, 76, 32, 33, 34, 35, 36, 37, 38, 39, 40, 41, 42, 43, 2, 44, 77, 78, 79, 80, 81, 82, 83, 84, 85, 86, 87, 88, 89, 90, 91, 92, 93, 94, 95, 96, 97, 98, 99, 100, 101, 102, 103, 104, 105, 106, 107, 22, 108, 109, 110, 111, 112, 113, 21, 114, 52, 51, 115, 116, 117, 118, 50, 119, 825, 826, 827, 828, 829, 830, 838, 839, 840, 841, 842, 843, 844, 845, 846, 847, 848, 849, 850, 851] rfl (by decide +kernel)
set_option maxRecDepth 20000 in
theorem gL_law_X5_mill : GoodIn wsL_law (wsV RL 13 RX5 yX5_mill wsX5_mill) := goodIn_app (goodIn_of _ (by decide +kernel)) ggL_law_X5_mill
set_option maxRecDepth 20000 in
theorem ggL_law_X6_mill : GoodIn wsL_law wsX6_mill := goodIn_r _ [123, 124, 125, 126, 5, 127, 65, 128, 129, 130, 131, 132, 133, 134, 135, 136, 137, 138, 139, 140, 141, 142, 143, 144, 145, 146, 147, 148, 149, 150, 151, 152, 153, 154, 155, 156, 157, 158, 159, 160, 161, 162, 163, 164, 165, 166, 167, 168, 66, 831, 832, 833, 834, 835, 836, 837] rfl (by decide +kernel)
set_option maxRecDepth 20000 in
theorem gL_law_X6_mill : GoodIn wsL_law (wsV RL 17 RX6 yX6_mill wsX6_mill) := goodIn_app (goodIn_of _ (by decide +kernel)) ggL_law_X6_mill
set_option maxRecDepth 20000 in
theorem ggL_law_X5_house : GoodIn wsL_law wsX5_house := goodIn_r _ [172, 16, 15, 73, 74, 75, 14, 76, 32, 33, 34, 35, 36, 37, 38, 39, 40, 41, 42, 43, 2, 44, 173, 174, 175, 176, 81, 82, 83, 84, 85, 86, 87, 88, 89, 90, 91, 92, 93, 94, 95, 96, 97, 98, 99, 100, 101, 102, 103, 104, 105, 106, 107, 22, 108, 109, 110, 111, 112, 113, 21, 114, 52, 51, 115, 116, 117, 118, 50, 119, 825, 826, 827, 828, 829, 830, 838, 839, 840, 841, 842, 843, 844, 845, 846, 847, 848, 849, 850, 851] rfl (by decide +kernel)
set_option maxRecDepth 20000 in
theorem gL_law_X5_house : GoodIn wsL_law (wsV RL 18 RX5 yX5_house wsX5_house) := goodIn_app (goodIn_of _ (by decide +kernel)) ggL_law_X5_house
set_option maxRecDepth 20000 in
theorem ggL_law_X6_house : GoodIn wsL_law wsX6_house := goodIn_r _ [180, 124, 125, 126, 5, 127, 65, 181, 182, 183, 184, 132, 133, 134, 135, 136, 137, 138, 139, 140, 141, 142, 143, 144, 145, 146, 147, 148, 149, 150, 151, 152, 153, 154, 155, 156, 157, 158, 159, 160, 161, 162, 163, 164, 165, 166, 167, 168, 66, 831, 832, 833, 834, 835, 836, 837] rfl (by decide +kernel)
set_option maxRecDepth 20000 in
theorem gL_law_X6_house : GoodIn wsL_law (wsV RL 22 RX6 yX6_house wsX6_house) := goodIn_app (goodIn_of _ (by decide +kernel)) ggL_law_X6_house
set_option maxRecDepth 20000 in
theorem ggL_law_X5_wind : GoodIn wsL_law wsX5_wind := goodIn_r _ [188, 16, 15, 73, 74, 75, 14, 76, 32, 33, 34, 35, 36, 37, 38, 39, 40, 41, 42, 43, 2, 44, 189, 190, 191, 192, 193, 194, 195, 196, 197, 198, 199, 95, 96, 101, 102, 103, 104, 105, 106, 107, 22, 108, 109, 110, 111, 112, 113, 21, 114, 52, 51, 115, 116, 117, 118, 50, 119, 825, 826, 827, 828, 829, 830, 838, 839, 840, 841, 842, 843, 844, 845, 846, 847, 848, 849, 850, 851] rfl (by decide +kernel)
set_option maxRecDepth 20000 in
theorem gL_law_X5_wind : GoodIn wsL_law (wsV RL 23 RX5 yX5_wind wsX5_wind) := goodIn_app (goodIn_of _ (by decide +kernel)) ggL_law_X5_wind
set_option maxRecDepth 20000 in
theorem ggL_law_X6_wind : GoodIn wsL_law wsX6_wind := goodIn_r _ [203, 204, 205, 5, 206, 135, 136, 137, 124, 125, 126, 127, 65, 207, 208, 209, 210, 156, 157, 158, 159, 160, 161, 162, 163, 164, 165, 166, 167, 168, 66, 831, 832, 833, 834, 835, 836, 837] rfl (by decide +kernel)
set_option maxRecDepth 20000 in
theorem gL_law_X6_wind : GoodIn wsL_law (wsV RL 27 RX6 yX6_wind wsX6_wind) := goodIn_app (goodIn_of _ (by decide +kernel)) ggL_law_X6_wind
set_option maxRecDepth 20000 in
theorem ggL_law_X5_set : GoodIn wsL_law wsX5_set := goodIn_r _ [214, 215, 216, 217, 15, 16, 218, 95, 2, 96, 219, 220, 221, 14, 222, 33, 73, 74, 75, 76, 32, 34, 35, 36, 37, 38, 39, 40, 41, 42, 43, 44, 101, 102, 103, 104, 105, 106, 107, 22, 108, 109, 110, 111, 112, 113, 21, 114, 52, 51, 115, 116, 117, 118, 50, 119, 825, 826, 827, 828, 829, 830, 838, 839, 840, 841, 842, 843, 844, 845, 846, 847, 848, 849, 850, 851] rfl (by decide +kernel)
set_option maxRecDepth 20000 in
theorem gL_law_X5_set : GoodIn wsL_law (wsV RL 28 RX5 yX5_set wsX5_set) := goodIn_app (goodIn_of _ (by decide +kernel)) ggL_law_X5_set
set_option maxRecDepth 20000 in
theorem ggL_law_X6_set : GoodIn wsL_law wsX6_set := goodIn_r _ [226, 65, 227, 228, 5, 229, 135, 136, 137, 164, 165, 166, 167, 168, 66, 831, 832, 833, 834, 835, 836, 837] rfl (by decide +kernel)
set_option maxRecDepth 20000 in
theorem gL_law_X6_set : GoodIn wsL_law (wsV RL 31 RX6 yX6_set wsX6_set) := goodIn_app (goodIn_of _ (by decide +kernel)) ggL_law_X6_set
set_option maxRecDepth 20000 in
theorem ggL_law_X5_doAll : GoodIn wsL_law wsX5_doAll := goodIn_r _ [233, 26, 16, 15, 234, 235, 236, 25, 237, 60, 238, 239, 240, 241, 59, 242, 243, 244, 245, 246, 247, 248, 249, 250, 251, 252, 253, 254, 255, 256, 257, 258, 259, 260, 261, 262, 263, 73, 74, 75, 14, 76, 32, 33, 34, 35, 36, 37, 38, 39, 40, 41, 42, 43, 2, 44, 264, 265, 266, 267, 268, 269, 270, 271, 272, 273, 274, 275, 276, 277, 77, 78, 79, 80, 81, 82, 83, 84, 85, 86, 87, 88, 89, 90, 91, 92, 93, 94, 95, 96, 97, 98, 99, 100, 101, 102, 103, 173, 174, 175, 176, 278, 279, 280, 281, 189, 190, 191, 192, 193, 194, 195, 196, 197, 198, 199, 282, 283, 284, 285, 286, 287, 288, 289, 290, 291, 292, 293, 294, 295, 296, 297, 298, 299, 300, 301, 302, 303, 304, 305, 306, 307, 308, 309, 310, 311, 312, 313, 314, 315, 316, 317, 318, 319, 320, 321, 322, 323, 324, 325, 326, 327, 328, 329, 330, 331, 332, 333, 334, 335, 336, 337, 338, 339, 340, 341, 342, 343, 344, 345, 346, 347, 348, 220, 221, 222, 349, 350, 351, 352, 353, 354, 355, 356, 357, 358, 359, 360, 108, 109, 110, 361, 362, 363, 218, 364, 365, 366, 367, 368, 369, 370, 371, 372, 373, 374, 375, 219, 376, 377, 378, 379, 104, 105, 106, 107, 22, 111, 112, 113, 21, 114, 52, 51, 115, 116, 117, 118, 50, 119, 825, 826, 827, 828, 829, 830, 852, 853, 838, 839, 840, 841, 842, 843, 844, 845, 846, 847, 848, 849, 850, 851] rfl (by decide +kernel)
set_option maxRecDepth 20000 in
theorem gL_law_X5_doAll : GoodIn wsL_law (wsV RL 32 RX5 yX5_doAll wsX5_doAll) := goodIn_app (goodIn_of _ (by decide +kernel)) ggL_law_X5_doAll
set_option maxRecDepth 20000 in
theorem ggL_law_X6_doAll : GoodIn wsL_law wsX6_doAll := goodIn_r _ [383, 384, 385, 386, 387, 5, 388, 389, 390, 391, 392, 393, 394, 395, 396, 68, 397, 398, 399, 400, 401, 402, 403, 404, 135, 136, 137, 405, 406, 407, 408, 409, 410, 411, 412, 413, 414, 415, 416, 124, 125, 126, 127, 65, 417, 418, 419, 420, 421, 422, 423, 424, 128, 129, 130, 131, 132, 133, 134, 138, 139, 140, 141, 142, 143, 144, 145, 146, 147, 148, 149, 150, 151, 152, 153, 154, 155, 181, 182, 183, 184, 425, 426, 427, 428, 207, 208, 209, 210, 429, 430, 431, 432, 433, 434, 435, 436, 437, 438, 439, 440, 441, 442, 443, 444, 204, 205, 206, 445, 446, 447, 448, 449, 450, 451, 452, 453, 454, 455, 456, 457, 458, 459, 460, 461, 462, 463, 464, 465, 466, 467, 468, 469, 470, 471, 472, 473, 474, 475, 476, 477, 478, 479, 480, 481, 482, 483, 484, 485, 486, 487, 488, 489, 490, 491, 492, 493, 494, 495, 496, 497, 498, 156, 157, 158, 159, 160, 161, 162, 163, 164, 165, 166, 167, 168, 66, 831, 832, 833, 834, 835, 836, 837] rfl (by decide +kernel)
set_option maxRecDepth 20000 in
theorem gL_law_X6_doAll : GoodIn wsL_law (wsV RL 36 RX6 yX6_doAll wsX6_doAll) := goodIn_app (goodIn_of _ (by decide +kernel)) ggL_law_X6_doAll
set_option maxRecDepth 20000 in
theorem ggL_law_X5_complain : GoodIn wsL_law wsX5_complain := goodIn_r _ [502, 16, 15, 73, 74, 75, 14, 76, 32, 33, 34, 35, 36, 37, 38, 39, 40, 41, 42, 43, 2, 44, 282, 283, 284, 285, 286, 287, 288, 289, 290, 291, 292, 293, 294, 295, 296, 297, 194, 195, 298, 299, 300, 301, 95, 96, 302, 303, 304, 305, 306, 307, 308, 309, 310, 311, 312, 313, 314, 315, 316, 317, 318, 319, 320, 321, 197, 198, 199, 322, 323, 324, 325, 326, 327, 328, 329, 330, 331, 332, 333, 334, 335, 336, 337, 338, 339, 340, 341, 342, 343, 344, 345, 346, 347, 348, 220, 221, 222, 349, 350, 351, 352, 353, 354, 355, 356, 357, 358, 359, 360, 108, 109, 110, 361, 362, 363, 218, 101, 102, 103, 364, 365, 366, 367, 368, 369, 370, 371, 372, 373, 374, 375, 219, 376, 377, 378, 379, 104, 105, 106, 107, 22, 111, 112, 113, 21, 114, 52, 51, 115, 116, 117, 118, 50, 119, 825, 826, 827, 828, 829, 830, 838, 839, 840, 841, 842, 843, 844, 845, 846, 847, 848, 849, 850, 851] rfl (by decide +kernel)
set_option maxRecDepth 20000 in
theorem gL_law_X5_complain : GoodIn wsL_law (wsV RL 37 RX5 yX5_complain wsX5_complain) := goodIn_app (goodIn_of _ (by decide +kernel)) ggL_law_X5_complain
set_option maxRecDepth 20000 in
theorem ggL_law_X6_complain : GoodIn wsL_law wsX6_complain := goodIn_r _ [506, 433, 434, 435, 5, 436, 437, 438, 439, 440, 65, 135, 136, 137, 441, 442, 443, 444, 204, 205, 206, 445, 446, 447, 124, 125, 126, 127, 448, 449, 450, 451, 452, 453, 454, 455, 153, 154, 155, 456, 457, 458, 459, 460, 461, 462, 146, 147, 148, 463, 464, 465, 466, 467, 468, 469, 470, 471, 472, 473, 474, 475, 476, 477, 478, 479, 480, 481, 482, 483, 484, 485, 486, 487, 488, 489, 490, 491, 492, 493, 494, 495, 496, 497, 498, 160, 161, 162, 163, 164, 165, 166, 167, 168, 66, 831, 832, 833, 834, 835, 836, 837] rfl (by decide +kernel)
set_option maxRecDepth 20000 in
theorem gL_law_X6_complain : GoodIn wsL_law (wsV RL 41 RX6 yX6_complain wsX6_complain) := goodIn_app (goodIn_of _ (by decide +kernel)) ggL_law_X6_complain
