/-! THE LAW WORDS: each method among them, 2 -/
set_option maxRecDepth 20000 in
theorem ggL_law_X5_sue : GoodIn wsL_law wsX5_sue := goodIn_r _ [510, 15, 16, 511, 295, 296, 14, 297, 35, 512, 291, 292, 293, 39, 193, 194, 2, 195, 513, 310, 311, 312, 313, 314, 315, 316, 38, 95, 96, 514, 373, 374, 375, 302, 303, 304, 305, 42, 306, 307, 308, 73, 74, 75, 76, 32, 33, 34, 36, 37, 40, 41, 43, 44, 361, 362, 363, 218, 101, 102, 103, 196, 197, 198, 199, 515, 516, 517, 518, 519, 520, 521, 522, 219, 220, 221, 222, 104, 105, 106, 107, 22, 108, 109, 110, 111, 112, 113, 21, 114, 52, 51, 115, 116, 117, 118, 50, 119, 523, 524, 525, 526, 527, 528, 529, 530, 368, 369, 370, 371, 372, 531, 532, 533, 534, 825, 826, 827, 828, 829, 830, 838, 839, 840, 841, 842, 843, 844, 845, 846, 847, 848, 849, 850, 851] rfl (by decide +kernel)
set_option maxRecDepth 20000 in
theorem gL_law_X5_sue : GoodIn wsL_law (wsV RL 42 RX5 yX5_sue wsX5_sue) := goodIn_app (goodIn_of _ (by decide +kernel)) ggL_law_X5_sue
set_option maxRecDepth 20000 in
theorem ggL_law_X6_sue : GoodIn wsL_law wsX6_sue := goodIn_r _ [538, 65, 441, 442, 443, 5, 444, 135, 136, 137, 437, 438, 439, 440, 204, 205, 206, 459, 460, 461, 462, 146, 147, 148, 539, 540, 541, 542, 456, 457, 458, 164, 165, 166, 167, 168, 66, 543, 544, 545, 153, 154, 155, 546, 547, 548, 549, 495, 496, 497, 498, 831, 832, 833, 834, 835, 836, 837] rfl (by decide +kernel)
set_option maxRecDepth 20000 in
theorem gL_law_X6_sue : GoodIn wsL_law (wsV RL 45 RX6 yX6_sue wsX6_sue) := goodIn_app (goodIn_of _ (by decide +kernel)) ggL_law_X6_sue
set_option maxRecDepth 20000 in
theorem ggL_law_X5_vote : GoodIn wsL_law wsX5_vote := goodIn_r _ [553, 15, 16, 511, 295, 296, 14, 297, 35, 193, 194, 2, 195, 513, 310, 311, 312, 313, 314, 315, 316, 38, 95, 96, 73, 74, 75, 76, 32, 33, 34, 36, 37, 39, 40, 41, 42, 43, 44, 361, 362, 363, 218, 101, 102, 103, 554, 555, 556, 557, 558, 559, 560, 561, 326, 327, 328, 329, 330, 331, 332, 333, 334, 335, 336, 337, 321, 197, 198, 199, 338, 339, 340, 341, 342, 343, 344, 345, 346, 347, 348, 220, 221, 222, 317, 318, 319, 320, 349, 350, 324, 351, 352, 353, 354, 355, 356, 357, 358, 359, 360, 531, 532, 533, 534, 527, 528, 529, 530, 306, 307, 308, 104, 105, 106, 107, 22, 108, 109, 110, 111, 112, 113, 21, 114, 52, 51, 115, 116, 117, 118, 50, 119, 825, 826, 827, 828, 829, 830, 838, 839, 840, 841, 842, 843, 844, 845, 846, 847, 848, 849, 850, 851] rfl (by decide +kernel)
set_option maxRecDepth 20000 in
theorem gL_law_X5_vote : GoodIn wsL_law (wsV RL 46 RX5 yX5_vote wsX5_vote) := goodIn_app (goodIn_of _ (by decide +kernel)) ggL_law_X5_vote
set_option maxRecDepth 20000 in
theorem ggL_law_X6_vote : GoodIn wsL_law wsX6_vote := goodIn_r _ [565, 65, 441, 442, 443, 5, 444, 135, 136, 137, 204, 205, 206, 459, 460, 461, 462, 146, 147, 148, 164, 165, 166, 167, 168, 66, 566, 567, 568, 569, 570, 571, 572, 573, 463, 464, 465, 466, 153, 154, 155, 467, 468, 469, 470, 471, 472, 473, 474, 475, 476, 477, 478, 479, 480, 481, 482, 483, 484, 485, 486, 487, 488, 489, 490, 491, 492, 493, 494, 546, 547, 548, 549, 456, 457, 458, 831, 832, 833, 834, 835, 836, 837] rfl (by decide +kernel)
set_option maxRecDepth 20000 in
theorem gL_law_X6_vote : GoodIn wsL_law (wsV RL 49 RX6 yX6_vote wsX6_vote) := goodIn_app (goodIn_of _ (by decide +kernel)) ggL_law_X6_vote
set_option maxRecDepth 20000 in
theorem ggL_law_X5_type : GoodIn wsL_law wsX5_type := goodIn_r _ [577, 26, 578, 579, 580, 25, 581, 60, 59, 825, 826, 827, 828, 829, 830, 852, 853] rfl (by decide +kernel)
set_option maxRecDepth 20000 in
theorem gL_law_X5_type : GoodIn wsL_law (wsV RL 50 RX5 yX5_type wsX5_type) := goodIn_app (goodIn_of _ (by decide +kernel)) ggL_law_X5_type
set_option maxRecDepth 20000 in
theorem ggL_law_X6_type : GoodIn wsL_law wsX6_type := goodIn_r _ [585, 384, 68, 831, 832, 833, 834, 835, 836, 837] rfl (by decide +kernel)
set_option maxRecDepth 20000 in
theorem gL_law_X6_type : GoodIn wsL_law (wsV RL 54 RX6 yX6_type wsX6_type) := goodIn_app (goodIn_of _ (by decide +kernel)) ggL_law_X6_type
set_option maxRecDepth 20000 in
theorem ggL_law_X5_clearText : GoodIn wsL_law wsX5_clearText := goodIn_r _ [589, 26, 825, 826, 827, 828, 829, 830, 852, 853] rfl (by decide +kernel)
set_option maxRecDepth 20000 in
theorem gL_law_X5_clearText : GoodIn wsL_law (wsV RL 55 RX5 yX5_clearText wsX5_clearText) := goodIn_app (goodIn_of _ (by decide +kernel)) ggL_law_X5_clearText
set_option maxRecDepth 20000 in
theorem ggL_law_X6_clearText : GoodIn wsL_law wsX6_clearText := goodIn_r _ [593, 384, 831, 832, 833, 834, 835, 836, 837] rfl (by decide +kernel)
set_option maxRecDepth 20000 in
theorem gL_law_X6_clearText : GoodIn wsL_law (wsV RL 58 RX6 yX6_clearText wsX6_clearText) := goodIn_app (goodIn_of _ (by decide +kernel)) ggL_law_X6_clearText
set_option maxRecDepth 20000 in
theorem ggL_law_X5_fault : GoodIn wsL_law wsX5_fault := goodIn_r _ [597, 26, 234, 235, 236, 25, 237, 60, 238, 239, 240, 241, 59, 242, 243, 244, 245, 246, 247, 248, 249, 250, 251, 252, 253, 254, 255, 256, 257, 258, 259, 260, 261, 262, 263, 825, 826, 827, 828, 829, 830, 852, 853] rfl (by decide +kernel)
set_option maxRecDepth 20000 in
theorem gL_law_X5_fault : GoodIn wsL_law (wsV RL 59 RX5 yX5_fault wsX5_fault) := goodIn_app (goodIn_of _ (by decide +kernel)) ggL_law_X5_fault
set_option maxRecDepth 20000 in
theorem ggL_law_X6_fault : GoodIn wsL_law wsX6_fault := goodIn_r _ [388, 384, 389, 390, 391, 5, 392, 393, 394, 395, 396, 68, 397, 398, 399, 400, 401, 402, 403, 404, 135, 136, 137, 405, 406, 407, 408, 409, 410, 411, 412, 413, 414, 415, 416, 831, 832, 833, 834, 835, 836, 837] rfl (by decide +kernel)
set_option maxRecDepth 20000 in
theorem gL_law_X6_fault : GoodIn wsL_law (wsV RL 62 RX6 yX6_fault wsX6_fault) := goodIn_app (goodIn_of _ (by decide +kernel)) ggL_law_X6_fault
set_option maxRecDepth 20000 in
theorem ggL_law_X5_undo : GoodIn wsL_law wsX5_undo := goodIn_r _ [602, 22, 15, 603, 604, 605, 21, 606, 52, 115, 116, 117, 118, 51, 50, 119, 74, 75, 14, 76, 32, 33, 34, 35, 36, 37, 38, 39, 40, 41, 42, 43, 2, 44, 825, 826, 827, 828, 829, 830, 849, 850, 851, 838, 839, 840, 841, 842, 843, 844, 845, 846, 847, 848] rfl (by decide +kernel)
set_option maxRecDepth 20000 in
theorem gL_law_X5_undo : GoodIn wsL_law (wsV RL 63 RX5 yX5_undo wsX5_undo) := goodIn_app (goodIn_of _ (by decide +kernel)) ggL_law_X5_undo
set_option maxRecDepth 20000 in
theorem ggL_law_X6_undo : GoodIn wsL_law wsX6_undo := goodIn_r _ [610, 168, 65, 66, 831, 832, 833, 834, 835, 836, 837] rfl (by decide +kernel)
set_option maxRecDepth 20000 in
theorem gL_law_X6_undo : GoodIn wsL_law (wsV RL 66 RX6 yX6_undo wsX6_undo) := goodIn_app (goodIn_of _ (by decide +kernel)) ggL_law_X6_undo
set_option maxRecDepth 20000 in
theorem ggL_law_X5_keep : GoodIn wsL_law wsX5_keep := goodIn_r _ [614, 17, 15, 18, 73, 74, 75, 14, 76, 32, 33, 34, 35, 36, 37, 38, 39, 40, 41, 42, 43, 2, 44, 825, 826, 827, 828, 829, 830, 838, 839, 840, 841, 842, 843, 844, 845, 846, 847, 848] rfl (by decide +kernel)
set_option maxRecDepth 20000 in
theorem gL_law_X5_keep : GoodIn wsL_law (wsV RL 67 RX5 yX5_keep wsX5_keep) := goodIn_app (goodIn_of _ (by decide +kernel)) ggL_law_X5_keep
set_option maxRecDepth 20000 in
theorem ggL_law_X6_keep : GoodIn wsL_law wsX6_keep := goodIn_r _ [618, 67, 65, 619, 831, 832, 833, 834, 835, 836, 837] rfl (by decide +kernel)
set_option maxRecDepth 20000 in
theorem gL_law_X6_keep : GoodIn wsL_law (wsV RL 70 RX6 yX6_keep wsX6_keep) := goodIn_app (goodIn_of _ (by decide +kernel)) ggL_law_X6_keep
