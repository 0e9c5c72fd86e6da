/-! THE WORDS OF THE LAW METHODS, 2 -/
set_option maxRecDepth 20000 in
theorem ggL_isHeard_X5_why : GoodIn wsL_isHeard wsX5_why := goodIn_r _ [5, 6, 7, 8, 9, 10, 11, 12, 13, 14, 15, 16, 17, 18, 19, 20, 21, 22, 4, 23, 24, 25, 26, 27, 28, 29, 30, 31, 32, 33, 34, 35, 36, 37, 38, 39, 40, 41, 42, 43, 44, 45, 46, 47, 48, 49, 50, 51, 52, 53, 54, 55, 56, 57, 58, 59, 60, 61, 62, 63, 64, 65, 66, 67, 68, 69, 70, 71, 72, 73, 74, 75, 76, 77, 78, 79, 80, 81, 82, 83, 84, 85, 86, 87, 88, 89, 90, 91, 92, 93, 94, 95, 96, 97, 98, 99, 100, 101, 102, 229, 230, 231, 232, 233, 234, 235, 236, 237, 238, 239, 240, 241, 242, 243, 244, 245] rfl (by decide +kernel)
set_option maxRecDepth 20000 in
theorem gL_isHeard_X5_why : GoodIn wsL_isHeard (wsV RL 41 RX5 yX5_why wsX5_why) := goodIn_app (goodIn_of _ (by decide +kernel)) ggL_isHeard_X5_why
set_option maxRecDepth 20000 in
theorem ggL_isHeard_X5_houseOf : GoodIn wsL_isHeard wsX5_houseOf := goodIn_r _ [106, 6, 107, 13, 14, 10, 15, 16, 108, 29, 4, 30, 109, 25, 26, 27, 28, 110, 111, 112, 113, 21, 114, 115, 116, 117, 35, 36, 37, 38, 118, 119, 120, 121, 122, 123, 124, 125, 126, 127, 128, 129, 130, 131, 132, 48, 49, 50, 51, 52, 53, 54, 55, 56, 39, 40, 41, 42, 43, 44, 45, 46, 47, 61, 62, 63, 64, 65, 66, 67, 68, 69, 70, 71, 72, 73, 74, 75, 76, 77, 78, 79, 80, 81, 82, 83, 84, 85, 86, 87, 88, 89, 90, 91, 92, 59, 93, 94, 95, 96, 97, 98, 99, 100, 101, 102, 229, 230, 231, 232, 233, 234, 235, 236, 237, 238, 239, 240, 241, 242, 243, 244, 245] rfl (by decide +kernel)
set_option maxRecDepth 20000 in
theorem gL_isHeard_X5_houseOf : GoodIn wsL_isHeard (wsV RL 35 RX5 yX5_houseOf wsX5_houseOf) := goodIn_app (goodIn_of _ (by decide +kernel)) ggL_isHeard_X5_houseOf
set_option maxRecDepth 20000 in
theorem ggL_isHeard_X5_millOf : GoodIn wsL_isHeard wsX5_millOf := goodIn_r _ [136, 6, 137, 18, 19, 10, 20, 21, 108, 29, 4, 30, 138, 44, 45, 46, 47, 139, 140, 141, 142, 129, 130, 131, 132, 48, 49, 50, 51, 52, 53, 54, 55, 56, 39, 40, 41, 42, 43, 143, 144, 145, 146, 147, 148, 149, 150, 16, 114, 115, 116, 117, 35, 36, 37, 38, 118, 119, 120, 121, 122, 123, 124, 229, 230, 231, 232, 233, 234, 235, 236, 237, 238, 239, 240, 241, 242, 243, 244, 245] rfl (by decide +kernel)
set_option maxRecDepth 20000 in
theorem gL_isHeard_X5_millOf : GoodIn wsL_isHeard (wsV RL 8 RX5 yX5_millOf wsX5_millOf) := goodIn_app (goodIn_of _ (by decide +kernel)) ggL_isHeard_X5_millOf
set_option maxRecDepth 20000 in
theorem ggL_isHeard_X5_count : GoodIn wsL_isHeard wsX5_count := goodIn_r _ [154, 6, 155, 156, 108, 29, 4, 30, 157, 158, 159, 10, 160, 21, 43, 44, 45, 46, 47, 118, 119, 120, 121, 122, 123, 124, 161, 162, 163, 164, 165, 144, 145, 146, 129, 130, 131, 132, 48, 49, 50, 51, 52, 53, 54, 55, 56, 39, 40, 41, 42, 166, 87, 88, 89, 90, 229, 230, 231, 232, 233, 234, 235, 236, 237, 238, 239, 240, 241, 242, 243, 244, 245, 246, 247, 248, 249, 250] rfl (by decide +kernel)
set_option maxRecDepth 20000 in
theorem gL_isHeard_X5_count : GoodIn wsL_isHeard (wsV RL 38 RX5 yX5_count wsX5_count) := goodIn_app (goodIn_of _ (by decide +kernel)) ggL_isHeard_X5_count
set_option maxRecDepth 20000 in
theorem ggL_isHeard_X5_complain : GoodIn wsL_isHeard wsX5_complain := goodIn_r _ [170, 171, 6, 172, 173, 174, 10, 175, 56, 90, 176, 21, 67, 66, 47, 16, 65, 28, 35, 177, 4, 178, 179, 180, 181, 182, 7, 8, 9, 11, 12, 13, 14, 15, 17, 18, 19, 20, 22, 23, 24, 25, 26, 27, 29, 30, 31, 32, 33, 34, 36, 37, 38, 39, 40, 41, 42, 43, 44, 45, 46, 48, 49, 50, 51, 52, 53, 54, 55, 57, 58, 59, 60, 61, 62, 63, 64, 68, 69, 70, 71, 72, 73, 74, 75, 76, 77, 78, 79, 80, 81, 82, 83, 84, 85, 86, 87, 88, 89, 91, 92, 93, 94, 95, 96, 97, 98, 99, 100, 101, 102, 183, 184, 185, 186, 187, 188, 108, 189, 190, 191, 192, 193, 194, 195, 196, 197, 198, 199, 200, 201, 202, 203, 166, 204, 205, 206, 207, 208, 209, 210, 211, 155, 212, 213, 214, 215, 216, 217, 218, 219, 220, 221, 222, 223, 224, 229, 230, 231, 232, 233, 234, 235, 236, 237, 238, 239, 240, 241, 242, 243, 244, 245, 246, 247, 248] rfl (by decide +kernel)
set_option maxRecDepth 20000 in
theorem gL_isHeard_X5_complain : GoodIn wsL_isHeard (wsV RL 60 RX5 yX5_complain wsX5_complain) := goodIn_app (goodIn_of _ (by decide +kernel)) ggL_isHeard_X5_complain
set_option maxRecDepth 20000 in
theorem ggL_isHeard_L_has : GoodIn wsL_isHeard wsL_has := goodIn_r _ [228] rfl (by decide +kernel)
set_option maxRecDepth 20000 in
theorem gL_isHeard_L_has : GoodIn wsL_isHeard (va_wsS RL 20 yL_has wsL_has) := goodIn_app (goodIn_of _ (by decide +kernel)) ggL_isHeard_L_has
set_option maxRecDepth 20000 in
theorem ggL_isSued_X5_millOf : GoodIn wsL_isSued wsX5_millOf := goodIn_r _ [5, 6, 7, 8, 9, 10, 11, 12, 13, 14, 4, 15, 16, 17, 18, 19, 20, 21, 22, 23, 24, 25, 26, 27, 28, 29, 30, 31, 32, 33, 34, 35, 36, 37, 38, 39, 40, 41, 42, 43, 44, 45, 46, 47, 48, 49, 50, 51, 52, 53, 54, 55, 56, 57, 58, 59, 60, 61, 62, 63, 64, 65, 66, 220, 221, 222, 223, 224, 225, 226, 227, 228, 229, 230, 231, 232, 233, 234, 235, 236] rfl (by decide +kernel)
set_option maxRecDepth 20000 in
theorem gL_isSued_X5_millOf : GoodIn wsL_isSued (wsV RL 8 RX5 yX5_millOf wsX5_millOf) := goodIn_app (goodIn_of _ (by decide +kernel)) ggL_isSued_X5_millOf
set_option maxRecDepth 20000 in
theorem ggL_isSued_L_has : GoodIn wsL_isSued wsL_has := goodIn_r _ [70] rfl (by decide +kernel)
set_option maxRecDepth 20000 in
theorem gL_isSued_L_has : GoodIn wsL_isSued (va_wsS RL 20 yL_has wsL_has) := goodIn_app (goodIn_of _ (by decide +kernel)) ggL_isSued_L_has
set_option maxRecDepth 20000 in
theorem ggL_isSued_X5_houseOf : GoodIn wsL_isSued wsX5_houseOf := goodIn_r _ [74, 6, 75, 76, 77, 10, 78, 51, 13, 14, 4, 15, 79, 80, 81, 82, 83, 84, 85, 86, 87, 12, 52, 53, 54, 55, 56, 57, 58, 59, 60, 61, 62, 63, 64, 65, 66, 88, 89, 90, 91, 25, 26, 27, 28, 29, 30, 31, 32, 33, 34, 35, 36, 37, 38, 39, 40, 41, 42, 17, 18, 19, 20, 92, 93, 94, 95, 96, 97, 98, 99, 100, 101, 102, 103, 104, 105, 106, 107, 108, 109, 110, 111, 112, 113, 114, 115, 116, 117, 118, 119, 120, 121, 122, 123, 124, 125, 126, 127, 128, 129, 130, 131, 132, 133, 134, 220, 221, 222, 223, 224, 225, 226, 227, 228, 229, 230, 231, 232, 233, 234, 235, 236] rfl (by decide +kernel)
set_option maxRecDepth 20000 in
theorem gL_isSued_X5_houseOf : GoodIn wsL_isSued (wsV RL 35 RX5 yX5_houseOf wsX5_houseOf) := goodIn_app (goodIn_of _ (by decide +kernel)) ggL_isSued_X5_houseOf
set_option maxRecDepth 20000 in
theorem ggL_isSued_X5_count : GoodIn wsL_isSued wsX5_count := goodIn_r _ [138, 6, 139, 140, 13, 14, 4, 15, 141, 142, 143, 10, 144, 12, 42, 17, 18, 19, 20, 60, 61, 62, 63, 64, 65, 66, 145, 146, 147, 148, 149, 44, 45, 46, 25, 26, 27, 28, 29, 30, 31, 32, 33, 34, 35, 36, 37, 38, 39, 40, 41, 150, 118, 119, 120, 121, 220, 221, 222, 223, 224, 225, 226, 227, 228, 229, 230, 231, 232, 233, 234, 235, 236, 237, 238, 239, 240, 241] rfl (by decide +kernel)
set_option maxRecDepth 20000 in
theorem gL_isSued_X5_count : GoodIn wsL_isSued (wsV RL 38 RX5 yX5_count wsX5_count) := goodIn_app (goodIn_of _ (by decide +kernel)) ggL_isSued_X5_count
set_option maxRecDepth 20000 in
theorem ggL_isSued_X5_sue : GoodIn wsL_isSued wsX5_sue := goodIn_r _ [154, 6, 155, 7, 8, 9, 10, 11, 12, 75, 76, 77, 78, 51, 156, 157, 4, 158, 159, 39, 40, 41, 42, 17, 18, 19, 20, 14, 15, 160, 161, 162, 163, 164, 165, 166, 167, 56, 57, 58, 59, 168, 169, 170, 171, 37, 121, 172, 98, 97, 96, 83, 173, 174, 175, 176, 177, 13, 178, 179, 180, 181, 34, 35, 36, 16, 182, 61, 62, 63, 64, 65, 66, 150, 118, 119, 120, 183, 184, 185, 186, 139, 187, 188, 189, 190, 191, 192, 193, 194, 195, 196, 197, 198, 199, 200, 201, 202, 203, 204, 205, 206, 207, 208, 209, 210, 211, 212, 213, 214, 215, 216, 217, 218, 219, 220, 221, 222, 223, 224, 225, 226, 227, 228, 229, 230, 231, 232, 233, 234, 235, 236, 237, 238, 239] rfl (by decide +kernel)
set_option maxRecDepth 20000 in
theorem gL_isSued_X5_sue : GoodIn wsL_isSued (wsV RL 63 RX5 yX5_sue wsX5_sue) := goodIn_app (goodIn_of _ (by decide +kernel)) ggL_isSued_X5_sue
set_option maxRecDepth 20000 in
theorem ggL_isVoted_X5_millOf : GoodIn wsL_isVoted wsX5_millOf := goodIn_r _ [5, 6, 7, 8, 9, 10, 11, 12, 13, 14, 4, 15, 16, 17, 18, 19, 20, 21, 22, 23, 24, 25, 26, 27, 28, 29, 30, 31, 32, 33, 34, 35, 36, 37, 38, 39, 40, 41, 42, 43, 44, 45, 46, 47, 48, 49, 50, 51, 52, 53, 54, 55, 56, 57, 58, 59, 60, 61, 62, 63, 64, 65, 66, 193, 194, 195, 196, 197, 198, 199, 200, 201, 202, 203, 204, 205, 206, 207, 208, 209] rfl (by decide +kernel)
set_option maxRecDepth 20000 in
theorem gL_isVoted_X5_millOf : GoodIn wsL_isVoted (wsV RL 8 RX5 yX5_millOf wsX5_millOf) := goodIn_app (goodIn_of _ (by decide +kernel)) ggL_isVoted_X5_millOf
set_option maxRecDepth 20000 in
theorem ggL_isVoted_X5_ifVoted : GoodIn wsL_isVoted wsX5_ifVoted := goodIn_r _ [70, 6, 7, 8, 9, 10, 11, 12, 71, 72, 4, 73, 74, 75, 76, 77, 51, 78, 79, 80, 81, 82, 83, 84, 85, 86, 87, 88, 14, 15, 89, 90, 91, 92, 93, 94, 95, 96, 33, 34, 35, 36, 37, 97, 98, 99, 100, 101, 102, 103, 104, 105, 106, 107, 108, 109, 110, 111, 29, 30, 31, 32, 112, 113, 114, 115, 116, 117, 118, 119, 120, 121, 122, 123, 124, 193, 194, 195, 196, 197, 198, 199, 200, 201, 202, 203, 204, 205, 206, 207, 208, 209] rfl (by decide +kernel)
set_option maxRecDepth 20000 in
theorem gL_isVoted_X5_ifVoted : GoodIn wsL_isVoted (wsV RL 48 RX5 yX5_ifVoted wsX5_ifVoted) := goodIn_app (goodIn_of _ (by decide +kernel)) ggL_isVoted_X5_ifVoted
set_option maxRecDepth 20000 in
theorem ggL_isVoted_X5_count : GoodIn wsL_isVoted wsX5_count := goodIn_r _ [128, 6, 129, 130, 13, 14, 4, 15, 131, 132, 133, 10, 134, 12, 42, 17, 18, 19, 20, 60, 61, 62, 63, 64, 65, 66, 135, 136, 137, 138, 139, 44, 45, 46, 25, 26, 27, 28, 29, 30, 31, 32, 33, 34, 35, 36, 37, 38, 39, 40, 41, 140, 108, 109, 110, 111, 193, 194, 195, 196, 197, 198, 199, 200, 201, 202, 203, 204, 205, 206, 207, 208, 209, 210, 211, 212, 213, 214] rfl (by decide +kernel)
set_option maxRecDepth 20000 in
theorem gL_isVoted_X5_count : GoodIn wsL_isVoted (wsV RL 38 RX5 yX5_count wsX5_count) := goodIn_app (goodIn_of _ (by decide +kernel)) ggL_isVoted_X5_count
set_option maxRecDepth 20000 in
theorem ggL_isVoted_X5_vote : GoodIn wsL_isVoted wsX5_vote := goodIn_r _ [144, 6, 145, 7, 8, 9, 10, 11, 12, 71, 72, 4, 73, 146, 39, 40, 41, 42, 17, 18, 19, 20, 14, 15, 147, 148, 149, 150, 37, 111, 151, 88, 87, 51, 86, 152, 56, 153, 154, 155, 156, 157, 13, 158, 159, 160, 74, 75, 76, 77, 78, 79, 80, 81, 82, 83, 84, 85, 89, 90, 91, 92, 93, 94, 95, 96, 33, 34, 35, 36, 97, 98, 99, 100, 101, 102, 103, 104, 105, 106, 107, 108, 109, 110, 29, 30, 31, 32, 112, 113, 114, 115, 116, 117, 118, 119, 120, 121, 122, 123, 124, 161, 162, 163, 164, 165, 166, 167, 168, 57, 58, 59, 169, 170, 171, 172, 129, 173, 174, 175, 176, 177, 178, 179, 180, 181, 182, 183, 184, 185, 186, 187, 188, 193, 194, 195, 196, 197, 198, 199, 200, 201, 202, 203, 204, 205, 206, 207, 208, 209, 210, 211, 212] rfl (by decide +kernel)
set_option maxRecDepth 20000 in
theorem gL_isVoted_X5_vote : GoodIn wsL_isVoted (wsV RL 66 RX5 yX5_vote wsX5_vote) := goodIn_app (goodIn_of _ (by decide +kernel)) ggL_isVoted_X5_vote
set_option maxRecDepth 20000 in
theorem ggL_isVoted_L_has : GoodIn wsL_isVoted wsL_has := goodIn_r _ [192] rfl (by decide +kernel)
set_option maxRecDepth 20000 in
theorem gL_isVoted_L_has : GoodIn wsL_isVoted (va_wsS RL 20 yL_has wsL_has) := goodIn_app (goodIn_of _ (by decide +kernel)) ggL_isVoted_L_has
set_option maxRecDepth 20000 in
theorem ggL_does_X5_count : GoodIn wsL_does wsX5_count := goodIn_r _ [5, 6, 7, 8, 9, 10, 4, 11, 12, 13, 14, 15, 16, 17, 18, 19, 20, 21, 22, 23, 24, 25, 26, 27, 28, 29, 30, 31, 32, 33, 34, 35, 36, 37, 38, 39, 40, 41, 42, 43, 44, 45, 46, 47, 48, 49, 50, 51, 52, 53, 54, 55, 56, 57, 58, 59, 334, 335, 336, 337, 338, 339, 340, 341, 342, 343, 344, 345, 346, 347, 348, 349, 350, 351, 352, 353, 354, 355] rfl (by decide +kernel)
set_option maxRecDepth 20000 in
theorem gL_does_X5_count : GoodIn wsL_does (wsV RL 38 RX5 yX5_count wsX5_count) := goodIn_app (goodIn_of _ (by decide +kernel)) ggL_does_X5_count
set_option maxRecDepth 20000 in
theorem ggL_does_L_low : GoodIn wsL_does wsL_low := goodIn_r _ [63, 64] rfl (by decide +kernel)
set_option maxRecDepth 20000 in
theorem gL_does_L_low : GoodIn wsL_does (va_wsS RL 69 yL_low wsL_low) := goodIn_app (goodIn_of _ (by decide +kernel)) ggL_does_L_low
set_option maxRecDepth 20000 in
theorem ggL_does_X5_yardOf : GoodIn wsL_does wsX5_yardOf := goodIn_r _ [68, 6, 69, 70, 4, 71, 72, 73, 74, 15, 75, 76, 17, 77, 78, 79, 10, 11, 80, 81, 82, 83, 84, 85, 334, 335, 336, 337, 338, 339, 340, 341, 342, 343, 344, 345, 346, 347, 348, 349, 350] rfl (by decide +kernel)
set_option maxRecDepth 20000 in
theorem gL_does_X5_yardOf : GoodIn wsL_does (wsV RL 32 RX5 yX5_yardOf wsX5_yardOf) := goodIn_app (goodIn_of _ (by decide +kernel)) ggL_does_X5_yardOf
set_option maxRecDepth 20000 in
theorem ggL_does_X5_mill : GoodIn wsL_does wsX5_mill := goodIn_r _ [89, 90, 6, 91, 92, 93, 15, 94, 50, 59, 95, 17, 96, 76, 22, 85, 84, 97, 98, 99, 4, 100, 101, 102, 103, 104, 69, 70, 71, 105, 106, 107, 108, 109, 73, 74, 75, 77, 78, 79, 10, 11, 110, 81, 82, 83, 111, 112, 113, 114, 115, 116, 117, 7, 118, 119, 120, 121, 122, 123, 124, 125, 126, 127, 128, 129, 130, 131, 132, 133, 334, 335, 336, 337, 338, 339, 340, 341, 342, 343, 344, 345, 346, 347, 348, 349, 350, 351, 352, 353] rfl (by decide +kernel)
set_option maxRecDepth 20000 in
theorem gL_does_X5_mill : GoodIn wsL_does (wsV RL 72 RX5 yX5_mill wsX5_mill) := goodIn_app (goodIn_of _ (by decide +kernel)) ggL_does_X5_mill
set_option maxRecDepth 20000 in
theorem ggL_does_X5_house : GoodIn wsL_does wsX5_house := goodIn_r _ [137, 90, 6, 91, 92, 93, 15, 94, 50, 59, 95, 17, 96, 76, 22, 85, 84, 97, 98, 99, 4, 100, 138, 139, 140, 141, 69, 70, 71, 105, 106, 107, 108, 109, 73, 74, 75, 77, 78, 79, 10, 11, 110, 81, 82, 83, 111, 112, 113, 114, 115, 116, 117, 7, 118, 119, 120, 121, 122, 123, 124, 125, 126, 127, 128, 129, 130, 131, 132, 133, 334, 335, 336, 337, 338, 339, 340, 341, 342, 343, 344, 345, 346, 347, 348, 349, 350, 351, 352, 353] rfl (by decide +kernel)
set_option maxRecDepth 20000 in
theorem gL_does_X5_house : GoodIn wsL_does (wsV RL 75 RX5 yX5_house wsX5_house) := goodIn_app (goodIn_of _ (by decide +kernel)) ggL_does_X5_house
set_option maxRecDepth 20000 in
theorem ggL_does_X5_wind : GoodIn wsL_does wsX5_wind := goodIn_r _ [145, 90, 6, 91, 92, 93, 15, 94, 50, 59, 95, 17, 96, 76, 22, 85, 84, 97, 98, 99, 4, 100, 146, 147, 148, 149, 150, 151, 152, 153, 47, 48, 49, 10, 11, 111, 112, 113, 114, 115, 116, 117, 7, 118, 119, 120, 121, 122, 123, 124, 125, 126, 127, 128, 129, 130, 131, 132, 133, 334, 335, 336, 337, 338, 339, 340, 341, 342, 343, 344, 345, 346, 347, 348, 349, 350, 351, 352, 353] rfl (by decide +kernel)
set_option maxRecDepth 20000 in
theorem gL_does_X5_wind : GoodIn wsL_does (wsV RL 78 RX5 yX5_wind wsX5_wind) := goodIn_app (goodIn_of _ (by decide +kernel)) ggL_does_X5_wind
set_option maxRecDepth 20000 in
theorem ggL_does_X5_set : GoodIn wsL_does wsX5_set := goodIn_r _ [157, 158, 159, 160, 6, 90, 9, 10, 4, 11, 55, 56, 57, 15, 58, 59, 91, 92, 93, 94, 50, 95, 17, 96, 76, 22, 85, 84, 97, 98, 99, 100, 111, 112, 113, 114, 115, 116, 117, 7, 118, 119, 120, 121, 122, 123, 124, 125, 126, 127, 128, 129, 130, 131, 132, 133, 334, 335, 336, 337, 338, 339, 340, 341, 342, 343, 344, 345, 346, 347, 348, 349, 350, 351, 352, 353] rfl (by decide +kernel)
set_option maxRecDepth 20000 in
theorem gL_does_X5_set : GoodIn wsL_does (wsV RL 81 RX5 yX5_set wsX5_set) := goodIn_app (goodIn_of _ (by decide +kernel)) ggL_does_X5_set
set_option maxRecDepth 20000 in
theorem ggL_does_L_isSued : GoodIn wsL_does wsL_isSued := goodIn_r _ [163, 164, 165, 166, 4, 167, 6, 168, 169, 170, 15, 171, 17, 9, 10, 11, 172, 19, 20, 21, 22, 173, 174, 175, 176, 38, 39, 40, 41, 42, 43, 44, 45, 46, 47, 48, 49, 50, 51, 52, 53, 54, 18, 177, 35, 36, 37, 178, 179, 180, 181, 85, 182, 183, 184, 185, 98, 186, 187, 188, 23, 24, 25, 26, 27, 28, 29, 189, 190, 62, 191, 192, 193, 194, 195, 196, 197, 198, 199, 200, 201, 202, 203, 97, 204, 205, 206, 207, 208, 209, 210, 211, 212, 213, 214, 215, 84, 76, 96, 216, 217, 218, 219, 220, 221, 222, 223, 224, 225, 226, 227, 228, 229, 230, 231, 232, 233, 234, 56, 57, 58, 59, 235, 236, 237, 238, 239, 240, 241, 242, 243, 244, 245, 246, 247, 1, 2, 3, 5, 7, 8, 12, 13, 14, 16, 30, 31, 32, 33, 34, 55, 248, 249, 250, 251, 90, 150, 151, 152, 252, 253, 254, 255, 256, 257, 258, 259, 260, 91, 92, 93, 94, 95, 99, 100, 261, 262, 263, 111, 112, 113, 153, 264, 114, 115, 116, 117, 118, 119, 120, 121, 122, 123, 124, 125, 126, 127, 128, 129, 130, 131, 132, 133, 265, 266, 267, 268, 269, 270, 271, 272, 273, 274, 275, 276, 277, 278, 279, 280, 281, 334, 335, 336, 337, 338, 339, 340, 341, 342, 343, 344, 345, 346, 347, 348, 349, 350, 351, 352, 353, 354, 355] rfl (by decide +kernel)
set_option maxRecDepth 20000 in
theorem gL_does_L_isSued : GoodIn wsL_does (va_wsS RL 84 yL_isSued wsL_isSued) := goodIn_app (goodIn_of _ (by decide +kernel)) ggL_does_L_isSued
set_option maxRecDepth 20000 in
theorem ggL_does_X5_vote : GoodIn wsL_does wsX5_vote := goodIn_r _ [285, 6, 90, 168, 169, 170, 15, 171, 17, 150, 151, 4, 152, 252, 52, 53, 54, 18, 19, 20, 21, 22, 10, 11, 91, 92, 93, 94, 50, 59, 95, 96, 76, 85, 84, 97, 98, 99, 100, 261, 262, 263, 9, 111, 112, 113, 286, 287, 288, 289, 290, 291, 292, 293, 212, 213, 214, 215, 216, 217, 218, 219, 220, 221, 222, 223, 46, 47, 48, 49, 224, 225, 226, 227, 228, 229, 230, 231, 232, 233, 234, 56, 57, 58, 42, 43, 44, 45, 235, 236, 237, 238, 239, 240, 241, 242, 243, 244, 245, 246, 247, 278, 279, 280, 281, 269, 270, 271, 272, 186, 187, 188, 114, 115, 116, 117, 7, 118, 119, 120, 121, 122, 123, 124, 125, 126, 127, 128, 129, 130, 131, 132, 133, 334, 335, 336, 337, 338, 339, 340, 341, 342, 343, 344, 345, 346, 347, 348, 349, 350, 351, 352, 353] rfl (by decide +kernel)
set_option maxRecDepth 20000 in
theorem gL_does_X5_vote : GoodIn wsL_does (wsV RL 66 RX5 yX5_vote wsX5_vote) := goodIn_app (goodIn_of _ (by decide +kernel)) ggL_does_X5_vote
set_option maxRecDepth 20000 in
theorem ggL_does_L_isVoted : GoodIn wsL_does wsL_isVoted := goodIn_r _ [296, 164, 165, 166, 4, 167, 6, 168, 169, 170, 15, 171, 17, 9, 10, 11, 172, 19, 20, 21, 22, 173, 174, 175, 176, 38, 39, 40, 41, 42, 43, 44, 45, 46, 47, 48, 49, 50, 51, 52, 53, 54, 18, 177, 35, 36, 37, 178, 179, 180, 181, 85, 182, 183, 184, 185, 98, 186, 187, 188, 23, 24, 25, 26, 27, 28, 29, 297, 298, 299, 300, 150, 151, 152, 286, 287, 288, 289, 290, 291, 292, 293, 212, 213, 214, 215, 84, 76, 96, 216, 217, 218, 219, 220, 221, 222, 223, 224, 225, 226, 227, 228, 229, 230, 231, 232, 233, 234, 56, 57, 58, 59, 235, 236, 237, 238, 239, 240, 241, 242, 243, 244, 245, 246, 247, 1, 2, 3, 5, 7, 8, 12, 13, 14, 16, 30, 31, 32, 33, 34, 55, 282, 283, 284, 285, 90, 252, 91, 92, 93, 94, 95, 97, 99, 100, 261, 262, 263, 111, 112, 113, 278, 279, 280, 281, 269, 270, 271, 272, 114, 115, 116, 117, 118, 119, 120, 121, 122, 123, 124, 125, 126, 127, 128, 129, 130, 131, 132, 133, 189, 190, 62, 191, 334, 335, 336, 337, 338, 339, 340, 341, 342, 343, 344, 345, 346, 347, 348, 349, 350, 351, 352, 353, 354, 355] rfl (by decide +kernel)
set_option maxRecDepth 20000 in
theorem gL_does_L_isVoted : GoodIn wsL_does (va_wsS RL 88 yL_isVoted wsL_isVoted) := goodIn_app (goodIn_of _ (by decide +kernel)) ggL_does_L_isVoted
set_option maxRecDepth 20000 in
theorem ggL_does_X5_complain : GoodIn wsL_does wsX5_complain := goodIn_r _ [304, 90, 6, 91, 92, 93, 15, 94, 50, 59, 95, 17, 96, 76, 22, 85, 84, 97, 98, 99, 4, 100, 305, 306, 307, 308, 309, 310, 311, 312, 313, 197, 198, 199, 314, 169, 170, 171, 151, 152, 315, 201, 202, 203, 10, 11, 257, 258, 259, 260, 186, 187, 188, 51, 52, 53, 54, 18, 19, 20, 21, 42, 43, 44, 45, 46, 47, 48, 49, 316, 317, 237, 318, 212, 213, 214, 215, 216, 217, 218, 219, 220, 221, 222, 223, 224, 225, 226, 227, 228, 229, 230, 231, 232, 233, 234, 56, 57, 58, 235, 236, 238, 239, 240, 241, 242, 243, 244, 245, 246, 247, 118, 119, 120, 261, 262, 263, 9, 111, 112, 113, 319, 320, 321, 322, 273, 274, 275, 276, 277, 254, 255, 256, 55, 323, 324, 325, 326, 114, 115, 116, 117, 7, 121, 122, 123, 124, 125, 126, 127, 128, 129, 130, 131, 132, 133, 334, 335, 336, 337, 338, 339, 340, 341, 342, 343, 344, 345, 346, 347, 348, 349, 350, 351, 352, 353] rfl (by decide +kernel)
set_option maxRecDepth 20000 in
theorem gL_does_X5_complain : GoodIn wsL_does (wsV RL 60 RX5 yX5_complain wsX5_complain) := goodIn_app (goodIn_of _ (by decide +kernel)) ggL_does_X5_complain
set_option maxRecDepth 20000 in
theorem ggL_does_L_isHeard : GoodIn wsL_does wsL_isHeard := goodIn_r _ [329, 330, 331, 332, 4, 333, 6, 309, 310, 311, 15, 312, 313, 197, 198, 199, 85, 314, 169, 170, 171, 17, 151, 152, 315, 201, 202, 203, 97, 10, 11, 257, 258, 259, 260, 98, 186, 187, 188, 51, 52, 53, 54, 18, 19, 20, 21, 22, 42, 43, 44, 45, 46, 47, 48, 49, 50, 316, 317, 237, 318, 212, 213, 214, 215, 84, 76, 96, 216, 217, 218, 219, 220, 221, 222, 223, 224, 225, 226, 227, 228, 229, 230, 231, 232, 233, 234, 56, 57, 58, 59, 235, 236, 238, 239, 240, 241, 242, 243, 244, 245, 246, 247, 192, 193, 194, 195, 196, 9, 200, 204, 205, 206, 207, 182, 183, 184, 185, 23, 24, 25, 26, 27, 28, 29, 208, 209, 210, 211, 38, 39, 40, 41, 164, 165, 166, 167, 168, 172, 173, 174, 175, 176, 177, 35, 36, 37, 178, 179, 180, 181, 1, 2, 3, 5, 7, 8, 12, 13, 14, 16, 30, 31, 32, 33, 34, 55, 301, 302, 303, 304, 90, 91, 92, 93, 94, 95, 99, 100, 305, 306, 307, 308, 118, 119, 120, 261, 262, 263, 111, 112, 113, 319, 320, 321, 322, 273, 274, 275, 276, 277, 254, 255, 256, 323, 324, 325, 326, 114, 115, 116, 117, 121, 122, 123, 124, 125, 126, 127, 128, 129, 130, 131, 132, 133, 189, 190, 62, 191, 334, 335, 336, 337, 338, 339, 340, 341, 342, 343, 344, 345, 346, 347, 348, 349, 350, 351, 352, 353, 354, 355] rfl (by decide +kernel)
set_option maxRecDepth 20000 in
theorem gL_does_L_isHeard : GoodIn wsL_does (va_wsS RL 92 yL_isHeard wsL_isHeard) := goodIn_app (goodIn_of _ (by decide +kernel)) ggL_does_L_isHeard
