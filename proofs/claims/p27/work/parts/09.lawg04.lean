set_option maxRecDepth 20000 in
theorem ggL_leans_X7_leans : GoodIn wsL_leans wsX7_leans := goodIn_r _ [5, 6, 7, 8, 9, 10, 11, 12, 4, 13, 14, 15, 16, 17, 18, 19, 20, 21, 22, 23, 24, 25, 26, 27, 28, 29, 30, 31, 32, 33, 34, 35, 36, 37, 38, 39, 223, 224, 225, 226, 227, 228, 229, 230, 231, 232, 233, 234, 235, 236, 237, 238, 239, 240, 241, 242, 243, 244, 245] (by decide +kernel) (by decide +kernel)
set_option maxRecDepth 20000 in
theorem gL_leans_X7_leans : GoodIn wsL_leans (wsV RL 44 RX7 yX7_leans wsX7_leans) := goodIn_app (goodIn_of _ (by decide +kernel)) ggL_leans_X7_leans
set_option maxRecDepth 20000 in
theorem ggL_leans_X7_count : GoodIn wsL_leans wsX7_count := goodIn_r _ [43, 6, 44, 7, 14, 45, 46, 47, 48, 49, 50, 51, 52, 53, 54, 55, 56, 57, 58, 59, 60, 61, 62, 63, 64, 65, 66, 67, 68, 69, 70, 71, 72, 73, 74, 75, 76, 77, 78, 79, 223, 224, 225, 226, 227, 228, 229, 230, 231, 232, 233, 234, 235, 236, 237, 238, 239, 240, 241, 242, 243, 244, 245, 246, 247, 248, 249, 250, 251] (by decide +kernel) (by decide +kernel)
set_option maxRecDepth 20000 in
theorem gL_leans_X7_count : GoodIn wsL_leans (wsV RL 17 RX7 yX7_count wsX7_count) := goodIn_app (goodIn_of _ (by decide +kernel)) ggL_leans_X7_count
set_option maxRecDepth 20000 in
theorem ggL_leans_X7_of : GoodIn wsL_leans wsX7_of := goodIn_r _ [83, 6, 7, 8, 44, 9, 84, 85, 86, 87, 10, 11, 12, 4, 13, 14, 15, 16, 17, 25, 26, 27, 28, 29, 30, 31, 32, 33, 34, 35, 36, 37, 38, 39, 88, 89, 90, 91, 223, 224, 225, 226, 227, 228, 229, 230, 231, 232, 233, 234, 235, 236, 237, 238, 239, 240, 241, 242, 243, 244, 245] (by decide +kernel) (by decide +kernel)
set_option maxRecDepth 20000 in
theorem gL_leans_X7_of : GoodIn wsL_leans (wsV RL 24 RX7 yX7_of wsX7_of) := goodIn_app (goodIn_of _ (by decide +kernel)) ggL_leans_X7_of
set_option maxRecDepth 20000 in
theorem ggL_leans_X7_bent : GoodIn wsL_leans wsX7_bent := goodIn_r _ [95, 96, 6, 97, 98, 99, 100, 101, 102, 103, 104, 105, 106, 19, 20, 21, 22, 23, 24, 107, 108, 109, 110, 111, 112, 113, 114, 115, 116, 117, 118, 119, 120, 121, 16, 4, 17, 122, 123, 124, 125, 126, 127, 128, 129, 130, 131, 132, 28, 133, 134, 135, 136, 26, 27, 29, 30, 31, 32, 33, 34, 35, 36, 37, 38, 39, 137, 138, 139, 140, 141, 74, 142, 143, 73, 75, 144, 145, 146, 147, 223, 224, 225, 226, 227, 228, 229, 230, 231, 232, 233, 234, 235, 252, 253, 254, 236, 237, 238, 239, 240, 241, 242, 243, 244, 245] (by decide +kernel) (by decide +kernel)
set_option maxRecDepth 20000 in
theorem gL_leans_X7_bent : GoodIn wsL_leans (wsV RL 47 RX7 yX7_bent wsX7_bent) := goodIn_app (goodIn_of _ (by decide +kernel)) ggL_leans_X7_bent
set_option maxRecDepth 20000 in
theorem ggL_leans_X7_save : GoodIn wsL_leans wsX7_save := goodIn_r _ [151, 152, 153, 154, 21, 6, 7, 14, 15, 16, 4, 17, 155, 156, 157, 158, 159, 160, 161, 162, 163, 164, 165, 24, 166, 167, 28, 168, 169, 170, 57, 171, 23, 172, 120, 121, 173, 174, 175, 176, 134, 135, 177, 178, 32, 33, 31, 35, 34, 179, 180, 181, 67, 182, 183, 184, 185, 186, 187, 188, 189, 190, 191, 192, 193, 30, 194, 195, 196, 197, 198, 199, 223, 224, 225, 226, 227, 228, 229, 230, 231, 232, 233, 234, 235, 236, 237, 238, 239, 240, 241, 242, 243, 244, 245, 251] (by decide +kernel) (by decide +kernel)
set_option maxRecDepth 20000 in
theorem gL_leans_X7_save : GoodIn wsL_leans (wsV RL 50 RX7 yX7_save wsX7_save) := goodIn_app (goodIn_of _ (by decide +kernel)) ggL_leans_X7_save
