set_option maxRecDepth 20000 in
theorem ggL_leans_X7_pass : GoodIn wsL_leans wsX7_pass := goodIn_r _ [203, 52, 6, 44, 204, 205, 206, 4, 207, 15, 16, 17, 208, 209, 210, 211, 212, 213, 214, 215, 154, 21, 216, 217, 141, 74, 142, 155, 156, 157, 158, 159, 160, 161, 162, 163, 164, 165, 24, 166, 167, 28, 168, 169, 170, 57, 171, 23, 172, 120, 121, 173, 174, 175, 176, 134, 135, 177, 178, 32, 33, 31, 35, 34, 179, 180, 181, 67, 218, 183, 184, 185, 186, 187, 188, 189, 190, 191, 192, 193, 30, 194, 195, 196, 197, 198, 199, 223, 224, 225, 226, 227, 228, 229, 230, 231, 232, 233, 234, 235, 248, 249, 250, 236, 237, 238, 239, 240, 241, 242, 243, 244, 245, 251] (by decide +kernel) (by decide +kernel)
set_option maxRecDepth 20000 in
theorem gL_leans_X7_pass : GoodIn wsL_leans (wsV RL 53 RX7 yX7_pass wsX7_pass) := goodIn_app (goodIn_of _ (by decide +kernel)) ggL_leans_X7_pass
set_option maxRecDepth 20000 in
theorem ggL_leans_X7_restore : GoodIn wsL_leans wsX7_restore := goodIn_r _ [222, 152, 52, 6, 7, 14, 15, 16, 4, 17, 208, 209, 210, 211, 212, 213, 214, 215, 154, 21, 216, 217, 141, 74, 142, 155, 156, 157, 158, 159, 160, 161, 162, 163, 164, 165, 24, 166, 167, 28, 168, 169, 170, 57, 171, 23, 172, 120, 121, 173, 174, 175, 176, 134, 135, 177, 178, 32, 33, 31, 35, 34, 179, 180, 181, 67, 218, 183, 184, 185, 186, 187, 188, 189, 190, 191, 192, 193, 30, 194, 195, 196, 197, 198, 199, 182, 223, 224, 225, 226, 227, 228, 229, 230, 231, 232, 233, 234, 235, 236, 237, 238, 239, 240, 241, 242, 243, 244, 245, 248, 249, 250, 251] (by decide +kernel) (by decide +kernel)
set_option maxRecDepth 20000 in
theorem gL_leans_X7_restore : GoodIn wsL_leans (wsV RL 56 RX7 yX7_restore wsX7_restore) := goodIn_app (goodIn_of _ (by decide +kernel)) ggL_leans_X7_restore
set_option maxRecDepth 20000 in
theorem ggL_isBestFlash_X7_bestFlash : GoodIn wsL_isBestFlash wsX7_bestFlash := goodIn_r _ [5, 6, 7, 8, 9, 4, 10, 11, 12, 13, 14, 15, 16, 17, 18, 19, 20, 21, 22, 23, 24, 25, 26, 27, 28, 159, 160, 161, 162, 163, 164, 165, 166, 167, 168, 169, 170, 171] (by decide +kernel) (by decide +kernel)
set_option maxRecDepth 20000 in
theorem gL_isBestFlash_X7_bestFlash : GoodIn wsL_isBestFlash (wsV RL 59 RX7 yX7_bestFlash wsX7_bestFlash) := goodIn_app (goodIn_of _ (by decide +kernel)) ggL_isBestFlash_X7_bestFlash
set_option maxRecDepth 20000 in
theorem ggL_isBestFlash_X7_flash : GoodIn wsL_isBestFlash wsX7_flash := goodIn_r _ [32, 33, 6, 34, 35, 36, 37, 4, 38, 8, 9, 10, 39, 40, 41, 42, 43, 44, 45, 46, 47, 14, 48, 49, 50, 51, 52, 53, 54, 55, 56, 57, 58, 59, 60, 61, 62, 63, 16, 64, 65, 66, 67, 68, 69, 70, 71, 21, 72, 73, 74, 75, 76, 77, 78, 79, 80, 81, 82, 83, 84, 85, 86, 87, 88, 89, 90, 91, 92, 93, 94, 95, 96, 97, 98, 99, 100, 101, 102, 103, 104, 105, 106, 107, 108, 109, 110, 111, 112, 113, 114, 159, 160, 161, 162, 163, 164, 165, 166, 167, 168, 169, 170, 171, 172, 173, 174, 175, 176, 177, 178, 179, 180, 181, 182, 183, 184, 185] (by decide +kernel) (by decide +kernel)
set_option maxRecDepth 20000 in
theorem gL_isBestFlash_X7_flash : GoodIn wsL_isBestFlash (wsV RL 62 RX7 yX7_flash wsX7_flash) := goodIn_app (goodIn_of _ (by decide +kernel)) ggL_isBestFlash_X7_flash
set_option maxRecDepth 20000 in
theorem ggL_isBestFlash_X7_flashed : GoodIn wsL_isBestFlash wsX7_flashed := goodIn_r _ [118, 6, 34, 119, 11, 12, 13, 14, 15, 16, 17, 18, 19, 20, 21, 159, 160, 161, 162, 163, 164, 165, 166, 167, 168, 169, 170, 171] (by decide +kernel) (by decide +kernel)
set_option maxRecDepth 20000 in
theorem gL_isBestFlash_X7_flashed : GoodIn wsL_isBestFlash (wsV RL 65 RX7 yX7_flashed wsX7_flashed) := goodIn_app (goodIn_of _ (by decide +kernel)) ggL_isBestFlash_X7_flashed
set_option maxRecDepth 20000 in
theorem ggL_isBestFlash_L_ones : GoodIn wsL_isBestFlash wsL_ones := goodIn_r _ [123] (by decide +kernel) (by decide +kernel)
set_option maxRecDepth 20000 in
theorem gL_isBestFlash_L_ones : GoodIn wsL_isBestFlash (va_wsS RL 68 yL_ones wsL_ones) := goodIn_app (goodIn_of _ (by decide +kernel)) ggL_isBestFlash_L_ones
