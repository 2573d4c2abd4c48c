set_option maxRecDepth 20000 in
theorem ggL_isBestFlash_X7_count : GoodIn wsL_isBestFlash wsX7_count := goodIn_r _ [127, 6, 7, 128, 129, 130, 131, 34, 119, 132, 133, 134, 33, 135, 136, 137, 138, 70, 139, 140, 141, 142, 143, 144, 145, 146, 147, 91, 148, 149, 150, 151, 152, 153, 51, 154, 155, 156, 157, 158, 159, 160, 161, 162, 163, 164, 165, 166, 167, 168, 169, 170, 171, 175, 176, 177, 178, 179, 180, 181, 182, 183, 184, 186, 187, 172, 173, 174, 185] (by decide +kernel) (by decide +kernel)
set_option maxRecDepth 20000 in
theorem gL_isBestFlash_X7_count : GoodIn wsL_isBestFlash (wsV RL 17 RX7 yX7_count wsX7_count) := goodIn_app (goodIn_of _ (by decide +kernel)) ggL_isBestFlash_X7_count
set_option maxRecDepth 20000 in
theorem ggL_does_X7_count : GoodIn wsL_does wsX7_count := goodIn_r _ [5, 6, 7, 8, 9, 10, 11, 12, 13, 14, 15, 16, 17, 18, 19, 20, 21, 22, 23, 24, 25, 26, 27, 28, 29, 30, 31, 32, 33, 34, 35, 36, 37, 38, 39, 40, 41, 42, 43, 44, 322, 323, 324, 325, 326, 327, 328, 329, 330, 331, 332, 333, 334, 335, 336, 337, 338, 339, 340, 341, 342, 343, 344, 345, 346, 347, 348, 349, 350] (by decide +kernel) (by decide +kernel)
set_option maxRecDepth 20000 in
theorem gL_does_X7_count : GoodIn wsL_does (wsV RL 17 RX7 yX7_count wsX7_count) := goodIn_app (goodIn_of _ (by decide +kernel)) ggL_does_X7_count
set_option maxRecDepth 20000 in
theorem ggL_does_L_low : GoodIn wsL_does wsL_low := goodIn_r _ [48, 49] (by decide +kernel) (by decide +kernel)
set_option maxRecDepth 20000 in
theorem gL_does_L_low : GoodIn wsL_does (va_wsS RL 31 yL_low wsL_low) := goodIn_app (goodIn_of _ (by decide +kernel)) ggL_does_L_low
set_option maxRecDepth 20000 in
theorem ggL_does_X7_of : GoodIn wsL_does wsX7_of := goodIn_r _ [53, 6, 8, 54, 7, 55, 56, 57, 58, 59, 60, 61, 62, 4, 63, 9, 64, 65, 66, 67, 68, 69, 70, 71, 72, 73, 74, 75, 76, 77, 78, 79, 80, 81, 82, 83, 84, 85, 322, 323, 324, 325, 326, 327, 328, 329, 330, 331, 332, 333, 334, 335, 336, 337, 338, 339, 340, 341, 342, 343, 344] (by decide +kernel) (by decide +kernel)
set_option maxRecDepth 20000 in
theorem gL_does_X7_of : GoodIn wsL_does (wsV RL 24 RX7 yX7_of wsX7_of) := goodIn_app (goodIn_of _ (by decide +kernel)) ggL_does_X7_of
set_option maxRecDepth 20000 in
theorem ggL_does_X7_thing : GoodIn wsL_does wsX7_thing := goodIn_r _ [89, 17, 6, 8, 7, 90, 91, 92, 4, 93, 9, 94, 95, 96, 64, 65, 66, 97, 98, 99, 100, 101, 102, 103, 104, 105, 106, 107, 108, 109, 39, 110, 111, 112, 113, 114, 115, 116, 117, 118, 119, 120, 121, 122, 123, 124, 70, 125, 126, 127, 22, 128, 129, 130, 131, 132, 133, 134, 135, 136, 137, 138, 139, 140, 74, 75, 73, 77, 76, 141, 142, 143, 32, 144, 145, 146, 147, 148, 149, 150, 151, 152, 153, 154, 155, 72, 156, 157, 158, 159, 160, 161, 162, 163, 164, 165, 322, 323, 324, 325, 326, 327, 328, 329, 330, 331, 332, 333, 334, 335, 336, 337, 338, 339, 340, 341, 342, 343, 344, 347, 348, 349, 350] (by decide +kernel) (by decide +kernel)
set_option maxRecDepth 20000 in
theorem gL_does_X7_thing : GoodIn wsL_does (wsV RL 71 RX7 yX7_thing wsX7_thing) := goodIn_app (goodIn_of _ (by decide +kernel)) ggL_does_X7_thing
