set_option maxRecDepth 20000 in
theorem ggL_does_X7_pass : GoodIn wsL_does wsX7_pass := goodIn_r _ [317, 17, 6, 7, 318, 319, 320, 4, 321, 64, 65, 66, 97, 98, 99, 100, 101, 102, 103, 104, 105, 106, 107, 108, 109, 39, 110, 111, 112, 113, 114, 115, 116, 117, 118, 119, 120, 121, 122, 123, 124, 70, 125, 126, 127, 22, 128, 129, 130, 131, 132, 133, 134, 135, 136, 137, 138, 139, 140, 74, 75, 73, 77, 76, 141, 142, 143, 32, 144, 145, 146, 147, 148, 149, 150, 151, 152, 153, 154, 155, 72, 156, 157, 158, 159, 160, 161, 322, 323, 324, 325, 326, 327, 328, 329, 330, 331, 332, 333, 334, 347, 348, 349, 335, 336, 337, 338, 339, 340, 341, 342, 343, 344, 350] (by decide +kernel) (by decide +kernel)
set_option maxRecDepth 20000 in
theorem gL_does_X7_pass : GoodIn wsL_does (wsV RL 53 RX7 yX7_pass wsX7_pass) := goodIn_app (goodIn_of _ (by decide +kernel)) ggL_does_X7_pass
set_option maxRecDepth 20000 in
theorem ggL_law_X7_init : GoodIn wsL_law wsX7_init := goodIn_r _ [6, 7, 8, 9, 10, 11, 12, 13, 14, 15, 16, 17, 18, 19, 20, 21, 22, 23, 24, 25, 26, 27, 28, 29, 30, 31, 32, 33, 34, 35, 36, 37, 38, 39, 40, 41, 42, 43, 44, 45, 46, 47, 48, 49, 50, 51, 52, 53, 54, 55, 56, 57, 58, 59, 60, 61, 62, 63, 64, 65, 66, 67, 68, 69, 70, 71, 72, 73, 74, 75, 76, 77, 78, 79, 80, 81, 82, 83, 84, 85, 86, 87, 88, 89, 90, 91, 92, 93, 94, 95, 96, 437, 438, 439, 440, 441, 442, 443, 431, 432, 433, 434, 435, 436, 444, 445, 446, 447, 448, 449, 450, 451, 452, 453, 454, 455, 456, 457, 458, 459, 460, 461, 462, 463, 464, 465, 466] (by decide +kernel) (by decide +kernel)
set_option maxRecDepth 20000 in
theorem gL_law_X7_init : GoodIn wsL_law (wsX7_init) := ggL_law_X7_init
set_option maxRecDepth 20000 in
theorem ggL_law_L_isPicture : GoodIn wsL_law wsL_isPicture := goodIn_r _ [100, 101, 102, 103, 2, 104, 13, 105, 106, 107, 108, 109, 110, 111, 112, 113, 114, 47, 115, 69, 116, 117, 118, 119, 120, 121, 122, 123, 124, 125, 126, 127, 128, 129, 130, 131, 132, 133, 134, 135, 136, 137, 138, 139, 140, 141, 142, 143, 26, 144, 21, 145, 146, 147, 148, 149, 150, 151, 152, 153, 154, 155, 156, 157, 158, 159, 160, 161, 162, 163, 164, 165, 166, 167, 168, 169, 431, 432, 433, 434, 435, 436, 437, 438, 439, 440, 441, 442, 443, 466, 456, 457, 458, 459, 460, 461, 462, 463, 464, 465, 450, 451, 447, 448, 449] (by decide +kernel) (by decide +kernel)
set_option maxRecDepth 20000 in
theorem gL_law_L_isPicture : GoodIn wsL_law (va_wsS RL 40 yL_isPicture wsL_isPicture) := goodIn_app (goodIn_of _ (by decide +kernel)) ggL_law_L_isPicture
set_option maxRecDepth 20000 in
theorem ggL_law_X7_count : GoodIn wsL_law wsX7_count := goodIn_r _ [136, 13, 137, 138, 139, 140, 105, 141, 142, 143, 26, 144, 21, 145, 146, 147, 148, 47, 149, 150, 121, 122, 123, 124, 113, 114, 115, 69, 151, 152, 153, 154, 155, 156, 157, 158, 159, 160, 161, 162, 431, 432, 433, 434, 435, 436, 437, 438, 439, 440, 441, 442, 443, 456, 457, 458, 459, 460, 461, 462, 463, 464, 465, 450, 451, 447, 448, 449, 466] (by decide +kernel) (by decide +kernel)
set_option maxRecDepth 20000 in
theorem gL_law_X7_count : GoodIn wsL_law (wsV RL 17 RX7 yX7_count wsX7_count) := goodIn_app (goodIn_of _ (by decide +kernel)) ggL_law_X7_count
