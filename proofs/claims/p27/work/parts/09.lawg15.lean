set_option maxRecDepth 20000 in
theorem ggL_law_X7_flash : GoodIn wsL_law wsX7_flash := goodIn_r _ [326, 21, 13, 141, 327, 328, 329, 2, 330, 109, 110, 111, 295, 296, 297, 20, 298, 80, 81, 79, 11, 12, 82, 299, 168, 157, 169, 31, 32, 33, 8, 9, 34, 35, 36, 37, 38, 39, 40, 41, 42, 43, 44, 45, 46, 47, 48, 49, 50, 51, 52, 53, 54, 55, 56, 57, 58, 59, 60, 61, 62, 63, 64, 65, 66, 67, 68, 69, 190, 191, 192, 193, 194, 195, 196, 197, 198, 199, 200, 201, 202, 203, 204, 205, 206, 207, 208, 331, 332, 333, 334, 431, 432, 433, 434, 435, 436, 437, 438, 439, 440, 441, 442, 443, 447, 448, 449, 456, 457, 458, 459, 460, 461, 462, 463, 464, 465, 466] (by decide +kernel) (by decide +kernel)
set_option maxRecDepth 20000 in
theorem gL_law_X7_flash : GoodIn wsL_law (wsV RL 62 RX7 yX7_flash wsX7_flash) := goodIn_app (goodIn_of _ (by decide +kernel)) ggL_law_X7_flash
set_option maxRecDepth 20000 in
theorem ggL_law_X7_pass : GoodIn wsL_law wsX7_pass := goodIn_r _ [378, 21, 13, 137, 379, 380, 381, 2, 382, 109, 110, 111, 295, 296, 297, 20, 298, 80, 81, 79, 11, 12, 82, 299, 168, 157, 169, 31, 32, 33, 8, 9, 34, 35, 36, 37, 38, 39, 40, 41, 42, 43, 44, 45, 46, 47, 48, 49, 50, 51, 52, 53, 54, 55, 56, 57, 58, 59, 60, 61, 62, 63, 64, 65, 66, 67, 68, 69, 190, 191, 192, 193, 194, 195, 196, 197, 198, 199, 200, 201, 202, 203, 204, 205, 206, 207, 208, 431, 432, 433, 434, 435, 436, 437, 438, 439, 440, 441, 442, 443, 447, 448, 449, 456, 457, 458, 459, 460, 461, 462, 463, 464, 465, 466] (by decide +kernel) (by decide +kernel)
set_option maxRecDepth 20000 in
theorem gL_law_X7_pass : GoodIn wsL_law (wsV RL 53 RX7 yX7_pass wsX7_pass) := goodIn_app (goodIn_of _ (by decide +kernel)) ggL_law_X7_pass
set_option maxRecDepth 20000 in
theorem ggL_law_X7_set : GoodIn wsL_law wsX7_set := goodIn_r _ [338, 339, 340, 21, 13, 143, 109, 110, 2, 111, 295, 296, 297, 20, 298, 80, 81, 79, 11, 12, 82, 299, 168, 157, 169, 31, 32, 33, 8, 9, 34, 35, 36, 37, 38, 39, 40, 41, 42, 43, 44, 45, 46, 47, 48, 49, 50, 51, 52, 53, 54, 55, 56, 57, 58, 59, 60, 61, 62, 63, 64, 65, 66, 67, 68, 69, 190, 191, 192, 193, 194, 195, 196, 197, 198, 199, 200, 201, 202, 203, 204, 205, 206, 207, 208, 431, 432, 433, 434, 435, 436, 437, 438, 439, 440, 441, 442, 443, 447, 448, 449, 456, 457, 458, 459, 460, 461, 462, 463, 464, 465, 466] (by decide +kernel) (by decide +kernel)
set_option maxRecDepth 20000 in
theorem gL_law_X7_set : GoodIn wsL_law (wsV RL 81 RX7 yX7_set wsX7_set) := goodIn_app (goodIn_of _ (by decide +kernel)) ggL_law_X7_set
set_option maxRecDepth 20000 in
theorem ggL_law_X7_bestFlash : GoodIn wsL_law wsX7_bestFlash := goodIn_r _ [420, 13, 137, 109, 110, 2, 111, 174, 175, 176, 12, 177, 40, 178, 179, 180, 181, 49, 421, 422, 423, 424, 425, 426, 427, 431, 432, 433, 434, 435, 436, 437, 438, 439, 440, 441, 442, 443] (by decide +kernel) (by decide +kernel)
set_option maxRecDepth 20000 in
theorem gL_law_X7_bestFlash : GoodIn wsL_law (wsV RL 59 RX7 yX7_bestFlash wsX7_bestFlash) := goodIn_app (goodIn_of _ (by decide +kernel)) ggL_law_X7_bestFlash
