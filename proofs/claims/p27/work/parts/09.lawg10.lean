set_option maxRecDepth 20000 in
theorem ggL_law_X7_flashed : GoodIn wsL_law wsX7_flashed := goodIn_r _ [173, 13, 141, 142, 174, 175, 176, 12, 177, 40, 178, 179, 180, 181, 49, 431, 432, 433, 434, 435, 436, 437, 438, 439, 440, 441, 442, 443] (by decide +kernel) (by decide +kernel)
set_option maxRecDepth 20000 in
theorem gL_law_X7_flashed : GoodIn wsL_law (wsV RL 65 RX7 yX7_flashed wsX7_flashed) := goodIn_app (goodIn_of _ (by decide +kernel)) ggL_law_X7_flashed
set_option maxRecDepth 20000 in
theorem ggL_law_X7_undo : GoodIn wsL_law wsX7_undo := goodIn_r _ [185, 21, 13, 145, 186, 187, 188, 20, 189, 81, 80, 82, 190, 191, 192, 12, 193, 40, 194, 195, 196, 197, 44, 48, 49, 50, 51, 52, 198, 199, 200, 43, 201, 202, 57, 203, 58, 59, 60, 61, 62, 63, 64, 65, 204, 205, 206, 47, 207, 69, 208, 431, 432, 433, 434, 435, 436, 447, 448, 449, 437, 438, 439, 440, 441, 442, 443, 456, 457, 458, 459, 460, 461, 462, 463, 464, 465, 466] (by decide +kernel) (by decide +kernel)
set_option maxRecDepth 20000 in
theorem gL_law_X7_undo : GoodIn wsL_law (wsV RL 90 RX7 yX7_undo wsX7_undo) := goodIn_app (goodIn_of _ (by decide +kernel)) ggL_law_X7_undo
set_option maxRecDepth 20000 in
theorem ggL_law_X7_seen : GoodIn wsL_law wsX7_seen := goodIn_r _ [212, 17, 13, 137, 106, 107, 2, 108, 109, 110, 111, 213, 214, 215, 16, 216, 74, 217, 218, 219, 220, 221, 222, 223, 224, 225, 226, 227, 228, 12, 229, 51, 52, 40, 230, 231, 232, 233, 75, 234, 235, 236, 237, 238, 239, 43, 240, 57, 58, 241, 242, 243, 244, 202, 63, 61, 62, 65, 64, 245, 246, 247, 248, 249, 250, 251, 252, 168, 157, 169, 253, 156, 158, 254, 255, 256, 257, 431, 432, 433, 434, 435, 436, 437, 438, 439, 440, 441, 442, 443, 444, 445, 446, 456, 457, 458, 459, 460, 461, 462, 463, 464, 465] (by decide +kernel) (by decide +kernel)
set_option maxRecDepth 20000 in
theorem gL_law_X7_seen : GoodIn wsL_law (wsV RL 27 RX7 yX7_seen wsX7_seen) := goodIn_app (goodIn_of _ (by decide +kernel)) ggL_law_X7_seen
set_option maxRecDepth 20000 in
theorem ggL_law_L_cell : GoodIn wsL_law wsL_cell := goodIn_r _ [260] (by decide +kernel) (by decide +kernel)
set_option maxRecDepth 20000 in
theorem gL_law_L_cell : GoodIn wsL_law (va_wsS RL 93 yL_cell wsL_cell) := goodIn_app (goodIn_of _ (by decide +kernel)) ggL_law_L_cell
