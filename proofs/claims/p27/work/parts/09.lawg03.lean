set_option maxRecDepth 20000 in
theorem ggL_isShot_X7_shoot : GoodIn wsL_isShot wsX7_shoot := goodIn_r _ [128, 23, 12, 55, 17, 129, 130, 131, 10, 132, 133, 134, 135, 80, 136, 84, 137, 138, 139, 140, 141, 142, 143, 144, 145, 146, 147, 148, 149, 150, 151, 152, 118, 45, 119, 153, 154, 155, 156, 157, 158, 159, 160, 161, 162, 163, 164, 165, 96, 166, 167, 168, 28, 169, 170, 82, 83, 171, 172, 173, 1, 98, 99, 174, 175, 106, 107, 105, 109, 108, 176, 177, 178, 38, 179, 180, 181, 182, 183, 184, 185, 186, 187, 188, 189, 190, 104, 191, 192, 193, 194, 195, 196, 197, 198, 199, 65, 200, 201, 202, 203, 204, 205, 206, 68, 69, 70, 71, 72, 73, 74, 75, 76, 77, 78, 79, 81, 60, 61, 85, 86, 87, 88, 89, 90, 91, 92, 93, 94, 95, 97, 100, 101, 102, 103, 110, 111, 112, 113, 114, 115, 116, 117, 120, 44, 46, 121, 122, 123, 124, 207, 208, 209, 210, 211, 212, 213, 214, 215, 216, 217, 218, 219, 34, 35, 36, 37, 243, 244, 245, 246, 247, 248, 249, 250, 251, 252, 253, 254, 255, 268, 269, 270, 256, 257, 258, 259, 260, 261, 262, 263, 264, 265, 271, 272, 273, 274] (by decide +kernel) (by decide +kernel)
set_option maxRecDepth 20000 in
theorem gL_isShot_X7_shoot : GoodIn wsL_isShot (wsV RL 36 RX7 yX7_shoot wsX7_shoot) := goodIn_app (goodIn_of _ (by decide +kernel)) ggL_isShot_X7_shoot
set_option maxRecDepth 20000 in
theorem ggL_isShot_X7_ofLine : GoodIn wsL_isShot wsX7_ofLine := goodIn_r _ [223, 12, 17, 59, 60, 10, 61, 224, 31, 32, 28, 33, 34, 35, 36, 37, 38, 225, 217, 218, 219, 226, 227, 228, 229, 243, 244, 245, 246, 247, 248, 249, 250, 251, 252, 253, 254, 255, 271] (by decide +kernel) (by decide +kernel)
set_option maxRecDepth 20000 in
theorem gL_isShot_X7_ofLine : GoodIn wsL_isShot (wsV RL 14 RX7 yX7_ofLine wsX7_ofLine) := goodIn_app (goodIn_of _ (by decide +kernel)) ggL_isShot_X7_ofLine
set_option maxRecDepth 20000 in
theorem ggL_isShot_X7_pixel : GoodIn wsL_isShot wsX7_pixel := goodIn_r _ [233, 12, 17, 56, 57, 10, 58, 59, 60, 61, 234, 35, 36, 28, 37, 38, 243, 244, 245, 246, 247, 248, 249, 250, 251, 252, 253, 254, 255, 271] (by decide +kernel) (by decide +kernel)
set_option maxRecDepth 20000 in
theorem gL_isShot_X7_pixel : GoodIn wsL_isShot (wsV RL 10 RX7 yX7_pixel wsX7_pixel) := goodIn_app (goodIn_of _ (by decide +kernel)) ggL_isShot_X7_pixel
set_option maxRecDepth 20000 in
theorem ggL_isShot_L_isPicture : GoodIn wsL_isShot wsL_isPicture := goodIn_r _ [237, 230, 231, 232, 10, 233, 12, 17, 56, 57, 58, 59, 60, 61, 234, 35, 36, 28, 37, 38, 220, 221, 222, 223, 224, 31, 32, 33, 34, 225, 217, 218, 219, 226, 227, 228, 229, 7, 8, 9, 11, 13, 14, 15, 16, 18, 19, 20, 21, 22, 23, 24, 25, 26, 27, 29, 30, 39, 40, 41, 42, 43, 44, 45, 46, 47, 48, 49, 50, 238, 239, 240, 241, 242, 118, 119, 243, 244, 245, 246, 247, 248, 249, 250, 251, 252, 253, 254, 255, 271, 256, 257, 258, 259, 260, 261, 262, 263, 264, 265, 266, 267, 268, 269, 270] (by decide +kernel) (by decide +kernel)
set_option maxRecDepth 20000 in
theorem gL_isShot_L_isPicture : GoodIn wsL_isShot (va_wsS RL 40 yL_isPicture wsL_isPicture) := goodIn_app (goodIn_of _ (by decide +kernel)) ggL_isShot_L_isPicture
