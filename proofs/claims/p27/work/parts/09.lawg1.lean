set_option maxRecDepth 20000 in
theorem ggL_isPicture_X7_pixel : GoodIn wsL_isPicture wsX7_pixel := goodIn_r _ [5, 6, 7, 8, 9, 4, 10, 11, 12, 13, 14, 15, 16, 17, 18, 19, 76, 77, 78, 79, 80, 81, 82, 83, 84, 85, 86, 87, 88, 89] rfl (by decide +kernel)
set_option maxRecDepth 20000 in
theorem gL_isPicture_X7_pixel : GoodIn wsL_isPicture (wsV RL 10 RX7 yX7_pixel wsX7_pixel) := goodIn_app (goodIn_of _ (by decide +kernel)) ggL_isPicture_X7_pixel
set_option maxRecDepth 20000 in
theorem ggL_isPicture_X7_ofLine : GoodIn wsL_isPicture wsX7_ofLine := goodIn_r _ [23, 6, 7, 11, 12, 4, 13, 24, 25, 26, 17, 27, 28, 15, 16, 18, 19, 29, 30, 31, 32, 33, 34, 35, 36, 76, 77, 78, 79, 80, 81, 82, 83, 84, 85, 86, 87, 88, 89] rfl (by decide +kernel)
set_option maxRecDepth 20000 in
theorem gL_isPicture_X7_ofLine : GoodIn wsL_isPicture (wsV RL 14 RX7 yX7_ofLine wsX7_ofLine) := goodIn_app (goodIn_of _ (by decide +kernel)) ggL_isPicture_X7_ofLine
set_option maxRecDepth 20000 in
theorem ggL_isPicture_X7_count : GoodIn wsL_isPicture wsX7_count := goodIn_r _ [40, 6, 41, 42, 43, 44, 7, 45, 46, 47, 48, 49, 50, 51, 52, 53, 54, 17, 55, 56, 25, 26, 27, 28, 15, 16, 18, 19, 57, 58, 59, 60, 61, 62, 63, 64, 65, 66, 67, 68, 76, 77, 78, 79, 80, 81, 82, 83, 84, 85, 86, 87, 88, 90, 91, 92, 93, 94, 95, 96, 97, 98, 99, 100, 101, 102, 103, 104, 89] rfl (by decide +kernel)
set_option maxRecDepth 20000 in
theorem gL_isPicture_X7_count : GoodIn wsL_isPicture (wsV RL 17 RX7 yX7_count wsX7_count) := goodIn_app (goodIn_of _ (by decide +kernel)) ggL_isPicture_X7_count
set_option maxRecDepth 20000 in
theorem ggL_isPicture_X7_joined : GoodIn wsL_isPicture wsX7_joined := goodIn_r _ [72, 6, 47, 73, 74, 63, 75, 7, 8, 9, 4, 10, 11, 12, 13, 14, 15, 16, 17, 18, 19, 76, 77, 78, 79, 80, 81, 82, 83, 84, 85, 86, 87, 88, 89] rfl (by decide +kernel)
set_option maxRecDepth 20000 in
theorem gL_isPicture_X7_joined : GoodIn wsL_isPicture (wsV RL 21 RX7 yX7_joined wsX7_joined) := goodIn_app (goodIn_of _ (by decide +kernel)) ggL_isPicture_X7_joined
set_option maxRecDepth 20000 in
theorem ggL_isThing_X7_of : GoodIn wsL_isThing wsX7_of := goodIn_r _ [5, 6, 7, 8, 9, 10, 11, 12, 13, 14, 15, 16, 17, 4, 18, 19, 20, 21, 22, 23, 24, 25, 26, 27, 28, 29, 30, 31, 32, 33, 34, 35, 36, 37, 38, 39, 40, 41, 42, 43, 44, 45, 46, 47, 48, 49, 50, 51, 52, 53, 54, 55, 56, 57, 58, 59, 60, 61, 62, 63, 64] rfl (by decide +kernel)
set_option maxRecDepth 20000 in
theorem gL_isThing_X7_of : GoodIn wsL_isThing (wsV RL 24 RX7 yX7_of wsX7_of) := goodIn_app (goodIn_of _ (by decide +kernel)) ggL_isThing_X7_of
set_option maxRecDepth 20000 in
theorem ggL_isSeen_X7_count : GoodIn wsL_isSeen wsX7_count := goodIn_r _ [5, 6, 7, 8, 9, 10, 11, 12, 13, 14, 15, 16, 17, 18, 19, 20, 21, 22, 23, 24, 25, 26, 27, 28, 29, 30, 31, 32, 33, 34, 35, 36, 37, 38, 39, 40, 41, 42, 43, 44, 138, 139, 140, 141, 142, 143, 144, 145, 146, 147, 148, 149, 150, 151, 152, 153, 154, 155, 156, 157, 158, 159, 160, 161, 162, 163, 164, 165, 166] rfl (by decide +kernel)
set_option maxRecDepth 20000 in
theorem gL_isSeen_X7_count : GoodIn wsL_isSeen (wsV RL 17 RX7 yX7_count wsX7_count) := goodIn_app (goodIn_of _ (by decide +kernel)) ggL_isSeen_X7_count
set_option maxRecDepth 20000 in
theorem ggL_isSeen_X7_of : GoodIn wsL_isSeen wsX7_of := goodIn_r _ [48, 6, 8, 49, 7, 50, 51, 52, 53, 54, 55, 56, 57, 4, 58, 9, 59, 60, 61, 62, 63, 64, 65, 66, 67, 68, 69, 70, 71, 72, 73, 74, 75, 76, 77, 78, 79, 80, 138, 139, 140, 141, 142, 143, 144, 145, 146, 147, 148, 149, 150, 151, 152, 153, 154, 155, 156, 157, 158, 159, 160] rfl (by decide +kernel)
set_option maxRecDepth 20000 in
theorem gL_isSeen_X7_of : GoodIn wsL_isSeen (wsV RL 24 RX7 yX7_of wsX7_of) := goodIn_app (goodIn_of _ (by decide +kernel)) ggL_isSeen_X7_of
set_option maxRecDepth 20000 in
theorem ggL_isSeen_X7_seen : GoodIn wsL_isSeen wsX7_seen := goodIn_r _ [84, 85, 6, 7, 86, 87, 4, 88, 59, 60, 61, 89, 90, 91, 92, 93, 94, 95, 96, 97, 98, 99, 100, 101, 102, 103, 104, 105, 106, 107, 108, 109, 110, 111, 112, 113, 114, 115, 116, 117, 118, 119, 120, 121, 122, 65, 123, 124, 125, 126, 63, 64, 66, 67, 68, 69, 70, 71, 72, 73, 74, 75, 76, 127, 128, 129, 130, 131, 39, 132, 133, 38, 40, 134, 135, 136, 137, 138, 139, 140, 141, 142, 143, 144, 145, 146, 147, 148, 149, 150, 167, 168, 169, 151, 152, 153, 154, 155, 156, 157, 158, 159, 160] rfl (by decide +kernel)
set_option maxRecDepth 20000 in
theorem gL_isSeen_X7_seen : GoodIn wsL_isSeen (wsV RL 27 RX7 yX7_seen wsX7_seen) := goodIn_app (goodIn_of _ (by decide +kernel)) ggL_isSeen_X7_seen
set_option maxRecDepth 20000 in
theorem ggL_isShot_L_low : GoodIn wsL_isShot wsL_low := goodIn_r _ [5, 6] rfl (by decide +kernel)
set_option maxRecDepth 20000 in
theorem gL_isShot_L_low : GoodIn wsL_isShot (va_wsS RL 31 yL_low wsL_low) := goodIn_app (goodIn_of _ (by decide +kernel)) ggL_isShot_L_low
set_option maxRecDepth 20000 in
theorem ggL_isShot_X7_count : GoodIn wsL_isShot wsX7_count := goodIn_r _ [11, 12, 13, 14, 15, 16, 17, 18, 19, 20, 21, 22, 23, 24, 25, 26, 27, 28, 29, 30, 31, 32, 33, 34, 35, 36, 37, 38, 39, 40, 41, 42, 43, 44, 45, 46, 47, 48, 49, 50, 243, 244, 245, 246, 247, 248, 249, 250, 251, 252, 253, 254, 255, 256, 257, 258, 259, 260, 261, 262, 263, 264, 265, 266, 267, 268, 269, 270, 271] rfl (by decide +kernel)
set_option maxRecDepth 20000 in
theorem gL_isShot_X7_count : GoodIn wsL_isShot (wsV RL 17 RX7 yX7_count wsX7_count) := goodIn_app (goodIn_of _ (by decide +kernel)) ggL_isShot_X7_count
set_option maxRecDepth 20000 in
theorem ggL_isShot_X7_seen : GoodIn wsL_isShot wsX7_seen := goodIn_r _ [54, 55, 12, 13, 56, 57, 10, 58, 59, 60, 61, 62, 63, 64, 65, 66, 67, 68, 69, 70, 71, 72, 73, 74, 75, 76, 77, 78, 79, 80, 81, 82, 83, 84, 85, 86, 87, 88, 89, 90, 91, 92, 93, 94, 95, 96, 97, 98, 99, 100, 101, 102, 103, 104, 105, 106, 107, 108, 109, 110, 111, 112, 113, 114, 115, 116, 117, 118, 45, 119, 120, 44, 46, 121, 122, 123, 124, 243, 244, 245, 246, 247, 248, 249, 250, 251, 252, 253, 254, 255, 272, 273, 274, 256, 257, 258, 259, 260, 261, 262, 263, 264, 265] rfl (by decide +kernel)
set_option maxRecDepth 20000 in
theorem gL_isShot_X7_seen : GoodIn wsL_isShot (wsV RL 27 RX7 yX7_seen wsX7_seen) := goodIn_app (goodIn_of _ (by decide +kernel)) ggL_isShot_X7_seen
set_option maxRecDepth 20000 in
theorem ggL_isShot_X7_shoot : GoodIn wsL_isShot wsX7_shoot := goodIn_r _ [128, 23, 12, 55, 17, 129, 130, 131, 10, 132, 133, 134, 135, 80, 136, 84, 137, 138, 139, 140, 141, 142, 143, 144, 145, 146, 147, 148, 149, 150, 151, 152, 118, 45, 119, 153, 154, 155, 156, 157, 158, 159, 160, 161, 162, 163, 164, 165, 96, 166, 167, 168, 28, 169, 170, 82, 83, 171, 172, 173, 1, 98, 99, 174, 175, 106, 107, 105, 109, 108, 176, 177, 178, 38, 179, 180, 181, 182, 183, 184, 185, 186, 187, 188, 189, 190, 104, 191, 192, 193, 194, 195, 196, 197, 198, 199, 65, 200, 201, 202, 203, 204, 205, 206, 68, 69, 70, 71, 72, 73, 74, 75, 76, 77, 78, 79, 81, 60, 61, 85, 86, 87, 88, 89, 90, 91, 92, 93, 94, 95, 97, 100, 101, 102, 103, 110, 111, 112, 113, 114, 115, 116, 117, 120, 44, 46, 121, 122, 123, 124, 207, 208, 209, 210, 211, 212, 213, 214, 215, 216, 217, 218, 219, 34, 35, 36, 37, 243, 244, 245, 246, 247, 248, 249, 250, 251, 252, 253, 254, 255, 268, 269, 270, 256, 257, 258, 259, 260, 261, 262, 263, 264, 265, 271, 272, 273, 274] rfl (by decide +kernel)
set_option maxRecDepth 20000 in
theorem gL_isShot_X7_shoot : GoodIn wsL_isShot (wsV RL 36 RX7 yX7_shoot wsX7_shoot) := goodIn_app (goodIn_of _ (by decide +kernel)) ggL_isShot_X7_shoot
set_option maxRecDepth 20000 in
theorem ggL_isShot_X7_ofLine : GoodIn wsL_isShot wsX7_ofLine := goodIn_r _ [223, 12, 17, 59, 60, 10, 61, 224, 31, 32, 28, 33, 34, 35, 36, 37, 38, 225, 217, 218, 219, 226, 227, 228, 229, 243, 244, 245, 246, 247, 248, 249, 250, 251, 252, 253, 254, 255, 271] rfl (by decide +kernel)
set_option maxRecDepth 20000 in
theorem gL_isShot_X7_ofLine : GoodIn wsL_isShot (wsV RL 14 RX7 yX7_ofLine wsX7_ofLine) := goodIn_app (goodIn_of _ (by decide +kernel)) ggL_isShot_X7_ofLine
set_option maxRecDepth 20000 in
theorem ggL_isShot_X7_pixel : GoodIn wsL_isShot wsX7_pixel := goodIn_r _ [233, 12, 17, 56, 57, 10, 58, 59, 60, 61, 234, 35, 36, 28, 37, 38, 243, 244, 245, 246, 247, 248, 249, 250, 251, 252, 253, 254, 255, 271] rfl (by decide +kernel)
set_option maxRecDepth 20000 in
theorem gL_isShot_X7_pixel : GoodIn wsL_isShot (wsV RL 10 RX7 yX7_pixel wsX7_pixel) := goodIn_app (goodIn_of _ (by decide +kernel)) ggL_isShot_X7_pixel
set_option maxRecDepth 20000 in
theorem ggL_isShot_L_isPicture : GoodIn wsL_isShot wsL_isPicture := goodIn_r _ [237, 230, 231, 232, 10, 233, 12, 17, 56, 57, 58, 59, 60, 61, 234, 35, 36, 28, 37, 38, 220, 221, 222, 223, 224, 31, 32, 33, 34, 225, 217, 218, 219, 226, 227, 228, 229, 7, 8, 9, 11, 13, 14, 15, 16, 18, 19, 20, 21, 22, 23, 24, 25, 26, 27, 29, 30, 39, 40, 41, 42, 43, 44, 45, 46, 47, 48, 49, 50, 238, 239, 240, 241, 242, 118, 119, 243, 244, 245, 246, 247, 248, 249, 250, 251, 252, 253, 254, 255, 271, 256, 257, 258, 259, 260, 261, 262, 263, 264, 265, 266, 267, 268, 269, 270] rfl (by decide +kernel)
set_option maxRecDepth 20000 in
theorem gL_isShot_L_isPicture : GoodIn wsL_isShot (va_wsS RL 40 yL_isPicture wsL_isPicture) := goodIn_app (goodIn_of _ (by decide +kernel)) ggL_isShot_L_isPicture
set_option maxRecDepth 20000 in
theorem ggL_leans_X7_leans : GoodIn wsL_leans wsX7_leans := goodIn_r _ [5, 6, 7, 8, 9, 10, 11, 12, 4, 13, 14, 15, 16, 17, 18, 19, 20, 21, 22, 23, 24, 25, 26, 27, 28, 29, 30, 31, 32, 33, 34, 35, 36, 37, 38, 39, 223, 224, 225, 226, 227, 228, 229, 230, 231, 232, 233, 234, 235, 236, 237, 238, 239, 240, 241, 242, 243, 244, 245] rfl (by decide +kernel)
set_option maxRecDepth 20000 in
theorem gL_leans_X7_leans : GoodIn wsL_leans (wsV RL 44 RX7 yX7_leans wsX7_leans) := goodIn_app (goodIn_of _ (by decide +kernel)) ggL_leans_X7_leans
set_option maxRecDepth 20000 in
theorem ggL_leans_X7_count : GoodIn wsL_leans wsX7_count := goodIn_r _ [43, 6, 44, 7, 14, 45, 46, 47, 48, 49, 50, 51, 52, 53, 54, 55, 56, 57, 58, 59, 60, 61, 62, 63, 64, 65, 66, 67, 68, 69, 70, 71, 72, 73, 74, 75, 76, 77, 78, 79, 223, 224, 225, 226, 227, 228, 229, 230, 231, 232, 233, 234, 235, 236, 237, 238, 239, 240, 241, 242, 243, 244, 245, 246, 247, 248, 249, 250, 251] rfl (by decide +kernel)
set_option maxRecDepth 20000 in
theorem gL_leans_X7_count : GoodIn wsL_leans (wsV RL 17 RX7 yX7_count wsX7_count) := goodIn_app (goodIn_of _ (by decide +kernel)) ggL_leans_X7_count
set_option maxRecDepth 20000 in
theorem ggL_leans_X7_of : GoodIn wsL_leans wsX7_of := goodIn_r _ [83, 6, 7, 8, 44, 9, 84, 85, 86, 87, 10, 11, 12, 4, 13, 14, 15, 16, 17, 25, 26, 27, 28, 29, 30, 31, 32, 33, 34, 35, 36, 37, 38, 39, 88, 89, 90, 91, 223, 224, 225, 226, 227, 228, 229, 230, 231, 232, 233, 234, 235, 236, 237, 238, 239, 240, 241, 242, 243, 244, 245] rfl (by decide +kernel)
set_option maxRecDepth 20000 in
theorem gL_leans_X7_of : GoodIn wsL_leans (wsV RL 24 RX7 yX7_of wsX7_of) := goodIn_app (goodIn_of _ (by decide +kernel)) ggL_leans_X7_of
set_option maxRecDepth 20000 in
theorem ggL_leans_X7_bent : GoodIn wsL_leans wsX7_bent := goodIn_r _ [95, 96, 6, 97, 98, 99, 100, 101, 102, 103, 104, 105, 106, 19, 20, 21, 22, 23, 24, 107, 108, 109, 110, 111, 112, 113, 114, 115, 116, 117, 118, 119, 120, 121, 16, 4, 17, 122, 123, 124, 125, 126, 127, 128, 129, 130, 131, 132, 28, 133, 134, 135, 136, 26, 27, 29, 30, 31, 32, 33, 34, 35, 36, 37, 38, 39, 137, 138, 139, 140, 141, 74, 142, 143, 73, 75, 144, 145, 146, 147, 223, 224, 225, 226, 227, 228, 229, 230, 231, 232, 233, 234, 235, 252, 253, 254, 236, 237, 238, 239, 240, 241, 242, 243, 244, 245] rfl (by decide +kernel)
set_option maxRecDepth 20000 in
theorem gL_leans_X7_bent : GoodIn wsL_leans (wsV RL 47 RX7 yX7_bent wsX7_bent) := goodIn_app (goodIn_of _ (by decide +kernel)) ggL_leans_X7_bent
set_option maxRecDepth 20000 in
theorem ggL_leans_X7_save : GoodIn wsL_leans wsX7_save := goodIn_r _ [151, 152, 153, 154, 21, 6, 7, 14, 15, 16, 4, 17, 155, 156, 157, 158, 159, 160, 161, 162, 163, 164, 165, 24, 166, 167, 28, 168, 169, 170, 57, 171, 23, 172, 120, 121, 173, 174, 175, 176, 134, 135, 177, 178, 32, 33, 31, 35, 34, 179, 180, 181, 67, 182, 183, 184, 185, 186, 187, 188, 189, 190, 191, 192, 193, 30, 194, 195, 196, 197, 198, 199, 223, 224, 225, 226, 227, 228, 229, 230, 231, 232, 233, 234, 235, 236, 237, 238, 239, 240, 241, 242, 243, 244, 245, 251] rfl (by decide +kernel)
set_option maxRecDepth 20000 in
theorem gL_leans_X7_save : GoodIn wsL_leans (wsV RL 50 RX7 yX7_save wsX7_save) := goodIn_app (goodIn_of _ (by decide +kernel)) ggL_leans_X7_save
set_option maxRecDepth 20000 in
theorem ggL_leans_X7_pass : GoodIn wsL_leans wsX7_pass := goodIn_r _ [203, 52, 6, 44, 204, 205, 206, 4, 207, 15, 16, 17, 208, 209, 210, 211, 212, 213, 214, 215, 154, 21, 216, 217, 141, 74, 142, 155, 156, 157, 158, 159, 160, 161, 162, 163, 164, 165, 24, 166, 167, 28, 168, 169, 170, 57, 171, 23, 172, 120, 121, 173, 174, 175, 176, 134, 135, 177, 178, 32, 33, 31, 35, 34, 179, 180, 181, 67, 218, 183, 184, 185, 186, 187, 188, 189, 190, 191, 192, 193, 30, 194, 195, 196, 197, 198, 199, 223, 224, 225, 226, 227, 228, 229, 230, 231, 232, 233, 234, 235, 248, 249, 250, 236, 237, 238, 239, 240, 241, 242, 243, 244, 245, 251] rfl (by decide +kernel)
set_option maxRecDepth 20000 in
theorem gL_leans_X7_pass : GoodIn wsL_leans (wsV RL 53 RX7 yX7_pass wsX7_pass) := goodIn_app (goodIn_of _ (by decide +kernel)) ggL_leans_X7_pass
set_option maxRecDepth 20000 in
theorem ggL_leans_X7_restore : GoodIn wsL_leans wsX7_restore := goodIn_r _ [222, 152, 52, 6, 7, 14, 15, 16, 4, 17, 208, 209, 210, 211, 212, 213, 214, 215, 154, 21, 216, 217, 141, 74, 142, 155, 156, 157, 158, 159, 160, 161, 162, 163, 164, 165, 24, 166, 167, 28, 168, 169, 170, 57, 171, 23, 172, 120, 121, 173, 174, 175, 176, 134, 135, 177, 178, 32, 33, 31, 35, 34, 179, 180, 181, 67, 218, 183, 184, 185, 186, 187, 188, 189, 190, 191, 192, 193, 30, 194, 195, 196, 197, 198, 199, 182, 223, 224, 225, 226, 227, 228, 229, 230, 231, 232, 233, 234, 235, 236, 237, 238, 239, 240, 241, 242, 243, 244, 245, 248, 249, 250, 251] rfl (by decide +kernel)
set_option maxRecDepth 20000 in
theorem gL_leans_X7_restore : GoodIn wsL_leans (wsV RL 56 RX7 yX7_restore wsX7_restore) := goodIn_app (goodIn_of _ (by decide +kernel)) ggL_leans_X7_restore
set_option maxRecDepth 20000 in
theorem ggL_isBestFlash_X7_bestFlash : GoodIn wsL_isBestFlash wsX7_bestFlash := goodIn_r _ [5, 6, 7, 8, 9, 4, 10, 11, 12, 13, 14, 15, 16, 17, 18, 19, 20, 21, 22, 23, 24, 25, 26, 27, 28, 159, 160, 161, 162, 163, 164, 165, 166, 167, 168, 169, 170, 171] rfl (by decide +kernel)
set_option maxRecDepth 20000 in
theorem gL_isBestFlash_X7_bestFlash : GoodIn wsL_isBestFlash (wsV RL 59 RX7 yX7_bestFlash wsX7_bestFlash) := goodIn_app (goodIn_of _ (by decide +kernel)) ggL_isBestFlash_X7_bestFlash
set_option maxRecDepth 20000 in
theorem ggL_isBestFlash_X7_flash : GoodIn wsL_isBestFlash wsX7_flash := goodIn_r _ [32, 33, 6, 34, 35, 36, 37, 4, 38, 8, 9, 10, 39, 40, 41, 42, 43, 44, 45, 46, 47, 14, 48, 49, 50, 51, 52, 53, 54, 55, 56, 57, 58, 59, 60, 61, 62, 63, 16, 64, 65, 66, 67, 68, 69, 70, 71, 21, 72, 73, 74, 75, 76, 77, 78, 79, 80, 81, 82, 83, 84, 85, 86, 87, 88, 89, 90, 91, 92, 93, 94, 95, 96, 97, 98, 99, 100, 101, 102, 103, 104, 105, 106, 107, 108, 109, 110, 111, 112, 113, 114, 159, 160, 161, 162, 163, 164, 165, 166, 167, 168, 169, 170, 171, 172, 173, 174, 175, 176, 177, 178, 179, 180, 181, 182, 183, 184, 185] rfl (by decide +kernel)
set_option maxRecDepth 20000 in
theorem gL_isBestFlash_X7_flash : GoodIn wsL_isBestFlash (wsV RL 62 RX7 yX7_flash wsX7_flash) := goodIn_app (goodIn_of _ (by decide +kernel)) ggL_isBestFlash_X7_flash
set_option maxRecDepth 20000 in
theorem ggL_isBestFlash_X7_flashed : GoodIn wsL_isBestFlash wsX7_flashed := goodIn_r _ [118, 6, 34, 119, 11, 12, 13, 14, 15, 16, 17, 18, 19, 20, 21, 159, 160, 161, 162, 163, 164, 165, 166, 167, 168, 169, 170, 171] rfl (by decide +kernel)
set_option maxRecDepth 20000 in
theorem gL_isBestFlash_X7_flashed : GoodIn wsL_isBestFlash (wsV RL 65 RX7 yX7_flashed wsX7_flashed) := goodIn_app (goodIn_of _ (by decide +kernel)) ggL_isBestFlash_X7_flashed
set_option maxRecDepth 20000 in
theorem ggL_isBestFlash_L_ones : GoodIn wsL_isBestFlash wsL_ones := goodIn_r _ [123] rfl (by decide +kernel)
set_option maxRecDepth 20000 in
theorem gL_isBestFlash_L_ones : GoodIn wsL_isBestFlash (va_wsS RL 68 yL_ones wsL_ones) := goodIn_app (goodIn_of _ (by decide +kernel)) ggL_isBestFlash_L_ones
set_option maxRecDepth 20000 in
theorem ggL_isBestFlash_X7_count : GoodIn wsL_isBestFlash wsX7_count := goodIn_r _ [127, 6, 7, 128, 129, 130, 131, 34, 119, 132, 133, 134, 33, 135, 136, 137, 138, 70, 139, 140, 141, 142, 143, 144, 145, 146, 147, 91, 148, 149, 150, 151, 152, 153, 51, 154, 155, 156, 157, 158, 159, 160, 161, 162, 163, 164, 165, 166, 167, 168, 169, 170, 171, 175, 176, 177, 178, 179, 180, 181, 182, 183, 184, 186, 187, 172, 173, 174, 185] rfl (by decide +kernel)
set_option maxRecDepth 20000 in
theorem gL_isBestFlash_X7_count : GoodIn wsL_isBestFlash (wsV RL 17 RX7 yX7_count wsX7_count) := goodIn_app (goodIn_of _ (by decide +kernel)) ggL_isBestFlash_X7_count
set_option maxRecDepth 20000 in
theorem ggL_does_X7_count : GoodIn wsL_does wsX7_count := goodIn_r _ [5, 6, 7, 8, 9, 10, 11, 12, 13, 14, 15, 16, 17, 18, 19, 20, 21, 22, 23, 24, 25, 26, 27, 28, 29, 30, 31, 32, 33, 34, 35, 36, 37, 38, 39, 40, 41, 42, 43, 44, 322, 323, 324, 325, 326, 327, 328, 329, 330, 331, 332, 333, 334, 335, 336, 337, 338, 339, 340, 341, 342, 343, 344, 345, 346, 347, 348, 349, 350] rfl (by decide +kernel)
