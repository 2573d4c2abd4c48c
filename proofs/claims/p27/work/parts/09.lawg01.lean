set_option maxRecDepth 20000 in
theorem ggL_isPicture_X7_pixel : GoodIn wsL_isPicture wsX7_pixel := goodIn_r _ [5, 6, 7, 8, 9, 4, 10, 11, 12, 13, 14, 15, 16, 17, 18, 19, 76, 77, 78, 79, 80, 81, 82, 83, 84, 85, 86, 87, 88, 89] (by decide +kernel) (by decide +kernel)
set_option maxRecDepth 20000 in
theorem gL_isPicture_X7_pixel : GoodIn wsL_isPicture (wsV RL 10 RX7 yX7_pixel wsX7_pixel) := goodIn_app (goodIn_of _ (by decide +kernel)) ggL_isPicture_X7_pixel
set_option maxRecDepth 20000 in
theorem ggL_isPicture_X7_ofLine : GoodIn wsL_isPicture wsX7_ofLine := goodIn_r _ [23, 6, 7, 11, 12, 4, 13, 24, 25, 26, 17, 27, 28, 15, 16, 18, 19, 29, 30, 31, 32, 33, 34, 35, 36, 76, 77, 78, 79, 80, 81, 82, 83, 84, 85, 86, 87, 88, 89] (by decide +kernel) (by decide +kernel)
set_option maxRecDepth 20000 in
theorem gL_isPicture_X7_ofLine : GoodIn wsL_isPicture (wsV RL 14 RX7 yX7_ofLine wsX7_ofLine) := goodIn_app (goodIn_of _ (by decide +kernel)) ggL_isPicture_X7_ofLine
set_option maxRecDepth 20000 in
theorem ggL_isPicture_X7_count : GoodIn wsL_isPicture wsX7_count := goodIn_r _ [40, 6, 41, 42, 43, 44, 7, 45, 46, 47, 48, 49, 50, 51, 52, 53, 54, 17, 55, 56, 25, 26, 27, 28, 15, 16, 18, 19, 57, 58, 59, 60, 61, 62, 63, 64, 65, 66, 67, 68, 76, 77, 78, 79, 80, 81, 82, 83, 84, 85, 86, 87, 88, 90, 91, 92, 93, 94, 95, 96, 97, 98, 99, 100, 101, 102, 103, 104, 89] (by decide +kernel) (by decide +kernel)
set_option maxRecDepth 20000 in
theorem gL_isPicture_X7_count : GoodIn wsL_isPicture (wsV RL 17 RX7 yX7_count wsX7_count) := goodIn_app (goodIn_of _ (by decide +kernel)) ggL_isPicture_X7_count
set_option maxRecDepth 20000 in
theorem ggL_isPicture_X7_joined : GoodIn wsL_isPicture wsX7_joined := goodIn_r _ [72, 6, 47, 73, 74, 63, 75, 7, 8, 9, 4, 10, 11, 12, 13, 14, 15, 16, 17, 18, 19, 76, 77, 78, 79, 80, 81, 82, 83, 84, 85, 86, 87, 88, 89] (by decide +kernel) (by decide +kernel)
set_option maxRecDepth 20000 in
theorem gL_isPicture_X7_joined : GoodIn wsL_isPicture (wsV RL 21 RX7 yX7_joined wsX7_joined) := goodIn_app (goodIn_of _ (by decide +kernel)) ggL_isPicture_X7_joined
set_option maxRecDepth 20000 in
theorem ggL_isThing_X7_of : GoodIn wsL_isThing wsX7_of := goodIn_r _ [5, 6, 7, 8, 9, 10, 11, 12, 13, 14, 15, 16, 17, 4, 18, 19, 20, 21, 22, 23, 24, 25, 26, 27, 28, 29, 30, 31, 32, 33, 34, 35, 36, 37, 38, 39, 40, 41, 42, 43, 44, 45, 46, 47, 48, 49, 50, 51, 52, 53, 54, 55, 56, 57, 58, 59, 60, 61, 62, 63, 64] (by decide +kernel) (by decide +kernel)
set_option maxRecDepth 20000 in
theorem gL_isThing_X7_of : GoodIn wsL_isThing (wsV RL 24 RX7 yX7_of wsX7_of) := goodIn_app (goodIn_of _ (by decide +kernel)) ggL_isThing_X7_of
set_option maxRecDepth 20000 in
theorem ggL_isSeen_X7_count : GoodIn wsL_isSeen wsX7_count := goodIn_r _ [5, 6, 7, 8, 9, 10, 11, 12, 13, 14, 15, 16, 17, 18, 19, 20, 21, 22, 23, 24, 25, 26, 27, 28, 29, 30, 31, 32, 33, 34, 35, 36, 37, 38, 39, 40, 41, 42, 43, 44, 138, 139, 140, 141, 142, 143, 144, 145, 146, 147, 148, 149, 150, 151, 152, 153, 154, 155, 156, 157, 158, 159, 160, 161, 162, 163, 164, 165, 166] (by decide +kernel) (by decide +kernel)
set_option maxRecDepth 20000 in
theorem gL_isSeen_X7_count : GoodIn wsL_isSeen (wsV RL 17 RX7 yX7_count wsX7_count) := goodIn_app (goodIn_of _ (by decide +kernel)) ggL_isSeen_X7_count
set_option maxRecDepth 20000 in
theorem ggL_isSeen_X7_of : GoodIn wsL_isSeen wsX7_of := goodIn_r _ [48, 6, 8, 49, 7, 50, 51, 52, 53, 54, 55, 56, 57, 4, 58, 9, 59, 60, 61, 62, 63, 64, 65, 66, 67, 68, 69, 70, 71, 72, 73, 74, 75, 76, 77, 78, 79, 80, 138, 139, 140, 141, 142, 143, 144, 145, 146, 147, 148, 149, 150, 151, 152, 153, 154, 155, 156, 157, 158, 159, 160] (by decide +kernel) (by decide +kernel)
set_option maxRecDepth 20000 in
theorem gL_isSeen_X7_of : GoodIn wsL_isSeen (wsV RL 24 RX7 yX7_of wsX7_of) := goodIn_app (goodIn_of _ (by decide +kernel)) ggL_isSeen_X7_of
