set_option maxRecDepth 20000 in
theorem ggL_law_X7_init : GoodIn wsL_law wsX7_init := goodIn_r _ [9, 10, 11, 12, 13, 14, 15, 16, 17, 18, 19, 20, 21, 22, 23, 24, 25, 26, 27, 28, 29, 30, 31, 32, 33, 34, 35, 36, 37, 38, 39, 40, 41, 42, 43, 44, 45, 46, 47, 48, 49, 50, 51, 52, 53, 54, 55, 56, 57, 58, 59, 60, 61, 62, 63, 64, 65, 66, 67, 68, 69, 70, 71, 72, 73, 74, 75, 76, 77, 78, 79, 80, 81, 82, 83, 84, 85, 86, 87, 88, 89, 90, 91, 92, 93, 94, 95, 96, 97, 98, 99, 757, 758, 759, 760, 761, 762, 763, 744, 745, 746, 747, 748, 749, 764, 765, 766, 767, 768, 769, 770, 771, 772, 773, 774, 775, 776, 777, 778, 779, 780, 781, 782, 783, 784, 785, 786] (by decide +kernel) (by decide +kernel)
set_option maxRecDepth 20000 in
theorem gL_law_X7_init : GoodIn wsL_law (wsX7_init) := ggL_law_X7_init
set_option maxRecDepth 20000 in
theorem ggL_law_X8_init : GoodIn wsL_law wsX8_init := goodIn_r _ [102, 103, 11, 12, 59, 104, 105, 106, 107, 108, 109, 750, 751, 752, 753, 754, 755, 756] (by decide +kernel) (by decide +kernel)
set_option maxRecDepth 20000 in
theorem gL_law_X8_init : GoodIn wsL_law (wsX8_init) := ggL_law_X8_init
set_option maxRecDepth 20000 in
theorem ggL_law_X7_set : GoodIn wsL_law wsX7_set := goodIn_r _ [113, 114, 115, 24, 16, 116, 117, 118, 2, 119, 120, 121, 122, 23, 123, 83, 84, 82, 14, 15, 85, 124, 125, 126, 127, 34, 35, 36, 11, 12, 37, 38, 39, 40, 41, 42, 43, 44, 45, 46, 47, 48, 49, 50, 51, 52, 53, 54, 55, 56, 57, 58, 59, 60, 61, 62, 63, 64, 65, 66, 67, 68, 69, 70, 71, 72, 128, 129, 130, 131, 132, 133, 134, 135, 136, 137, 138, 139, 140, 141, 142, 143, 144, 145, 146, 744, 745, 746, 747, 748, 749, 757, 758, 759, 760, 761, 762, 763, 767, 768, 769, 776, 777, 778, 779, 780, 781, 782, 783, 784, 785, 786] (by decide +kernel) (by decide +kernel)
set_option maxRecDepth 20000 in
theorem gL_law_X7_set : GoodIn wsL_law (wsV RL 13 RX7 yX7_set wsX7_set) := goodIn_app (goodIn_of _ (by decide +kernel)) ggL_law_X7_set
set_option maxRecDepth 20000 in
theorem ggL_law_X8_set : GoodIn wsL_law wsX8_set := goodIn_r _ [150, 104, 151, 152, 5, 153, 154, 155, 156, 157, 158, 105, 750, 751, 752, 753, 754, 755, 756] (by decide +kernel) (by decide +kernel)
set_option maxRecDepth 20000 in
theorem gL_law_X8_set : GoodIn wsL_law (wsV RL 17 RX8 yX8_set wsX8_set) := goodIn_app (goodIn_of _ (by decide +kernel)) ggL_law_X8_set
set_option maxRecDepth 20000 in
theorem ggL_law_X7_thing : GoodIn wsL_law wsX7_thing := goodIn_r _ [162, 24, 16, 163, 164, 165, 166, 167, 2, 168, 169, 170, 171, 172, 117, 118, 119, 120, 121, 122, 23, 123, 83, 84, 82, 14, 15, 85, 124, 125, 126, 127, 34, 35, 36, 11, 12, 37, 38, 39, 40, 41, 42, 43, 44, 45, 46, 47, 48, 49, 50, 51, 52, 53, 54, 55, 56, 57, 58, 59, 60, 61, 62, 63, 64, 65, 66, 67, 68, 69, 70, 71, 72, 128, 129, 130, 131, 132, 133, 134, 135, 136, 137, 138, 139, 140, 141, 142, 143, 144, 145, 146, 173, 174, 175, 176, 744, 745, 746, 747, 748, 749, 757, 758, 759, 760, 761, 762, 763, 776, 777, 778, 779, 780, 781, 782, 783, 784, 785, 767, 768, 769, 786] (by decide +kernel) (by decide +kernel)
set_option maxRecDepth 20000 in
theorem gL_law_X7_thing : GoodIn wsL_law (wsV RL 18 RX7 yX7_thing wsX7_thing) := goodIn_app (goodIn_of _ (by decide +kernel)) ggL_law_X7_thing
set_option maxRecDepth 20000 in
theorem ggL_law_X8_thing : GoodIn wsL_law wsX8_thing := goodIn_r _ [180, 181, 182, 183, 5, 184, 104, 151, 152, 153, 154, 155, 156, 157, 158, 105, 185, 186, 187, 188, 750, 751, 752, 753, 754, 755, 756] (by decide +kernel) (by decide +kernel)
set_option maxRecDepth 20000 in
theorem gL_law_X8_thing : GoodIn wsL_law (wsV RL 22 RX8 yX8_thing wsX8_thing) := goodIn_app (goodIn_of _ (by decide +kernel)) ggL_law_X8_thing
set_option maxRecDepth 20000 in
theorem ggL_law_X7_speed : GoodIn wsL_law wsX7_speed := goodIn_r _ [192, 24, 16, 163, 193, 194, 164, 195, 196, 197, 2, 198, 169, 117, 118, 119, 199, 200, 201, 120, 121, 122, 23, 123, 83, 84, 82, 14, 15, 85, 124, 125, 126, 127, 34, 35, 36, 11, 12, 37, 38, 39, 40, 41, 42, 43, 44, 45, 46, 47, 48, 49, 50, 51, 52, 53, 54, 55, 56, 57, 58, 59, 60, 61, 62, 63, 64, 65, 66, 67, 68, 69, 70, 71, 72, 128, 129, 130, 131, 132, 133, 134, 135, 136, 137, 138, 139, 140, 141, 142, 143, 144, 145, 146, 202, 203, 204, 205, 206, 207, 208, 209, 210, 211, 212, 213, 744, 745, 746, 747, 748, 749, 757, 758, 759, 760, 761, 762, 763, 776, 777, 778, 779, 780, 781, 782, 783, 784, 785, 767, 768, 769, 786] (by decide +kernel) (by decide +kernel)
set_option maxRecDepth 20000 in
theorem gL_law_X7_speed : GoodIn wsL_law (wsV RL 23 RX7 yX7_speed wsX7_speed) := goodIn_app (goodIn_of _ (by decide +kernel)) ggL_law_X7_speed
set_option maxRecDepth 20000 in
theorem ggL_law_X8_speed : GoodIn wsL_law wsX8_speed := goodIn_r _ [217, 218, 219, 220, 5, 221, 104, 151, 152, 153, 154, 155, 156, 157, 158, 105, 222, 223, 224, 225, 226, 227, 228, 229, 230, 231, 232, 233, 234, 235, 236, 750, 751, 752, 753, 754, 755, 756] (by decide +kernel) (by decide +kernel)
set_option maxRecDepth 20000 in
theorem gL_law_X8_speed : GoodIn wsL_law (wsV RL 26 RX8 yX8_speed wsX8_speed) := goodIn_app (goodIn_of _ (by decide +kernel)) ggL_law_X8_speed
set_option maxRecDepth 20000 in
theorem ggL_law_X7_ride : GoodIn wsL_law wsX7_ride := goodIn_r _ [240, 24, 16, 163, 194, 193, 164, 195, 196, 197, 2, 198, 169, 117, 118, 119, 241, 242, 243, 120, 121, 122, 23, 123, 83, 84, 82, 14, 15, 85, 124, 125, 126, 127, 34, 35, 36, 11, 12, 37, 38, 39, 40, 41, 42, 43, 44, 45, 46, 47, 48, 49, 50, 51, 52, 53, 54, 55, 56, 57, 58, 59, 60, 61, 62, 63, 64, 65, 66, 67, 68, 69, 70, 71, 72, 128, 129, 130, 131, 132, 133, 134, 135, 136, 137, 138, 139, 140, 141, 142, 143, 144, 145, 146, 202, 203, 204, 205, 206, 207, 208, 209, 210, 211, 212, 213, 744, 745, 746, 747, 748, 749, 757, 758, 759, 760, 761, 762, 763, 776, 777, 778, 779, 780, 781, 782, 783, 784, 785, 767, 768, 769, 786] (by decide +kernel) (by decide +kernel)
set_option maxRecDepth 20000 in
theorem gL_law_X7_ride : GoodIn wsL_law (wsV RL 27 RX7 yX7_ride wsX7_ride) := goodIn_app (goodIn_of _ (by decide +kernel)) ggL_law_X7_ride
set_option maxRecDepth 20000 in
theorem ggL_law_X8_ride : GoodIn wsL_law wsX8_ride := goodIn_r _ [247, 218, 219, 220, 5, 221, 104, 151, 152, 153, 154, 155, 156, 157, 158, 105, 222, 223, 224, 225, 226, 227, 228, 229, 230, 231, 232, 233, 234, 235, 236, 750, 751, 752, 753, 754, 755, 756] (by decide +kernel) (by decide +kernel)
set_option maxRecDepth 20000 in
theorem gL_law_X8_ride : GoodIn wsL_law (wsV RL 30 RX8 yX8_ride wsX8_ride) := goodIn_app (goodIn_of _ (by decide +kernel)) ggL_law_X8_ride
set_option maxRecDepth 20000 in
theorem ggL_law_X7_flash : GoodIn wsL_law wsX7_flash := goodIn_r _ [251, 24, 16, 252, 253, 254, 255, 2, 256, 117, 118, 119, 120, 121, 122, 23, 123, 83, 84, 82, 14, 15, 85, 124, 125, 126, 127, 34, 35, 36, 11, 12, 37, 38, 39, 40, 41, 42, 43, 44, 45, 46, 47, 48, 49, 50, 51, 52, 53, 54, 55, 56, 57, 58, 59, 60, 61, 62, 63, 64, 65, 66, 67, 68, 69, 70, 71, 72, 128, 129, 130, 131, 132, 133, 134, 135, 136, 137, 138, 139, 140, 141, 142, 143, 144, 145, 146, 257, 258, 259, 260, 744, 745, 746, 747, 748, 749, 757, 758, 759, 760, 761, 762, 763, 767, 768, 769, 776, 777, 778, 779, 780, 781, 782, 783, 784, 785, 786] (by decide +kernel) (by decide +kernel)
set_option maxRecDepth 20000 in
theorem gL_law_X7_flash : GoodIn wsL_law (wsV RL 31 RX7 yX7_flash wsX7_flash) := goodIn_app (goodIn_of _ (by decide +kernel)) ggL_law_X7_flash
set_option maxRecDepth 20000 in
theorem ggL_law_X8_flash : GoodIn wsL_law wsX8_flash := goodIn_r _ [264, 265, 266, 5, 267, 151, 152, 153, 154, 155, 156, 157, 158, 105, 104, 268, 269, 270, 271, 750, 751, 752, 753, 754, 755, 756] (by decide +kernel) (by decide +kernel)
set_option maxRecDepth 20000 in
theorem gL_law_X8_flash : GoodIn wsL_law (wsV RL 34 RX8 yX8_flash wsX8_flash) := goodIn_app (goodIn_of _ (by decide +kernel)) ggL_law_X8_flash
set_option maxRecDepth 20000 in
theorem ggL_law_X7_pass : GoodIn wsL_law wsX7_pass := goodIn_r _ [275, 24, 16, 164, 276, 277, 278, 2, 279, 117, 118, 119, 120, 121, 122, 23, 123, 83, 84, 82, 14, 15, 85, 124, 125, 126, 127, 34, 35, 36, 11, 12, 37, 38, 39, 40, 41, 42, 43, 44, 45, 46, 47, 48, 49, 50, 51, 52, 53, 54, 55, 56, 57, 58, 59, 60, 61, 62, 63, 64, 65, 66, 67, 68, 69, 70, 71, 72, 128, 129, 130, 131, 132, 133, 134, 135, 136, 137, 138, 139, 140, 141, 142, 143, 144, 145, 146, 744, 745, 746, 747, 748, 749, 757, 758, 759, 760, 761, 762, 763, 767, 768, 769, 776, 777, 778, 779, 780, 781, 782, 783, 784, 785, 786] (by decide +kernel) (by decide +kernel)
set_option maxRecDepth 20000 in
theorem gL_law_X7_pass : GoodIn wsL_law (wsV RL 35 RX7 yX7_pass wsX7_pass) := goodIn_app (goodIn_of _ (by decide +kernel)) ggL_law_X7_pass
set_option maxRecDepth 20000 in
theorem ggL_law_X8_pass : GoodIn wsL_law wsX8_pass := goodIn_r _ [283, 104, 284, 285, 286, 5, 287, 151, 152, 153, 154, 155, 156, 157, 158, 105, 750, 751, 752, 753, 754, 755, 756] (by decide +kernel) (by decide +kernel)
set_option maxRecDepth 20000 in
theorem gL_law_X8_pass : GoodIn wsL_law (wsV RL 39 RX8 yX8_pass wsX8_pass) := goodIn_app (goodIn_of _ (by decide +kernel)) ggL_law_X8_pass
set_option maxRecDepth 20000 in
theorem ggL_law_X7_shoot : GoodIn wsL_law wsX7_shoot := goodIn_r _ [291, 24, 16, 20, 292, 293, 294, 295, 2, 296, 297, 298, 299, 15, 300, 43, 301, 302, 303, 304, 52, 120, 121, 122, 23, 123, 83, 84, 82, 14, 85, 124, 125, 126, 127, 34, 35, 36, 11, 12, 37, 38, 39, 40, 41, 42, 44, 45, 46, 47, 48, 49, 50, 51, 53, 54, 55, 56, 57, 58, 59, 60, 61, 62, 63, 64, 65, 66, 67, 68, 69, 70, 71, 72, 128, 129, 130, 131, 132, 133, 134, 135, 136, 137, 138, 139, 140, 141, 142, 143, 144, 145, 146, 305, 306, 307, 19, 308, 309, 76, 310, 311, 312, 313, 314, 315, 316, 317, 318, 319, 320, 321, 322, 323, 324, 325, 326, 118, 119, 327, 328, 329, 330, 78, 331, 332, 333, 334, 335, 336, 337, 338, 207, 208, 209, 210, 211, 212, 213, 339, 340, 341, 342, 343, 344, 345, 346, 347, 348, 349, 350, 351, 352, 353, 354, 355, 356, 357, 358, 359, 360, 361, 362, 363, 364, 365, 366, 744, 745, 746, 747, 748, 749, 757, 758, 759, 760, 761, 762, 763, 767, 768, 769, 776, 777, 778, 779, 780, 781, 782, 783, 784, 785, 786, 764, 765, 766] (by decide +kernel) (by decide +kernel)
set_option maxRecDepth 20000 in
theorem gL_law_X7_shoot : GoodIn wsL_law (wsV RL 40 RX7 yX7_shoot wsX7_shoot) := goodIn_app (goodIn_of _ (by decide +kernel)) ggL_law_X7_shoot
set_option maxRecDepth 20000 in
theorem ggL_law_X8_shoot : GoodIn wsL_law wsX8_shoot := goodIn_r _ [370, 371, 372, 373, 5, 374, 104, 154, 155, 156, 157, 158, 105, 375, 376, 377, 378, 379, 380, 381, 382, 383, 384, 385, 386, 387, 388, 389, 390, 222, 223, 224, 225, 151, 152, 153, 230, 231, 232, 233, 234, 235, 236, 391, 392, 393, 394, 395, 396, 397, 398, 750, 751, 752, 753, 754, 755, 756] (by decide +kernel) (by decide +kernel)
set_option maxRecDepth 20000 in
theorem gL_law_X8_shoot : GoodIn wsL_law (wsV RL 44 RX8 yX8_shoot wsX8_shoot) := goodIn_app (goodIn_of _ (by decide +kernel)) ggL_law_X8_shoot
set_option maxRecDepth 20000 in
theorem ggL_law_X7_of : GoodIn wsL_law wsX7_of := goodIn_r _ [402, 16, 163, 403, 164, 404, 405, 406, 193, 194, 195, 196, 197, 2, 198, 169, 117, 118, 119, 407, 207, 208, 46, 209, 140, 66, 64, 65, 68, 67, 210, 211, 212, 213, 408, 409, 410, 411, 744, 745, 746, 747, 748, 749, 757, 758, 759, 760, 761, 762, 763, 776, 777, 778, 779, 780, 781, 782, 783, 784, 785] (by decide +kernel) (by decide +kernel)
set_option maxRecDepth 20000 in
theorem gL_law_X7_of : GoodIn wsL_law (wsV RL 45 RX7 yX7_of wsX7_of) := goodIn_app (goodIn_of _ (by decide +kernel)) ggL_law_X7_of
set_option maxRecDepth 20000 in
theorem ggL_law_X8_of : GoodIn wsL_law wsX8_of := goodIn_r _ [415, 104, 218, 219, 220, 5, 221, 151, 152, 153, 222, 223, 224, 225, 230, 231, 232, 233, 234, 235, 236, 416, 417, 418, 419, 750, 751, 752, 753, 754, 755, 756] (by decide +kernel) (by decide +kernel)
set_option maxRecDepth 20000 in
theorem gL_law_X8_of : GoodIn wsL_law (wsV RL 48 RX8 yX8_of wsX8_of) := goodIn_app (goodIn_of _ (by decide +kernel)) ggL_law_X8_of
set_option maxRecDepth 20000 in
theorem ggL_law_X7_pixel : GoodIn wsL_law wsX7_pixel := goodIn_r _ [423, 16, 292, 170, 171, 2, 172, 117, 118, 119, 424, 364, 365, 50, 366, 72, 744, 745, 746, 747, 748, 749, 757, 758, 759, 760, 761, 762, 763, 786] (by decide +kernel) (by decide +kernel)
set_option maxRecDepth 20000 in
theorem gL_law_X7_pixel : GoodIn wsL_law (wsV RL 49 RX7 yX7_pixel wsX7_pixel) := goodIn_app (goodIn_of _ (by decide +kernel)) ggL_law_X7_pixel
set_option maxRecDepth 20000 in
theorem ggL_law_X8_pixel : GoodIn wsL_law wsX8_pixel := goodIn_r _ [428, 104, 429, 430, 5, 431, 151, 152, 153, 750, 751, 752, 753, 754, 755, 756] (by decide +kernel) (by decide +kernel)
set_option maxRecDepth 20000 in
theorem gL_law_X8_pixel : GoodIn wsL_law (wsV RL 52 RX8 yX8_pixel wsX8_pixel) := goodIn_app (goodIn_of _ (by decide +kernel)) ggL_law_X8_pixel
set_option maxRecDepth 20000 in
theorem ggL_law_X7_joined : GoodIn wsL_law wsX7_joined := goodIn_r _ [435, 16, 116, 436, 125, 126, 127, 292, 170, 171, 2, 172, 117, 118, 119, 424, 364, 365, 50, 366, 72, 744, 745, 746, 747, 748, 749, 757, 758, 759, 760, 761, 762, 763, 786] (by decide +kernel) (by decide +kernel)
set_option maxRecDepth 20000 in
theorem gL_law_X7_joined : GoodIn wsL_law (wsV RL 53 RX7 yX7_joined wsX7_joined) := goodIn_app (goodIn_of _ (by decide +kernel)) ggL_law_X7_joined
set_option maxRecDepth 20000 in
theorem ggL_law_X8_joined : GoodIn wsL_law wsX8_joined := goodIn_r _ [440, 104, 429, 430, 5, 431, 151, 152, 153, 750, 751, 752, 753, 754, 755, 756] (by decide +kernel) (by decide +kernel)
set_option maxRecDepth 20000 in
theorem gL_law_X8_joined : GoodIn wsL_law (wsV RL 56 RX8 yX8_joined wsX8_joined) := goodIn_app (goodIn_of _ (by decide +kernel)) ggL_law_X8_joined
set_option maxRecDepth 20000 in
theorem ggL_law_X7_ofLine : GoodIn wsL_law wsX7_ofLine := goodIn_r _ [444, 16, 292, 117, 118, 2, 119, 445, 446, 447, 50, 448, 363, 364, 365, 366, 72, 449, 360, 361, 362, 450, 451, 452, 453, 744, 745, 746, 747, 748, 749, 757, 758, 759, 760, 761, 762, 763, 786] (by decide +kernel) (by decide +kernel)
set_option maxRecDepth 20000 in
theorem gL_law_X7_ofLine : GoodIn wsL_law (wsV RL 57 RX7 yX7_ofLine wsX7_ofLine) := goodIn_app (goodIn_of _ (by decide +kernel)) ggL_law_X7_ofLine
set_option maxRecDepth 20000 in
theorem ggL_law_X8_ofLine : GoodIn wsL_law wsX8_ofLine := goodIn_r _ [457, 151, 152, 5, 153, 458, 459, 460, 461, 104, 462, 463, 464, 465, 466, 467, 468, 469, 750, 751, 752, 753, 754, 755, 756] (by decide +kernel) (by decide +kernel)
set_option maxRecDepth 20000 in
theorem gL_law_X8_ofLine : GoodIn wsL_law (wsV RL 60 RX8 yX8_ofLine wsX8_ofLine) := goodIn_app (goodIn_of _ (by decide +kernel)) ggL_law_X8_ofLine
set_option maxRecDepth 20000 in
theorem ggL_law_X7_count : GoodIn wsL_law wsX7_count := goodIn_r _ [473, 16, 164, 163, 169, 474, 292, 252, 475, 116, 29, 476, 24, 477, 478, 479, 480, 50, 481, 482, 446, 447, 448, 363, 364, 365, 366, 72, 483, 484, 485, 486, 487, 344, 126, 345, 488, 489, 490, 491, 744, 745, 746, 747, 748, 749, 757, 758, 759, 760, 761, 762, 763, 776, 777, 778, 779, 780, 781, 782, 783, 784, 785, 770, 771, 767, 768, 769, 786] (by decide +kernel) (by decide +kernel)
set_option maxRecDepth 20000 in
theorem gL_law_X7_count : GoodIn wsL_law (wsV RL 61 RX7 yX7_count wsX7_count) := goodIn_app (goodIn_of _ (by decide +kernel)) ggL_law_X7_count
set_option maxRecDepth 20000 in
theorem ggL_law_X8_count : GoodIn wsL_law wsX8_count := goodIn_r _ [495, 104, 496, 158, 497, 498, 499, 5, 500, 458, 459, 460, 461, 501, 502, 503, 504, 505, 506, 507, 508, 151, 152, 153, 750, 751, 752, 753, 754, 755, 756] (by decide +kernel) (by decide +kernel)
set_option maxRecDepth 20000 in
theorem gL_law_X8_count : GoodIn wsL_law (wsV RL 64 RX8 yX8_count wsX8_count) := goodIn_app (goodIn_of _ (by decide +kernel)) ggL_law_X8_count
set_option maxRecDepth 20000 in
theorem ggL_law_X7_seen : GoodIn wsL_law wsX7_seen := goodIn_r _ [512, 20, 16, 164, 170, 171, 2, 172, 117, 118, 119, 513, 514, 515, 19, 516, 77, 314, 315, 316, 317, 318, 319, 320, 321, 322, 323, 324, 325, 15, 326, 54, 55, 43, 327, 328, 329, 330, 78, 331, 332, 333, 334, 335, 336, 46, 337, 60, 61, 338, 207, 208, 209, 140, 66, 64, 65, 68, 67, 210, 211, 212, 213, 339, 340, 341, 342, 125, 126, 127, 343, 344, 345, 346, 347, 348, 349, 744, 745, 746, 747, 748, 749, 757, 758, 759, 760, 761, 762, 763, 764, 765, 766, 776, 777, 778, 779, 780, 781, 782, 783, 784, 785] (by decide +kernel) (by decide +kernel)
set_option maxRecDepth 20000 in
theorem gL_law_X7_seen : GoodIn wsL_law (wsV RL 65 RX7 yX7_seen wsX7_seen) := goodIn_app (goodIn_of _ (by decide +kernel)) ggL_law_X7_seen
set_option maxRecDepth 20000 in
theorem ggL_law_X8_seen : GoodIn wsL_law wsX8_seen := goodIn_r _ [520, 104, 429, 430, 5, 431, 151, 152, 153, 383, 384, 385, 386, 387, 388, 389, 390, 222, 223, 224, 225, 230, 231, 232, 233, 234, 235, 236, 391, 392, 393, 394, 395, 396, 397, 398, 750, 751, 752, 753, 754, 755, 756] (by decide +kernel) (by decide +kernel)
set_option maxRecDepth 20000 in
theorem gL_law_X8_seen : GoodIn wsL_law (wsV RL 69 RX8 yX8_seen wsX8_seen) := goodIn_app (goodIn_of _ (by decide +kernel)) ggL_law_X8_seen
set_option maxRecDepth 20000 in
theorem ggL_law_X7_leans : GoodIn wsL_law wsX7_leans := goodIn_r _ [524, 16, 163, 403, 404, 195, 196, 197, 2, 198, 169, 117, 118, 119, 525, 302, 303, 15, 304, 52, 43, 407, 207, 208, 46, 209, 140, 66, 64, 65, 68, 67, 210, 211, 212, 213, 744, 745, 746, 747, 748, 749, 757, 758, 759, 760, 761, 762, 763, 776, 777, 778, 779, 780, 781, 782, 783, 784, 785] (by decide +kernel) (by decide +kernel)
set_option maxRecDepth 20000 in
theorem gL_law_X7_leans : GoodIn wsL_law (wsV RL 70 RX7 yX7_leans wsX7_leans) := goodIn_app (goodIn_of _ (by decide +kernel)) ggL_law_X7_leans
set_option maxRecDepth 20000 in
theorem ggL_law_X8_leans : GoodIn wsL_law wsX8_leans := goodIn_r _ [529, 104, 218, 219, 220, 5, 221, 151, 152, 153, 222, 223, 224, 225, 230, 231, 232, 233, 234, 235, 236, 750, 751, 752, 753, 754, 755, 756] (by decide +kernel) (by decide +kernel)
set_option maxRecDepth 20000 in
theorem gL_law_X8_leans : GoodIn wsL_law (wsV RL 73 RX8 yX8_leans wsX8_leans) := goodIn_app (goodIn_of _ (by decide +kernel)) ggL_law_X8_leans
set_option maxRecDepth 20000 in
theorem ggL_law_X7_bent : GoodIn wsL_law wsX7_bent := goodIn_r _ [533, 20, 16, 534, 535, 536, 19, 537, 309, 76, 311, 77, 313, 302, 303, 15, 304, 52, 43, 314, 315, 316, 317, 318, 319, 320, 321, 322, 323, 324, 325, 326, 54, 55, 118, 2, 119, 327, 328, 329, 330, 78, 331, 332, 333, 334, 335, 336, 46, 337, 60, 61, 338, 207, 208, 209, 140, 66, 64, 65, 68, 67, 210, 211, 212, 213, 339, 340, 341, 342, 125, 126, 127, 343, 344, 345, 346, 347, 348, 349, 744, 745, 746, 747, 748, 749, 757, 758, 759, 760, 761, 762, 763, 764, 765, 766, 776, 777, 778, 779, 780, 781, 782, 783, 784, 785] (by decide +kernel) (by decide +kernel)
set_option maxRecDepth 20000 in
theorem gL_law_X7_bent : GoodIn wsL_law (wsV RL 74 RX7 yX7_bent wsX7_bent) := goodIn_app (goodIn_of _ (by decide +kernel)) ggL_law_X7_bent
set_option maxRecDepth 20000 in
theorem ggL_law_X8_bent : GoodIn wsL_law wsX8_bent := goodIn_r _ [541, 104, 379, 380, 381, 5, 382, 383, 384, 385, 386, 387, 388, 389, 390, 222, 223, 224, 225, 151, 152, 153, 230, 231, 232, 233, 234, 235, 236, 391, 392, 393, 394, 395, 396, 397, 398, 750, 751, 752, 753, 754, 755, 756] (by decide +kernel) (by decide +kernel)
set_option maxRecDepth 20000 in
theorem gL_law_X8_bent : GoodIn wsL_law (wsV RL 77 RX8 yX8_bent wsX8_bent) := goodIn_app (goodIn_of _ (by decide +kernel)) ggL_law_X8_bent
set_option maxRecDepth 20000 in
theorem ggL_law_X7_flashed : GoodIn wsL_law wsX7_flashed := goodIn_r _ [545, 16, 252, 475, 546, 547, 548, 15, 549, 43, 301, 302, 303, 304, 52, 744, 745, 746, 747, 748, 749, 757, 758, 759, 760, 761, 762, 763] (by decide +kernel) (by decide +kernel)
set_option maxRecDepth 20000 in
theorem gL_law_X7_flashed : GoodIn wsL_law (wsV RL 78 RX7 yX7_flashed wsX7_flashed) := goodIn_app (goodIn_of _ (by decide +kernel)) ggL_law_X7_flashed
set_option maxRecDepth 20000 in
theorem ggL_law_X8_flashed : GoodIn wsL_law wsX8_flashed := goodIn_r _ [553, 104, 554, 555, 556, 5, 557, 151, 152, 153, 750, 751, 752, 753, 754, 755, 756] (by decide +kernel) (by decide +kernel)
set_option maxRecDepth 20000 in
theorem gL_law_X8_flashed : GoodIn wsL_law (wsV RL 81 RX8 yX8_flashed wsX8_flashed) := goodIn_app (goodIn_of _ (by decide +kernel)) ggL_law_X8_flashed
set_option maxRecDepth 20000 in
theorem ggL_law_X7_bestFlash : GoodIn wsL_law wsX7_bestFlash := goodIn_r _ [561, 16, 164, 117, 118, 2, 119, 546, 547, 548, 15, 549, 43, 301, 302, 303, 304, 52, 562, 563, 564, 565, 566, 567, 568, 744, 745, 746, 747, 748, 749, 757, 758, 759, 760, 761, 762, 763] (by decide +kernel) (by decide +kernel)
set_option maxRecDepth 20000 in
theorem gL_law_X7_bestFlash : GoodIn wsL_law (wsV RL 82 RX7 yX7_bestFlash wsX7_bestFlash) := goodIn_app (goodIn_of _ (by decide +kernel)) ggL_law_X7_bestFlash
set_option maxRecDepth 20000 in
theorem ggL_law_X8_bestFlash : GoodIn wsL_law wsX8_bestFlash := goodIn_r _ [572, 104, 151, 152, 5, 153, 554, 555, 556, 557, 573, 574, 575, 750, 751, 752, 753, 754, 755, 756] (by decide +kernel) (by decide +kernel)
set_option maxRecDepth 20000 in
theorem gL_law_X8_bestFlash : GoodIn wsL_law (wsV RL 85 RX8 yX8_bestFlash wsX8_bestFlash) := goodIn_app (goodIn_of _ (by decide +kernel)) ggL_law_X8_bestFlash
set_option maxRecDepth 20000 in
theorem ggL_law_X7_put : GoodIn wsL_law wsX7_put := goodIn_r _ [579, 29, 476, 580, 581, 28, 582, 583, 118, 2, 119, 584, 585, 586, 587, 90, 91, 744, 745, 746, 747, 748, 749, 770, 771] (by decide +kernel) (by decide +kernel)
set_option maxRecDepth 20000 in
theorem gL_law_X7_put : GoodIn wsL_law (wsV RL 88 RX7 yX7_put wsX7_put) := goodIn_app (goodIn_of _ (by decide +kernel)) ggL_law_X7_put
set_option maxRecDepth 20000 in
theorem ggL_law_X8_put : GoodIn wsL_law wsX8_put := goodIn_r _ [591, 592, 496, 109, 151, 152, 5, 153, 750, 751, 752, 753, 754, 755, 756] (by decide +kernel) (by decide +kernel)
set_option maxRecDepth 20000 in
theorem gL_law_X8_put : GoodIn wsL_law (wsV RL 92 RX8 yX8_put wsX8_put) := goodIn_app (goodIn_of _ (by decide +kernel)) ggL_law_X8_put
set_option maxRecDepth 20000 in
theorem ggL_law_X7_wipe : GoodIn wsL_law wsX7_wipe := goodIn_r _ [596, 29, 476, 744, 745, 746, 747, 748, 749, 770, 771] (by decide +kernel) (by decide +kernel)
set_option maxRecDepth 20000 in
theorem gL_law_X7_wipe : GoodIn wsL_law (wsV RL 93 RX7 yX7_wipe wsX7_wipe) := goodIn_app (goodIn_of _ (by decide +kernel)) ggL_law_X7_wipe
set_option maxRecDepth 20000 in
theorem ggL_law_X8_wipe : GoodIn wsL_law wsX8_wipe := goodIn_r _ [600, 496, 750, 751, 752, 753, 754, 755, 756] (by decide +kernel) (by decide +kernel)
set_option maxRecDepth 20000 in
theorem gL_law_X8_wipe : GoodIn wsL_law (wsV RL 96 RX8 yX8_wipe wsX8_wipe) := goodIn_app (goodIn_of _ (by decide +kernel)) ggL_law_X8_wipe
set_option maxRecDepth 20000 in
theorem ggL_law_X7_fault : GoodIn wsL_law wsX7_fault := goodIn_r _ [604, 33, 605, 606, 607, 32, 608, 96, 99, 609, 610, 611, 612, 613, 97, 614, 615, 616, 28, 617, 91, 90, 618, 619, 620, 621, 622, 623, 624, 625, 98, 626, 627, 628, 629, 630, 631, 632, 633, 634, 635, 636, 744, 745, 746, 747, 748, 749, 772, 773, 774, 775, 770, 771] (by decide +kernel) (by decide +kernel)
set_option maxRecDepth 20000 in
theorem gL_law_X7_fault : GoodIn wsL_law (wsV RL 97 RX7 yX7_fault wsX7_fault) := goodIn_app (goodIn_of _ (by decide +kernel)) ggL_law_X7_fault
set_option maxRecDepth 20000 in
theorem ggL_law_X8_fault : GoodIn wsL_law wsX8_fault := goodIn_r _ [640, 496, 641, 642, 643, 5, 644, 645, 646, 647, 648, 109, 649, 650, 651, 652, 653, 654, 655, 656, 657, 658, 659, 660, 151, 152, 153, 661, 662, 663, 664, 665, 666, 667, 668, 669, 670, 671, 672, 750, 751, 752, 753, 754, 755, 756] (by decide +kernel) (by decide +kernel)
set_option maxRecDepth 20000 in
theorem gL_law_X8_fault : GoodIn wsL_law (wsV RL 100 RX8 yX8_fault wsX8_fault) := goodIn_app (goodIn_of _ (by decide +kernel)) ggL_law_X8_fault
set_option maxRecDepth 20000 in
theorem ggL_law_X7_carryOut : GoodIn wsL_law wsX7_carryOut := goodIn_r _ [676, 33, 24, 16, 677, 29, 476, 605, 606, 607, 32, 608, 96, 99, 609, 610, 611, 612, 613, 97, 614, 615, 616, 28, 617, 91, 90, 618, 619, 620, 621, 622, 623, 624, 625, 98, 626, 627, 628, 629, 630, 631, 632, 633, 634, 635, 636, 120, 121, 122, 23, 123, 83, 84, 82, 14, 15, 85, 124, 125, 126, 127, 34, 35, 36, 11, 12, 37, 38, 39, 40, 41, 42, 43, 44, 45, 46, 47, 48, 49, 50, 51, 52, 53, 54, 55, 56, 57, 58, 59, 60, 61, 62, 63, 64, 65, 66, 67, 68, 69, 70, 71, 72, 128, 129, 130, 131, 132, 133, 134, 135, 136, 137, 138, 139, 140, 141, 142, 143, 144, 145, 146, 678, 679, 680, 681, 2, 682, 683, 20, 684, 685, 686, 687, 688, 163, 169, 164, 165, 166, 167, 168, 170, 171, 172, 117, 118, 119, 199, 200, 201, 241, 242, 243, 173, 174, 175, 176, 202, 203, 204, 205, 206, 207, 208, 209, 210, 211, 212, 213, 689, 690, 691, 692, 253, 254, 255, 256, 257, 258, 259, 260, 693, 694, 695, 696, 276, 277, 278, 279, 293, 294, 295, 296, 297, 298, 299, 300, 301, 302, 303, 304, 305, 306, 307, 19, 308, 309, 76, 310, 311, 312, 313, 314, 315, 316, 317, 318, 319, 320, 321, 322, 323, 324, 325, 326, 327, 328, 329, 330, 78, 331, 332, 333, 334, 335, 336, 337, 338, 339, 340, 341, 342, 343, 344, 345, 346, 347, 348, 349, 350, 351, 352, 353, 354, 697, 744, 745, 746, 747, 748, 749, 772, 773, 774, 775, 770, 771, 767, 768, 769, 757, 758, 759, 760, 761, 762, 763, 776, 777, 778, 779, 780, 781, 782, 783, 784, 785, 786, 764, 765, 766] (by decide +kernel) (by decide +kernel)
set_option maxRecDepth 20000 in
theorem gL_law_X7_carryOut : GoodIn wsL_law (wsV RL 101 RX7 yX7_carryOut wsX7_carryOut) := goodIn_app (goodIn_of _ (by decide +kernel)) ggL_law_X7_carryOut
set_option maxRecDepth 20000 in
theorem ggL_law_X8_carryOut : GoodIn wsL_law wsX8_carryOut := goodIn_r _ [701, 496, 702, 638, 639, 5, 640, 641, 642, 643, 644, 645, 646, 647, 648, 109, 649, 650, 651, 652, 653, 654, 655, 656, 657, 658, 659, 660, 151, 152, 153, 661, 662, 663, 664, 665, 666, 667, 668, 669, 670, 671, 672, 154, 155, 156, 157, 158, 105, 104, 703, 704, 705, 706, 707, 708, 709, 710, 711, 712, 713, 714, 181, 182, 183, 184, 185, 186, 187, 188, 226, 227, 228, 229, 230, 231, 232, 233, 222, 223, 224, 225, 234, 235, 236, 265, 266, 267, 268, 269, 270, 271, 284, 285, 286, 287, 371, 372, 373, 374, 375, 376, 377, 378, 379, 380, 381, 382, 383, 384, 385, 386, 387, 388, 389, 390, 391, 392, 393, 394, 395, 396, 397, 398, 750, 751, 752, 753, 754, 755, 756] (by decide +kernel) (by decide +kernel)
set_option maxRecDepth 20000 in
theorem gL_law_X8_carryOut : GoodIn wsL_law (wsV RL 104 RX8 yX8_carryOut wsX8_carryOut) := goodIn_app (goodIn_of _ (by decide +kernel)) ggL_law_X8_carryOut
set_option maxRecDepth 20000 in
theorem ggL_law_X7_undo : GoodIn wsL_law wsX7_undo := goodIn_r _ [718, 24, 16, 477, 719, 720, 721, 23, 722, 84, 83, 85, 128, 129, 130, 15, 131, 43, 132, 133, 134, 135, 47, 51, 52, 53, 54, 55, 136, 137, 138, 46, 139, 140, 60, 141, 61, 62, 63, 64, 65, 66, 67, 68, 142, 143, 144, 50, 145, 72, 146, 744, 745, 746, 747, 748, 749, 767, 768, 769, 757, 758, 759, 760, 761, 762, 763, 776, 777, 778, 779, 780, 781, 782, 783, 784, 785, 786] (by decide +kernel) (by decide +kernel)
set_option maxRecDepth 20000 in
theorem gL_law_X7_undo : GoodIn wsL_law (wsV RL 105 RX7 yX7_undo wsX7_undo) := goodIn_app (goodIn_of _ (by decide +kernel)) ggL_law_X7_undo
set_option maxRecDepth 20000 in
theorem ggL_law_X8_undo : GoodIn wsL_law wsX8_undo := goodIn_r _ [726, 158, 104, 105, 750, 751, 752, 753, 754, 755, 756] (by decide +kernel) (by decide +kernel)
set_option maxRecDepth 20000 in
theorem gL_law_X8_undo : GoodIn wsL_law (wsV RL 108 RX8 yX8_undo wsX8_undo) := goodIn_app (goodIn_of _ (by decide +kernel)) ggL_law_X8_undo
set_option maxRecDepth 20000 in
theorem ggL_law_X7_save : GoodIn wsL_law wsX7_save := goodIn_r _ [730, 25, 13, 14, 15, 16, 163, 169, 117, 118, 2, 119, 34, 35, 36, 11, 12, 37, 38, 39, 40, 41, 42, 43, 44, 45, 46, 47, 48, 49, 50, 51, 52, 53, 54, 55, 56, 57, 58, 59, 60, 61, 62, 63, 64, 65, 66, 67, 68, 69, 70, 71, 72, 731, 129, 130, 131, 132, 133, 134, 135, 136, 137, 138, 139, 140, 141, 142, 143, 144, 145, 146, 744, 745, 746, 747, 748, 749, 757, 758, 759, 760, 761, 762, 763, 776, 777, 778, 779, 780, 781, 782, 783, 784, 785, 786] (by decide +kernel) (by decide +kernel)
set_option maxRecDepth 20000 in
theorem gL_law_X7_save : GoodIn wsL_law (wsV RL 109 RX7 yX7_save wsX7_save) := goodIn_app (goodIn_of _ (by decide +kernel)) ggL_law_X7_save
set_option maxRecDepth 20000 in
theorem ggL_law_X8_save : GoodIn wsL_law wsX8_save := goodIn_r _ [735, 106, 104, 108, 151, 152, 5, 153, 750, 751, 752, 753, 754, 755, 756] (by decide +kernel) (by decide +kernel)
set_option maxRecDepth 20000 in
theorem gL_law_X8_save : GoodIn wsL_law (wsV RL 112 RX8 yX8_save wsX8_save) := goodIn_app (goodIn_of _ (by decide +kernel)) ggL_law_X8_save
set_option maxRecDepth 20000 in
theorem ggL_law_X7_restore : GoodIn wsL_law wsX7_restore := goodIn_r _ [739, 25, 24, 16, 163, 169, 117, 118, 2, 119, 120, 121, 122, 23, 123, 83, 84, 82, 14, 15, 85, 124, 125, 126, 127, 34, 35, 36, 11, 12, 37, 38, 39, 40, 41, 42, 43, 44, 45, 46, 47, 48, 49, 50, 51, 52, 53, 54, 55, 56, 57, 58, 59, 60, 61, 62, 63, 64, 65, 66, 67, 68, 69, 70, 71, 72, 128, 129, 130, 131, 132, 133, 134, 135, 136, 137, 138, 139, 140, 141, 142, 143, 144, 145, 146, 731, 744, 745, 746, 747, 748, 749, 757, 758, 759, 760, 761, 762, 763, 776, 777, 778, 779, 780, 781, 782, 783, 784, 785, 767, 768, 769, 786] (by decide +kernel) (by decide +kernel)
set_option maxRecDepth 20000 in
theorem gL_law_X7_restore : GoodIn wsL_law (wsV RL 113 RX7 yX7_restore wsX7_restore) := goodIn_app (goodIn_of _ (by decide +kernel)) ggL_law_X7_restore
set_option maxRecDepth 20000 in
theorem ggL_law_X8_restore : GoodIn wsL_law wsX8_restore := goodIn_r _ [743, 108, 104, 106, 151, 152, 5, 153, 154, 155, 156, 157, 158, 105, 750, 751, 752, 753, 754, 755, 756] (by decide +kernel) (by decide +kernel)
set_option maxRecDepth 20000 in
theorem gL_law_X8_restore : GoodIn wsL_law (wsV RL 116 RX8 yX8_restore wsX8_restore) := goodIn_app (goodIn_of _ (by decide +kernel)) ggL_law_X8_restore
