theorem dL_does_674 : decode cL_does 674 = .ok (.invokevirtual 17, 3) := by decide +kernel
theorem dL_does_677 : decode cL_does 677 = .ok (.iload 15, 2) := by decide +kernel
theorem dL_does_679 : decode cL_does 679 = .ok (.if_icmp .ne 7, 3) := by decide +kernel
theorem dL_does_682 : decode cL_does 682 = .ok (.iconst 1, 1) := by decide +kernel
theorem dL_does_683 : decode cL_does 683 = .ok (.goto 4, 3) := by decide +kernel
theorem dL_does_686 : decode cL_does 686 = .ok (.iconst 0, 1) := by decide +kernel
theorem dL_does_687 : decode cL_does 687 = .ok (.ireturn, 1) := by decide +kernel
theorem dL_does_688 : decode cL_does 688 = .ok (.aload_n 0, 1) := by decide +kernel
theorem dL_does_689 : decode cL_does 689 = .ok (.iload_n 2, 1) := by decide +kernel
theorem dL_does_690 : decode cL_does 690 = .ok (.invokestatic 84, 3) := by decide +kernel
theorem dL_does_693 : decode cL_does 693 = .ok (.ireturn, 1) := by decide +kernel
theorem dL_does_694 : decode cL_does 694 = .ok (.aload_n 0, 1) := by decide +kernel
theorem dL_does_695 : decode cL_does 695 = .ok (.iconst 0, 1) := by decide +kernel
theorem dL_does_696 : decode cL_does 696 = .ok (.invokevirtual 17, 3) := by decide +kernel
theorem dL_does_699 : decode cL_does 699 = .ok (.istore 17, 2) := by decide +kernel
theorem dL_does_701 : decode cL_does 701 = .ok (.iconst 1, 1) := by decide +kernel
theorem dL_does_702 : decode cL_does 702 = .ok (.iload_n 2, 1) := by decide +kernel
theorem dL_does_703 : decode cL_does 703 = .ok (.bipush 30, 2) := by decide +kernel
theorem dL_does_705 : decode cL_does 705 = .ok (.invokestatic 31, 3) := by decide +kernel
theorem dL_does_708 : decode cL_does 708 = .ok (.iadd, 1) := by decide +kernel
theorem dL_does_709 : decode cL_does 709 = .ok (.istore 18, 2) := by decide +kernel
theorem dL_does_711 : decode cL_does 711 = .ok (.aload_n 0, 1) := by decide +kernel
theorem dL_does_712 : decode cL_does 712 = .ok (.iload 18, 2) := by decide +kernel
theorem dL_does_714 : decode cL_does 714 = .ok (.invokevirtual 53, 3) := by decide +kernel
theorem dL_does_717 : decode cL_does 717 = .ok (.iload 17, 2) := by decide +kernel
theorem dL_does_719 : decode cL_does 719 = .ok (.iload 18, 2) := by decide +kernel
theorem dL_does_721 : decode cL_does 721 = .ok (.iadd, 1) := by decide +kernel
theorem dL_does_722 : decode cL_does 722 = .ok (.sipush 9999, 3) := by decide +kernel
theorem dL_does_725 : decode cL_does 725 = .ok (.if_icmp .le 8, 3) := by decide +kernel
theorem dL_does_728 : decode cL_does 728 = .ok (.bipush (-5), 2) := by decide +kernel
theorem dL_does_730 : decode cL_does 730 = .ok (.goto 8, 3) := by decide +kernel
theorem dL_does_733 : decode cL_does 733 = .ok (.iload 17, 2) := by decide +kernel
theorem dL_does_735 : decode cL_does 735 = .ok (.iload 18, 2) := by decide +kernel
theorem dL_does_737 : decode cL_does 737 = .ok (.iadd, 1) := by decide +kernel
theorem dL_does_738 : decode cL_does 738 = .ok (.if_icmp .ne 7, 3) := by decide +kernel
theorem dL_does_741 : decode cL_does 741 = .ok (.iconst 1, 1) := by decide +kernel
theorem dL_does_742 : decode cL_does 742 = .ok (.goto 4, 3) := by decide +kernel
theorem dL_does_745 : decode cL_does 745 = .ok (.iconst 0, 1) := by decide +kernel
theorem dL_does_746 : decode cL_does 746 = .ok (.ireturn, 1) := by decide +kernel
set_option maxRecDepth 20000 in
theorem ggL_law_X7_init : GoodIn wsL_law wsX7_init := goodIn_r _ [6, 7, 8, 9, 10, 11, 12, 13, 14, 15, 16, 17, 18, 19, 20, 21, 22, 23, 24, 25, 26, 27, 28, 29, 30, 31, 32, 33, 34, 35, 36, 37, 38, 39, 40, 41, 42, 43, 44, 45, 46, 47, 48, 49, 50, 51, 52, 53, 54, 55, 56, 57, 58, 59, 60, 61, 62, 63, 64, 65, 66, 67, 68, 69, 70, 71, 72, 73, 74, 75, 76, 77, 78, 79, 80, 81, 82, 83, 84, 85, 86, 87, 88, 89, 90, 91, 92, 93, 94, 95, 96, 437, 438, 439, 440, 441, 442, 443, 431, 432, 433, 434, 435, 436, 444, 445, 446, 447, 448, 449, 450, 451, 452, 453, 454, 455, 456, 457, 458, 459, 460, 461, 462, 463, 464, 465, 466] (by decide +kernel) (by decide +kernel)
set_option maxRecDepth 20000 in
theorem gL_law_X7_init : GoodIn wsL_law (wsX7_init) := ggL_law_X7_init
set_option maxRecDepth 20000 in
theorem ggL_law_L_isPicture : GoodIn wsL_law wsL_isPicture := goodIn_r _ [100, 101, 102, 103, 2, 104, 13, 105, 106, 107, 108, 109, 110, 111, 112, 113, 114, 47, 115, 69, 116, 117, 118, 119, 120, 121, 122, 123, 124, 125, 126, 127, 128, 129, 130, 131, 132, 133, 134, 135, 136, 137, 138, 139, 140, 141, 142, 143, 26, 144, 21, 145, 146, 147, 148, 149, 150, 151, 152, 153, 154, 155, 156, 157, 158, 159, 160, 161, 162, 163, 164, 165, 166, 167, 168, 169, 431, 432, 433, 434, 435, 436, 437, 438, 439, 440, 441, 442, 443, 466, 456, 457, 458, 459, 460, 461, 462, 463, 464, 465, 450, 451, 447, 448, 449] (by decide +kernel) (by decide +kernel)
set_option maxRecDepth 20000 in
theorem gL_law_L_isPicture : GoodIn wsL_law (va_wsS RL 40 yL_isPicture wsL_isPicture) := goodIn_app (goodIn_of _ (by decide +kernel)) ggL_law_L_isPicture
set_option maxRecDepth 20000 in
theorem ggL_law_X7_count : GoodIn wsL_law wsX7_count := goodIn_r _ [136, 13, 137, 138, 139, 140, 105, 141, 142, 143, 26, 144, 21, 145, 146, 147, 148, 47, 149, 150, 121, 122, 123, 124, 113, 114, 115, 69, 151, 152, 153, 154, 155, 156, 157, 158, 159, 160, 161, 162, 431, 432, 433, 434, 435, 436, 437, 438, 439, 440, 441, 442, 443, 456, 457, 458, 459, 460, 461, 462, 463, 464, 465, 450, 451, 447, 448, 449, 466] (by decide +kernel) (by decide +kernel)
set_option maxRecDepth 20000 in
theorem gL_law_X7_count : GoodIn wsL_law (wsV RL 17 RX7 yX7_count wsX7_count) := goodIn_app (goodIn_of _ (by decide +kernel)) ggL_law_X7_count
set_option maxRecDepth 20000 in
theorem ggL_law_X7_flashed : GoodIn wsL_law wsX7_flashed := goodIn_r _ [173, 13, 141, 142, 174, 175, 176, 12, 177, 40, 178, 179, 180, 181, 49, 431, 432, 433, 434, 435, 436, 437, 438, 439, 440, 441, 442, 443] (by decide +kernel) (by decide +kernel)
set_option maxRecDepth 20000 in
theorem gL_law_X7_flashed : GoodIn wsL_law (wsV RL 65 RX7 yX7_flashed wsX7_flashed) := goodIn_app (goodIn_of _ (by decide +kernel)) ggL_law_X7_flashed
set_option maxRecDepth 20000 in
theorem ggL_law_X7_undo : GoodIn wsL_law wsX7_undo := goodIn_r _ [185, 21, 13, 145, 186, 187, 188, 20, 189, 81, 80, 82, 190, 191, 192, 12, 193, 40, 194, 195, 196, 197, 44, 48, 49, 50, 51, 52, 198, 199, 200, 43, 201, 202, 57, 203, 58, 59, 60, 61, 62, 63, 64, 65, 204, 205, 206, 47, 207, 69, 208, 431, 432, 433, 434, 435, 436, 447, 448, 449, 437, 438, 439, 440, 441, 442, 443, 456, 457, 458, 459, 460, 461, 462, 463, 464, 465, 466] (by decide +kernel) (by decide +kernel)
set_option maxRecDepth 20000 in
theorem gL_law_X7_undo : GoodIn wsL_law (wsV RL 90 RX7 yX7_undo wsX7_undo) := goodIn_app (goodIn_of _ (by decide +kernel)) ggL_law_X7_undo
set_option maxRecDepth 20000 in
theorem ggL_law_X7_seen : GoodIn wsL_law wsX7_seen := goodIn_r _ [212, 17, 13, 137, 106, 107, 2, 108, 109, 110, 111, 213, 214, 215, 16, 216, 74, 217, 218, 219, 220, 221, 222, 223, 224, 225, 226, 227, 228, 12, 229, 51, 52, 40, 230, 231, 232, 233, 75, 234, 235, 236, 237, 238, 239, 43, 240, 57, 58, 241, 242, 243, 244, 202, 63, 61, 62, 65, 64, 245, 246, 247, 248, 249, 250, 251, 252, 168, 157, 169, 253, 156, 158, 254, 255, 256, 257, 431, 432, 433, 434, 435, 436, 437, 438, 439, 440, 441, 442, 443, 444, 445, 446, 456, 457, 458, 459, 460, 461, 462, 463, 464, 465] (by decide +kernel) (by decide +kernel)
set_option maxRecDepth 20000 in
theorem gL_law_X7_seen : GoodIn wsL_law (wsV RL 27 RX7 yX7_seen wsX7_seen) := goodIn_app (goodIn_of _ (by decide +kernel)) ggL_law_X7_seen
set_option maxRecDepth 20000 in
theorem ggL_law_L_cell : GoodIn wsL_law wsL_cell := goodIn_r _ [260] (by decide +kernel) (by decide +kernel)
set_option maxRecDepth 20000 in
theorem gL_law_L_cell : GoodIn wsL_law (va_wsS RL 93 yL_cell wsL_cell) := goodIn_app (goodIn_of _ (by decide +kernel)) ggL_law_L_cell
set_option maxRecDepth 20000 in
theorem ggL_law_L_does : GoodIn wsL_law wsL_does := goodIn_r _ [263, 133, 134, 135, 2, 136, 13, 137, 138, 139, 140, 105, 141, 142, 143, 26, 144, 21, 145, 146, 147, 148, 47, 149, 150, 121, 122, 123, 124, 113, 114, 115, 69, 151, 152, 153, 154, 155, 156, 157, 158, 159, 160, 161, 162, 264, 265, 99, 266, 267, 268, 269, 270, 271, 272, 273, 274, 275, 276, 277, 278, 279, 280, 281, 109, 110, 111, 282, 242, 243, 43, 244, 202, 63, 61, 62, 65, 64, 245, 246, 247, 248, 283, 284, 285, 286, 287, 288, 289, 290, 291, 292, 293, 294, 106, 107, 108, 295, 296, 297, 20, 298, 80, 81, 79, 11, 12, 82, 299, 168, 169, 31, 32, 33, 8, 9, 34, 35, 36, 37, 38, 39, 40, 41, 42, 44, 45, 46, 48, 49, 50, 51, 52, 53, 54, 55, 56, 57, 58, 59, 60, 66, 67, 68, 190, 191, 192, 193, 194, 195, 196, 197, 198, 199, 200, 201, 203, 204, 205, 206, 207, 208, 300, 301, 302, 303, 304, 305, 306, 307, 308, 309, 310, 311, 312, 313, 314, 315, 316, 317, 318, 319, 320, 321, 322, 323, 324, 325, 326, 327, 328, 329, 330, 331, 332, 333, 334, 335, 336, 337, 338, 339, 340, 341, 342, 343, 209, 210, 211, 212, 17, 213, 214, 215, 16, 216, 74, 217, 218, 219, 220, 221, 222, 223, 224, 225, 226, 227, 228, 229, 230, 231, 232, 233, 75, 234, 235, 236, 237, 238, 239, 240, 241, 249, 250, 251, 252, 253, 254, 255, 256, 257, 344, 345, 346, 347, 348, 349, 350, 351, 352, 353, 354, 355, 178, 179, 180, 181, 356, 357, 358, 359, 360, 73, 361, 362, 363, 364, 365, 366, 367, 368, 369, 370, 371, 372, 373, 374, 126, 127, 128, 116, 117, 118, 119, 120, 125, 129, 130, 131, 132, 101, 102, 103, 104, 112, 97, 98, 100, 163, 164, 165, 166, 167, 375, 376, 377, 378, 379, 380, 381, 382, 431, 432, 433, 434, 435, 436, 437, 438, 439, 440, 441, 442, 443, 456, 457, 458, 459, 460, 461, 462, 463, 464, 465, 450, 451, 447, 448, 449, 466, 444, 445, 446] (by decide +kernel) (by decide +kernel)
set_option maxRecDepth 20000 in
theorem gL_law_L_does : GoodIn wsL_law (va_wsS RL 97 yL_does wsL_does) := goodIn_app (goodIn_of _ (by decide +kernel)) ggL_law_L_does
set_option maxRecDepth 20000 in
theorem ggL_law_L_low : GoodIn wsL_law wsL_low := goodIn_r _ [266, 267] (by decide +kernel) (by decide +kernel)
set_option maxRecDepth 20000 in
theorem gL_law_L_low : GoodIn wsL_law (va_wsS RL 31 yL_low wsL_low) := goodIn_app (goodIn_of _ (by decide +kernel)) ggL_law_L_low
set_option maxRecDepth 20000 in
theorem ggL_law_L_isSeen : GoodIn wsL_law wsL_isSeen := goodIn_r _ [385, 133, 134, 135, 2, 136, 13, 137, 138, 139, 140, 105, 141, 142, 143, 26, 144, 21, 145, 146, 147, 148, 47, 149, 150, 121, 122, 123, 124, 113, 114, 115, 69, 151, 152, 153, 154, 155, 156, 157, 158, 159, 160, 161, 162, 268, 269, 270, 271, 272, 273, 274, 275, 276, 277, 278, 279, 280, 281, 109, 110, 111, 282, 242, 243, 43, 244, 202, 63, 61, 62, 65, 64, 245, 246, 247, 248, 283, 284, 285, 286, 209, 210, 211, 212, 17, 106, 107, 108, 213, 214, 215, 16, 216, 74, 217, 218, 219, 220, 221, 222, 223, 224, 225, 226, 227, 228, 12, 229, 51, 52, 40, 230, 231, 232, 233, 75, 234, 235, 236, 237, 238, 239, 240, 57, 58, 241, 249, 250, 251, 252, 168, 169, 253, 254, 255, 256, 257, 431, 432, 433, 434, 435, 436, 437, 438, 439, 440, 441, 442, 443, 456, 457, 458, 459, 460, 461, 462, 463, 464, 465, 450, 451, 447, 448, 449, 466, 444, 445, 446] (by decide +kernel) (by decide +kernel)
set_option maxRecDepth 20000 in
theorem gL_law_L_isSeen : GoodIn wsL_law (va_wsS RL 101 yL_isSeen wsL_isSeen) := goodIn_app (goodIn_of _ (by decide +kernel)) ggL_law_L_isSeen
set_option maxRecDepth 20000 in
theorem ggL_law_L_isThing : GoodIn wsL_law wsL_isThing := goodIn_r _ [388, 268, 269, 270, 2, 271, 13, 138, 272, 137, 273, 274, 275, 276, 277, 278, 279, 280, 281, 139, 109, 110, 111, 282, 242, 243, 43, 244, 202, 63, 61, 62, 65, 64, 245, 246, 247, 248, 283, 284, 285, 286, 431, 432, 433, 434, 435, 436, 437, 438, 439, 440, 441, 442, 443, 456, 457, 458, 459, 460, 461, 462, 463, 464, 465] (by decide +kernel) (by decide +kernel)
set_option maxRecDepth 20000 in
theorem gL_law_L_isThing : GoodIn wsL_law (va_wsS RL 104 yL_isThing wsL_isThing) := goodIn_app (goodIn_of _ (by decide +kernel)) ggL_law_L_isThing
set_option maxRecDepth 20000 in
theorem ggL_law_L_leans : GoodIn wsL_law wsL_leans := goodIn_r _ [391, 392, 393, 394, 2, 395, 13, 138, 272, 273, 278, 279, 280, 281, 139, 109, 110, 111, 396, 179, 180, 12, 181, 49, 40, 282, 242, 243, 43, 244, 202, 63, 61, 62, 65, 64, 245, 246, 247, 248, 133, 134, 135, 136, 137, 140, 105, 141, 142, 143, 26, 144, 21, 145, 146, 147, 148, 47, 149, 150, 121, 122, 123, 124, 113, 114, 115, 69, 151, 152, 153, 154, 155, 156, 157, 158, 159, 160, 161, 162, 268, 269, 270, 271, 274, 275, 276, 277, 283, 284, 285, 286, 397, 398, 399, 400, 17, 401, 402, 403, 16, 404, 360, 73, 362, 74, 364, 217, 218, 219, 220, 221, 222, 223, 224, 225, 226, 227, 228, 229, 51, 52, 230, 231, 232, 233, 75, 234, 235, 236, 237, 238, 239, 240, 57, 58, 241, 249, 250, 251, 252, 168, 169, 253, 254, 255, 256, 257, 405, 406, 407, 408, 22, 10, 11, 31, 32, 33, 8, 9, 34, 35, 36, 37, 38, 39, 41, 42, 44, 45, 46, 48, 50, 53, 54, 55, 56, 59, 60, 66, 67, 68, 409, 191, 192, 193, 194, 195, 196, 197, 198, 199, 200, 201, 203, 204, 205, 206, 207, 208, 375, 376, 377, 378, 379, 380, 381, 382, 295, 296, 297, 20, 298, 80, 81, 79, 82, 299, 190, 410, 411, 412, 413, 431, 432, 433, 434, 435, 436, 437, 438, 439, 440, 441, 442, 443, 456, 457, 458, 459, 460, 461, 462, 463, 464, 465, 450, 451, 447, 448, 449, 466, 444, 445, 446] (by decide +kernel) (by decide +kernel)
set_option maxRecDepth 20000 in
theorem gL_law_L_leans : GoodIn wsL_law (va_wsS RL 107 yL_leans wsL_leans) := goodIn_app (goodIn_of _ (by decide +kernel)) ggL_law_L_leans
set_option maxRecDepth 20000 in
theorem ggL_law_L_isBestFlash : GoodIn wsL_law wsL_isBestFlash := goodIn_r _ [416, 417, 418, 419, 2, 420, 13, 137, 109, 110, 111, 174, 175, 176, 12, 177, 40, 178, 179, 180, 181, 49, 421, 422, 423, 424, 425, 426, 427, 323, 324, 325, 326, 21, 141, 327, 328, 329, 330, 295, 296, 297, 20, 298, 80, 81, 79, 11, 82, 299, 168, 157, 169, 31, 32, 33, 8, 9, 34, 35, 36, 37, 38, 39, 41, 42, 43, 44, 45, 46, 47, 48, 50, 51, 52, 53, 54, 55, 56, 57, 58, 59, 60, 61, 62, 63, 64, 65, 66, 67, 68, 69, 190, 191, 192, 193, 194, 195, 196, 197, 198, 199, 200, 201, 202, 203, 204, 205, 206, 207, 208, 331, 332, 333, 334, 170, 171, 172, 173, 142, 428, 429, 99, 430, 133, 134, 135, 136, 138, 139, 140, 105, 143, 26, 144, 145, 146, 147, 148, 149, 150, 121, 122, 123, 124, 113, 114, 115, 151, 152, 153, 154, 155, 156, 158, 159, 160, 161, 162, 431, 432, 433, 434, 435, 436, 437, 438, 439, 440, 441, 442, 443, 447, 448, 449, 456, 457, 458, 459, 460, 461, 462, 463, 464, 465, 466, 450, 451] (by decide +kernel) (by decide +kernel)
set_option maxRecDepth 20000 in
theorem gL_law_L_isBestFlash : GoodIn wsL_law (va_wsS RL 109 yL_isBestFlash wsL_isBestFlash) := goodIn_app (goodIn_of _ (by decide +kernel)) ggL_law_L_isBestFlash
set_option maxRecDepth 20000 in
theorem ggL_law_X7_thing : GoodIn wsL_law wsX7_thing := goodIn_r _ [290, 21, 13, 138, 137, 291, 292, 293, 2, 294, 139, 106, 107, 108, 109, 110, 111, 295, 296, 297, 20, 298, 80, 81, 79, 11, 12, 82, 299, 168, 157, 169, 31, 32, 33, 8, 9, 34, 35, 36, 37, 38, 39, 40, 41, 42, 43, 44, 45, 46, 47, 48, 49, 50, 51, 52, 53, 54, 55, 56, 57, 58, 59, 60, 61, 62, 63, 64, 65, 66, 67, 68, 69, 190, 191, 192, 193, 194, 195, 196, 197, 198, 199, 200, 201, 202, 203, 204, 205, 206, 207, 208, 300, 301, 302, 303, 431, 432, 433, 434, 435, 436, 437, 438, 439, 440, 441, 442, 443, 456, 457, 458, 459, 460, 461, 462, 463, 464, 465, 447, 448, 449, 466] (by decide +kernel) (by decide +kernel)
set_option maxRecDepth 20000 in
theorem gL_law_X7_thing : GoodIn wsL_law (wsV RL 71 RX7 yX7_thing wsX7_thing) := goodIn_app (goodIn_of _ (by decide +kernel)) ggL_law_X7_thing
set_option maxRecDepth 20000 in
theorem ggL_law_X7_flash : GoodIn wsL_law wsX7_flash := goodIn_r _ [326, 21, 13, 141, 327, 328, 329, 2, 330, 109, 110, 111, 295, 296, 297, 20, 298, 80, 81, 79, 11, 12, 82, 299, 168, 157, 169, 31, 32, 33, 8, 9, 34, 35, 36, 37, 38, 39, 40, 41, 42, 43, 44, 45, 46, 47, 48, 49, 50, 51, 52, 53, 54, 55, 56, 57, 58, 59, 60, 61, 62, 63, 64, 65, 66, 67, 68, 69, 190, 191, 192, 193, 194, 195, 196, 197, 198, 199, 200, 201, 202, 203, 204, 205, 206, 207, 208, 331, 332, 333, 334, 431, 432, 433, 434, 435, 436, 437, 438, 439, 440, 441, 442, 443, 447, 448, 449, 456, 457, 458, 459, 460, 461, 462, 463, 464, 465, 466] (by decide +kernel) (by decide +kernel)
set_option maxRecDepth 20000 in
theorem gL_law_X7_flash : GoodIn wsL_law (wsV RL 62 RX7 yX7_flash wsX7_flash) := goodIn_app (goodIn_of _ (by decide +kernel)) ggL_law_X7_flash
set_option maxRecDepth 20000 in
theorem ggL_law_X7_pass : GoodIn wsL_law wsX7_pass := goodIn_r _ [378, 21, 13, 137, 379, 380, 381, 2, 382, 109, 110, 111, 295, 296, 297, 20, 298, 80, 81, 79, 11, 12, 82, 299, 168, 157, 169, 31, 32, 33, 8, 9, 34, 35, 36, 37, 38, 39, 40, 41, 42, 43, 44, 45, 46, 47, 48, 49, 50, 51, 52, 53, 54, 55, 56, 57, 58, 59, 60, 61, 62, 63, 64, 65, 66, 67, 68, 69, 190, 191, 192, 193, 194, 195, 196, 197, 198, 199, 200, 201, 202, 203, 204, 205, 206, 207, 208, 431, 432, 433, 434, 435, 436, 437, 438, 439, 440, 441, 442, 443, 447, 448, 449, 456, 457, 458, 459, 460, 461, 462, 463, 464, 465, 466] (by decide +kernel) (by decide +kernel)
set_option maxRecDepth 20000 in
theorem gL_law_X7_pass : GoodIn wsL_law (wsV RL 53 RX7 yX7_pass wsX7_pass) := goodIn_app (goodIn_of _ (by decide +kernel)) ggL_law_X7_pass
set_option maxRecDepth 20000 in
theorem ggL_law_X7_set : GoodIn wsL_law wsX7_set := goodIn_r _ [338, 339, 340, 21, 13, 143, 109, 110, 2, 111, 295, 296, 297, 20, 298, 80, 81, 79, 11, 12, 82, 299, 168, 157, 169, 31, 32, 33, 8, 9, 34, 35, 36, 37, 38, 39, 40, 41, 42, 43, 44, 45, 46, 47, 48, 49, 50, 51, 52, 53, 54, 55, 56, 57, 58, 59, 60, 61, 62, 63, 64, 65, 66, 67, 68, 69, 190, 191, 192, 193, 194, 195, 196, 197, 198, 199, 200, 201, 202, 203, 204, 205, 206, 207, 208, 431, 432, 433, 434, 435, 436, 437, 438, 439, 440, 441, 442, 443, 447, 448, 449, 456, 457, 458, 459, 460, 461, 462, 463, 464, 465, 466] (by decide +kernel) (by decide +kernel)
set_option maxRecDepth 20000 in
theorem gL_law_X7_set : GoodIn wsL_law (wsV RL 81 RX7 yX7_set wsX7_set) := goodIn_app (goodIn_of _ (by decide +kernel)) ggL_law_X7_set
set_option maxRecDepth 20000 in
theorem ggL_law_X7_bestFlash : GoodIn wsL_law wsX7_bestFlash := goodIn_r _ [420, 13, 137, 109, 110, 2, 111, 174, 175, 176, 12, 177, 40, 178, 179, 180, 181, 49, 421, 422, 423, 424, 425, 426, 427, 431, 432, 433, 434, 435, 436, 437, 438, 439, 440, 441, 442, 443] (by decide +kernel) (by decide +kernel)
set_option maxRecDepth 20000 in
theorem gL_law_X7_bestFlash : GoodIn wsL_law (wsV RL 59 RX7 yX7_bestFlash wsX7_bestFlash) := goodIn_app (goodIn_of _ (by decide +kernel)) ggL_law_X7_bestFlash
theorem dL_law_0 : decode cL_law 0 = .ok (.new 8, 3) := by decide +kernel
theorem dL_law_3 : decode cL_law 3 = .ok (.dup, 1) := by decide +kernel
theorem dL_law_4 : decode cL_law 4 = .ok (.invokespecial 88, 3) := by decide +kernel
theorem dL_law_7 : decode cL_law 7 = .ok (.astore_n 1, 1) := by decide +kernel
theorem dL_law_8 : decode cL_law 8 = .ok (.aload_n 1, 1) := by decide +kernel
theorem dL_law_9 : decode cL_law 9 = .ok (.invokestatic 40, 3) := by decide +kernel
theorem dL_law_12 : decode cL_law 12 = .ok (.ifCond .eq 50, 3) := by decide +kernel
theorem dL_law_15 : decode cL_law 15 = .ok (.aload_n 1, 1) := by decide +kernel
theorem dL_law_16 : decode cL_law 16 = .ok (.iconst 3, 1) := by decide +kernel
theorem dL_law_17 : decode cL_law 17 = .ok (.invokevirtual 17, 3) := by decide +kernel
theorem dL_law_20 : decode cL_law 20 = .ok (.ldc 89, 2) := by decide +kernel
theorem dL_law_22 : decode cL_law 22 = .ok (.if_icmp .ne 40, 3) := by decide +kernel
theorem dL_law_25 : decode cL_law 25 = .ok (.aload_n 1, 1) := by decide +kernel
theorem dL_law_26 : decode cL_law 26 = .ok (.bipush 6, 2) := by decide +kernel
theorem dL_law_28 : decode cL_law 28 = .ok (.invokevirtual 17, 3) := by decide +kernel
theorem dL_law_31 : decode cL_law 31 = .ok (.bipush (-6), 2) := by decide +kernel
theorem dL_law_33 : decode cL_law 33 = .ok (.if_icmp .ne 29, 3) := by decide +kernel
theorem dL_law_36 : decode cL_law 36 = .ok (.aload_n 1, 1) := by decide +kernel
theorem dL_law_37 : decode cL_law 37 = .ok (.invokevirtual 65, 3) := by decide +kernel
theorem dL_law_40 : decode cL_law 40 = .ok (.ifCond .ne 22, 3) := by decide +kernel
theorem dL_law_43 : decode cL_law 43 = .ok (.aload_n 1, 1) := by decide +kernel
theorem dL_law_44 : decode cL_law 44 = .ok (.invokevirtual 90, 3) := by decide +kernel
theorem dL_law_47 : decode cL_law 47 = .ok (.bipush (-5), 2) := by decide +kernel
theorem dL_law_49 : decode cL_law 49 = .ok (.if_icmp .ne 13, 3) := by decide +kernel
theorem dL_law_52 : decode cL_law 52 = .ok (.aload_n 1, 1) := by decide +kernel
theorem dL_law_53 : decode cL_law 53 = .ok (.iconst 0, 1) := by decide +kernel
theorem dL_law_54 : decode cL_law 54 = .ok (.iconst 0, 1) := by decide +kernel
theorem dL_law_55 : decode cL_law 55 = .ok (.iconst 0, 1) := by decide +kernel
theorem dL_law_56 : decode cL_law 56 = .ok (.invokevirtual 27, 3) := by decide +kernel
theorem dL_law_59 : decode cL_law 59 = .ok (.ifCond .eq 5, 3) := by decide +kernel
theorem dL_law_62 : decode cL_law 62 = .ok (.iconst 0, 1) := by decide +kernel
theorem dL_law_63 : decode cL_law 63 = .ok (.ireturn, 1) := by decide +kernel
theorem dL_law_64 : decode cL_law 64 = .ok (.iconst 0, 1) := by decide +kernel
theorem dL_law_65 : decode cL_law 65 = .ok (.istore_n 2, 1) := by decide +kernel
theorem dL_law_66 : decode cL_law 66 = .ok (.iload_n 2, 1) := by decide +kernel
theorem dL_law_67 : decode cL_law 67 = .ok (.bipush 45, 2) := by decide +kernel
theorem dL_law_69 : decode cL_law 69 = .ok (.if_icmp .ge 151, 3) := by decide +kernel
theorem dL_law_72 : decode cL_law 72 = .ok (.aload_n 0, 1) := by decide +kernel
theorem dL_law_73 : decode cL_law 73 = .ok (.iconst 2, 1) := by decide +kernel
theorem dL_law_74 : decode cL_law 74 = .ok (.iload_n 2, 1) := by decide +kernel
theorem dL_law_75 : decode cL_law 75 = .ok (.imul, 1) := by decide +kernel
theorem dL_law_76 : decode cL_law 76 = .ok (.invokestatic 93, 3) := by decide +kernel
theorem dL_law_79 : decode cL_law 79 = .ok (.istore_n 3, 1) := by decide +kernel
theorem dL_law_80 : decode cL_law 80 = .ok (.aload_n 0, 1) := by decide +kernel
theorem dL_law_81 : decode cL_law 81 = .ok (.iconst 2, 1) := by decide +kernel
theorem dL_law_82 : decode cL_law 82 = .ok (.iload_n 2, 1) := by decide +kernel
theorem dL_law_83 : decode cL_law 83 = .ok (.imul, 1) := by decide +kernel
theorem dL_law_84 : decode cL_law 84 = .ok (.iconst 1, 1) := by decide +kernel
theorem dL_law_85 : decode cL_law 85 = .ok (.iadd, 1) := by decide +kernel
theorem dL_law_86 : decode cL_law 86 = .ok (.invokestatic 93, 3) := by decide +kernel
theorem dL_law_89 : decode cL_law 89 = .ok (.istore 4, 2) := by decide +kernel
theorem dL_law_91 : decode cL_law 91 = .ok (.aload_n 1, 1) := by decide +kernel
theorem dL_law_92 : decode cL_law 92 = .ok (.iload_n 3, 1) := by decide +kernel
theorem dL_law_93 : decode cL_law 93 = .ok (.iload 4, 2) := by decide +kernel
theorem dL_law_95 : decode cL_law 95 = .ok (.invokestatic 97, 3) := by decide +kernel
theorem dL_law_98 : decode cL_law 98 = .ok (.ifCond .eq 29, 3) := by decide +kernel
theorem dL_law_101 : decode cL_law 101 = .ok (.aload_n 1, 1) := by decide +kernel
theorem dL_law_102 : decode cL_law 102 = .ok (.iload 4, 2) := by decide +kernel
theorem dL_law_104 : decode cL_law 104 = .ok (.iconst 3, 1) := by decide +kernel
theorem dL_law_105 : decode cL_law 105 = .ok (.ishr, 1) := by decide +kernel
theorem dL_law_106 : decode cL_law 106 = .ok (.bipush 16, 2) := by decide +kernel
theorem dL_law_108 : decode cL_law 108 = .ok (.invokestatic 31, 3) := by decide +kernel
theorem dL_law_111 : decode cL_law 111 = .ok (.iload 4, 2) := by decide +kernel
theorem dL_law_113 : decode cL_law 113 = .ok (.bipush 8, 2) := by decide +kernel
theorem dL_law_115 : decode cL_law 115 = .ok (.ishr, 1) := by decide +kernel
theorem dL_law_116 : decode cL_law 116 = .ok (.bipush 24, 2) := by decide +kernel
theorem dL_law_118 : decode cL_law 118 = .ok (.invokestatic 31, 3) := by decide +kernel
theorem dL_law_121 : decode cL_law 121 = .ok (.invokestatic 101, 3) := by decide +kernel
theorem dL_law_124 : decode cL_law 124 = .ok (.ifCond .ne 5, 3) := by decide +kernel
theorem dL_law_127 : decode cL_law 127 = .ok (.iconst 0, 1) := by decide +kernel
theorem dL_law_128 : decode cL_law 128 = .ok (.ireturn, 1) := by decide +kernel
theorem dL_law_129 : decode cL_law 129 = .ok (.aload_n 1, 1) := by decide +kernel
theorem dL_law_130 : decode cL_law 130 = .ok (.iconst 1, 1) := by decide +kernel
theorem dL_law_131 : decode cL_law 131 = .ok (.invokevirtual 17, 3) := by decide +kernel
theorem dL_law_134 : decode cL_law 134 = .ok (.istore 5, 2) := by decide +kernel
theorem dL_law_136 : decode cL_law 136 = .ok (.iload 5, 2) := by decide +kernel
theorem dL_law_138 : decode cL_law 138 = .ok (.ifCond .le 19, 3) := by decide +kernel
theorem dL_law_141 : decode cL_law 141 = .ok (.aload_n 1, 1) := by decide +kernel
theorem dL_law_142 : decode cL_law 142 = .ok (.iload_n 3, 1) := by decide +kernel
theorem dL_law_143 : decode cL_law 143 = .ok (.bipush 6, 2) := by decide +kernel
theorem dL_law_145 : decode cL_law 145 = .ok (.ishr, 1) := by decide +kernel
theorem dL_law_146 : decode cL_law 146 = .ok (.iload 5, 2) := by decide +kernel
theorem dL_law_148 : decode cL_law 148 = .ok (.invokestatic 31, 3) := by decide +kernel
theorem dL_law_151 : decode cL_law 151 = .ok (.invokestatic 104, 3) := by decide +kernel
theorem dL_law_154 : decode cL_law 154 = .ok (.ifCond .eq 58, 3) := by decide +kernel
theorem dL_law_157 : decode cL_law 157 = .ok (.iload 5, 2) := by decide +kernel
theorem dL_law_159 : decode cL_law 159 = .ok (.ifCond .le 26, 3) := by decide +kernel
theorem dL_law_162 : decode cL_law 162 = .ok (.iload_n 2, 1) := by decide +kernel
theorem dL_law_163 : decode cL_law 163 = .ok (.bipush 9, 2) := by decide +kernel
theorem dL_law_165 : decode cL_law 165 = .ok (.irem, 1) := by decide +kernel
theorem dL_law_166 : decode cL_law 166 = .ok (.iconst 5, 1) := by decide +kernel
theorem dL_law_167 : decode cL_law 167 = .ok (.if_icmp .ne 18, 3) := by decide +kernel
theorem dL_law_170 : decode cL_law 170 = .ok (.aload_n 1, 1) := by decide +kernel
theorem dL_law_171 : decode cL_law 171 = .ok (.iload_n 3, 1) := by decide +kernel
theorem dL_law_172 : decode cL_law 172 = .ok (.iconst 5, 1) := by decide +kernel
theorem dL_law_173 : decode cL_law 173 = .ok (.ishr, 1) := by decide +kernel
theorem dL_law_174 : decode cL_law 174 = .ok (.iload 5, 2) := by decide +kernel
theorem dL_law_176 : decode cL_law 176 = .ok (.invokestatic 31, 3) := by decide +kernel
theorem dL_law_179 : decode cL_law 179 = .ok (.invokestatic 107, 3) := by decide +kernel
theorem dL_law_182 : decode cL_law 182 = .ok (.ifCond .eq 30, 3) := by decide +kernel
theorem dL_law_185 : decode cL_law 185 = .ok (.iload_n 2, 1) := by decide +kernel
theorem dL_law_186 : decode cL_law 186 = .ok (.bipush 20, 2) := by decide +kernel
theorem dL_law_188 : decode cL_law 188 = .ok (.irem, 1) := by decide +kernel
theorem dL_law_189 : decode cL_law 189 = .ok (.bipush 11, 2) := by decide +kernel
theorem dL_law_191 : decode cL_law 191 = .ok (.if_icmp .ne 23, 3) := by decide +kernel
theorem dL_law_194 : decode cL_law 194 = .ok (.aload_n 1, 1) := by decide +kernel
theorem dL_law_195 : decode cL_law 195 = .ok (.iconst 1, 1) := by decide +kernel
theorem dL_law_196 : decode cL_law 196 = .ok (.iload 4, 2) := by decide +kernel
theorem dL_law_198 : decode cL_law 198 = .ok (.iconst 5, 1) := by decide +kernel
theorem dL_law_199 : decode cL_law 199 = .ok (.ishr, 1) := by decide +kernel
theorem dL_law_200 : decode cL_law 200 = .ok (.bipush 20, 2) := by decide +kernel
theorem dL_law_202 : decode cL_law 202 = .ok (.invokestatic 31, 3) := by decide +kernel
theorem dL_law_205 : decode cL_law 205 = .ok (.iadd, 1) := by decide +kernel
theorem dL_law_206 : decode cL_law 206 = .ok (.invokestatic 109, 3) := by decide +kernel
theorem dL_law_209 : decode cL_law 209 = .ok (.ifCond .ne 5, 3) := by decide +kernel
theorem dL_law_212 : decode cL_law 212 = .ok (.iconst 0, 1) := by decide +kernel
theorem dL_law_213 : decode cL_law 213 = .ok (.ireturn, 1) := by decide +kernel
theorem dL_law_214 : decode cL_law 214 = .ok (.iinc 2 1, 3) := by decide +kernel
theorem dL_law_217 : decode cL_law 217 = .ok (.goto (-151), 3) := by decide +kernel
theorem dL_law_220 : decode cL_law 220 = .ok (.aload_n 1, 1) := by decide +kernel
theorem dL_law_221 : decode cL_law 221 = .ok (.bipush 16, 2) := by decide +kernel
theorem dL_law_223 : decode cL_law 223 = .ok (.iconst 0, 1) := by decide +kernel
theorem dL_law_224 : decode cL_law 224 = .ok (.iconst 1, 1) := by decide +kernel
theorem dL_law_225 : decode cL_law 225 = .ok (.iconst 1, 1) := by decide +kernel
theorem dL_law_226 : decode cL_law 226 = .ok (.iconst 1, 1) := by decide +kernel
theorem dL_law_227 : decode cL_law 227 = .ok (.invokevirtual 71, 3) := by decide +kernel
theorem dL_law_230 : decode cL_law 230 = .ok (.bipush (-2), 2) := by decide +kernel
theorem dL_law_232 : decode cL_law 232 = .ok (.if_icmp .ne 100, 3) := by decide +kernel
theorem dL_law_235 : decode cL_law 235 = .ok (.aload_n 1, 1) := by decide +kernel
theorem dL_law_236 : decode cL_law 236 = .ok (.bipush 100, 2) := by decide +kernel
theorem dL_law_238 : decode cL_law 238 = .ok (.iconst 1, 1) := by decide +kernel
theorem dL_law_239 : decode cL_law 239 = .ok (.invokevirtual 62, 3) := by decide +kernel
theorem dL_law_242 : decode cL_law 242 = .ok (.bipush (-2), 2) := by decide +kernel
theorem dL_law_244 : decode cL_law 244 = .ok (.if_icmp .ne 88, 3) := by decide +kernel
theorem dL_law_247 : decode cL_law 247 = .ok (.aload_n 1, 1) := by decide +kernel
theorem dL_law_248 : decode cL_law 248 = .ok (.iconst 0, 1) := by decide +kernel
theorem dL_law_249 : decode cL_law 249 = .ok (.invokevirtual 53, 3) := by decide +kernel
theorem dL_law_252 : decode cL_law 252 = .ok (.bipush (-2), 2) := by decide +kernel
theorem dL_law_254 : decode cL_law 254 = .ok (.if_icmp .ne 78, 3) := by decide +kernel
theorem dL_law_257 : decode cL_law 257 = .ok (.aload_n 1, 1) := by decide +kernel
theorem dL_law_258 : decode cL_law 258 = .ok (.iconst 0, 1) := by decide +kernel
theorem dL_law_259 : decode cL_law 259 = .ok (.bipush 10, 2) := by decide +kernel
theorem dL_law_261 : decode cL_law 261 = .ok (.invokevirtual 81, 3) := by decide +kernel
theorem dL_law_264 : decode cL_law 264 = .ok (.bipush (-2), 2) := by decide +kernel
theorem dL_law_266 : decode cL_law 266 = .ok (.if_icmp .ne 66, 3) := by decide +kernel
theorem dL_law_269 : decode cL_law 269 = .ok (.aload_n 1, 1) := by decide +kernel
theorem dL_law_270 : decode cL_law 270 = .ok (.iconst 4, 1) := by decide +kernel
theorem dL_law_271 : decode cL_law 271 = .ok (.iconst 1, 1) := by decide +kernel
theorem dL_law_272 : decode cL_law 272 = .ok (.invokevirtual 81, 3) := by decide +kernel
theorem dL_law_275 : decode cL_law 275 = .ok (.bipush (-2), 2) := by decide +kernel
theorem dL_law_277 : decode cL_law 277 = .ok (.if_icmp .ne 55, 3) := by decide +kernel
theorem dL_law_280 : decode cL_law 280 = .ok (.aload_n 1, 1) := by decide +kernel
theorem dL_law_281 : decode cL_law 281 = .ok (.iconst 0, 1) := by decide +kernel
theorem dL_law_282 : decode cL_law 282 = .ok (.iconst 0, 1) := by decide +kernel
theorem dL_law_283 : decode cL_law 283 = .ok (.bipush 100, 2) := by decide +kernel
theorem dL_law_285 : decode cL_law 285 = .ok (.invokevirtual 27, 3) := by decide +kernel
theorem dL_law_288 : decode cL_law 288 = .ok (.bipush (-2), 2) := by decide +kernel
theorem dL_law_290 : decode cL_law 290 = .ok (.if_icmp .ne 42, 3) := by decide +kernel
theorem dL_law_293 : decode cL_law 293 = .ok (.aload_n 1, 1) := by decide +kernel
theorem dL_law_294 : decode cL_law 294 = .ok (.iconst 0, 1) := by decide +kernel
theorem dL_law_295 : decode cL_law 295 = .ok (.bipush 24, 2) := by decide +kernel
theorem dL_law_297 : decode cL_law 297 = .ok (.iconst 0, 1) := by decide +kernel
theorem dL_law_298 : decode cL_law 298 = .ok (.invokevirtual 27, 3) := by decide +kernel
theorem dL_law_301 : decode cL_law 301 = .ok (.iconst (-1), 1) := by decide +kernel
theorem dL_law_302 : decode cL_law 302 = .ok (.if_icmp .ne 30, 3) := by decide +kernel
theorem dL_law_305 : decode cL_law 305 = .ok (.aload_n 1, 1) := by decide +kernel
theorem dL_law_306 : decode cL_law 306 = .ok (.bipush 21, 2) := by decide +kernel
theorem dL_law_308 : decode cL_law 308 = .ok (.iconst 0, 1) := by decide +kernel
theorem dL_law_309 : decode cL_law 309 = .ok (.invokevirtual 59, 3) := by decide +kernel
theorem dL_law_312 : decode cL_law 312 = .ok (.bipush (-2), 2) := by decide +kernel
theorem dL_law_314 : decode cL_law 314 = .ok (.if_icmp .ne 18, 3) := by decide +kernel
theorem dL_law_317 : decode cL_law 317 = .ok (.aload_n 1, 1) := by decide +kernel
theorem dL_law_318 : decode cL_law 318 = .ok (.bipush 14, 2) := by decide +kernel
theorem dL_law_320 : decode cL_law 320 = .ok (.invokevirtual 17, 3) := by decide +kernel
theorem dL_law_323 : decode cL_law 323 = .ok (.bipush (-2), 2) := by decide +kernel
theorem dL_law_325 : decode cL_law 325 = .ok (.if_icmp .ne 7, 3) := by decide +kernel
theorem dL_law_328 : decode cL_law 328 = .ok (.iconst 1, 1) := by decide +kernel
theorem dL_law_329 : decode cL_law 329 = .ok (.goto 4, 3) := by decide +kernel
theorem dL_law_332 : decode cL_law 332 = .ok (.iconst 0, 1) := by decide +kernel
theorem dL_law_333 : decode cL_law 333 = .ok (.ireturn, 1) := by decide +kernel
abbrev vwCl : List vw_C := [(RX0, TX0, 3), (RX1, TX1, 3), (RX2, TX2, 2), (RX3, TX3, 1), (RX4, TX4, 4), (RX5, TX5, 7), (RX6, TX6, 10), (RX7, TX7, 6)]
