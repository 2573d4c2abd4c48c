theorem in_r {big : List Cond} (ws : List Cond) (ps : List Nat) (hp : ws = ps.filterMap (fun i => big[i]?)) : ∀ w ∈ ws, w ∈ big := by
  intro w hw
  rw [hp] at hw
  obtain ⟨i, -, hi⟩ := List.mem_filterMap.mp hw
  exact List.mem_of_getElem? hi
set_option maxRecDepth 20000 in
theorem lwi_wsL_law_r1 : ∀ w ∈ wsL_law_r1, w ∈ lw_tbl := in_r _ [64, 65, 51, 622, 623, 59, 904, 66, 67, 68, 69, 70, 71, 72, 73, 52, 252, 179, 180, 55, 253, 195, 196, 56] (by decide +kernel)
set_option maxRecDepth 20000 in
theorem lwi_wsL_law_r2 : ∀ w ∈ wsL_law_r2, w ∈ lw_tbl := in_r _ [254, 255, 214, 215, 57, 256, 230, 231, 58, 257, 75, 76, 77, 80, 81, 82, 83, 84, 86, 145, 87, 88, 53, 148] (by decide +kernel)
set_option maxRecDepth 20000 in
theorem lwi_wsL_law_r3 : ∀ w ∈ wsL_law_r3, w ∈ lw_tbl := in_r _ [135, 136, 54, 151, 154, 157, 160, 162, 90, 91, 92, 134, 96, 98, 100, 103, 106, 108, 109, 110, 112, 138, 139, 140] (by decide +kernel)
set_option maxRecDepth 20000 in
theorem lwi_wsL_law_r4 : ∀ w ∈ wsL_law_r4, w ∈ lw_tbl := in_r _ [141, 182, 183, 184, 185, 186, 187, 198, 199, 200, 201, 203, 204, 205, 217, 218, 219, 229, 220, 221, 232, 233, 234, 235] (by decide +kernel)
set_option maxRecDepth 20000 in
theorem lwi_wsL_law_r5 : ∀ w ∈ wsL_law_r5, w ∈ lw_tbl := in_r _ [237, 239, 241, 236, 624, 625, 626, 627, 628, 629, 631, 650, 632, 633, 271, 272, 273, 274, 278, 280, 147, 275, 276, 277] (by decide +kernel)
set_option maxRecDepth 20000 in
theorem lwi_wsL_law_r6 : ∀ w ∈ wsL_law_r6, w ∈ lw_tbl := in_r _ [282, 283, 284, 285, 304, 305, 61, 306, 287, 288, 289, 290, 291, 293, 292, 60, 294, 295, 296, 297, 93, 298, 299, 300] (by decide +kernel)
set_option maxRecDepth 20000 in
theorem lwi_wsL_law_r7 : ∀ w ∈ wsL_law_r7, w ∈ lw_tbl := in_r _ [301, 302, 303, 651, 652, 653, 654, 655, 656, 657, 658, 660, 15, 661, 630, 307, 308, 309, 310, 149, 156, 311, 313, 0] (by decide +kernel)
set_option maxRecDepth 20000 in
theorem lwi_wsL_law_r8 : ∀ w ∈ wsL_law_r8, w ∈ lw_tbl := in_r _ [314, 95, 315, 316, 317, 318, 319, 320, 321, 662, 663, 664, 665, 666, 668, 16, 669, 670, 672, 17, 673, 322, 323, 324] (by decide +kernel)
set_option maxRecDepth 20000 in
theorem lwi_wsL_law_r9 : ∀ w ∈ wsL_law_r9, w ∈ lw_tbl := in_r _ [325, 107, 111, 326, 328, 1, 329, 330, 331, 332, 333, 334, 335, 336, 337, 338, 339, 340, 341, 342, 61, 343, 674, 675] (by decide +kernel)
set_option maxRecDepth 20000 in
theorem lwi_wsL_law_r10 : ∀ w ∈ wsL_law_r10, w ∈ lw_tbl := in_r _ [676, 677, 678, 680, 18, 681, 682, 684, 19, 685, 686, 688, 20, 689, 690, 692, 21, 693, 694, 695, 696, 344, 345, 346] (by decide +kernel)
set_option maxRecDepth 20000 in
theorem lwi_wsL_law_r11 : ∀ w ∈ wsL_law_r11, w ∈ lw_tbl := in_r _ [347, 348, 349, 350, 697, 698, 699, 700, 351, 352, 353, 354, 161, 355, 357, 2, 358, 359, 360, 361, 362, 701, 702, 703] (by decide +kernel)
set_option maxRecDepth 20000 in
theorem lwi_wsL_law_r12 : ∀ w ∈ wsL_law_r12, w ∈ lw_tbl := in_r _ [704, 705, 706, 707, 708, 710, 22, 711, 363, 364, 365, 366, 367, 369, 3, 370, 712, 713, 714, 715, 716, 718, 23, 719] (by decide +kernel)
set_option maxRecDepth 20000 in
theorem lwi_wsL_law_r13 : ∀ w ∈ wsL_law_r13, w ∈ lw_tbl := in_r _ [371, 372, 373, 374, 153, 375, 377, 4, 378, 379, 380, 381, 382, 383, 384, 385, 386, 387, 388, 389, 390, 146, 152, 155] (by decide +kernel)
set_option maxRecDepth 20000 in
theorem lwi_wsL_law_r14 : ∀ w ∈ wsL_law_r14, w ∈ lw_tbl := in_r _ [158, 391, 392, 394, 5, 395, 150, 396, 397, 62, 398, 399, 400, 401, 402, 404, 406, 6, 407, 94, 104, 101, 408, 409] (by decide +kernel)
set_option maxRecDepth 20000 in
theorem lwi_wsL_law_r15 : ∀ w ∈ wsL_law_r15, w ∈ lw_tbl := in_r _ [410, 411, 413, 414, 415, 416, 417, 418, 419, 420, 421, 423, 7, 424, 425, 426, 427, 428, 429, 430, 431, 432, 433, 434] (by decide +kernel)
set_option maxRecDepth 20000 in
theorem lwi_wsL_law_r16 : ∀ w ∈ wsL_law_r16, w ∈ lw_tbl := in_r _ [435, 436, 437, 438, 439, 440, 441, 720, 721, 722, 723, 724, 726, 24, 727, 728, 730, 25, 731, 732, 734, 26, 735, 736] (by decide +kernel)
set_option maxRecDepth 20000 in
theorem lwi_wsL_law_r17 : ∀ w ∈ wsL_law_r17, w ∈ lw_tbl := in_r _ [738, 27, 739, 740, 742, 28, 743, 744, 746, 29, 747, 748, 750, 30, 751, 442, 443, 444, 445, 97, 99, 102, 105, 446] (by decide +kernel)
set_option maxRecDepth 20000 in
theorem lwi_wsL_law_r18 : ∀ w ∈ wsL_law_r18, w ∈ lw_tbl := in_r _ [447, 448, 449, 450, 752, 753, 754, 755, 756, 758, 31, 759, 451, 452, 453, 454, 455, 760, 761, 762, 763, 764, 765, 766] (by decide +kernel)
set_option maxRecDepth 20000 in
theorem lwi_wsL_law_r19 : ∀ w ∈ wsL_law_r19, w ∈ lw_tbl := in_r _ [456, 457, 458, 459, 460, 767, 768, 769, 770, 461, 462, 463, 464, 465, 466, 467, 468, 469, 470, 471, 472, 473, 771, 772] (by decide +kernel)
set_option maxRecDepth 20000 in
theorem lwi_wsL_law_r20 : ∀ w ∈ wsL_law_r20, w ∈ lw_tbl := in_r _ [773, 774, 775, 777, 32, 778, 779, 781, 33, 782, 783, 785, 34, 786, 474, 475, 476, 477, 159, 163, 223, 206, 478, 479] (by decide +kernel)
set_option maxRecDepth 20000 in
theorem lwi_wsL_law_r21 : ∀ w ∈ wsL_law_r21, w ∈ lw_tbl := in_r _ [480, 481, 482, 483, 484, 485, 486, 487, 488, 489, 490, 491, 787, 788, 789, 790, 634, 791, 793, 35, 794, 795, 797, 36] (by decide +kernel)
set_option maxRecDepth 20000 in
theorem lwi_wsL_law_r22 : ∀ w ∈ wsL_law_r22, w ∈ lw_tbl := in_r _ [798, 799, 801, 37, 802, 492, 493, 494, 495, 496, 497, 498, 499, 803, 804, 805, 806, 500, 501, 502, 503, 504, 807, 808] (by decide +kernel)
set_option maxRecDepth 20000 in
theorem lwi_wsL_law_r23 : ∀ w ∈ wsL_law_r23, w ∈ lw_tbl := in_r _ [809, 810, 505, 506, 507, 508, 509, 510, 511, 512, 811, 812, 813, 814, 513, 514, 515, 516, 517, 518, 519, 520, 815, 816] (by decide +kernel)
set_option maxRecDepth 20000 in
theorem lwi_wsL_law_r24 : ∀ w ∈ wsL_law_r24, w ∈ lw_tbl := in_r _ [817, 818, 819, 821, 38, 822, 521, 522, 523, 524, 525, 526, 63, 527, 528, 529, 530, 823, 824, 825, 826, 827, 828, 829] (by decide +kernel)
set_option maxRecDepth 20000 in
theorem lwi_wsL_law_r25 : ∀ w ∈ wsL_law_r25, w ∈ lw_tbl := in_r _ [531, 532, 533, 534, 535, 536, 537, 538, 540, 541, 542, 543, 830, 831, 832, 833, 834, 544, 545, 546, 547, 835, 836, 837] (by decide +kernel)
set_option maxRecDepth 20000 in
theorem lwi_wsL_law_r26 : ∀ w ∈ wsL_law_r26, w ∈ lw_tbl := in_r _ [838, 548, 549, 550, 551, 552, 553, 554, 555, 222, 556, 557, 558, 559, 560, 561, 562, 563, 564, 565, 566, 567, 568, 570] (by decide +kernel)
set_option maxRecDepth 20000 in
theorem lwi_wsL_law_r27 : ∀ w ∈ wsL_law_r27, w ∈ lw_tbl := in_r _ [8, 571, 572, 574, 9, 575, 576, 578, 10, 579, 580, 581, 582, 839, 840, 841, 842, 843, 845, 39, 846, 847, 849, 40] (by decide +kernel)
set_option maxRecDepth 20000 in
theorem lwi_wsL_law_r28 : ∀ w ∈ wsL_law_r28, w ∈ lw_tbl := in_r _ [850, 851, 853, 41, 854, 855, 857, 42, 858, 859, 861, 43, 862, 863, 865, 44, 866, 867, 869, 45, 870, 871, 873, 46] (by decide +kernel)
set_option maxRecDepth 20000 in
theorem lwi_wsL_law_r29 : ∀ w ∈ wsL_law_r29, w ∈ lw_tbl := in_r _ [874, 583, 584, 585, 586, 238, 587, 588, 590, 11, 591, 240, 592, 594, 12, 595, 242, 596, 598, 13, 599, 600, 602, 14] (by decide +kernel)
set_option maxRecDepth 20000 in
theorem lwi_wsL_law_r30 : ∀ w ∈ wsL_law_r30, w ∈ lw_tbl := in_r _ [603, 604, 875, 876, 877, 878, 879, 880, 882, 47, 883, 884, 886, 48, 887, 888, 890, 49, 891, 605, 606, 607, 608, 609] (by decide +kernel)
set_option maxRecDepth 20000 in
theorem lwi_wsL_law_r31 : ∀ w ∈ wsL_law_r31, w ∈ lw_tbl := in_r _ [610, 611, 612, 892, 893, 894, 895, 613, 614, 615, 616, 617, 896, 897, 898, 899, 618, 619, 620, 621, 900, 901, 902, 903] (by decide +kernel)
set_option maxRecDepth 20000 in
theorem lwi_wsX70 : ∀ w ∈ wsX70, w ∈ lw_tbl := in_r _ [258, 260, 262, 264, 266, 268] (by decide +kernel)
set_option maxRecDepth 20000 in
theorem lwi_wsX80 : ∀ w ∈ wsX80, w ∈ lw_tbl := in_r _ [635, 637, 639, 641, 643, 645, 647] (by decide +kernel)
set_option maxRecDepth 20000 in
theorem lwi_wsX50 : ∀ w ∈ wsX50, w ∈ lw_tbl := in_r _ [164, 166, 168, 170, 172, 174, 176] (by decide +kernel)
set_option maxRecDepth 20000 in
theorem lwi_wsX00 : ∀ w ∈ wsX00, w ∈ lw_tbl := in_r _ [188, 190, 192] (by decide +kernel)
set_option maxRecDepth 20000 in
theorem lwi_wsX10 : ∀ w ∈ wsX10, w ∈ lw_tbl := in_r _ [207, 209, 211] (by decide +kernel)
set_option maxRecDepth 20000 in
theorem lwi_wsX20 : ∀ w ∈ wsX20, w ∈ lw_tbl := in_r _ [224, 226] (by decide +kernel)
set_option maxRecDepth 20000 in
theorem lwi_wsX40 : ∀ w ∈ wsX40, w ∈ lw_tbl := in_r _ [243, 245, 247, 249] (by decide +kernel)
set_option maxRecDepth 20000 in
theorem lwi_wsX60 : ∀ w ∈ wsX60, w ∈ lw_tbl := in_r _ [113, 115, 117, 119, 121, 123, 125, 127, 129, 131] (by decide +kernel)
set_option maxRecDepth 20000 in
theorem lwi_wsX30 : ∀ w ∈ wsX30, w ∈ lw_tbl := in_r _ [142] (by decide +kernel)
theorem wsL_law_in : ∀ w ∈ wsL_law, w ∈ lw_tbl := by
  intro w h
  unfold wsL_law at h
  simp only [List.mem_append] at h
  rcases h with (((((((((((h | (h | (h | (h | (h | (h | (h | (h | (h | (h | (h | (h | (h | (h | (h | (h | (h | (h | (h | (h | (h | (h | (h | (h | (h | (h | (h | (h | (h | (h | (h)))))))))))))))))))))))))))))))) | h) | h) | h) | h) | h) | h) | h) | h) | h) | h
  · exact lwi_wsL_law_r1 w h
  · exact lwi_wsL_law_r2 w h
  · exact lwi_wsL_law_r3 w h
  · exact lwi_wsL_law_r4 w h
  · exact lwi_wsL_law_r5 w h
  · exact lwi_wsL_law_r6 w h
  · exact lwi_wsL_law_r7 w h
  · exact lwi_wsL_law_r8 w h
  · exact lwi_wsL_law_r9 w h
  · exact lwi_wsL_law_r10 w h
  · exact lwi_wsL_law_r11 w h
  · exact lwi_wsL_law_r12 w h
  · exact lwi_wsL_law_r13 w h
  · exact lwi_wsL_law_r14 w h
  · exact lwi_wsL_law_r15 w h
  · exact lwi_wsL_law_r16 w h
  · exact lwi_wsL_law_r17 w h
  · exact lwi_wsL_law_r18 w h
  · exact lwi_wsL_law_r19 w h
  · exact lwi_wsL_law_r20 w h
  · exact lwi_wsL_law_r21 w h
  · exact lwi_wsL_law_r22 w h
  · exact lwi_wsL_law_r23 w h
  · exact lwi_wsL_law_r24 w h
  · exact lwi_wsL_law_r25 w h
  · exact lwi_wsL_law_r26 w h
  · exact lwi_wsL_law_r27 w h
  · exact lwi_wsL_law_r28 w h
  · exact lwi_wsL_law_r29 w h
  · exact lwi_wsL_law_r30 w h
  · exact lwi_wsL_law_r31 w h
  · exact lwi_wsX70 w h
  · exact lwi_wsX80 w h
  · exact lwi_wsX50 w h
  · exact lwi_wsX00 w h
  · exact lwi_wsX10 w h
  · exact lwi_wsX20 w h
  · exact lwi_wsX40 w h
  · exact lwi_wsX60 w h
  · exact lwi_wsX30 w h
  · exact absurd h List.not_mem_nil
theorem inX0 : ∀ w ∈ wsX00, w ∈ lw_tbl := fun w h => wsL_law_in w (inlX0 w h)
theorem inX1 : ∀ w ∈ wsX10, w ∈ lw_tbl := fun w h => wsL_law_in w (inlX1 w h)
theorem inX2 : ∀ w ∈ wsX20, w ∈ lw_tbl := fun w h => wsL_law_in w (inlX2 w h)
theorem inX3 : ∀ w ∈ wsX30, w ∈ lw_tbl := fun w h => wsL_law_in w (inlX3 w h)
theorem inX4 : ∀ w ∈ wsX40, w ∈ lw_tbl := fun w h => wsL_law_in w (inlX4 w h)
theorem inX5 : ∀ w ∈ wsX50, w ∈ lw_tbl := fun w h => wsL_law_in w (inlX5 w h)
theorem inX6 : ∀ w ∈ wsX60, w ∈ lw_tbl := fun w h => wsL_law_in w (inlX6 w h)
theorem inX7 : ∀ w ∈ wsX70, w ∈ lw_tbl := fun w h => wsL_law_in w (inlX7 w h)
theorem inX8 : ∀ w ∈ wsX80, w ∈ lw_tbl := fun w h => wsL_law_in w (inlX8 w h)
