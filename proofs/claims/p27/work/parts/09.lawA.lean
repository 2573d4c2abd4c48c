theorem in_r {big : List Cond} (ws : List Cond) (ps : List Nat) (hp : ws = ps.filterMap (fun i => big[i]?)) : ∀ w ∈ ws, w ∈ big := by
  intro w hw
  rw [hp] at hw
  obtain ⟨i, -, hi⟩ := List.mem_filterMap.mp hw
  exact List.mem_of_getElem? hi
set_option maxRecDepth 20000 in
theorem lwi_wsL_law_r1 : ∀ w ∈ wsL_law_r1, w ∈ lw_tbl := in_r _ [21, 22, 9, 532, 23, 24, 25, 26, 27, 28, 29, 30, 10, 205, 136, 137, 13, 206, 152, 153, 14, 207, 208, 171] rfl
set_option maxRecDepth 20000 in
theorem lwi_wsL_law_r2 : ∀ w ∈ wsL_law_r2, w ∈ lw_tbl := in_r _ [172, 15, 209, 186, 187, 16, 210, 32, 33, 34, 37, 38, 39, 40, 41, 43, 102, 44, 45, 11, 105, 92, 93, 12] rfl
set_option maxRecDepth 20000 in
theorem lwi_wsL_law_r3 : ∀ w ∈ wsL_law_r3, w ∈ lw_tbl := in_r _ [108, 111, 114, 117, 119, 47, 48, 49, 91, 53, 55, 57, 60, 63, 65, 66, 67, 69, 95, 96, 97, 98, 139, 140] rfl
set_option maxRecDepth 20000 in
theorem lwi_wsL_law_r4 : ∀ w ∈ wsL_law_r4, w ∈ lw_tbl := in_r _ [141, 142, 143, 144, 155, 156, 157, 158, 160, 161, 162, 174, 175, 176, 185, 177, 178, 188, 189, 190, 191, 193, 194, 195] rfl
set_option maxRecDepth 20000 in
theorem lwi_wsL_law_r5 : ∀ w ∈ wsL_law_r5, w ∈ lw_tbl := in_r _ [192, 404, 405, 8, 406, 407, 408, 409, 410, 110, 268, 269, 270, 228, 229, 230, 411, 308, 309, 310, 412, 413, 414, 415] rfl
set_option maxRecDepth 20000 in
theorem lwi_wsL_law_r6 : ∀ w ∈ wsL_law_r6, w ∈ lw_tbl := in_r _ [416, 304, 305, 306, 307, 417, 418, 419, 420, 421, 422, 423, 424, 295, 296, 297, 298, 113, 106, 52, 116, 118, 120, 104] rfl
set_option maxRecDepth 20000 in
theorem lwi_wsL_law_r7 : ∀ w ∈ wsL_law_r7, w ∈ lw_tbl := in_r _ [179, 163, 299, 300, 301, 302, 303, 311, 312, 313, 314, 315, 316, 17, 317, 318, 319, 320, 321, 425, 426, 427, 428, 429] rfl
set_option maxRecDepth 20000 in
theorem lwi_wsL_law_r8 : ∀ w ∈ wsL_law_r8, w ∈ lw_tbl := in_r _ [258, 259, 367, 368, 369, 370, 371, 372, 373, 374, 375, 376, 377, 378, 389, 390, 391, 392, 393, 394, 395, 396, 240, 241] rfl
set_option maxRecDepth 20000 in
theorem lwi_wsL_law_r9 : ∀ w ∈ wsL_law_r9, w ∈ lw_tbl := in_r _ [242, 243, 244, 246, 245, 18, 247, 248, 249, 250, 50, 251, 252, 253, 254, 255, 256, 322, 323, 324, 325, 326, 327, 328] rfl
set_option maxRecDepth 20000 in
theorem lwi_wsL_law_r10 : ∀ w ∈ wsL_law_r10, w ∈ lw_tbl := in_r _ [329, 330, 332, 3, 333, 107, 334, 335, 19, 336, 337, 338, 339, 340, 342, 344, 4, 345, 51, 61, 58, 346, 347, 348] rfl
set_option maxRecDepth 20000 in
theorem lwi_wsL_law_r11 : ∀ w ∈ wsL_law_r11, w ∈ lw_tbl := in_r _ [349, 351, 352, 353, 354, 355, 356, 17, 357, 358, 359, 360, 361, 362, 363, 365, 5, 366, 397, 398, 399, 481, 482, 483] rfl
set_option maxRecDepth 20000 in
theorem lwi_wsL_law_r12 : ∀ w ∈ wsL_law_r12, w ∈ lw_tbl := in_r _ [400, 401, 402, 403, 433, 434, 435, 436, 54, 56, 59, 62, 64, 68, 437, 439, 6, 440, 441, 442, 443, 444, 445, 260] rfl
set_option maxRecDepth 20000 in
theorem lwi_wsL_law_r13 : ∀ w ∈ wsL_law_r13, w ∈ lw_tbl := in_r _ [261, 262, 263, 264, 266, 0, 267, 235, 236, 237, 238, 257, 271, 272, 273, 274, 484, 485, 486, 487, 488, 489, 490, 491] rfl
set_option maxRecDepth 20000 in
theorem lwi_wsL_law_r14 : ∀ w ∈ wsL_law_r14, w ∈ lw_tbl := in_r _ [492, 493, 494, 495, 496, 497, 498, 499, 500, 501, 502, 275, 276, 277, 278, 279, 281, 1, 282, 283, 284, 285, 286, 224] rfl
set_option maxRecDepth 20000 in
theorem lwi_wsL_law_r15 : ∀ w ∈ wsL_law_r15, w ∈ lw_tbl := in_r _ [225, 226, 227, 231, 233, 503, 504, 505, 506, 507, 508, 509, 510, 512, 7, 513, 514, 515, 516, 517, 518, 519, 520, 521] rfl
set_option maxRecDepth 20000 in
theorem lwi_wsL_law_r16 : ∀ w ∈ wsL_law_r16, w ∈ lw_tbl := in_r _ [103, 109, 112, 115, 465, 522, 523, 524, 525, 526, 527, 528, 529, 530, 531, 287, 288, 289, 290, 291, 293, 2, 294, 446] rfl
set_option maxRecDepth 20000 in
theorem lwi_wsL_law_r17 : ∀ w ∈ wsL_law_r17, w ∈ lw_tbl := in_r _ [447, 448, 430, 431, 432, 449, 450, 451, 452, 453, 454, 455, 456, 457, 458, 459, 460, 461, 462, 463, 464, 466, 467, 468] rfl
set_option maxRecDepth 20000 in
theorem lwi_wsL_law_r18 : ∀ w ∈ wsL_law_r18, w ∈ lw_tbl := in_r _ [469, 470, 471, 472, 473, 474, 475, 476, 477, 379, 380, 381, 382, 383, 384, 20, 385, 386, 387, 388, 478, 479, 480] rfl
set_option maxRecDepth 20000 in
theorem lwi_wsX70 : ∀ w ∈ wsX70, w ∈ lw_tbl := in_r _ [211, 213, 215, 217, 219, 221] rfl
set_option maxRecDepth 20000 in
theorem lwi_wsX50 : ∀ w ∈ wsX50, w ∈ lw_tbl := in_r _ [121, 123, 125, 127, 129, 131, 133] rfl
set_option maxRecDepth 20000 in
theorem lwi_wsX00 : ∀ w ∈ wsX00, w ∈ lw_tbl := in_r _ [145, 147, 149] rfl
set_option maxRecDepth 20000 in
theorem lwi_wsX10 : ∀ w ∈ wsX10, w ∈ lw_tbl := in_r _ [164, 166, 168] rfl
set_option maxRecDepth 20000 in
theorem lwi_wsX20 : ∀ w ∈ wsX20, w ∈ lw_tbl := in_r _ [180, 182] rfl
set_option maxRecDepth 20000 in
theorem lwi_wsX40 : ∀ w ∈ wsX40, w ∈ lw_tbl := in_r _ [196, 198, 200, 202] rfl
set_option maxRecDepth 20000 in
theorem lwi_wsX60 : ∀ w ∈ wsX60, w ∈ lw_tbl := in_r _ [70, 72, 74, 76, 78, 80, 82, 84, 86, 88] rfl
set_option maxRecDepth 20000 in
theorem lwi_wsX30 : ∀ w ∈ wsX30, w ∈ lw_tbl := in_r _ [99] rfl
theorem wsL_law_in : ∀ w ∈ wsL_law, w ∈ lw_tbl := by
  intro w h
  unfold wsL_law at h
  simp only [List.mem_append] at h
  rcases h with ((((((((((h | (h | (h | (h | (h | (h | (h | (h | (h | (h | (h | (h | (h | (h | (h | (h | (h | (h))))))))))))))))))) | h) | h) | h) | h) | h) | h) | h) | h) | h
  · exact lwi_wsL_law_r1 w h
  · exact lwi_wsL_law_r2 w h
  · exact lwi_wsL_law_r3 w h
  · exact lwi_wsL_law_r4 w h
  · exact lwi_wsL_law_r5 w h
  · exact lwi_wsL_law_r6 w h
  · exact lwi_wsL_law_r7 w h
  · exact lwi_wsL_law_r8 w h
  · exact lwi_wsL_law_r9 w h
  · exact lwi_wsL_law_r10 w h
  · exact lwi_wsL_law_r11 w h
  · exact lwi_wsL_law_r12 w h
  · exact lwi_wsL_law_r13 w h
  · exact lwi_wsL_law_r14 w h
  · exact lwi_wsL_law_r15 w h
  · exact lwi_wsL_law_r16 w h
  · exact lwi_wsL_law_r17 w h
  · exact lwi_wsL_law_r18 w h
  · exact lwi_wsX70 w h
  · exact lwi_wsX50 w h
  · exact lwi_wsX00 w h
  · exact lwi_wsX10 w h
  · exact lwi_wsX20 w h
  · exact lwi_wsX40 w h
  · exact lwi_wsX60 w h
  · exact lwi_wsX30 w h
  · exact absurd h List.not_mem_nil
theorem inX0 : ∀ w ∈ wsX00, w ∈ lw_tbl := fun w h => wsL_law_in w (inlX0 w h)
theorem inX1 : ∀ w ∈ wsX10, w ∈ lw_tbl := fun w h => wsL_law_in w (inlX1 w h)
theorem inX2 : ∀ w ∈ wsX20, w ∈ lw_tbl := fun w h => wsL_law_in w (inlX2 w h)
theorem inX3 : ∀ w ∈ wsX30, w ∈ lw_tbl := fun w h => wsL_law_in w (inlX3 w h)
theorem inX4 : ∀ w ∈ wsX40, w ∈ lw_tbl := fun w h => wsL_law_in w (inlX4 w h)
theorem inX5 : ∀ w ∈ wsX50, w ∈ lw_tbl := fun w h => wsL_law_in w (inlX5 w h)
theorem inX6 : ∀ w ∈ wsX60, w ∈ lw_tbl := fun w h => wsL_law_in w (inlX6 w h)
theorem inX7 : ∀ w ∈ wsX70, w ∈ lw_tbl := fun w h => wsL_law_in w (inlX7 w h)
