theorem dL_isShot_241 : decode cL_isShot 241 = .ok (.invokevirtual 10, 3) := by decide +kernel
theorem dL_isShot_244 : decode cL_isShot 244 = .ok (.aload_n 2, 1) := by decide +kernel
theorem dL_isShot_245 : decode cL_isShot 245 = .ok (.iload 11, 2) := by decide +kernel
theorem dL_isShot_247 : decode cL_isShot 247 = .ok (.iaload, 1) := by decide +kernel
theorem dL_isShot_248 : decode cL_isShot 248 = .ok (.if_icmp .eq 5, 3) := by decide +kernel
theorem dL_isShot_251 : decode cL_isShot 251 = .ok (.iconst 0, 1) := by decide +kernel
theorem dL_isShot_252 : decode cL_isShot 252 = .ok (.ireturn, 1) := by decide +kernel
theorem dL_isShot_253 : decode cL_isShot 253 = .ok (.iinc 11 1, 3) := by decide +kernel
theorem dL_isShot_256 : decode cL_isShot 256 = .ok (.goto (-57), 3) := by decide +kernel
theorem dL_isShot_259 : decode cL_isShot 259 = .ok (.iload 10, 2) := by decide +kernel
theorem dL_isShot_261 : decode cL_isShot 261 = .ok (.iload 9, 2) := by decide +kernel
theorem dL_isShot_263 : decode cL_isShot 263 = .ok (.if_icmp .ne 45, 3) := by decide +kernel
theorem dL_isShot_266 : decode cL_isShot 266 = .ok (.aload_n 0, 1) := by decide +kernel
theorem dL_isShot_267 : decode cL_isShot 267 = .ok (.iconst 0, 1) := by decide +kernel
theorem dL_isShot_268 : decode cL_isShot 268 = .ok (.invokevirtual 17, 3) := by decide +kernel
theorem dL_isShot_271 : decode cL_isShot 271 = .ok (.iload 7, 2) := by decide +kernel
theorem dL_isShot_273 : decode cL_isShot 273 = .ok (.bipush 15, 2) := by decide +kernel
theorem dL_isShot_275 : decode cL_isShot 275 = .ok (.iload 5, 2) := by decide +kernel
theorem dL_isShot_277 : decode cL_isShot 277 = .ok (.imul, 1) := by decide +kernel
theorem dL_isShot_278 : decode cL_isShot 278 = .ok (.iadd, 1) := by decide +kernel
theorem dL_isShot_279 : decode cL_isShot 279 = .ok (.iload 6, 2) := by decide +kernel
theorem dL_isShot_281 : decode cL_isShot 281 = .ok (.iadd, 1) := by decide +kernel
theorem dL_isShot_282 : decode cL_isShot 282 = .ok (.if_icmp .ne 26, 3) := by decide +kernel
theorem dL_isShot_285 : decode cL_isShot 285 = .ok (.aload_n 0, 1) := by decide +kernel
theorem dL_isShot_286 : decode cL_isShot 286 = .ok (.iconst 2, 1) := by decide +kernel
theorem dL_isShot_287 : decode cL_isShot 287 = .ok (.invokevirtual 17, 3) := by decide +kernel
theorem dL_isShot_290 : decode cL_isShot 290 = .ok (.iload 8, 2) := by decide +kernel
theorem dL_isShot_292 : decode cL_isShot 292 = .ok (.iconst 1, 1) := by decide +kernel
theorem dL_isShot_293 : decode cL_isShot 293 = .ok (.iadd, 1) := by decide +kernel
theorem dL_isShot_294 : decode cL_isShot 294 = .ok (.if_icmp .ne 14, 3) := by decide +kernel
theorem dL_isShot_297 : decode cL_isShot 297 = .ok (.aload_n 0, 1) := by decide +kernel
theorem dL_isShot_298 : decode cL_isShot 298 = .ok (.invokestatic 40, 3) := by decide +kernel
theorem dL_isShot_301 : decode cL_isShot 301 = .ok (.ifCond .eq 7, 3) := by decide +kernel
theorem dL_isShot_304 : decode cL_isShot 304 = .ok (.iconst 1, 1) := by decide +kernel
theorem dL_isShot_305 : decode cL_isShot 305 = .ok (.goto 4, 3) := by decide +kernel
theorem dL_isShot_308 : decode cL_isShot 308 = .ok (.iconst 0, 1) := by decide +kernel
theorem dL_isShot_309 : decode cL_isShot 309 = .ok (.ireturn, 1) := by decide +kernel
theorem dL_leans_0 : decode cL_leans 0 = .ok (.aload_n 0, 1) := by decide +kernel
theorem dL_leans_1 : decode cL_leans 1 = .ok (.iload_n 1, 1) := by decide +kernel
theorem dL_leans_2 : decode cL_leans 2 = .ok (.invokevirtual 44, 3) := by decide +kernel
theorem dL_leans_5 : decode cL_leans 5 = .ok (.sipush 1000, 3) := by decide +kernel
theorem dL_leans_8 : decode cL_leans 8 = .ok (.isub, 1) := by decide +kernel
theorem dL_leans_9 : decode cL_leans 9 = .ok (.istore_n 2, 1) := by decide +kernel
theorem dL_leans_10 : decode cL_leans 10 = .ok (.aload_n 0, 1) := by decide +kernel
theorem dL_leans_11 : decode cL_leans 11 = .ok (.bipush 8, 2) := by decide +kernel
theorem dL_leans_13 : decode cL_leans 13 = .ok (.invokevirtual 17, 3) := by decide +kernel
theorem dL_leans_16 : decode cL_leans 16 = .ok (.istore_n 3, 1) := by decide +kernel
theorem dL_leans_17 : decode cL_leans 17 = .ok (.aload_n 0, 1) := by decide +kernel
theorem dL_leans_18 : decode cL_leans 18 = .ok (.iload_n 1, 1) := by decide +kernel
theorem dL_leans_19 : decode cL_leans 19 = .ok (.iconst 0, 1) := by decide +kernel
theorem dL_leans_20 : decode cL_leans 20 = .ok (.invokevirtual 24, 3) := by decide +kernel
theorem dL_leans_23 : decode cL_leans 23 = .ok (.iload_n 3, 1) := by decide +kernel
theorem dL_leans_24 : decode cL_leans 24 = .ok (.imul, 1) := by decide +kernel
theorem dL_leans_25 : decode cL_leans 25 = .ok (.istore 4, 2) := by decide +kernel
theorem dL_leans_27 : decode cL_leans 27 = .ok (.aload_n 0, 1) := by decide +kernel
theorem dL_leans_28 : decode cL_leans 28 = .ok (.iload_n 1, 1) := by decide +kernel
theorem dL_leans_29 : decode cL_leans 29 = .ok (.iconst 2, 1) := by decide +kernel
theorem dL_leans_30 : decode cL_leans 30 = .ok (.invokevirtual 24, 3) := by decide +kernel
theorem dL_leans_33 : decode cL_leans 33 = .ok (.iconst 1, 1) := by decide +kernel
theorem dL_leans_34 : decode cL_leans 34 = .ok (.isub, 1) := by decide +kernel
theorem dL_leans_35 : decode cL_leans 35 = .ok (.iload_n 3, 1) := by decide +kernel
theorem dL_leans_36 : decode cL_leans 36 = .ok (.imul, 1) := by decide +kernel
theorem dL_leans_37 : decode cL_leans 37 = .ok (.istore 5, 2) := by decide +kernel
theorem dL_leans_39 : decode cL_leans 39 = .ok (.iload_n 3, 1) := by decide +kernel
theorem dL_leans_40 : decode cL_leans 40 = .ok (.ifCond .ne 20, 3) := by decide +kernel
theorem dL_leans_43 : decode cL_leans 43 = .ok (.iload_n 2, 1) := by decide +kernel
theorem dL_leans_44 : decode cL_leans 44 = .ok (.ifCond .ne 14, 3) := by decide +kernel
theorem dL_leans_47 : decode cL_leans 47 = .ok (.aload_n 0, 1) := by decide +kernel
theorem dL_leans_48 : decode cL_leans 48 = .ok (.invokevirtual 47, 3) := by decide +kernel
theorem dL_leans_51 : decode cL_leans 51 = .ok (.ifCond .ne 7, 3) := by decide +kernel
theorem dL_leans_54 : decode cL_leans 54 = .ok (.iconst 1, 1) := by decide +kernel
theorem dL_leans_55 : decode cL_leans 55 = .ok (.goto 4, 3) := by decide +kernel
theorem dL_leans_58 : decode cL_leans 58 = .ok (.iconst 0, 1) := by decide +kernel
theorem dL_leans_59 : decode cL_leans 59 = .ok (.ireturn, 1) := by decide +kernel
theorem dL_leans_60 : decode cL_leans 60 = .ok (.aload_n 0, 1) := by decide +kernel
theorem dL_leans_61 : decode cL_leans 61 = .ok (.iconst 0, 1) := by decide +kernel
theorem dL_leans_62 : decode cL_leans 62 = .ok (.invokevirtual 17, 3) := by decide +kernel
theorem dL_leans_65 : decode cL_leans 65 = .ok (.sipush 9500, 3) := by decide +kernel
theorem dL_leans_68 : decode cL_leans 68 = .ok (.if_icmp .le 5, 3) := by decide +kernel
theorem dL_leans_71 : decode cL_leans 71 = .ok (.iconst 1, 1) := by decide +kernel
theorem dL_leans_72 : decode cL_leans 72 = .ok (.ireturn, 1) := by decide +kernel
theorem dL_leans_73 : decode cL_leans 73 = .ok (.aload_n 0, 1) := by decide +kernel
theorem dL_leans_74 : decode cL_leans 74 = .ok (.iconst 0, 1) := by decide +kernel
theorem dL_leans_75 : decode cL_leans 75 = .ok (.invokevirtual 50, 3) := by decide +kernel
theorem dL_leans_78 : decode cL_leans 78 = .ok (.istore 6, 2) := by decide +kernel
theorem dL_leans_80 : decode cL_leans 80 = .ok (.iconst 0, 1) := by decide +kernel
theorem dL_leans_81 : decode cL_leans 81 = .ok (.istore 7, 2) := by decide +kernel
theorem dL_leans_83 : decode cL_leans 83 = .ok (.iconst 1, 1) := by decide +kernel
theorem dL_leans_84 : decode cL_leans 84 = .ok (.istore 8, 2) := by decide +kernel
theorem dL_leans_86 : decode cL_leans 86 = .ok (.iconst 0, 1) := by decide +kernel
theorem dL_leans_87 : decode cL_leans 87 = .ok (.istore 9, 2) := by decide +kernel
theorem dL_leans_89 : decode cL_leans 89 = .ok (.iload 9, 2) := by decide +kernel
theorem dL_leans_91 : decode cL_leans 91 = .ok (.iload 4, 2) := by decide +kernel
theorem dL_leans_93 : decode cL_leans 93 = .ok (.if_icmp .ge 29, 3) := by decide +kernel
theorem dL_leans_96 : decode cL_leans 96 = .ok (.iload 8, 2) := by decide +kernel
theorem dL_leans_98 : decode cL_leans 98 = .ok (.ifCond .eq 15, 3) := by decide +kernel
theorem dL_leans_101 : decode cL_leans 101 = .ok (.aload_n 0, 1) := by decide +kernel
theorem dL_leans_102 : decode cL_leans 102 = .ok (.iconst 1, 1) := by decide +kernel
theorem dL_leans_103 : decode cL_leans 103 = .ok (.invokevirtual 53, 3) := by decide +kernel
theorem dL_leans_106 : decode cL_leans 106 = .ok (.ifCond .le 7, 3) := by decide +kernel
theorem dL_leans_109 : decode cL_leans 109 = .ok (.iconst 1, 1) := by decide +kernel
theorem dL_leans_110 : decode cL_leans 110 = .ok (.goto 4, 3) := by decide +kernel
theorem dL_leans_113 : decode cL_leans 113 = .ok (.iconst 0, 1) := by decide +kernel
theorem dL_leans_114 : decode cL_leans 114 = .ok (.istore 8, 2) := by decide +kernel
theorem dL_leans_116 : decode cL_leans 116 = .ok (.iinc 9 1, 3) := by decide +kernel
theorem dL_leans_119 : decode cL_leans 119 = .ok (.goto (-30), 3) := by decide +kernel
theorem dL_leans_122 : decode cL_leans 122 = .ok (.aload_n 0, 1) := by decide +kernel
theorem dL_leans_123 : decode cL_leans 123 = .ok (.iload_n 1, 1) := by decide +kernel
theorem dL_leans_124 : decode cL_leans 124 = .ok (.iconst 1, 1) := by decide +kernel
theorem dL_leans_125 : decode cL_leans 125 = .ok (.invokevirtual 24, 3) := by decide +kernel
theorem dL_leans_128 : decode cL_leans 128 = .ok (.istore 7, 2) := by decide +kernel
theorem dL_leans_130 : decode cL_leans 130 = .ok (.iconst 0, 1) := by decide +kernel
theorem dL_leans_131 : decode cL_leans 131 = .ok (.istore 9, 2) := by decide +kernel
theorem dL_leans_133 : decode cL_leans 133 = .ok (.iload 9, 2) := by decide +kernel
theorem dL_leans_135 : decode cL_leans 135 = .ok (.iload 5, 2) := by decide +kernel
theorem dL_leans_137 : decode cL_leans 137 = .ok (.if_icmp .ge 29, 3) := by decide +kernel
theorem dL_leans_140 : decode cL_leans 140 = .ok (.iload 8, 2) := by decide +kernel
theorem dL_leans_142 : decode cL_leans 142 = .ok (.ifCond .eq 15, 3) := by decide +kernel
theorem dL_leans_145 : decode cL_leans 145 = .ok (.aload_n 0, 1) := by decide +kernel
theorem dL_leans_146 : decode cL_leans 146 = .ok (.iconst 1, 1) := by decide +kernel
theorem dL_leans_147 : decode cL_leans 147 = .ok (.invokevirtual 53, 3) := by decide +kernel
theorem dL_leans_150 : decode cL_leans 150 = .ok (.ifCond .le 7, 3) := by decide +kernel
theorem dL_leans_153 : decode cL_leans 153 = .ok (.iconst 1, 1) := by decide +kernel
theorem dL_leans_154 : decode cL_leans 154 = .ok (.goto 4, 3) := by decide +kernel
theorem dL_leans_157 : decode cL_leans 157 = .ok (.iconst 0, 1) := by decide +kernel
theorem dL_leans_158 : decode cL_leans 158 = .ok (.istore 8, 2) := by decide +kernel
theorem dL_leans_160 : decode cL_leans 160 = .ok (.iinc 9 1, 3) := by decide +kernel
theorem dL_leans_163 : decode cL_leans 163 = .ok (.goto (-30), 3) := by decide +kernel
theorem dL_leans_166 : decode cL_leans 166 = .ok (.iload 8, 2) := by decide +kernel
theorem dL_leans_168 : decode cL_leans 168 = .ok (.ifCond .eq 30, 3) := by decide +kernel
theorem dL_leans_171 : decode cL_leans 171 = .ok (.aload_n 0, 1) := by decide +kernel
theorem dL_leans_172 : decode cL_leans 172 = .ok (.iload_n 1, 1) := by decide +kernel
theorem dL_leans_173 : decode cL_leans 173 = .ok (.iconst 1, 1) := by decide +kernel
theorem dL_leans_174 : decode cL_leans 174 = .ok (.invokevirtual 24, 3) := by decide +kernel
theorem dL_leans_177 : decode cL_leans 177 = .ok (.iload 7, 2) := by decide +kernel
theorem dL_leans_179 : decode cL_leans 179 = .ok (.isub, 1) := by decide +kernel
theorem dL_leans_180 : decode cL_leans 180 = .ok (.iload_n 2, 1) := by decide +kernel
theorem dL_leans_181 : decode cL_leans 181 = .ok (.if_icmp .ne 17, 3) := by decide +kernel
theorem dL_leans_184 : decode cL_leans 184 = .ok (.aload_n 0, 1) := by decide +kernel
theorem dL_leans_185 : decode cL_leans 185 = .ok (.iconst 0, 1) := by decide +kernel
theorem dL_leans_186 : decode cL_leans 186 = .ok (.invokevirtual 56, 3) := by decide +kernel
theorem dL_leans_189 : decode cL_leans 189 = .ok (.iload 6, 2) := by decide +kernel
theorem dL_leans_191 : decode cL_leans 191 = .ok (.if_icmp .ne 7, 3) := by decide +kernel
theorem dL_leans_194 : decode cL_leans 194 = .ok (.iconst 1, 1) := by decide +kernel
theorem dL_leans_195 : decode cL_leans 195 = .ok (.goto 4, 3) := by decide +kernel
theorem dL_leans_198 : decode cL_leans 198 = .ok (.iconst 0, 1) := by decide +kernel
theorem dL_leans_199 : decode cL_leans 199 = .ok (.ireturn, 1) := by decide +kernel
theorem dL_isBestFlash_0 : decode cL_isBestFlash 0 = .ok (.aload_n 0, 1) := by decide +kernel
theorem dL_isBestFlash_1 : decode cL_isBestFlash 1 = .ok (.iload_n 1, 1) := by decide +kernel
theorem dL_isBestFlash_2 : decode cL_isBestFlash 2 = .ok (.iconst 0, 1) := by decide +kernel
theorem dL_isBestFlash_3 : decode cL_isBestFlash 3 = .ok (.invokevirtual 59, 3) := by decide +kernel
theorem dL_isBestFlash_6 : decode cL_isBestFlash 6 = .ok (.istore_n 2, 1) := by decide +kernel
theorem dL_isBestFlash_7 : decode cL_isBestFlash 7 = .ok (.aload_n 0, 1) := by decide +kernel
theorem dL_isBestFlash_8 : decode cL_isBestFlash 8 = .ok (.iload_n 1, 1) := by decide +kernel
theorem dL_isBestFlash_9 : decode cL_isBestFlash 9 = .ok (.iconst 1, 1) := by decide +kernel
theorem dL_isBestFlash_10 : decode cL_isBestFlash 10 = .ok (.invokevirtual 59, 3) := by decide +kernel
theorem dL_isBestFlash_13 : decode cL_isBestFlash 13 = .ok (.istore_n 3, 1) := by decide +kernel
theorem dL_isBestFlash_14 : decode cL_isBestFlash 14 = .ok (.iload_n 2, 1) := by decide +kernel
theorem dL_isBestFlash_15 : decode cL_isBestFlash 15 = .ok (.ifCond .lt 23, 3) := by decide +kernel
theorem dL_isBestFlash_18 : decode cL_isBestFlash 18 = .ok (.iload_n 2, 1) := by decide +kernel
theorem dL_isBestFlash_19 : decode cL_isBestFlash 19 = .ok (.bipush 100, 2) := by decide +kernel
theorem dL_isBestFlash_21 : decode cL_isBestFlash 21 = .ok (.if_icmp .ge 17, 3) := by decide +kernel
theorem dL_isBestFlash_24 : decode cL_isBestFlash 24 = .ok (.iload_n 3, 1) := by decide +kernel
theorem dL_isBestFlash_25 : decode cL_isBestFlash 25 = .ok (.ifCond .le 13, 3) := by decide +kernel
theorem dL_isBestFlash_28 : decode cL_isBestFlash 28 = .ok (.iload_n 3, 1) := by decide +kernel
theorem dL_isBestFlash_29 : decode cL_isBestFlash 29 = .ok (.bipush 16, 2) := by decide +kernel
theorem dL_isBestFlash_31 : decode cL_isBestFlash 31 = .ok (.if_icmp .gt 7, 3) := by decide +kernel
theorem dL_isBestFlash_34 : decode cL_isBestFlash 34 = .ok (.iconst 1, 1) := by decide +kernel
theorem dL_isBestFlash_35 : decode cL_isBestFlash 35 = .ok (.goto 4, 3) := by decide +kernel
theorem dL_isBestFlash_38 : decode cL_isBestFlash 38 = .ok (.iconst 0, 1) := by decide +kernel
theorem dL_isBestFlash_39 : decode cL_isBestFlash 39 = .ok (.istore 4, 2) := by decide +kernel
theorem dL_isBestFlash_41 : decode cL_isBestFlash 41 = .ok (.iconst 0, 1) := by decide +kernel
theorem dL_isBestFlash_42 : decode cL_isBestFlash 42 = .ok (.istore 5, 2) := by decide +kernel
theorem dL_isBestFlash_44 : decode cL_isBestFlash 44 = .ok (.iload 5, 2) := by decide +kernel
theorem dL_isBestFlash_46 : decode cL_isBestFlash 46 = .ok (.bipush 100, 2) := by decide +kernel
theorem dL_isBestFlash_48 : decode cL_isBestFlash 48 = .ok (.if_icmp .ge 88, 3) := by decide +kernel
theorem dL_isBestFlash_51 : decode cL_isBestFlash 51 = .ok (.iload 4, 2) := by decide +kernel
theorem dL_isBestFlash_53 : decode cL_isBestFlash 53 = .ok (.ifCond .eq 83, 3) := by decide +kernel
theorem dL_isBestFlash_56 : decode cL_isBestFlash 56 = .ok (.aload_n 0, 1) := by decide +kernel
theorem dL_isBestFlash_57 : decode cL_isBestFlash 57 = .ok (.iload 5, 2) := by decide +kernel
theorem dL_isBestFlash_59 : decode cL_isBestFlash 59 = .ok (.iload_n 1, 1) := by decide +kernel
theorem dL_isBestFlash_60 : decode cL_isBestFlash 60 = .ok (.invokevirtual 62, 3) := by decide +kernel
theorem dL_isBestFlash_63 : decode cL_isBestFlash 63 = .ok (.istore 6, 2) := by decide +kernel
theorem dL_isBestFlash_65 : decode cL_isBestFlash 65 = .ok (.aload_n 0, 1) := by decide +kernel
theorem dL_isBestFlash_66 : decode cL_isBestFlash 66 = .ok (.invokevirtual 65, 3) := by decide +kernel
theorem dL_isBestFlash_69 : decode cL_isBestFlash 69 = .ok (.invokestatic 68, 3) := by decide +kernel
theorem dL_isBestFlash_72 : decode cL_isBestFlash 72 = .ok (.istore 7, 2) := by decide +kernel
theorem dL_isBestFlash_74 : decode cL_isBestFlash 74 = .ok (.iload 6, 2) := by decide +kernel
theorem dL_isBestFlash_76 : decode cL_isBestFlash 76 = .ok (.aload_n 0, 1) := by decide +kernel
theorem dL_isBestFlash_77 : decode cL_isBestFlash 77 = .ok (.iconst 0, 1) := by decide +kernel
theorem dL_isBestFlash_78 : decode cL_isBestFlash 78 = .ok (.invokevirtual 17, 3) := by decide +kernel
theorem dL_isBestFlash_81 : decode cL_isBestFlash 81 = .ok (.iload 5, 2) := by decide +kernel
theorem dL_isBestFlash_83 : decode cL_isBestFlash 83 = .ok (.iadd, 1) := by decide +kernel
theorem dL_isBestFlash_84 : decode cL_isBestFlash 84 = .ok (.if_icmp .ne 43, 3) := by decide +kernel
theorem dL_isBestFlash_87 : decode cL_isBestFlash 87 = .ok (.iload 5, 2) := by decide +kernel
theorem dL_isBestFlash_89 : decode cL_isBestFlash 89 = .ok (.iload_n 2, 1) := by decide +kernel
theorem dL_isBestFlash_90 : decode cL_isBestFlash 90 = .ok (.if_icmp .ge 12, 3) := by decide +kernel
theorem dL_isBestFlash_93 : decode cL_isBestFlash 93 = .ok (.iload 7, 2) := by decide +kernel
theorem dL_isBestFlash_95 : decode cL_isBestFlash 95 = .ok (.iload_n 3, 1) := by decide +kernel
theorem dL_isBestFlash_96 : decode cL_isBestFlash 96 = .ok (.if_icmp .ge 31, 3) := by decide +kernel
theorem dL_isBestFlash_99 : decode cL_isBestFlash 99 = .ok (.goto 24, 3) := by decide +kernel
theorem dL_isBestFlash_102 : decode cL_isBestFlash 102 = .ok (.iload 5, 2) := by decide +kernel
theorem dL_isBestFlash_104 : decode cL_isBestFlash 104 = .ok (.iload_n 2, 1) := by decide +kernel
theorem dL_isBestFlash_105 : decode cL_isBestFlash 105 = .ok (.if_icmp .ne 12, 3) := by decide +kernel
theorem dL_isBestFlash_108 : decode cL_isBestFlash 108 = .ok (.iload 7, 2) := by decide +kernel
theorem dL_isBestFlash_110 : decode cL_isBestFlash 110 = .ok (.iload_n 3, 1) := by decide +kernel
theorem dL_isBestFlash_111 : decode cL_isBestFlash 111 = .ok (.if_icmp .ne 16, 3) := by decide +kernel
theorem dL_isBestFlash_114 : decode cL_isBestFlash 114 = .ok (.goto 9, 3) := by decide +kernel
theorem dL_isBestFlash_117 : decode cL_isBestFlash 117 = .ok (.iload 7, 2) := by decide +kernel
theorem dL_isBestFlash_119 : decode cL_isBestFlash 119 = .ok (.iload_n 3, 1) := by decide +kernel
theorem dL_isBestFlash_120 : decode cL_isBestFlash 120 = .ok (.if_icmp .gt 7, 3) := by decide +kernel
theorem dL_isBestFlash_123 : decode cL_isBestFlash 123 = .ok (.iconst 1, 1) := by decide +kernel
theorem dL_isBestFlash_124 : decode cL_isBestFlash 124 = .ok (.goto 4, 3) := by decide +kernel
theorem dL_isBestFlash_127 : decode cL_isBestFlash 127 = .ok (.iconst 0, 1) := by decide +kernel
theorem dL_isBestFlash_128 : decode cL_isBestFlash 128 = .ok (.istore 4, 2) := by decide +kernel
theorem dL_isBestFlash_130 : decode cL_isBestFlash 130 = .ok (.iinc 5 1, 3) := by decide +kernel
theorem dL_isBestFlash_133 : decode cL_isBestFlash 133 = .ok (.goto (-89), 3) := by decide +kernel
theorem dL_isBestFlash_136 : decode cL_isBestFlash 136 = .ok (.iload 4, 2) := by decide +kernel
theorem dL_isBestFlash_138 : decode cL_isBestFlash 138 = .ok (.ireturn, 1) := by decide +kernel
theorem dL_does_0 : decode cL_does 0 = .ok (.aload_n 0, 1) := by decide +kernel
theorem dL_does_1 : decode cL_does 1 = .ok (.iconst 1, 1) := by decide +kernel
theorem dL_does_2 : decode cL_does 2 = .ok (.invokevirtual 17, 3) := by decide +kernel
theorem dL_does_5 : decode cL_does 5 = .ok (.istore_n 3, 1) := by decide +kernel
theorem dL_does_6 : decode cL_does 6 = .ok (.iload_n 3, 1) := by decide +kernel
theorem dL_does_7 : decode cL_does 7 = .ok (.ifCond .ne 7, 3) := by decide +kernel
theorem dL_does_10 : decode cL_does 10 = .ok (.iconst 0, 1) := by decide +kernel
theorem dL_does_11 : decode cL_does 11 = .ok (.goto 10, 3) := by decide +kernel
theorem dL_does_14 : decode cL_does 14 = .ok (.iload_n 1, 1) := by decide +kernel
theorem dL_does_15 : decode cL_does 15 = .ok (.iconst 4, 1) := by decide +kernel
theorem dL_does_16 : decode cL_does 16 = .ok (.ishr, 1) := by decide +kernel
theorem dL_does_17 : decode cL_does 17 = .ok (.iload_n 3, 1) := by decide +kernel
theorem dL_does_18 : decode cL_does 18 = .ok (.invokestatic 31, 3) := by decide +kernel
theorem dL_does_21 : decode cL_does 21 = .ok (.istore 4, 2) := by decide +kernel
theorem dL_does_23 : decode cL_does 23 = .ok (.iload_n 3, 1) := by decide +kernel
theorem dL_does_24 : decode cL_does 24 = .ok (.ifCond .ne 7, 3) := by decide +kernel
theorem dL_does_27 : decode cL_does 27 = .ok (.iconst 0, 1) := by decide +kernel
theorem dL_does_28 : decode cL_does 28 = .ok (.goto 10, 3) := by decide +kernel
theorem dL_does_31 : decode cL_does 31 = .ok (.aload_n 0, 1) := by decide +kernel
theorem dL_does_32 : decode cL_does 32 = .ok (.iload 4, 2) := by decide +kernel
theorem dL_does_34 : decode cL_does 34 = .ok (.iconst 1, 1) := by decide +kernel
theorem dL_does_35 : decode cL_does 35 = .ok (.invokevirtual 24, 3) := by decide +kernel
theorem dL_does_38 : decode cL_does 38 = .ok (.istore 5, 2) := by decide +kernel
theorem dL_does_40 : decode cL_does 40 = .ok (.iload_n 3, 1) := by decide +kernel
theorem dL_does_41 : decode cL_does 41 = .ok (.ifCond .ne 7, 3) := by decide +kernel
theorem dL_does_44 : decode cL_does 44 = .ok (.iconst 0, 1) := by decide +kernel
theorem dL_does_45 : decode cL_does 45 = .ok (.goto 11, 3) := by decide +kernel
theorem dL_does_48 : decode cL_does 48 = .ok (.aload_n 0, 1) := by decide +kernel
theorem dL_does_49 : decode cL_does 49 = .ok (.iload_n 3, 1) := by decide +kernel
theorem dL_does_50 : decode cL_does 50 = .ok (.iconst 1, 1) := by decide +kernel
theorem dL_does_51 : decode cL_does 51 = .ok (.isub, 1) := by decide +kernel
theorem dL_does_52 : decode cL_does 52 = .ok (.iconst 1, 1) := by decide +kernel
theorem dL_does_53 : decode cL_does 53 = .ok (.invokevirtual 24, 3) := by decide +kernel
theorem dL_does_56 : decode cL_does 56 = .ok (.istore 6, 2) := by decide +kernel
theorem dL_does_58 : decode cL_does 58 = .ok (.iload_n 1, 1) := by decide +kernel
theorem dL_does_59 : decode cL_does 59 = .ok (.bipush 14, 2) := by decide +kernel
theorem dL_does_61 : decode cL_does 61 = .ok (.invokestatic 31, 3) := by decide +kernel
theorem dL_does_64 : decode cL_does 64 = .ok (.tableswitch 630 0 10 #[60, 60, 60, 190, 190, 299, 299, 442, 516, 624, 624], 60) := by decide +kernel
theorem dL_does_124 : decode cL_does 124 = .ok (.aload_n 0, 1) := by decide +kernel
theorem dL_does_125 : decode cL_does 125 = .ok (.iload_n 2, 1) := by decide +kernel
theorem dL_does_126 : decode cL_does 126 = .ok (.bipush 16, 2) := by decide +kernel
theorem dL_does_128 : decode cL_does 128 = .ok (.invokestatic 31, 3) := by decide +kernel
theorem dL_does_131 : decode cL_does 131 = .ok (.iload_n 2, 1) := by decide +kernel
theorem dL_does_132 : decode cL_does 132 = .ok (.iconst 4, 1) := by decide +kernel
theorem dL_does_133 : decode cL_does 133 = .ok (.ishr, 1) := by decide +kernel
theorem dL_does_134 : decode cL_does 134 = .ok (.bipush 24, 2) := by decide +kernel
theorem dL_does_136 : decode cL_does 136 = .ok (.invokestatic 31, 3) := by decide +kernel
theorem dL_does_139 : decode cL_does 139 = .ok (.iconst 1, 1) := by decide +kernel
theorem dL_does_140 : decode cL_does 140 = .ok (.iload_n 2, 1) := by decide +kernel
theorem dL_does_141 : decode cL_does 141 = .ok (.bipush 9, 2) := by decide +kernel
theorem dL_does_143 : decode cL_does 143 = .ok (.ishr, 1) := by decide +kernel
theorem dL_does_144 : decode cL_does 144 = .ok (.bipush 16, 2) := by decide +kernel
theorem dL_does_146 : decode cL_does 146 = .ok (.invokestatic 31, 3) := by decide +kernel
theorem dL_does_149 : decode cL_does 149 = .ok (.iadd, 1) := by decide +kernel
theorem dL_does_150 : decode cL_does 150 = .ok (.iconst 1, 1) := by decide +kernel
theorem dL_does_151 : decode cL_does 151 = .ok (.iload_n 2, 1) := by decide +kernel
theorem dL_does_152 : decode cL_does 152 = .ok (.bipush 13, 2) := by decide +kernel
theorem dL_does_154 : decode cL_does 154 = .ok (.ishr, 1) := by decide +kernel
theorem dL_does_155 : decode cL_does 155 = .ok (.bipush 12, 2) := by decide +kernel
theorem dL_does_157 : decode cL_does 157 = .ok (.invokestatic 31, 3) := by decide +kernel
theorem dL_does_160 : decode cL_does 160 = .ok (.iadd, 1) := by decide +kernel
theorem dL_does_161 : decode cL_does 161 = .ok (.iconst 1, 1) := by decide +kernel
theorem dL_does_162 : decode cL_does 162 = .ok (.iload_n 2, 1) := by decide +kernel
theorem dL_does_163 : decode cL_does 163 = .ok (.bipush 17, 2) := by decide +kernel
theorem dL_does_165 : decode cL_does 165 = .ok (.ishr, 1) := by decide +kernel
theorem dL_does_166 : decode cL_does 166 = .ok (.bipush 9, 2) := by decide +kernel
theorem dL_does_168 : decode cL_does 168 = .ok (.invokestatic 31, 3) := by decide +kernel
theorem dL_does_171 : decode cL_does 171 = .ok (.iadd, 1) := by decide +kernel
theorem dL_does_172 : decode cL_does 172 = .ok (.invokevirtual 71, 3) := by decide +kernel
theorem dL_does_175 : decode cL_does 175 = .ok (.istore 7, 2) := by decide +kernel
theorem dL_does_177 : decode cL_does 177 = .ok (.iload_n 3, 1) := by decide +kernel
theorem dL_does_178 : decode cL_does 178 = .ok (.bipush 8, 2) := by decide +kernel
theorem dL_does_180 : decode cL_does 180 = .ok (.if_icmp .ne 18, 3) := by decide +kernel
theorem dL_does_183 : decode cL_does 183 = .ok (.iload 7, 2) := by decide +kernel
theorem dL_does_185 : decode cL_does 185 = .ok (.bipush (-4), 2) := by decide +kernel
theorem dL_does_187 : decode cL_does 187 = .ok (.if_icmp .ne 7, 3) := by decide +kernel
theorem dL_does_190 : decode cL_does 190 = .ok (.iconst 1, 1) := by decide +kernel
theorem dL_does_191 : decode cL_does 191 = .ok (.goto 62, 3) := by decide +kernel
theorem dL_does_194 : decode cL_does 194 = .ok (.iconst 0, 1) := by decide +kernel
theorem dL_does_195 : decode cL_does 195 = .ok (.goto 58, 3) := by decide +kernel
theorem dL_does_198 : decode cL_does 198 = .ok (.iload 7, 2) := by decide +kernel
theorem dL_does_200 : decode cL_does 200 = .ok (.iload_n 3, 1) := by decide +kernel
theorem dL_does_201 : decode cL_does 201 = .ok (.if_icmp .ne 51, 3) := by decide +kernel
theorem dL_does_204 : decode cL_does 204 = .ok (.aload_n 0, 1) := by decide +kernel
theorem dL_does_205 : decode cL_does 205 = .ok (.iload_n 3, 1) := by decide +kernel
theorem dL_does_206 : decode cL_does 206 = .ok (.iconst 1, 1) := by decide +kernel
theorem dL_does_207 : decode cL_does 207 = .ok (.invokevirtual 24, 3) := by decide +kernel
theorem dL_does_210 : decode cL_does 210 = .ok (.sipush 1000, 3) := by decide +kernel
theorem dL_does_213 : decode cL_does 213 = .ok (.iload_n 2, 1) := by decide +kernel
theorem dL_does_214 : decode cL_does 214 = .ok (.iconst 4, 1) := by decide +kernel
theorem dL_does_215 : decode cL_does 215 = .ok (.ishr, 1) := by decide +kernel
theorem dL_does_216 : decode cL_does 216 = .ok (.bipush 24, 2) := by decide +kernel
theorem dL_does_218 : decode cL_does 218 = .ok (.invokestatic 31, 3) := by decide +kernel
theorem dL_does_221 : decode cL_does 221 = .ok (.iadd, 1) := by decide +kernel
theorem dL_does_222 : decode cL_does 222 = .ok (.if_icmp .ne 30, 3) := by decide +kernel
theorem dL_does_225 : decode cL_does 225 = .ok (.aload_n 0, 1) := by decide +kernel
theorem dL_does_226 : decode cL_does 226 = .ok (.iload_n 3, 1) := by decide +kernel
theorem dL_does_227 : decode cL_does 227 = .ok (.iconst 5, 1) := by decide +kernel
theorem dL_does_228 : decode cL_does 228 = .ok (.invokevirtual 24, 3) := by decide +kernel
theorem dL_does_231 : decode cL_does 231 = .ok (.bipush 100, 2) := by decide +kernel
theorem dL_does_233 : decode cL_does 233 = .ok (.if_icmp .ne 19, 3) := by decide +kernel
theorem dL_does_236 : decode cL_does 236 = .ok (.aload_n 0, 1) := by decide +kernel
theorem dL_does_237 : decode cL_does 237 = .ok (.iload_n 3, 1) := by decide +kernel
theorem dL_does_238 : decode cL_does 238 = .ok (.bipush 6, 2) := by decide +kernel
theorem dL_does_240 : decode cL_does 240 = .ok (.invokevirtual 24, 3) := by decide +kernel
theorem dL_does_243 : decode cL_does 243 = .ok (.bipush (-6), 2) := by decide +kernel
theorem dL_does_245 : decode cL_does 245 = .ok (.if_icmp .ne 7, 3) := by decide +kernel
theorem dL_does_248 : decode cL_does 248 = .ok (.iconst 1, 1) := by decide +kernel
theorem dL_does_249 : decode cL_does 249 = .ok (.goto 4, 3) := by decide +kernel
theorem dL_does_252 : decode cL_does 252 = .ok (.iconst 0, 1) := by decide +kernel
theorem dL_does_253 : decode cL_does 253 = .ok (.ireturn, 1) := by decide +kernel
theorem dL_does_254 : decode cL_does 254 = .ok (.iload_n 3, 1) := by decide +kernel
theorem dL_does_255 : decode cL_does 255 = .ok (.ifCond .ne 7, 3) := by decide +kernel
theorem dL_does_258 : decode cL_does 258 = .ok (.iconst 0, 1) := by decide +kernel
theorem dL_does_259 : decode cL_does 259 = .ok (.goto 10, 3) := by decide +kernel
theorem dL_does_262 : decode cL_does 262 = .ok (.aload_n 0, 1) := by decide +kernel
theorem dL_does_263 : decode cL_does 263 = .ok (.iload 4, 2) := by decide +kernel
theorem dL_does_265 : decode cL_does 265 = .ok (.iconst 5, 1) := by decide +kernel
theorem dL_does_266 : decode cL_does 266 = .ok (.invokevirtual 24, 3) := by decide +kernel
theorem dL_does_269 : decode cL_does 269 = .ok (.istore 8, 2) := by decide +kernel
theorem dL_does_271 : decode cL_does 271 = .ok (.iload_n 2, 1) := by decide +kernel
theorem dL_does_272 : decode cL_does 272 = .ok (.bipush 81, 2) := by decide +kernel
theorem dL_does_274 : decode cL_does 274 = .ok (.invokestatic 31, 3) := by decide +kernel
theorem dL_does_277 : decode cL_does 277 = .ok (.bipush 40, 2) := by decide +kernel
theorem dL_does_279 : decode cL_does 279 = .ok (.isub, 1) := by decide +kernel
theorem dL_does_280 : decode cL_does 280 = .ok (.istore 9, 2) := by decide +kernel
theorem dL_does_282 : decode cL_does 282 = .ok (.iload_n 3, 1) := by decide +kernel
theorem dL_does_283 : decode cL_does 283 = .ok (.ifCond .ne 21, 3) := by decide +kernel
theorem dL_does_286 : decode cL_does 286 = .ok (.aload_n 0, 1) := by decide +kernel
theorem dL_does_287 : decode cL_does 287 = .ok (.iconst 0, 1) := by decide +kernel
theorem dL_does_288 : decode cL_does 288 = .ok (.iconst 1, 1) := by decide +kernel
theorem dL_does_289 : decode cL_does 289 = .ok (.invokevirtual 75, 3) := by decide +kernel
theorem dL_does_292 : decode cL_does 292 = .ok (.iconst (-1), 1) := by decide +kernel
theorem dL_does_293 : decode cL_does 293 = .ok (.if_icmp .ne 7, 3) := by decide +kernel
theorem dL_does_296 : decode cL_does 296 = .ok (.iconst 1, 1) := by decide +kernel
theorem dL_does_297 : decode cL_does 297 = .ok (.goto 65, 3) := by decide +kernel
theorem dL_does_300 : decode cL_does 300 = .ok (.iconst 0, 1) := by decide +kernel
theorem dL_does_301 : decode cL_does 301 = .ok (.goto 61, 3) := by decide +kernel
theorem dL_does_304 : decode cL_does 304 = .ok (.aload_n 0, 1) := by decide +kernel
theorem dL_does_305 : decode cL_does 305 = .ok (.iload 4, 2) := by decide +kernel
theorem dL_does_307 : decode cL_does 307 = .ok (.iload 9, 2) := by decide +kernel
theorem dL_does_309 : decode cL_does 309 = .ok (.invokevirtual 75, 3) := by decide +kernel
theorem dL_does_312 : decode cL_does 312 = .ok (.iload 8, 2) := by decide +kernel
theorem dL_does_314 : decode cL_does 314 = .ok (.if_icmp .ne 47, 3) := by decide +kernel
theorem dL_does_317 : decode cL_does 317 = .ok (.aload_n 0, 1) := by decide +kernel
theorem dL_does_318 : decode cL_does 318 = .ok (.iload 4, 2) := by decide +kernel
theorem dL_does_320 : decode cL_does 320 = .ok (.iconst 5, 1) := by decide +kernel
theorem dL_does_321 : decode cL_does 321 = .ok (.invokevirtual 24, 3) := by decide +kernel
theorem dL_does_324 : decode cL_does 324 = .ok (.iload 9, 2) := by decide +kernel
theorem dL_does_326 : decode cL_does 326 = .ok (.bipush 100, 2) := by decide +kernel
theorem dL_does_328 : decode cL_does 328 = .ok (.iadd, 1) := by decide +kernel
theorem dL_does_329 : decode cL_does 329 = .ok (.if_icmp .ne 32, 3) := by decide +kernel
theorem dL_does_332 : decode cL_does 332 = .ok (.aload_n 0, 1) := by decide +kernel
theorem dL_does_333 : decode cL_does 333 = .ok (.iload 4, 2) := by decide +kernel
theorem dL_does_335 : decode cL_does 335 = .ok (.iconst 1, 1) := by decide +kernel
theorem dL_does_336 : decode cL_does 336 = .ok (.invokevirtual 24, 3) := by decide +kernel
theorem dL_does_339 : decode cL_does 339 = .ok (.iload 5, 2) := by decide +kernel
theorem dL_does_341 : decode cL_does 341 = .ok (.if_icmp .ne 20, 3) := by decide +kernel
theorem dL_does_344 : decode cL_does 344 = .ok (.aload_n 0, 1) := by decide +kernel
theorem dL_does_345 : decode cL_does 345 = .ok (.iload_n 3, 1) := by decide +kernel
theorem dL_does_346 : decode cL_does 346 = .ok (.iconst 1, 1) := by decide +kernel
theorem dL_does_347 : decode cL_does 347 = .ok (.isub, 1) := by decide +kernel
theorem dL_does_348 : decode cL_does 348 = .ok (.iconst 1, 1) := by decide +kernel
theorem dL_does_349 : decode cL_does 349 = .ok (.invokevirtual 24, 3) := by decide +kernel
theorem dL_does_352 : decode cL_does 352 = .ok (.iload 6, 2) := by decide +kernel
theorem dL_does_354 : decode cL_does 354 = .ok (.if_icmp .ne 7, 3) := by decide +kernel
theorem dL_does_357 : decode cL_does 357 = .ok (.iconst 1, 1) := by decide +kernel
theorem dL_does_358 : decode cL_does 358 = .ok (.goto 4, 3) := by decide +kernel
theorem dL_does_361 : decode cL_does 361 = .ok (.iconst 0, 1) := by decide +kernel
theorem dL_does_362 : decode cL_does 362 = .ok (.ireturn, 1) := by decide +kernel
theorem dL_does_363 : decode cL_does 363 = .ok (.iload_n 2, 1) := by decide +kernel
theorem dL_does_364 : decode cL_does 364 = .ok (.iload 4, 2) := by decide +kernel
theorem dL_does_366 : decode cL_does 366 = .ok (.iconst 1, 1) := by decide +kernel
theorem dL_does_367 : decode cL_does 367 = .ok (.iadd, 1) := by decide +kernel
theorem dL_does_368 : decode cL_does 368 = .ok (.invokestatic 31, 3) := by decide +kernel
theorem dL_does_371 : decode cL_does 371 = .ok (.iconst 1, 1) := by decide +kernel
theorem dL_does_372 : decode cL_does 372 = .ok (.isub, 1) := by decide +kernel
theorem dL_does_373 : decode cL_does 373 = .ok (.istore 10, 2) := by decide +kernel
theorem dL_does_375 : decode cL_does 375 = .ok (.iload_n 3, 1) := by decide +kernel
theorem dL_does_376 : decode cL_does 376 = .ok (.ifCond .ne 7, 3) := by decide +kernel
theorem dL_does_379 : decode cL_does 379 = .ok (.iconst 0, 1) := by decide +kernel
theorem dL_does_380 : decode cL_does 380 = .ok (.goto 11, 3) := by decide +kernel
theorem dL_does_383 : decode cL_does 383 = .ok (.aload_n 0, 1) := by decide +kernel
theorem dL_does_384 : decode cL_does 384 = .ok (.iload 4, 2) := by decide +kernel
theorem dL_does_386 : decode cL_does 386 = .ok (.bipush 6, 2) := by decide +kernel
theorem dL_does_388 : decode cL_does 388 = .ok (.invokevirtual 24, 3) := by decide +kernel
theorem dL_does_391 : decode cL_does 391 = .ok (.istore 11, 2) := by decide +kernel
theorem dL_does_393 : decode cL_does 393 = .ok (.iload_n 3, 1) := by decide +kernel
theorem dL_does_394 : decode cL_does 394 = .ok (.ifCond .ne 22, 3) := by decide +kernel
theorem dL_does_397 : decode cL_does 397 = .ok (.aload_n 0, 1) := by decide +kernel
theorem dL_does_398 : decode cL_does 398 = .ok (.iconst 0, 1) := by decide +kernel
theorem dL_does_399 : decode cL_does 399 = .ok (.bipush (-6), 2) := by decide +kernel
theorem dL_does_401 : decode cL_does 401 = .ok (.invokevirtual 78, 3) := by decide +kernel
theorem dL_does_404 : decode cL_does 404 = .ok (.iconst (-1), 1) := by decide +kernel
theorem dL_does_405 : decode cL_does 405 = .ok (.if_icmp .ne 7, 3) := by decide +kernel
theorem dL_does_408 : decode cL_does 408 = .ok (.iconst 1, 1) := by decide +kernel
theorem dL_does_409 : decode cL_does 409 = .ok (.goto 96, 3) := by decide +kernel
theorem dL_does_412 : decode cL_does 412 = .ok (.iconst 0, 1) := by decide +kernel
theorem dL_does_413 : decode cL_does 413 = .ok (.goto 92, 3) := by decide +kernel
theorem dL_does_416 : decode cL_does 416 = .ok (.aload_n 0, 1) := by decide +kernel
theorem dL_does_417 : decode cL_does 417 = .ok (.iload 4, 2) := by decide +kernel
theorem dL_does_419 : decode cL_does 419 = .ok (.iload 10, 2) := by decide +kernel
theorem dL_does_421 : decode cL_does 421 = .ok (.ifCond .ge 8, 3) := by decide +kernel
theorem dL_does_424 : decode cL_does 424 = .ok (.bipush (-6), 2) := by decide +kernel
theorem dL_does_426 : decode cL_does 426 = .ok (.goto 5, 3) := by decide +kernel
theorem dL_does_429 : decode cL_does 429 = .ok (.iload 10, 2) := by decide +kernel
theorem dL_does_431 : decode cL_does 431 = .ok (.invokevirtual 78, 3) := by decide +kernel
theorem dL_does_434 : decode cL_does 434 = .ok (.iload 11, 2) := by decide +kernel
theorem dL_does_436 : decode cL_does 436 = .ok (.if_icmp .ne 68, 3) := by decide +kernel
theorem dL_does_439 : decode cL_does 439 = .ok (.aload_n 0, 1) := by decide +kernel
theorem dL_does_440 : decode cL_does 440 = .ok (.iload 4, 2) := by decide +kernel
theorem dL_does_442 : decode cL_does 442 = .ok (.bipush 6, 2) := by decide +kernel
theorem dL_does_444 : decode cL_does 444 = .ok (.invokevirtual 24, 3) := by decide +kernel
theorem dL_does_447 : decode cL_does 447 = .ok (.iload 10, 2) := by decide +kernel
theorem dL_does_449 : decode cL_does 449 = .ok (.ifCond .ge 8, 3) := by decide +kernel
theorem dL_does_452 : decode cL_does 452 = .ok (.bipush (-6), 2) := by decide +kernel
theorem dL_does_454 : decode cL_does 454 = .ok (.goto 5, 3) := by decide +kernel
theorem dL_does_457 : decode cL_does 457 = .ok (.iload 10, 2) := by decide +kernel
theorem dL_does_459 : decode cL_does 459 = .ok (.if_icmp .ne 45, 3) := by decide +kernel
theorem dL_does_462 : decode cL_does 462 = .ok (.aload_n 0, 1) := by decide +kernel
theorem dL_does_463 : decode cL_does 463 = .ok (.iload 4, 2) := by decide +kernel
theorem dL_does_465 : decode cL_does 465 = .ok (.iconst 1, 1) := by decide +kernel
theorem dL_does_466 : decode cL_does 466 = .ok (.invokevirtual 24, 3) := by decide +kernel
theorem dL_does_469 : decode cL_does 469 = .ok (.iload 5, 2) := by decide +kernel
theorem dL_does_471 : decode cL_does 471 = .ok (.if_icmp .ne 33, 3) := by decide +kernel
theorem dL_does_474 : decode cL_does 474 = .ok (.aload_n 0, 1) := by decide +kernel
theorem dL_does_475 : decode cL_does 475 = .ok (.iload_n 3, 1) := by decide +kernel
theorem dL_does_476 : decode cL_does 476 = .ok (.iconst 1, 1) := by decide +kernel
theorem dL_does_477 : decode cL_does 477 = .ok (.isub, 1) := by decide +kernel
theorem dL_does_478 : decode cL_does 478 = .ok (.iconst 1, 1) := by decide +kernel
theorem dL_does_479 : decode cL_does 479 = .ok (.invokevirtual 24, 3) := by decide +kernel
theorem dL_does_482 : decode cL_does 482 = .ok (.iload 6, 2) := by decide +kernel
theorem dL_does_484 : decode cL_does 484 = .ok (.if_icmp .ne 20, 3) := by decide +kernel
theorem dL_does_487 : decode cL_does 487 = .ok (.aload_n 0, 1) := by decide +kernel
theorem dL_does_488 : decode cL_does 488 = .ok (.iload 4, 2) := by decide +kernel
theorem dL_does_490 : decode cL_does 490 = .ok (.iload 4, 2) := by decide +kernel
theorem dL_does_492 : decode cL_does 492 = .ok (.invokevirtual 78, 3) := by decide +kernel
theorem dL_does_495 : decode cL_does 495 = .ok (.bipush (-2), 2) := by decide +kernel
theorem dL_does_497 : decode cL_does 497 = .ok (.if_icmp .ne 7, 3) := by decide +kernel
theorem dL_does_500 : decode cL_does 500 = .ok (.iconst 1, 1) := by decide +kernel
theorem dL_does_501 : decode cL_does 501 = .ok (.goto 4, 3) := by decide +kernel
theorem dL_does_504 : decode cL_does 504 = .ok (.iconst 0, 1) := by decide +kernel
theorem dL_does_505 : decode cL_does 505 = .ok (.ireturn, 1) := by decide +kernel
theorem dL_does_506 : decode cL_does 506 = .ok (.iload_n 2, 1) := by decide +kernel
theorem dL_does_507 : decode cL_does 507 = .ok (.bipush 100, 2) := by decide +kernel
theorem dL_does_509 : decode cL_does 509 = .ok (.invokestatic 31, 3) := by decide +kernel
theorem dL_does_512 : decode cL_does 512 = .ok (.istore 12, 2) := by decide +kernel
theorem dL_does_514 : decode cL_does 514 = .ok (.iconst 1, 1) := by decide +kernel
theorem dL_does_515 : decode cL_does 515 = .ok (.iload_n 2, 1) := by decide +kernel
theorem dL_does_516 : decode cL_does 516 = .ok (.bipush 7, 2) := by decide +kernel
theorem dL_does_518 : decode cL_does 518 = .ok (.ishr, 1) := by decide +kernel
theorem dL_does_519 : decode cL_does 519 = .ok (.bipush 20, 2) := by decide +kernel
theorem dL_does_521 : decode cL_does 521 = .ok (.invokestatic 31, 3) := by decide +kernel
theorem dL_does_524 : decode cL_does 524 = .ok (.iadd, 1) := by decide +kernel
theorem dL_does_525 : decode cL_does 525 = .ok (.istore 13, 2) := by decide +kernel
theorem dL_does_527 : decode cL_does 527 = .ok (.aload_n 0, 1) := by decide +kernel
theorem dL_does_528 : decode cL_does 528 = .ok (.iload 12, 2) := by decide +kernel
theorem dL_does_530 : decode cL_does 530 = .ok (.iload 13, 2) := by decide +kernel
theorem dL_does_532 : decode cL_does 532 = .ok (.invokevirtual 62, 3) := by decide +kernel
theorem dL_does_535 : decode cL_does 535 = .ok (.aload_n 0, 1) := by decide +kernel
theorem dL_does_536 : decode cL_does 536 = .ok (.iconst 0, 1) := by decide +kernel
theorem dL_does_537 : decode cL_does 537 = .ok (.invokevirtual 17, 3) := by decide +kernel
theorem dL_does_540 : decode cL_does 540 = .ok (.iload 12, 2) := by decide +kernel
theorem dL_does_542 : decode cL_does 542 = .ok (.iadd, 1) := by decide +kernel
theorem dL_does_543 : decode cL_does 543 = .ok (.if_icmp .ne 35, 3) := by decide +kernel
theorem dL_does_546 : decode cL_does 546 = .ok (.aload_n 0, 1) := by decide +kernel
theorem dL_does_547 : decode cL_does 547 = .ok (.bipush 6, 2) := by decide +kernel
theorem dL_does_549 : decode cL_does 549 = .ok (.invokevirtual 17, 3) := by decide +kernel
theorem dL_does_552 : decode cL_does 552 = .ok (.aload_n 0, 1) := by decide +kernel
theorem dL_does_553 : decode cL_does 553 = .ok (.iconst 0, 1) := by decide +kernel
theorem dL_does_554 : decode cL_does 554 = .ok (.invokevirtual 17, 3) := by decide +kernel
theorem dL_does_557 : decode cL_does 557 = .ok (.iload 12, 2) := by decide +kernel
theorem dL_does_559 : decode cL_does 559 = .ok (.iadd, 1) := by decide +kernel
theorem dL_does_560 : decode cL_does 560 = .ok (.if_icmp .ne 18, 3) := by decide +kernel
theorem dL_does_563 : decode cL_does 563 = .ok (.aload_n 0, 1) := by decide +kernel
theorem dL_does_564 : decode cL_does 564 = .ok (.bipush 7, 2) := by decide +kernel
theorem dL_does_566 : decode cL_does 566 = .ok (.invokevirtual 17, 3) := by decide +kernel
theorem dL_does_569 : decode cL_does 569 = .ok (.iload 13, 2) := by decide +kernel
theorem dL_does_571 : decode cL_does 571 = .ok (.if_icmp .ne 7, 3) := by decide +kernel
theorem dL_does_574 : decode cL_does 574 = .ok (.iconst 1, 1) := by decide +kernel
theorem dL_does_575 : decode cL_does 575 = .ok (.goto 4, 3) := by decide +kernel
theorem dL_does_578 : decode cL_does 578 = .ok (.iconst 0, 1) := by decide +kernel
theorem dL_does_579 : decode cL_does 579 = .ok (.ireturn, 1) := by decide +kernel
theorem dL_does_580 : decode cL_does 580 = .ok (.iload_n 1, 1) := by decide +kernel
theorem dL_does_581 : decode cL_does 581 = .ok (.iconst 4, 1) := by decide +kernel
theorem dL_does_582 : decode cL_does 582 = .ok (.ishr, 1) := by decide +kernel
theorem dL_does_583 : decode cL_does 583 = .ok (.iconst 4, 1) := by decide +kernel
theorem dL_does_584 : decode cL_does 584 = .ok (.invokestatic 31, 3) := by decide +kernel
theorem dL_does_587 : decode cL_does 587 = .ok (.istore 14, 2) := by decide +kernel
theorem dL_does_589 : decode cL_does 589 = .ok (.iload 14, 2) := by decide +kernel
theorem dL_does_591 : decode cL_does 591 = .ok (.ifCond .ne 12, 3) := by decide +kernel
theorem dL_does_594 : decode cL_does 594 = .ok (.iload_n 2, 1) := by decide +kernel
theorem dL_does_595 : decode cL_does 595 = .ok (.bipush 10, 2) := by decide +kernel
theorem dL_does_597 : decode cL_does 597 = .ok (.invokestatic 31, 3) := by decide +kernel
theorem dL_does_600 : decode cL_does 600 = .ok (.goto 42, 3) := by decide +kernel
theorem dL_does_603 : decode cL_does 603 = .ok (.iload 14, 2) := by decide +kernel
theorem dL_does_605 : decode cL_does 605 = .ok (.iconst 1, 1) := by decide +kernel
theorem dL_does_606 : decode cL_does 606 = .ok (.if_icmp .ne 14, 3) := by decide +kernel
theorem dL_does_609 : decode cL_does 609 = .ok (.iconst 1, 1) := by decide +kernel
theorem dL_does_610 : decode cL_does 610 = .ok (.iload_n 2, 1) := by decide +kernel
theorem dL_does_611 : decode cL_does 611 = .ok (.bipush 20, 2) := by decide +kernel
theorem dL_does_613 : decode cL_does 613 = .ok (.invokestatic 31, 3) := by decide +kernel
theorem dL_does_616 : decode cL_does 616 = .ok (.iadd, 1) := by decide +kernel
theorem dL_does_617 : decode cL_does 617 = .ok (.goto 25, 3) := by decide +kernel
theorem dL_does_620 : decode cL_does 620 = .ok (.iload 14, 2) := by decide +kernel
theorem dL_does_622 : decode cL_does 622 = .ok (.iconst 2, 1) := by decide +kernel
theorem dL_does_623 : decode cL_does 623 = .ok (.if_icmp .ne 12, 3) := by decide +kernel
theorem dL_does_626 : decode cL_does 626 = .ok (.iload_n 2, 1) := by decide +kernel
theorem dL_does_627 : decode cL_does 627 = .ok (.bipush 41, 2) := by decide +kernel
theorem dL_does_629 : decode cL_does 629 = .ok (.invokestatic 31, 3) := by decide +kernel
theorem dL_does_632 : decode cL_does 632 = .ok (.goto 10, 3) := by decide +kernel
theorem dL_does_635 : decode cL_does 635 = .ok (.iconst 1, 1) := by decide +kernel
theorem dL_does_636 : decode cL_does 636 = .ok (.iload_n 2, 1) := by decide +kernel
theorem dL_does_637 : decode cL_does 637 = .ok (.iconst 4, 1) := by decide +kernel
theorem dL_does_638 : decode cL_does 638 = .ok (.invokestatic 31, 3) := by decide +kernel
theorem dL_does_641 : decode cL_does 641 = .ok (.iadd, 1) := by decide +kernel
theorem dL_does_642 : decode cL_does 642 = .ok (.istore 15, 2) := by decide +kernel
theorem dL_does_644 : decode cL_does 644 = .ok (.aload_n 0, 1) := by decide +kernel
theorem dL_does_645 : decode cL_does 645 = .ok (.bipush 8, 2) := by decide +kernel
theorem dL_does_647 : decode cL_does 647 = .ok (.iload 14, 2) := by decide +kernel
theorem dL_does_649 : decode cL_does 649 = .ok (.iadd, 1) := by decide +kernel
theorem dL_does_650 : decode cL_does 650 = .ok (.invokevirtual 17, 3) := by decide +kernel
theorem dL_does_653 : decode cL_does 653 = .ok (.istore 16, 2) := by decide +kernel
theorem dL_does_655 : decode cL_does 655 = .ok (.aload_n 0, 1) := by decide +kernel
theorem dL_does_656 : decode cL_does 656 = .ok (.iload 14, 2) := by decide +kernel
theorem dL_does_658 : decode cL_does 658 = .ok (.iload 15, 2) := by decide +kernel
theorem dL_does_660 : decode cL_does 660 = .ok (.invokevirtual 81, 3) := by decide +kernel
theorem dL_does_663 : decode cL_does 663 = .ok (.iload 16, 2) := by decide +kernel
theorem dL_does_665 : decode cL_does 665 = .ok (.if_icmp .ne 21, 3) := by decide +kernel
theorem dL_does_668 : decode cL_does 668 = .ok (.aload_n 0, 1) := by decide +kernel
theorem dL_does_669 : decode cL_does 669 = .ok (.bipush 8, 2) := by decide +kernel
theorem dL_does_671 : decode cL_does 671 = .ok (.iload 14, 2) := by decide +kernel
theorem dL_does_673 : decode cL_does 673 = .ok (.iadd, 1) := by decide +kernel
theorem dL_does_674 : decode cL_does 674 = .ok (.invokevirtual 17, 3) := by decide +kernel
theorem dL_does_677 : decode cL_does 677 = .ok (.iload 15, 2) := by decide +kernel
theorem dL_does_679 : decode cL_does 679 = .ok (.if_icmp .ne 7, 3) := by decide +kernel
theorem dL_does_682 : decode cL_does 682 = .ok (.iconst 1, 1) := by decide +kernel
theorem dL_does_683 : decode cL_does 683 = .ok (.goto 4, 3) := by decide +kernel
theorem dL_does_686 : decode cL_does 686 = .ok (.iconst 0, 1) := by decide +kernel
theorem dL_does_687 : decode cL_does 687 = .ok (.ireturn, 1) := by decide +kernel
theorem dL_does_688 : decode cL_does 688 = .ok (.aload_n 0, 1) := by decide +kernel
theorem dL_does_689 : decode cL_does 689 = .ok (.iload_n 2, 1) := by decide +kernel
theorem dL_does_690 : decode cL_does 690 = .ok (.invokestatic 84, 3) := by decide +kernel
theorem dL_does_693 : decode cL_does 693 = .ok (.ireturn, 1) := by decide +kernel
theorem dL_does_694 : decode cL_does 694 = .ok (.aload_n 0, 1) := by decide +kernel
theorem dL_does_695 : decode cL_does 695 = .ok (.iconst 0, 1) := by decide +kernel
theorem dL_does_696 : decode cL_does 696 = .ok (.invokevirtual 17, 3) := by decide +kernel
theorem dL_does_699 : decode cL_does 699 = .ok (.istore 17, 2) := by decide +kernel
theorem dL_does_701 : decode cL_does 701 = .ok (.iconst 1, 1) := by decide +kernel
theorem dL_does_702 : decode cL_does 702 = .ok (.iload_n 2, 1) := by decide +kernel
theorem dL_does_703 : decode cL_does 703 = .ok (.bipush 30, 2) := by decide +kernel
theorem dL_does_705 : decode cL_does 705 = .ok (.invokestatic 31, 3) := by decide +kernel
theorem dL_does_708 : decode cL_does 708 = .ok (.iadd, 1) := by decide +kernel
theorem dL_does_709 : decode cL_does 709 = .ok (.istore 18, 2) := by decide +kernel
theorem dL_does_711 : decode cL_does 711 = .ok (.aload_n 0, 1) := by decide +kernel
theorem dL_does_712 : decode cL_does 712 = .ok (.iload 18, 2) := by decide +kernel
theorem dL_does_714 : decode cL_does 714 = .ok (.invokevirtual 53, 3) := by decide +kernel
theorem dL_does_717 : decode cL_does 717 = .ok (.iload 17, 2) := by decide +kernel
theorem dL_does_719 : decode cL_does 719 = .ok (.iload 18, 2) := by decide +kernel
theorem dL_does_721 : decode cL_does 721 = .ok (.iadd, 1) := by decide +kernel
theorem dL_does_722 : decode cL_does 722 = .ok (.sipush 9999, 3) := by decide +kernel
theorem dL_does_725 : decode cL_does 725 = .ok (.if_icmp .le 8, 3) := by decide +kernel
theorem dL_does_728 : decode cL_does 728 = .ok (.bipush (-5), 2) := by decide +kernel
theorem dL_does_730 : decode cL_does 730 = .ok (.goto 8, 3) := by decide +kernel
theorem dL_does_733 : decode cL_does 733 = .ok (.iload 17, 2) := by decide +kernel
theorem dL_does_735 : decode cL_does 735 = .ok (.iload 18, 2) := by decide +kernel
theorem dL_does_737 : decode cL_does 737 = .ok (.iadd, 1) := by decide +kernel
theorem dL_does_738 : decode cL_does 738 = .ok (.if_icmp .ne 7, 3) := by decide +kernel
theorem dL_does_741 : decode cL_does 741 = .ok (.iconst 1, 1) := by decide +kernel
theorem dL_does_742 : decode cL_does 742 = .ok (.goto 4, 3) := by decide +kernel
theorem dL_does_745 : decode cL_does 745 = .ok (.iconst 0, 1) := by decide +kernel
theorem dL_does_746 : decode cL_does 746 = .ok (.ireturn, 1) := by decide +kernel
theorem dL_law_0 : decode cL_law 0 = .ok (.new 8, 3) := by decide +kernel
theorem dL_law_3 : decode cL_law 3 = .ok (.dup, 1) := by decide +kernel
theorem dL_law_4 : decode cL_law 4 = .ok (.invokespecial 88, 3) := by decide +kernel
theorem dL_law_7 : decode cL_law 7 = .ok (.astore_n 1, 1) := by decide +kernel
theorem dL_law_8 : decode cL_law 8 = .ok (.aload_n 1, 1) := by decide +kernel
theorem dL_law_9 : decode cL_law 9 = .ok (.invokestatic 40, 3) := by decide +kernel
theorem dL_law_12 : decode cL_law 12 = .ok (.ifCond .eq 50, 3) := by decide +kernel
theorem dL_law_15 : decode cL_law 15 = .ok (.aload_n 1, 1) := by decide +kernel
theorem dL_law_16 : decode cL_law 16 = .ok (.iconst 3, 1) := by decide +kernel
theorem dL_law_17 : decode cL_law 17 = .ok (.invokevirtual 17, 3) := by decide +kernel
theorem dL_law_20 : decode cL_law 20 = .ok (.ldc 89, 2) := by decide +kernel
theorem dL_law_22 : decode cL_law 22 = .ok (.if_icmp .ne 40, 3) := by decide +kernel
theorem dL_law_25 : decode cL_law 25 = .ok (.aload_n 1, 1) := by decide +kernel
theorem dL_law_26 : decode cL_law 26 = .ok (.bipush 6, 2) := by decide +kernel
theorem dL_law_28 : decode cL_law 28 = .ok (.invokevirtual 17, 3) := by decide +kernel
theorem dL_law_31 : decode cL_law 31 = .ok (.bipush (-6), 2) := by decide +kernel
theorem dL_law_33 : decode cL_law 33 = .ok (.if_icmp .ne 29, 3) := by decide +kernel
theorem dL_law_36 : decode cL_law 36 = .ok (.aload_n 1, 1) := by decide +kernel
theorem dL_law_37 : decode cL_law 37 = .ok (.invokevirtual 65, 3) := by decide +kernel
theorem dL_law_40 : decode cL_law 40 = .ok (.ifCond .ne 22, 3) := by decide +kernel
theorem dL_law_43 : decode cL_law 43 = .ok (.aload_n 1, 1) := by decide +kernel
theorem dL_law_44 : decode cL_law 44 = .ok (.invokevirtual 90, 3) := by decide +kernel
theorem dL_law_47 : decode cL_law 47 = .ok (.bipush (-5), 2) := by decide +kernel
theorem dL_law_49 : decode cL_law 49 = .ok (.if_icmp .ne 13, 3) := by decide +kernel
theorem dL_law_52 : decode cL_law 52 = .ok (.aload_n 1, 1) := by decide +kernel
theorem dL_law_53 : decode cL_law 53 = .ok (.iconst 0, 1) := by decide +kernel
theorem dL_law_54 : decode cL_law 54 = .ok (.iconst 0, 1) := by decide +kernel
theorem dL_law_55 : decode cL_law 55 = .ok (.iconst 0, 1) := by decide +kernel
theorem dL_law_56 : decode cL_law 56 = .ok (.invokevirtual 27, 3) := by decide +kernel
theorem dL_law_59 : decode cL_law 59 = .ok (.ifCond .eq 5, 3) := by decide +kernel
theorem dL_law_62 : decode cL_law 62 = .ok (.iconst 0, 1) := by decide +kernel
theorem dL_law_63 : decode cL_law 63 = .ok (.ireturn, 1) := by decide +kernel
theorem dL_law_64 : decode cL_law 64 = .ok (.iconst 0, 1) := by decide +kernel
theorem dL_law_65 : decode cL_law 65 = .ok (.istore_n 2, 1) := by decide +kernel
theorem dL_law_66 : decode cL_law 66 = .ok (.iload_n 2, 1) := by decide +kernel
theorem dL_law_67 : decode cL_law 67 = .ok (.bipush 45, 2) := by decide +kernel
theorem dL_law_69 : decode cL_law 69 = .ok (.if_icmp .ge 151, 3) := by decide +kernel
theorem dL_law_72 : decode cL_law 72 = .ok (.aload_n 0, 1) := by decide +kernel
theorem dL_law_73 : decode cL_law 73 = .ok (.iconst 2, 1) := by decide +kernel
theorem dL_law_74 : decode cL_law 74 = .ok (.iload_n 2, 1) := by decide +kernel
theorem dL_law_75 : decode cL_law 75 = .ok (.imul, 1) := by decide +kernel
theorem dL_law_76 : decode cL_law 76 = .ok (.invokestatic 93, 3) := by decide +kernel
theorem dL_law_79 : decode cL_law 79 = .ok (.istore_n 3, 1) := by decide +kernel
theorem dL_law_80 : decode cL_law 80 = .ok (.aload_n 0, 1) := by decide +kernel
theorem dL_law_81 : decode cL_law 81 = .ok (.iconst 2, 1) := by decide +kernel
theorem dL_law_82 : decode cL_law 82 = .ok (.iload_n 2, 1) := by decide +kernel
theorem dL_law_83 : decode cL_law 83 = .ok (.imul, 1) := by decide +kernel
theorem dL_law_84 : decode cL_law 84 = .ok (.iconst 1, 1) := by decide +kernel
theorem dL_law_85 : decode cL_law 85 = .ok (.iadd, 1) := by decide +kernel
theorem dL_law_86 : decode cL_law 86 = .ok (.invokestatic 93, 3) := by decide +kernel
theorem dL_law_89 : decode cL_law 89 = .ok (.istore 4, 2) := by decide +kernel
theorem dL_law_91 : decode cL_law 91 = .ok (.aload_n 1, 1) := by decide +kernel
theorem dL_law_92 : decode cL_law 92 = .ok (.iload_n 3, 1) := by decide +kernel
theorem dL_law_93 : decode cL_law 93 = .ok (.iload 4, 2) := by decide +kernel
theorem dL_law_95 : decode cL_law 95 = .ok (.invokestatic 97, 3) := by decide +kernel
theorem dL_law_98 : decode cL_law 98 = .ok (.ifCond .eq 29, 3) := by decide +kernel
theorem dL_law_101 : decode cL_law 101 = .ok (.aload_n 1, 1) := by decide +kernel
theorem dL_law_102 : decode cL_law 102 = .ok (.iload 4, 2) := by decide +kernel
theorem dL_law_104 : decode cL_law 104 = .ok (.iconst 3, 1) := by decide +kernel
theorem dL_law_105 : decode cL_law 105 = .ok (.ishr, 1) := by decide +kernel
theorem dL_law_106 : decode cL_law 106 = .ok (.bipush 16, 2) := by decide +kernel
theorem dL_law_108 : decode cL_law 108 = .ok (.invokestatic 31, 3) := by decide +kernel
theorem dL_law_111 : decode cL_law 111 = .ok (.iload 4, 2) := by decide +kernel
theorem dL_law_113 : decode cL_law 113 = .ok (.bipush 8, 2) := by decide +kernel
theorem dL_law_115 : decode cL_law 115 = .ok (.ishr, 1) := by decide +kernel
theorem dL_law_116 : decode cL_law 116 = .ok (.bipush 24, 2) := by decide +kernel
theorem dL_law_118 : decode cL_law 118 = .ok (.invokestatic 31, 3) := by decide +kernel
theorem dL_law_121 : decode cL_law 121 = .ok (.invokestatic 101, 3) := by decide +kernel
theorem dL_law_124 : decode cL_law 124 = .ok (.ifCond .ne 5, 3) := by decide +kernel
theorem dL_law_127 : decode cL_law 127 = .ok (.iconst 0, 1) := by decide +kernel
theorem dL_law_128 : decode cL_law 128 = .ok (.ireturn, 1) := by decide +kernel
theorem dL_law_129 : decode cL_law 129 = .ok (.aload_n 1, 1) := by decide +kernel
theorem dL_law_130 : decode cL_law 130 = .ok (.iconst 1, 1) := by decide +kernel
theorem dL_law_131 : decode cL_law 131 = .ok (.invokevirtual 17, 3) := by decide +kernel
theorem dL_law_134 : decode cL_law 134 = .ok (.istore 5, 2) := by decide +kernel
theorem dL_law_136 : decode cL_law 136 = .ok (.iload 5, 2) := by decide +kernel
theorem dL_law_138 : decode cL_law 138 = .ok (.ifCond .le 19, 3) := by decide +kernel
theorem dL_law_141 : decode cL_law 141 = .ok (.aload_n 1, 1) := by decide +kernel
theorem dL_law_142 : decode cL_law 142 = .ok (.iload_n 3, 1) := by decide +kernel
theorem dL_law_143 : decode cL_law 143 = .ok (.bipush 6, 2) := by decide +kernel
theorem dL_law_145 : decode cL_law 145 = .ok (.ishr, 1) := by decide +kernel
theorem dL_law_146 : decode cL_law 146 = .ok (.iload 5, 2) := by decide +kernel
theorem dL_law_148 : decode cL_law 148 = .ok (.invokestatic 31, 3) := by decide +kernel
theorem dL_law_151 : decode cL_law 151 = .ok (.invokestatic 104, 3) := by decide +kernel
theorem dL_law_154 : decode cL_law 154 = .ok (.ifCond .eq 58, 3) := by decide +kernel
theorem dL_law_157 : decode cL_law 157 = .ok (.iload 5, 2) := by decide +kernel
theorem dL_law_159 : decode cL_law 159 = .ok (.ifCond .le 26, 3) := by decide +kernel
theorem dL_law_162 : decode cL_law 162 = .ok (.iload_n 2, 1) := by decide +kernel
theorem dL_law_163 : decode cL_law 163 = .ok (.bipush 9, 2) := by decide +kernel
theorem dL_law_165 : decode cL_law 165 = .ok (.irem, 1) := by decide +kernel
theorem dL_law_166 : decode cL_law 166 = .ok (.iconst 5, 1) := by decide +kernel
theorem dL_law_167 : decode cL_law 167 = .ok (.if_icmp .ne 18, 3) := by decide +kernel
theorem dL_law_170 : decode cL_law 170 = .ok (.aload_n 1, 1) := by decide +kernel
theorem dL_law_171 : decode cL_law 171 = .ok (.iload_n 3, 1) := by decide +kernel
theorem dL_law_172 : decode cL_law 172 = .ok (.iconst 5, 1) := by decide +kernel
theorem dL_law_173 : decode cL_law 173 = .ok (.ishr, 1) := by decide +kernel
theorem dL_law_174 : decode cL_law 174 = .ok (.iload 5, 2) := by decide +kernel
theorem dL_law_176 : decode cL_law 176 = .ok (.invokestatic 31, 3) := by decide +kernel
theorem dL_law_179 : decode cL_law 179 = .ok (.invokestatic 107, 3) := by decide +kernel
theorem dL_law_182 : decode cL_law 182 = .ok (.ifCond .eq 30, 3) := by decide +kernel
theorem dL_law_185 : decode cL_law 185 = .ok (.iload_n 2, 1) := by decide +kernel
theorem dL_law_186 : decode cL_law 186 = .ok (.bipush 20, 2) := by decide +kernel
theorem dL_law_188 : decode cL_law 188 = .ok (.irem, 1) := by decide +kernel
theorem dL_law_189 : decode cL_law 189 = .ok (.bipush 11, 2) := by decide +kernel
theorem dL_law_191 : decode cL_law 191 = .ok (.if_icmp .ne 23, 3) := by decide +kernel
theorem dL_law_194 : decode cL_law 194 = .ok (.aload_n 1, 1) := by decide +kernel
theorem dL_law_195 : decode cL_law 195 = .ok (.iconst 1, 1) := by decide +kernel
theorem dL_law_196 : decode cL_law 196 = .ok (.iload 4, 2) := by decide +kernel
theorem dL_law_198 : decode cL_law 198 = .ok (.iconst 5, 1) := by decide +kernel
