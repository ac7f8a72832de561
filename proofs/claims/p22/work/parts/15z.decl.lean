theorem dL_dice_0 : decode cL_dice 0 = .ok (.iload_n 1, 1) := by decide +kernel
theorem dL_dice_1 : decode cL_dice 1 = .ok (.aload_n 0, 1) := by decide +kernel
theorem dL_dice_2 : decode cL_dice 2 = .ok (.arraylength, 1) := by decide +kernel
theorem dL_dice_3 : decode cL_dice 3 = .ok (.if_icmp .ge 9, 3) := by decide +kernel
theorem dL_dice_6 : decode cL_dice 6 = .ok (.aload_n 0, 1) := by decide +kernel
theorem dL_dice_7 : decode cL_dice 7 = .ok (.iload_n 1, 1) := by decide +kernel
theorem dL_dice_8 : decode cL_dice 8 = .ok (.iaload, 1) := by decide +kernel
theorem dL_dice_9 : decode cL_dice 9 = .ok (.goto 23, 3) := by decide +kernel
theorem dL_dice_12 : decode cL_dice 12 = .ok (.ldc 7, 2) := by decide +kernel
theorem dL_dice_14 : decode cL_dice 14 = .ok (.iload_n 1, 1) := by decide +kernel
theorem dL_dice_15 : decode cL_dice 15 = .ok (.sipush 617, 3) := by decide +kernel
theorem dL_dice_18 : decode cL_dice 18 = .ok (.iadd, 1) := by decide +kernel
theorem dL_dice_19 : decode cL_dice 19 = .ok (.imul, 1) := by decide +kernel
theorem dL_dice_20 : decode cL_dice 20 = .ok (.sipush 957, 3) := by decide +kernel
theorem dL_dice_23 : decode cL_dice 23 = .ok (.iload_n 1, 1) := by decide +kernel
theorem dL_dice_24 : decode cL_dice 24 = .ok (.imul, 1) := by decide +kernel
theorem dL_dice_25 : decode cL_dice 25 = .ok (.iload_n 1, 1) := by decide +kernel
theorem dL_dice_26 : decode cL_dice 26 = .ok (.imul, 1) := by decide +kernel
theorem dL_dice_27 : decode cL_dice 27 = .ok (.iadd, 1) := by decide +kernel
theorem dL_dice_28 : decode cL_dice 28 = .ok (.sipush 479, 3) := by decide +kernel
theorem dL_dice_31 : decode cL_dice 31 = .ok (.iadd, 1) := by decide +kernel
theorem dL_dice_32 : decode cL_dice 32 = .ok (.ldc 8, 2) := by decide +kernel
theorem dL_dice_34 : decode cL_dice 34 = .ok (.iand, 1) := by decide +kernel
theorem dL_dice_35 : decode cL_dice 35 = .ok (.ireturn, 1) := by decide +kernel
theorem dL_act_0 : decode cL_act 0 = .ok (.iload_n 1, 1) := by decide +kernel
theorem dL_act_1 : decode cL_act 1 = .ok (.ifCond .ne 14, 3) := by decide +kernel
theorem dL_act_4 : decode cL_act 4 = .ok (.aload_n 0, 1) := by decide +kernel
theorem dL_act_5 : decode cL_act 5 = .ok (.iload_n 2, 1) := by decide +kernel
theorem dL_act_6 : decode cL_act 6 = .ok (.iload_n 3, 1) := by decide +kernel
theorem dL_act_7 : decode cL_act 7 = .ok (.iload 4, 2) := by decide +kernel
theorem dL_act_9 : decode cL_act 9 = .ok (.invokevirtual 9, 3) := by decide +kernel
theorem dL_act_12 : decode cL_act 12 = .ok (.goto 305, 3) := by decide +kernel
theorem dL_act_15 : decode cL_act 15 = .ok (.iload_n 1, 1) := by decide +kernel
theorem dL_act_16 : decode cL_act 16 = .ok (.iconst 1, 1) := by decide +kernel
theorem dL_act_17 : decode cL_act 17 = .ok (.if_icmp .ne 12, 3) := by decide +kernel
theorem dL_act_20 : decode cL_act 20 = .ok (.aload_n 0, 1) := by decide +kernel
theorem dL_act_21 : decode cL_act 21 = .ok (.iload_n 2, 1) := by decide +kernel
theorem dL_act_22 : decode cL_act 22 = .ok (.iload_n 3, 1) := by decide +kernel
theorem dL_act_23 : decode cL_act 23 = .ok (.invokevirtual 15, 3) := by decide +kernel
theorem dL_act_26 : decode cL_act 26 = .ok (.goto 291, 3) := by decide +kernel
theorem dL_act_29 : decode cL_act 29 = .ok (.iload_n 1, 1) := by decide +kernel
theorem dL_act_30 : decode cL_act 30 = .ok (.iconst 2, 1) := by decide +kernel
theorem dL_act_31 : decode cL_act 31 = .ok (.if_icmp .ne 11, 3) := by decide +kernel
theorem dL_act_34 : decode cL_act 34 = .ok (.aload_n 0, 1) := by decide +kernel
theorem dL_act_35 : decode cL_act 35 = .ok (.iload_n 2, 1) := by decide +kernel
theorem dL_act_36 : decode cL_act 36 = .ok (.invokevirtual 19, 3) := by decide +kernel
theorem dL_act_39 : decode cL_act 39 = .ok (.goto 278, 3) := by decide +kernel
theorem dL_act_42 : decode cL_act 42 = .ok (.iload_n 1, 1) := by decide +kernel
theorem dL_act_43 : decode cL_act 43 = .ok (.iconst 3, 1) := by decide +kernel
theorem dL_act_44 : decode cL_act 44 = .ok (.if_icmp .ne 19, 3) := by decide +kernel
theorem dL_act_47 : decode cL_act 47 = .ok (.aload_n 0, 1) := by decide +kernel
theorem dL_act_48 : decode cL_act 48 = .ok (.iload_n 2, 1) := by decide +kernel
theorem dL_act_49 : decode cL_act 49 = .ok (.invokevirtual 23, 3) := by decide +kernel
theorem dL_act_52 : decode cL_act 52 = .ok (.ifCond .eq 7, 3) := by decide +kernel
theorem dL_act_55 : decode cL_act 55 = .ok (.iconst 1, 1) := by decide +kernel
theorem dL_act_56 : decode cL_act 56 = .ok (.goto 261, 3) := by decide +kernel
theorem dL_act_59 : decode cL_act 59 = .ok (.iconst 0, 1) := by decide +kernel
theorem dL_act_60 : decode cL_act 60 = .ok (.goto 257, 3) := by decide +kernel
theorem dL_act_63 : decode cL_act 63 = .ok (.iload_n 1, 1) := by decide +kernel
theorem dL_act_64 : decode cL_act 64 = .ok (.iconst 4, 1) := by decide +kernel
theorem dL_act_65 : decode cL_act 65 = .ok (.if_icmp .ne 25, 3) := by decide +kernel
theorem dL_act_68 : decode cL_act 68 = .ok (.aload_n 0, 1) := by decide +kernel
theorem dL_act_69 : decode cL_act 69 = .ok (.iload_n 2, 1) := by decide +kernel
theorem dL_act_70 : decode cL_act 70 = .ok (.iload_n 3, 1) := by decide +kernel
theorem dL_act_71 : decode cL_act 71 = .ok (.iload 4, 2) := by decide +kernel
theorem dL_act_73 : decode cL_act 73 = .ok (.iload 5, 2) := by decide +kernel
theorem dL_act_75 : decode cL_act 75 = .ok (.iconst 1, 1) := by decide +kernel
theorem dL_act_76 : decode cL_act 76 = .ok (.if_icmp .ne 7, 3) := by decide +kernel
theorem dL_act_79 : decode cL_act 79 = .ok (.iconst 1, 1) := by decide +kernel
theorem dL_act_80 : decode cL_act 80 = .ok (.goto 4, 3) := by decide +kernel
theorem dL_act_83 : decode cL_act 83 = .ok (.iconst 0, 1) := by decide +kernel
theorem dL_act_84 : decode cL_act 84 = .ok (.invokevirtual 27, 3) := by decide +kernel
theorem dL_act_87 : decode cL_act 87 = .ok (.goto 230, 3) := by decide +kernel
theorem dL_act_90 : decode cL_act 90 = .ok (.iload_n 1, 1) := by decide +kernel
theorem dL_act_91 : decode cL_act 91 = .ok (.iconst 5, 1) := by decide +kernel
theorem dL_act_92 : decode cL_act 92 = .ok (.if_icmp .ne 11, 3) := by decide +kernel
theorem dL_act_95 : decode cL_act 95 = .ok (.aload_n 0, 1) := by decide +kernel
theorem dL_act_96 : decode cL_act 96 = .ok (.iload_n 2, 1) := by decide +kernel
theorem dL_act_97 : decode cL_act 97 = .ok (.invokevirtual 31, 3) := by decide +kernel
theorem dL_act_100 : decode cL_act 100 = .ok (.goto 217, 3) := by decide +kernel
theorem dL_act_103 : decode cL_act 103 = .ok (.iload_n 1, 1) := by decide +kernel
theorem dL_act_104 : decode cL_act 104 = .ok (.bipush 6, 2) := by decide +kernel
theorem dL_act_106 : decode cL_act 106 = .ok (.if_icmp .ne 29, 3) := by decide +kernel
theorem dL_act_109 : decode cL_act 109 = .ok (.aload_n 0, 1) := by decide +kernel
theorem dL_act_110 : decode cL_act 110 = .ok (.iload_n 2, 1) := by decide +kernel
theorem dL_act_111 : decode cL_act 111 = .ok (.iload_n 3, 1) := by decide +kernel
theorem dL_act_112 : decode cL_act 112 = .ok (.iconst 1, 1) := by decide +kernel
theorem dL_act_113 : decode cL_act 113 = .ok (.if_icmp .ne 7, 3) := by decide +kernel
theorem dL_act_116 : decode cL_act 116 = .ok (.iconst 1, 1) := by decide +kernel
theorem dL_act_117 : decode cL_act 117 = .ok (.goto 4, 3) := by decide +kernel
theorem dL_act_120 : decode cL_act 120 = .ok (.iconst 0, 1) := by decide +kernel
theorem dL_act_121 : decode cL_act 121 = .ok (.invokevirtual 34, 3) := by decide +kernel
theorem dL_act_124 : decode cL_act 124 = .ok (.ifCond .eq 7, 3) := by decide +kernel
theorem dL_act_127 : decode cL_act 127 = .ok (.iconst 1, 1) := by decide +kernel
theorem dL_act_128 : decode cL_act 128 = .ok (.goto 189, 3) := by decide +kernel
theorem dL_act_131 : decode cL_act 131 = .ok (.iconst 0, 1) := by decide +kernel
theorem dL_act_132 : decode cL_act 132 = .ok (.goto 185, 3) := by decide +kernel
theorem dL_act_135 : decode cL_act 135 = .ok (.iload_n 1, 1) := by decide +kernel
theorem dL_act_136 : decode cL_act 136 = .ok (.bipush 7, 2) := by decide +kernel
theorem dL_act_138 : decode cL_act 138 = .ok (.if_icmp .ne 10, 3) := by decide +kernel
theorem dL_act_141 : decode cL_act 141 = .ok (.aload_n 0, 1) := by decide +kernel
theorem dL_act_142 : decode cL_act 142 = .ok (.invokevirtual 38, 3) := by decide +kernel
theorem dL_act_145 : decode cL_act 145 = .ok (.goto 172, 3) := by decide +kernel
theorem dL_act_148 : decode cL_act 148 = .ok (.iload_n 1, 1) := by decide +kernel
theorem dL_act_149 : decode cL_act 149 = .ok (.bipush 8, 2) := by decide +kernel
theorem dL_act_151 : decode cL_act 151 = .ok (.if_icmp .ne 20, 3) := by decide +kernel
theorem dL_act_154 : decode cL_act 154 = .ok (.aload_n 0, 1) := by decide +kernel
theorem dL_act_155 : decode cL_act 155 = .ok (.iload_n 2, 1) := by decide +kernel
theorem dL_act_156 : decode cL_act 156 = .ok (.iload_n 3, 1) := by decide +kernel
theorem dL_act_157 : decode cL_act 157 = .ok (.invokevirtual 42, 3) := by decide +kernel
theorem dL_act_160 : decode cL_act 160 = .ok (.ifCond .eq 7, 3) := by decide +kernel
theorem dL_act_163 : decode cL_act 163 = .ok (.iconst 1, 1) := by decide +kernel
theorem dL_act_164 : decode cL_act 164 = .ok (.goto 153, 3) := by decide +kernel
theorem dL_act_167 : decode cL_act 167 = .ok (.iconst 0, 1) := by decide +kernel
theorem dL_act_168 : decode cL_act 168 = .ok (.goto 149, 3) := by decide +kernel
theorem dL_act_171 : decode cL_act 171 = .ok (.iload_n 1, 1) := by decide +kernel
theorem dL_act_172 : decode cL_act 172 = .ok (.bipush 9, 2) := by decide +kernel
theorem dL_act_174 : decode cL_act 174 = .ok (.if_icmp .ne 14, 3) := by decide +kernel
theorem dL_act_177 : decode cL_act 177 = .ok (.aload_n 0, 1) := by decide +kernel
theorem dL_act_178 : decode cL_act 178 = .ok (.iload_n 2, 1) := by decide +kernel
theorem dL_act_179 : decode cL_act 179 = .ok (.iload_n 3, 1) := by decide +kernel
theorem dL_act_180 : decode cL_act 180 = .ok (.iload 4, 2) := by decide +kernel
theorem dL_act_182 : decode cL_act 182 = .ok (.invokevirtual 46, 3) := by decide +kernel
theorem dL_act_185 : decode cL_act 185 = .ok (.goto 132, 3) := by decide +kernel
theorem dL_act_188 : decode cL_act 188 = .ok (.iload_n 1, 1) := by decide +kernel
theorem dL_act_189 : decode cL_act 189 = .ok (.bipush 10, 2) := by decide +kernel
theorem dL_act_191 : decode cL_act 191 = .ok (.if_icmp .ne 19, 3) := by decide +kernel
theorem dL_act_194 : decode cL_act 194 = .ok (.aload_n 0, 1) := by decide +kernel
theorem dL_act_195 : decode cL_act 195 = .ok (.iload_n 2, 1) := by decide +kernel
theorem dL_act_196 : decode cL_act 196 = .ok (.invokevirtual 49, 3) := by decide +kernel
theorem dL_act_199 : decode cL_act 199 = .ok (.ifCond .eq 7, 3) := by decide +kernel
theorem dL_act_202 : decode cL_act 202 = .ok (.iconst 1, 1) := by decide +kernel
theorem dL_act_203 : decode cL_act 203 = .ok (.goto 114, 3) := by decide +kernel
theorem dL_act_206 : decode cL_act 206 = .ok (.iconst 0, 1) := by decide +kernel
theorem dL_act_207 : decode cL_act 207 = .ok (.goto 110, 3) := by decide +kernel
theorem dL_act_210 : decode cL_act 210 = .ok (.iload_n 1, 1) := by decide +kernel
theorem dL_act_211 : decode cL_act 211 = .ok (.bipush 11, 2) := by decide +kernel
theorem dL_act_213 : decode cL_act 213 = .ok (.if_icmp .ne 11, 3) := by decide +kernel
theorem dL_act_216 : decode cL_act 216 = .ok (.aload_n 0, 1) := by decide +kernel
theorem dL_act_217 : decode cL_act 217 = .ok (.iload_n 2, 1) := by decide +kernel
theorem dL_act_218 : decode cL_act 218 = .ok (.invokevirtual 52, 3) := by decide +kernel
theorem dL_act_221 : decode cL_act 221 = .ok (.goto 96, 3) := by decide +kernel
theorem dL_act_224 : decode cL_act 224 = .ok (.iload_n 1, 1) := by decide +kernel
theorem dL_act_225 : decode cL_act 225 = .ok (.bipush 12, 2) := by decide +kernel
theorem dL_act_227 : decode cL_act 227 = .ok (.if_icmp .ne 11, 3) := by decide +kernel
theorem dL_act_230 : decode cL_act 230 = .ok (.aload_n 0, 1) := by decide +kernel
theorem dL_act_231 : decode cL_act 231 = .ok (.iload_n 2, 1) := by decide +kernel
theorem dL_act_232 : decode cL_act 232 = .ok (.invokevirtual 55, 3) := by decide +kernel
theorem dL_act_235 : decode cL_act 235 = .ok (.goto 82, 3) := by decide +kernel
theorem dL_act_238 : decode cL_act 238 = .ok (.iload_n 1, 1) := by decide +kernel
theorem dL_act_239 : decode cL_act 239 = .ok (.bipush 13, 2) := by decide +kernel
theorem dL_act_241 : decode cL_act 241 = .ok (.if_icmp .ne 12, 3) := by decide +kernel
theorem dL_act_244 : decode cL_act 244 = .ok (.aload_n 0, 1) := by decide +kernel
theorem dL_act_245 : decode cL_act 245 = .ok (.iload_n 2, 1) := by decide +kernel
theorem dL_act_246 : decode cL_act 246 = .ok (.iload_n 3, 1) := by decide +kernel
theorem dL_act_247 : decode cL_act 247 = .ok (.invokevirtual 58, 3) := by decide +kernel
theorem dL_act_250 : decode cL_act 250 = .ok (.goto 67, 3) := by decide +kernel
theorem dL_act_253 : decode cL_act 253 = .ok (.iload_n 1, 1) := by decide +kernel
theorem dL_act_254 : decode cL_act 254 = .ok (.bipush 14, 2) := by decide +kernel
theorem dL_act_256 : decode cL_act 256 = .ok (.if_icmp .ne 12, 3) := by decide +kernel
theorem dL_act_259 : decode cL_act 259 = .ok (.aload_n 0, 1) := by decide +kernel
theorem dL_act_260 : decode cL_act 260 = .ok (.iload_n 2, 1) := by decide +kernel
theorem dL_act_261 : decode cL_act 261 = .ok (.iload_n 3, 1) := by decide +kernel
theorem dL_act_262 : decode cL_act 262 = .ok (.invokevirtual 61, 3) := by decide +kernel
theorem dL_act_265 : decode cL_act 265 = .ok (.goto 52, 3) := by decide +kernel
theorem dL_act_268 : decode cL_act 268 = .ok (.iload_n 1, 1) := by decide +kernel
theorem dL_act_269 : decode cL_act 269 = .ok (.bipush 15, 2) := by decide +kernel
theorem dL_act_271 : decode cL_act 271 = .ok (.if_icmp .ne 11, 3) := by decide +kernel
theorem dL_act_274 : decode cL_act 274 = .ok (.aload_n 0, 1) := by decide +kernel
theorem dL_act_275 : decode cL_act 275 = .ok (.iload_n 2, 1) := by decide +kernel
theorem dL_act_276 : decode cL_act 276 = .ok (.invokevirtual 64, 3) := by decide +kernel
theorem dL_act_279 : decode cL_act 279 = .ok (.goto 38, 3) := by decide +kernel
theorem dL_act_282 : decode cL_act 282 = .ok (.iload_n 1, 1) := by decide +kernel
theorem dL_act_283 : decode cL_act 283 = .ok (.bipush 16, 2) := by decide +kernel
theorem dL_act_285 : decode cL_act 285 = .ok (.if_icmp .ne 12, 3) := by decide +kernel
theorem dL_act_288 : decode cL_act 288 = .ok (.aload_n 0, 1) := by decide +kernel
theorem dL_act_289 : decode cL_act 289 = .ok (.iload_n 2, 1) := by decide +kernel
theorem dL_act_290 : decode cL_act 290 = .ok (.iload_n 3, 1) := by decide +kernel
theorem dL_act_291 : decode cL_act 291 = .ok (.invokevirtual 67, 3) := by decide +kernel
theorem dL_act_294 : decode cL_act 294 = .ok (.goto 23, 3) := by decide +kernel
theorem dL_act_297 : decode cL_act 297 = .ok (.iload_n 1, 1) := by decide +kernel
theorem dL_act_298 : decode cL_act 298 = .ok (.bipush 17, 2) := by decide +kernel
theorem dL_act_300 : decode cL_act 300 = .ok (.if_icmp .ne 12, 3) := by decide +kernel
theorem dL_act_303 : decode cL_act 303 = .ok (.aload_n 0, 1) := by decide +kernel
theorem dL_act_304 : decode cL_act 304 = .ok (.iload_n 2, 1) := by decide +kernel
theorem dL_act_305 : decode cL_act 305 = .ok (.iload_n 3, 1) := by decide +kernel
theorem dL_act_306 : decode cL_act 306 = .ok (.invokevirtual 70, 3) := by decide +kernel
theorem dL_act_309 : decode cL_act 309 = .ok (.goto 8, 3) := by decide +kernel
theorem dL_act_312 : decode cL_act 312 = .ok (.aload_n 0, 1) := by decide +kernel
theorem dL_act_313 : decode cL_act 313 = .ok (.iload_n 2, 1) := by decide +kernel
theorem dL_act_314 : decode cL_act 314 = .ok (.invokevirtual 73, 3) := by decide +kernel
theorem dL_act_317 : decode cL_act 317 = .ok (.ireturn, 1) := by decide +kernel
theorem dL_act_318 : decode cL_act 318 = .ok (.astore 6, 2) := by decide +kernel
theorem dL_act_320 : decode cL_act 320 = .ok (.sipush (-1671), 3) := by decide +kernel
theorem dL_act_323 : decode cL_act 323 = .ok (.ireturn, 1) := by decide +kernel
theorem dL_act_324 : decode cL_act 324 = .ok (.astore 6, 2) := by decide +kernel
theorem dL_act_326 : decode cL_act 326 = .ok (.sipush (-1672), 3) := by decide +kernel
theorem dL_act_329 : decode cL_act 329 = .ok (.ireturn, 1) := by decide +kernel
theorem dL_act_330 : decode cL_act 330 = .ok (.astore 6, 2) := by decide +kernel
theorem dL_act_332 : decode cL_act 332 = .ok (.sipush (-1673), 3) := by decide +kernel
theorem dL_act_335 : decode cL_act 335 = .ok (.ireturn, 1) := by decide +kernel
theorem dL_all_0 : decode cL_all 0 = .ok (.lconst 0, 1) := by decide +kernel
theorem dL_all_1 : decode cL_all 1 = .ok (.lstore_n 1, 1) := by decide +kernel
theorem dL_all_2 : decode cL_all 2 = .ok (.iconst 0, 1) := by decide +kernel
theorem dL_all_3 : decode cL_all 3 = .ok (.istore_n 3, 1) := by decide +kernel
theorem dL_all_4 : decode cL_all 4 = .ok (.iload_n 3, 1) := by decide +kernel
theorem dL_all_5 : decode cL_all 5 = .ok (.iconst 5, 1) := by decide +kernel
theorem dL_all_6 : decode cL_all 6 = .ok (.if_icmp .ge 22, 3) := by decide +kernel
theorem dL_all_9 : decode cL_all 9 = .ok (.ldc2_w 82, 3) := by decide +kernel
theorem dL_all_12 : decode cL_all 12 = .ok (.lload_n 1, 1) := by decide +kernel
theorem dL_all_13 : decode cL_all 13 = .ok (.lmul, 1) := by decide +kernel
theorem dL_all_14 : decode cL_all 14 = .ok (.aload_n 0, 1) := by decide +kernel
theorem dL_all_15 : decode cL_all 15 = .ok (.iload_n 3, 1) := by decide +kernel
theorem dL_all_16 : decode cL_all 16 = .ok (.invokevirtual 64, 3) := by decide +kernel
theorem dL_all_19 : decode cL_all 19 = .ok (.i2l, 1) := by decide +kernel
theorem dL_all_20 : decode cL_all 20 = .ok (.ladd, 1) := by decide +kernel
theorem dL_all_21 : decode cL_all 21 = .ok (.lstore_n 1, 1) := by decide +kernel
theorem dL_all_22 : decode cL_all 22 = .ok (.iinc 3 1, 3) := by decide +kernel
theorem dL_all_25 : decode cL_all 25 = .ok (.goto (-21), 3) := by decide +kernel
theorem dL_all_28 : decode cL_all 28 = .ok (.iconst 0, 1) := by decide +kernel
theorem dL_all_29 : decode cL_all 29 = .ok (.istore_n 3, 1) := by decide +kernel
theorem dL_all_30 : decode cL_all 30 = .ok (.iload_n 3, 1) := by decide +kernel
theorem dL_all_31 : decode cL_all 31 = .ok (.bipush 12, 2) := by decide +kernel
theorem dL_all_33 : decode cL_all 33 = .ok (.if_icmp .ge 31, 3) := by decide +kernel
theorem dL_all_36 : decode cL_all 36 = .ok (.ldc2_w 82, 3) := by decide +kernel
theorem dL_all_39 : decode cL_all 39 = .ok (.lload_n 1, 1) := by decide +kernel
theorem dL_all_40 : decode cL_all 40 = .ok (.lmul, 1) := by decide +kernel
theorem dL_all_41 : decode cL_all 41 = .ok (.aload_n 0, 1) := by decide +kernel
theorem dL_all_42 : decode cL_all 42 = .ok (.iload_n 3, 1) := by decide +kernel
theorem dL_all_43 : decode cL_all 43 = .ok (.bipush 6, 2) := by decide +kernel
theorem dL_all_45 : decode cL_all 45 = .ok (.idiv, 1) := by decide +kernel
theorem dL_all_46 : decode cL_all 46 = .ok (.iload_n 3, 1) := by decide +kernel
theorem dL_all_47 : decode cL_all 47 = .ok (.bipush 6, 2) := by decide +kernel
theorem dL_all_49 : decode cL_all 49 = .ok (.irem, 1) := by decide +kernel
theorem dL_all_50 : decode cL_all 50 = .ok (.iconst 1, 1) := by decide +kernel
theorem dL_all_51 : decode cL_all 51 = .ok (.iadd, 1) := by decide +kernel
theorem dL_all_52 : decode cL_all 52 = .ok (.invokevirtual 58, 3) := by decide +kernel
theorem dL_all_55 : decode cL_all 55 = .ok (.i2l, 1) := by decide +kernel
theorem dL_all_56 : decode cL_all 56 = .ok (.ladd, 1) := by decide +kernel
theorem dL_all_57 : decode cL_all 57 = .ok (.lstore_n 1, 1) := by decide +kernel
theorem dL_all_58 : decode cL_all 58 = .ok (.iinc 3 1, 3) := by decide +kernel
theorem dL_all_61 : decode cL_all 61 = .ok (.goto (-31), 3) := by decide +kernel
theorem dL_all_64 : decode cL_all 64 = .ok (.iconst 0, 1) := by decide +kernel
theorem dL_all_65 : decode cL_all 65 = .ok (.istore_n 3, 1) := by decide +kernel
theorem dL_all_66 : decode cL_all 66 = .ok (.iload_n 3, 1) := by decide +kernel
theorem dL_all_67 : decode cL_all 67 = .ok (.iconst 2, 1) := by decide +kernel
theorem dL_all_68 : decode cL_all 68 = .ok (.if_icmp .ge 53, 3) := by decide +kernel
theorem dL_all_71 : decode cL_all 71 = .ok (.ldc2_w 82, 3) := by decide +kernel
theorem dL_all_74 : decode cL_all 74 = .ok (.lload_n 1, 1) := by decide +kernel
theorem dL_all_75 : decode cL_all 75 = .ok (.lmul, 1) := by decide +kernel
theorem dL_all_76 : decode cL_all 76 = .ok (.aload_n 0, 1) := by decide +kernel
theorem dL_all_77 : decode cL_all 77 = .ok (.iload_n 3, 1) := by decide +kernel
theorem dL_all_78 : decode cL_all 78 = .ok (.invokevirtual 52, 3) := by decide +kernel
theorem dL_all_81 : decode cL_all 81 = .ok (.i2l, 1) := by decide +kernel
theorem dL_all_82 : decode cL_all 82 = .ok (.ladd, 1) := by decide +kernel
theorem dL_all_83 : decode cL_all 83 = .ok (.ldc2_w 84, 3) := by decide +kernel
theorem dL_all_86 : decode cL_all 86 = .ok (.aload_n 0, 1) := by decide +kernel
theorem dL_all_87 : decode cL_all 87 = .ok (.iload_n 3, 1) := by decide +kernel
theorem dL_all_88 : decode cL_all 88 = .ok (.invokevirtual 73, 3) := by decide +kernel
theorem dL_all_91 : decode cL_all 91 = .ok (.i2l, 1) := by decide +kernel
theorem dL_all_92 : decode cL_all 92 = .ok (.lmul, 1) := by decide +kernel
theorem dL_all_93 : decode cL_all 93 = .ok (.ladd, 1) := by decide +kernel
theorem dL_all_94 : decode cL_all 94 = .ok (.ldc2_w 86, 3) := by decide +kernel
theorem dL_all_97 : decode cL_all 97 = .ok (.aload_n 0, 1) := by decide +kernel
theorem dL_all_98 : decode cL_all 98 = .ok (.iload_n 3, 1) := by decide +kernel
theorem dL_all_99 : decode cL_all 99 = .ok (.iconst 0, 1) := by decide +kernel
theorem dL_all_100 : decode cL_all 100 = .ok (.invokevirtual 67, 3) := by decide +kernel
theorem dL_all_103 : decode cL_all 103 = .ok (.i2l, 1) := by decide +kernel
theorem dL_all_104 : decode cL_all 104 = .ok (.lmul, 1) := by decide +kernel
theorem dL_all_105 : decode cL_all 105 = .ok (.ladd, 1) := by decide +kernel
theorem dL_all_106 : decode cL_all 106 = .ok (.aload_n 0, 1) := by decide +kernel
theorem dL_all_107 : decode cL_all 107 = .ok (.iload_n 3, 1) := by decide +kernel
theorem dL_all_108 : decode cL_all 108 = .ok (.iconst 1, 1) := by decide +kernel
theorem dL_all_109 : decode cL_all 109 = .ok (.invokevirtual 67, 3) := by decide +kernel
theorem dL_all_112 : decode cL_all 112 = .ok (.i2l, 1) := by decide +kernel
theorem dL_all_113 : decode cL_all 113 = .ok (.ladd, 1) := by decide +kernel
theorem dL_all_114 : decode cL_all 114 = .ok (.lstore_n 1, 1) := by decide +kernel
theorem dL_all_115 : decode cL_all 115 = .ok (.iinc 3 1, 3) := by decide +kernel
theorem dL_all_118 : decode cL_all 118 = .ok (.goto (-52), 3) := by decide +kernel
theorem dL_all_121 : decode cL_all 121 = .ok (.lload_n 1, 1) := by decide +kernel
theorem dL_all_122 : decode cL_all 122 = .ok (.lreturn, 1) := by decide +kernel
theorem dL_isRefused_0 : decode cL_isRefused 0 = .ok (.iload_n 1, 1) := by decide +kernel
theorem dL_isRefused_1 : decode cL_isRefused 1 = .ok (.iconst 2, 1) := by decide +kernel
theorem dL_isRefused_2 : decode cL_isRefused 2 = .ok (.irem, 1) := by decide +kernel
theorem dL_isRefused_3 : decode cL_isRefused 3 = .ok (.ifCond .ne 7, 3) := by decide +kernel
theorem dL_isRefused_6 : decode cL_isRefused 6 = .ok (.iconst 1, 1) := by decide +kernel
theorem dL_isRefused_7 : decode cL_isRefused 7 = .ok (.goto 4, 3) := by decide +kernel
theorem dL_isRefused_10 : decode cL_isRefused 10 = .ok (.iconst 0, 1) := by decide +kernel
theorem dL_isRefused_11 : decode cL_isRefused 11 = .ok (.istore_n 2, 1) := by decide +kernel
theorem dL_isRefused_12 : decode cL_isRefused 12 = .ok (.iload_n 2, 1) := by decide +kernel
theorem dL_isRefused_13 : decode cL_isRefused 13 = .ok (.ifCond .eq 12, 3) := by decide +kernel
theorem dL_isRefused_16 : decode cL_isRefused 16 = .ok (.iconst (-1), 1) := by decide +kernel
theorem dL_isRefused_17 : decode cL_isRefused 17 = .ok (.iload_n 1, 1) := by decide +kernel
theorem dL_isRefused_18 : decode cL_isRefused 18 = .ok (.bipush 30, 2) := by decide +kernel
theorem dL_isRefused_20 : decode cL_isRefused 20 = .ok (.irem, 1) := by decide +kernel
theorem dL_isRefused_21 : decode cL_isRefused 21 = .ok (.isub, 1) := by decide +kernel
theorem dL_isRefused_22 : decode cL_isRefused 22 = .ok (.goto 9, 3) := by decide +kernel
theorem dL_isRefused_25 : decode cL_isRefused 25 = .ok (.iconst 2, 1) := by decide +kernel
theorem dL_isRefused_26 : decode cL_isRefused 26 = .ok (.iload_n 1, 1) := by decide +kernel
theorem dL_isRefused_27 : decode cL_isRefused 27 = .ok (.bipush 30, 2) := by decide +kernel
theorem dL_isRefused_29 : decode cL_isRefused 29 = .ok (.irem, 1) := by decide +kernel
theorem dL_isRefused_30 : decode cL_isRefused 30 = .ok (.iadd, 1) := by decide +kernel
theorem dL_isRefused_31 : decode cL_isRefused 31 = .ok (.istore_n 3, 1) := by decide +kernel
theorem dL_isRefused_32 : decode cL_isRefused 32 = .ok (.iload_n 2, 1) := by decide +kernel
theorem dL_isRefused_33 : decode cL_isRefused 33 = .ok (.ifCond .eq 12, 3) := by decide +kernel
theorem dL_isRefused_36 : decode cL_isRefused 36 = .ok (.iconst 0, 1) := by decide +kernel
theorem dL_isRefused_37 : decode cL_isRefused 37 = .ok (.iload_n 1, 1) := by decide +kernel
theorem dL_isRefused_38 : decode cL_isRefused 38 = .ok (.bipush 30, 2) := by decide +kernel
theorem dL_isRefused_40 : decode cL_isRefused 40 = .ok (.irem, 1) := by decide +kernel
theorem dL_isRefused_41 : decode cL_isRefused 41 = .ok (.isub, 1) := by decide +kernel
theorem dL_isRefused_42 : decode cL_isRefused 42 = .ok (.goto 10, 3) := by decide +kernel
theorem dL_isRefused_45 : decode cL_isRefused 45 = .ok (.bipush 7, 2) := by decide +kernel
theorem dL_isRefused_47 : decode cL_isRefused 47 = .ok (.iload_n 1, 1) := by decide +kernel
theorem dL_isRefused_48 : decode cL_isRefused 48 = .ok (.bipush 30, 2) := by decide +kernel
theorem dL_isRefused_50 : decode cL_isRefused 50 = .ok (.irem, 1) := by decide +kernel
theorem dL_isRefused_51 : decode cL_isRefused 51 = .ok (.iadd, 1) := by decide +kernel
theorem dL_isRefused_52 : decode cL_isRefused 52 = .ok (.istore 4, 2) := by decide +kernel
theorem dL_isRefused_54 : decode cL_isRefused 54 = .ok (.iload_n 2, 1) := by decide +kernel
theorem dL_isRefused_55 : decode cL_isRefused 55 = .ok (.ifCond .eq 12, 3) := by decide +kernel
theorem dL_isRefused_58 : decode cL_isRefused 58 = .ok (.iconst 0, 1) := by decide +kernel
theorem dL_isRefused_59 : decode cL_isRefused 59 = .ok (.iload_n 1, 1) := by decide +kernel
theorem dL_isRefused_60 : decode cL_isRefused 60 = .ok (.bipush 30, 2) := by decide +kernel
theorem dL_isRefused_62 : decode cL_isRefused 62 = .ok (.irem, 1) := by decide +kernel
theorem dL_isRefused_63 : decode cL_isRefused 63 = .ok (.isub, 1) := by decide +kernel
theorem dL_isRefused_64 : decode cL_isRefused 64 = .ok (.goto 10, 3) := by decide +kernel
theorem dL_isRefused_67 : decode cL_isRefused 67 = .ok (.bipush 21, 2) := by decide +kernel
theorem dL_isRefused_69 : decode cL_isRefused 69 = .ok (.iload_n 1, 1) := by decide +kernel
theorem dL_isRefused_70 : decode cL_isRefused 70 = .ok (.bipush 30, 2) := by decide +kernel
theorem dL_isRefused_72 : decode cL_isRefused 72 = .ok (.irem, 1) := by decide +kernel
theorem dL_isRefused_73 : decode cL_isRefused 73 = .ok (.iadd, 1) := by decide +kernel
theorem dL_isRefused_74 : decode cL_isRefused 74 = .ok (.istore 5, 2) := by decide +kernel
theorem dL_isRefused_76 : decode cL_isRefused 76 = .ok (.aload_n 0, 1) := by decide +kernel
theorem dL_isRefused_77 : decode cL_isRefused 77 = .ok (.invokestatic 88, 3) := by decide +kernel
theorem dL_isRefused_80 : decode cL_isRefused 80 = .ok (.lstore 6, 2) := by decide +kernel
theorem dL_isRefused_82 : decode cL_isRefused 82 = .ok (.aload_n 0, 1) := by decide +kernel
theorem dL_isRefused_83 : decode cL_isRefused 83 = .ok (.iconst 0, 1) := by decide +kernel
theorem dL_isRefused_84 : decode cL_isRefused 84 = .ok (.invokevirtual 64, 3) := by decide +kernel
theorem dL_isRefused_87 : decode cL_isRefused 87 = .ok (.iconst 1, 1) := by decide +kernel
theorem dL_isRefused_88 : decode cL_isRefused 88 = .ok (.if_icmp .ne 7, 3) := by decide +kernel
theorem dL_isRefused_91 : decode cL_isRefused 91 = .ok (.iconst 1, 1) := by decide +kernel
theorem dL_isRefused_92 : decode cL_isRefused 92 = .ok (.goto 4, 3) := by decide +kernel
theorem dL_isRefused_95 : decode cL_isRefused 95 = .ok (.iconst 0, 1) := by decide +kernel
theorem dL_isRefused_96 : decode cL_isRefused 96 = .ok (.istore 8, 2) := by decide +kernel
theorem dL_isRefused_98 : decode cL_isRefused 98 = .ok (.aload_n 0, 1) := by decide +kernel
theorem dL_isRefused_99 : decode cL_isRefused 99 = .ok (.iconst 1, 1) := by decide +kernel
theorem dL_isRefused_100 : decode cL_isRefused 100 = .ok (.invokevirtual 64, 3) := by decide +kernel
theorem dL_isRefused_103 : decode cL_isRefused 103 = .ok (.iconst 1, 1) := by decide +kernel
theorem dL_isRefused_104 : decode cL_isRefused 104 = .ok (.if_icmp .ne 7, 3) := by decide +kernel
theorem dL_isRefused_107 : decode cL_isRefused 107 = .ok (.iconst 1, 1) := by decide +kernel
theorem dL_isRefused_108 : decode cL_isRefused 108 = .ok (.goto 4, 3) := by decide +kernel
theorem dL_isRefused_111 : decode cL_isRefused 111 = .ok (.iconst 0, 1) := by decide +kernel
theorem dL_isRefused_112 : decode cL_isRefused 112 = .ok (.istore 9, 2) := by decide +kernel
theorem dL_isRefused_114 : decode cL_isRefused 114 = .ok (.aload_n 0, 1) := by decide +kernel
theorem dL_isRefused_115 : decode cL_isRefused 115 = .ok (.iconst 0, 1) := by decide +kernel
theorem dL_isRefused_116 : decode cL_isRefused 116 = .ok (.iload_n 3, 1) := by decide +kernel
theorem dL_isRefused_117 : decode cL_isRefused 117 = .ok (.iconst 1, 1) := by decide +kernel
theorem dL_isRefused_118 : decode cL_isRefused 118 = .ok (.iconst 1, 1) := by decide +kernel
theorem dL_isRefused_119 : decode cL_isRefused 119 = .ok (.iconst 0, 1) := by decide +kernel
theorem dL_isRefused_120 : decode cL_isRefused 120 = .ok (.invokestatic 94, 3) := by decide +kernel
theorem dL_isRefused_123 : decode cL_isRefused 123 = .ok (.sipush (-1671), 3) := by decide +kernel
theorem dL_isRefused_126 : decode cL_isRefused 126 = .ok (.if_icmp .ne 542, 3) := by decide +kernel
theorem dL_isRefused_129 : decode cL_isRefused 129 = .ok (.aload_n 0, 1) := by decide +kernel
theorem dL_isRefused_130 : decode cL_isRefused 130 = .ok (.iconst 0, 1) := by decide +kernel
theorem dL_isRefused_131 : decode cL_isRefused 131 = .ok (.iload_n 1, 1) := by decide +kernel
theorem dL_isRefused_132 : decode cL_isRefused 132 = .ok (.iconst 2, 1) := by decide +kernel
theorem dL_isRefused_133 : decode cL_isRefused 133 = .ok (.irem, 1) := by decide +kernel
theorem dL_isRefused_134 : decode cL_isRefused 134 = .ok (.iload 4, 2) := by decide +kernel
theorem dL_isRefused_136 : decode cL_isRefused 136 = .ok (.iconst 1, 1) := by decide +kernel
theorem dL_isRefused_137 : decode cL_isRefused 137 = .ok (.iconst 0, 1) := by decide +kernel
theorem dL_isRefused_138 : decode cL_isRefused 138 = .ok (.invokestatic 94, 3) := by decide +kernel
theorem dL_isRefused_141 : decode cL_isRefused 141 = .ok (.sipush (-1671), 3) := by decide +kernel
theorem dL_isRefused_144 : decode cL_isRefused 144 = .ok (.if_icmp .ne 524, 3) := by decide +kernel
theorem dL_isRefused_147 : decode cL_isRefused 147 = .ok (.aload_n 0, 1) := by decide +kernel
theorem dL_isRefused_148 : decode cL_isRefused 148 = .ok (.iconst 0, 1) := by decide +kernel
theorem dL_isRefused_149 : decode cL_isRefused 149 = .ok (.iload_n 1, 1) := by decide +kernel
theorem dL_isRefused_150 : decode cL_isRefused 150 = .ok (.iconst 2, 1) := by decide +kernel
theorem dL_isRefused_151 : decode cL_isRefused 151 = .ok (.irem, 1) := by decide +kernel
theorem dL_isRefused_152 : decode cL_isRefused 152 = .ok (.iconst 1, 1) := by decide +kernel
theorem dL_isRefused_153 : decode cL_isRefused 153 = .ok (.iload 5, 2) := by decide +kernel
theorem dL_isRefused_155 : decode cL_isRefused 155 = .ok (.iconst 0, 1) := by decide +kernel
theorem dL_isRefused_156 : decode cL_isRefused 156 = .ok (.invokestatic 94, 3) := by decide +kernel
theorem dL_isRefused_159 : decode cL_isRefused 159 = .ok (.sipush (-1671), 3) := by decide +kernel
theorem dL_isRefused_162 : decode cL_isRefused 162 = .ok (.if_icmp .ne 506, 3) := by decide +kernel
theorem dL_isRefused_165 : decode cL_isRefused 165 = .ok (.aload_n 0, 1) := by decide +kernel
theorem dL_isRefused_166 : decode cL_isRefused 166 = .ok (.iconst 1, 1) := by decide +kernel
theorem dL_isRefused_167 : decode cL_isRefused 167 = .ok (.iload_n 3, 1) := by decide +kernel
theorem dL_isRefused_168 : decode cL_isRefused 168 = .ok (.iconst 1, 1) := by decide +kernel
theorem dL_isRefused_169 : decode cL_isRefused 169 = .ok (.iconst 0, 1) := by decide +kernel
theorem dL_isRefused_170 : decode cL_isRefused 170 = .ok (.iconst 0, 1) := by decide +kernel
theorem dL_isRefused_171 : decode cL_isRefused 171 = .ok (.invokestatic 94, 3) := by decide +kernel
theorem dL_isRefused_174 : decode cL_isRefused 174 = .ok (.sipush (-1671), 3) := by decide +kernel
theorem dL_isRefused_177 : decode cL_isRefused 177 = .ok (.if_icmp .ne 491, 3) := by decide +kernel
theorem dL_isRefused_180 : decode cL_isRefused 180 = .ok (.aload_n 0, 1) := by decide +kernel
theorem dL_isRefused_181 : decode cL_isRefused 181 = .ok (.iconst 1, 1) := by decide +kernel
theorem dL_isRefused_182 : decode cL_isRefused 182 = .ok (.iload_n 1, 1) := by decide +kernel
theorem dL_isRefused_183 : decode cL_isRefused 183 = .ok (.iconst 2, 1) := by decide +kernel
theorem dL_isRefused_184 : decode cL_isRefused 184 = .ok (.irem, 1) := by decide +kernel
theorem dL_isRefused_185 : decode cL_isRefused 185 = .ok (.iload 5, 2) := by decide +kernel
theorem dL_isRefused_187 : decode cL_isRefused 187 = .ok (.iconst 0, 1) := by decide +kernel
theorem dL_isRefused_188 : decode cL_isRefused 188 = .ok (.iconst 0, 1) := by decide +kernel
theorem dL_isRefused_189 : decode cL_isRefused 189 = .ok (.invokestatic 94, 3) := by decide +kernel
theorem dL_isRefused_192 : decode cL_isRefused 192 = .ok (.sipush (-1671), 3) := by decide +kernel
theorem dL_isRefused_195 : decode cL_isRefused 195 = .ok (.if_icmp .ne 473, 3) := by decide +kernel
theorem dL_isRefused_198 : decode cL_isRefused 198 = .ok (.aload_n 0, 1) := by decide +kernel
theorem dL_isRefused_199 : decode cL_isRefused 199 = .ok (.iconst 2, 1) := by decide +kernel
theorem dL_isRefused_200 : decode cL_isRefused 200 = .ok (.iload_n 3, 1) := by decide +kernel
theorem dL_isRefused_201 : decode cL_isRefused 201 = .ok (.iconst 0, 1) := by decide +kernel
theorem dL_isRefused_202 : decode cL_isRefused 202 = .ok (.iconst 0, 1) := by decide +kernel
theorem dL_isRefused_203 : decode cL_isRefused 203 = .ok (.iconst 0, 1) := by decide +kernel
theorem dL_isRefused_204 : decode cL_isRefused 204 = .ok (.invokestatic 94, 3) := by decide +kernel
theorem dL_isRefused_207 : decode cL_isRefused 207 = .ok (.sipush (-1671), 3) := by decide +kernel
theorem dL_isRefused_210 : decode cL_isRefused 210 = .ok (.if_icmp .ne 458, 3) := by decide +kernel
theorem dL_isRefused_213 : decode cL_isRefused 213 = .ok (.aload_n 0, 1) := by decide +kernel
theorem dL_isRefused_214 : decode cL_isRefused 214 = .ok (.iconst 3, 1) := by decide +kernel
theorem dL_isRefused_215 : decode cL_isRefused 215 = .ok (.iload 5, 2) := by decide +kernel
theorem dL_isRefused_217 : decode cL_isRefused 217 = .ok (.iconst 0, 1) := by decide +kernel
theorem dL_isRefused_218 : decode cL_isRefused 218 = .ok (.iconst 0, 1) := by decide +kernel
theorem dL_isRefused_219 : decode cL_isRefused 219 = .ok (.iconst 0, 1) := by decide +kernel
theorem dL_isRefused_220 : decode cL_isRefused 220 = .ok (.invokestatic 94, 3) := by decide +kernel
theorem dL_isRefused_223 : decode cL_isRefused 223 = .ok (.sipush (-1671), 3) := by decide +kernel
theorem dL_isRefused_226 : decode cL_isRefused 226 = .ok (.if_icmp .ne 442, 3) := by decide +kernel
theorem dL_isRefused_229 : decode cL_isRefused 229 = .ok (.aload_n 0, 1) := by decide +kernel
theorem dL_isRefused_230 : decode cL_isRefused 230 = .ok (.iconst 4, 1) := by decide +kernel
theorem dL_isRefused_231 : decode cL_isRefused 231 = .ok (.iload_n 3, 1) := by decide +kernel
theorem dL_isRefused_232 : decode cL_isRefused 232 = .ok (.iconst 1, 1) := by decide +kernel
theorem dL_isRefused_233 : decode cL_isRefused 233 = .ok (.bipush 9, 2) := by decide +kernel
theorem dL_isRefused_235 : decode cL_isRefused 235 = .ok (.iconst 0, 1) := by decide +kernel
theorem dL_isRefused_236 : decode cL_isRefused 236 = .ok (.invokestatic 94, 3) := by decide +kernel
theorem dL_isRefused_239 : decode cL_isRefused 239 = .ok (.sipush (-1671), 3) := by decide +kernel
theorem dL_isRefused_242 : decode cL_isRefused 242 = .ok (.if_icmp .ne 426, 3) := by decide +kernel
theorem dL_isRefused_245 : decode cL_isRefused 245 = .ok (.aload_n 0, 1) := by decide +kernel
theorem dL_isRefused_246 : decode cL_isRefused 246 = .ok (.iconst 4, 1) := by decide +kernel
theorem dL_isRefused_247 : decode cL_isRefused 247 = .ok (.iload_n 1, 1) := by decide +kernel
theorem dL_isRefused_248 : decode cL_isRefused 248 = .ok (.iconst 2, 1) := by decide +kernel
theorem dL_isRefused_249 : decode cL_isRefused 249 = .ok (.irem, 1) := by decide +kernel
theorem dL_isRefused_250 : decode cL_isRefused 250 = .ok (.iload 5, 2) := by decide +kernel
theorem dL_isRefused_252 : decode cL_isRefused 252 = .ok (.bipush 9, 2) := by decide +kernel
theorem dL_isRefused_254 : decode cL_isRefused 254 = .ok (.iconst 0, 1) := by decide +kernel
theorem dL_isRefused_255 : decode cL_isRefused 255 = .ok (.invokestatic 94, 3) := by decide +kernel
theorem dL_isRefused_258 : decode cL_isRefused 258 = .ok (.sipush (-1671), 3) := by decide +kernel
theorem dL_isRefused_261 : decode cL_isRefused 261 = .ok (.if_icmp .ne 407, 3) := by decide +kernel
theorem dL_isRefused_264 : decode cL_isRefused 264 = .ok (.aload_n 0, 1) := by decide +kernel
theorem dL_isRefused_265 : decode cL_isRefused 265 = .ok (.iconst 4, 1) := by decide +kernel
theorem dL_isRefused_266 : decode cL_isRefused 266 = .ok (.iload_n 1, 1) := by decide +kernel
theorem dL_isRefused_267 : decode cL_isRefused 267 = .ok (.iconst 2, 1) := by decide +kernel
theorem dL_isRefused_268 : decode cL_isRefused 268 = .ok (.irem, 1) := by decide +kernel
theorem dL_isRefused_269 : decode cL_isRefused 269 = .ok (.iconst 1, 1) := by decide +kernel
theorem dL_isRefused_270 : decode cL_isRefused 270 = .ok (.iload_n 1, 1) := by decide +kernel
theorem dL_isRefused_271 : decode cL_isRefused 271 = .ok (.bipush 20, 2) := by decide +kernel
theorem dL_isRefused_273 : decode cL_isRefused 273 = .ok (.irem, 1) := by decide +kernel
theorem dL_isRefused_274 : decode cL_isRefused 274 = .ok (.iadd, 1) := by decide +kernel
theorem dL_isRefused_275 : decode cL_isRefused 275 = .ok (.iload_n 2, 1) := by decide +kernel
theorem dL_isRefused_276 : decode cL_isRefused 276 = .ok (.ifCond .eq 12, 3) := by decide +kernel
theorem dL_isRefused_279 : decode cL_isRefused 279 = .ok (.iconst (-1), 1) := by decide +kernel
theorem dL_isRefused_280 : decode cL_isRefused 280 = .ok (.iload_n 1, 1) := by decide +kernel
theorem dL_isRefused_281 : decode cL_isRefused 281 = .ok (.bipush 30, 2) := by decide +kernel
theorem dL_isRefused_283 : decode cL_isRefused 283 = .ok (.irem, 1) := by decide +kernel
theorem dL_isRefused_284 : decode cL_isRefused 284 = .ok (.isub, 1) := by decide +kernel
theorem dL_isRefused_285 : decode cL_isRefused 285 = .ok (.goto 4, 3) := by decide +kernel
theorem dL_isRefused_288 : decode cL_isRefused 288 = .ok (.iconst 3, 1) := by decide +kernel
theorem dL_isRefused_289 : decode cL_isRefused 289 = .ok (.iconst 0, 1) := by decide +kernel
theorem dL_isRefused_290 : decode cL_isRefused 290 = .ok (.invokestatic 94, 3) := by decide +kernel
theorem dL_isRefused_293 : decode cL_isRefused 293 = .ok (.sipush (-1672), 3) := by decide +kernel
theorem dL_isRefused_296 : decode cL_isRefused 296 = .ok (.if_icmp .ne 372, 3) := by decide +kernel
theorem dL_isRefused_299 : decode cL_isRefused 299 = .ok (.aload_n 0, 1) := by decide +kernel
theorem dL_isRefused_300 : decode cL_isRefused 300 = .ok (.iconst 5, 1) := by decide +kernel
theorem dL_isRefused_301 : decode cL_isRefused 301 = .ok (.iload_n 2, 1) := by decide +kernel
theorem dL_isRefused_302 : decode cL_isRefused 302 = .ok (.ifCond .eq 13, 3) := by decide +kernel
theorem dL_isRefused_305 : decode cL_isRefused 305 = .ok (.bipush (-2), 2) := by decide +kernel
theorem dL_isRefused_307 : decode cL_isRefused 307 = .ok (.iload_n 1, 1) := by decide +kernel
theorem dL_isRefused_308 : decode cL_isRefused 308 = .ok (.bipush 30, 2) := by decide +kernel
theorem dL_isRefused_310 : decode cL_isRefused 310 = .ok (.irem, 1) := by decide +kernel
theorem dL_isRefused_311 : decode cL_isRefused 311 = .ok (.isub, 1) := by decide +kernel
theorem dL_isRefused_312 : decode cL_isRefused 312 = .ok (.goto 4, 3) := by decide +kernel
theorem dL_isRefused_315 : decode cL_isRefused 315 = .ok (.iconst 2, 1) := by decide +kernel
theorem dL_isRefused_316 : decode cL_isRefused 316 = .ok (.iconst 0, 1) := by decide +kernel
theorem dL_isRefused_317 : decode cL_isRefused 317 = .ok (.iconst 0, 1) := by decide +kernel
theorem dL_isRefused_318 : decode cL_isRefused 318 = .ok (.iconst 0, 1) := by decide +kernel
theorem dL_isRefused_319 : decode cL_isRefused 319 = .ok (.invokestatic 94, 3) := by decide +kernel
theorem dL_isRefused_322 : decode cL_isRefused 322 = .ok (.sipush (-1671), 3) := by decide +kernel
theorem dL_isRefused_325 : decode cL_isRefused 325 = .ok (.if_icmp .ne 343, 3) := by decide +kernel
theorem dL_isRefused_328 : decode cL_isRefused 328 = .ok (.aload_n 0, 1) := by decide +kernel
theorem dL_isRefused_329 : decode cL_isRefused 329 = .ok (.bipush 6, 2) := by decide +kernel
theorem dL_isRefused_331 : decode cL_isRefused 331 = .ok (.iload_n 3, 1) := by decide +kernel
theorem dL_isRefused_332 : decode cL_isRefused 332 = .ok (.iconst 1, 1) := by decide +kernel
theorem dL_isRefused_333 : decode cL_isRefused 333 = .ok (.iconst 0, 1) := by decide +kernel
theorem dL_isRefused_334 : decode cL_isRefused 334 = .ok (.iconst 0, 1) := by decide +kernel
theorem dL_isRefused_335 : decode cL_isRefused 335 = .ok (.invokestatic 94, 3) := by decide +kernel
theorem dL_isRefused_338 : decode cL_isRefused 338 = .ok (.sipush (-1671), 3) := by decide +kernel
theorem dL_isRefused_341 : decode cL_isRefused 341 = .ok (.if_icmp .ne 327, 3) := by decide +kernel
theorem dL_isRefused_344 : decode cL_isRefused 344 = .ok (.aload_n 0, 1) := by decide +kernel
theorem dL_isRefused_345 : decode cL_isRefused 345 = .ok (.bipush 8, 2) := by decide +kernel
theorem dL_isRefused_347 : decode cL_isRefused 347 = .ok (.iload_n 3, 1) := by decide +kernel
theorem dL_isRefused_348 : decode cL_isRefused 348 = .ok (.iconst 1, 1) := by decide +kernel
theorem dL_isRefused_349 : decode cL_isRefused 349 = .ok (.iconst 0, 1) := by decide +kernel
theorem dL_isRefused_350 : decode cL_isRefused 350 = .ok (.iconst 0, 1) := by decide +kernel
theorem dL_isRefused_351 : decode cL_isRefused 351 = .ok (.invokestatic 94, 3) := by decide +kernel
theorem dL_isRefused_354 : decode cL_isRefused 354 = .ok (.sipush (-1671), 3) := by decide +kernel
theorem dL_isRefused_357 : decode cL_isRefused 357 = .ok (.if_icmp .ne 311, 3) := by decide +kernel
theorem dL_isRefused_360 : decode cL_isRefused 360 = .ok (.aload_n 0, 1) := by decide +kernel
theorem dL_isRefused_361 : decode cL_isRefused 361 = .ok (.bipush 8, 2) := by decide +kernel
theorem dL_isRefused_363 : decode cL_isRefused 363 = .ok (.iload_n 1, 1) := by decide +kernel
theorem dL_isRefused_364 : decode cL_isRefused 364 = .ok (.iconst 2, 1) := by decide +kernel
theorem dL_isRefused_365 : decode cL_isRefused 365 = .ok (.irem, 1) := by decide +kernel
theorem dL_isRefused_366 : decode cL_isRefused 366 = .ok (.iload 5, 2) := by decide +kernel
theorem dL_isRefused_368 : decode cL_isRefused 368 = .ok (.iconst 0, 1) := by decide +kernel
theorem dL_isRefused_369 : decode cL_isRefused 369 = .ok (.iconst 0, 1) := by decide +kernel
theorem dL_isRefused_370 : decode cL_isRefused 370 = .ok (.invokestatic 94, 3) := by decide +kernel
theorem dL_isRefused_373 : decode cL_isRefused 373 = .ok (.sipush (-1671), 3) := by decide +kernel
theorem dL_isRefused_376 : decode cL_isRefused 376 = .ok (.if_icmp .ne 292, 3) := by decide +kernel
theorem dL_isRefused_379 : decode cL_isRefused 379 = .ok (.aload_n 0, 1) := by decide +kernel
theorem dL_isRefused_380 : decode cL_isRefused 380 = .ok (.bipush 9, 2) := by decide +kernel
theorem dL_isRefused_382 : decode cL_isRefused 382 = .ok (.iload_n 3, 1) := by decide +kernel
theorem dL_isRefused_383 : decode cL_isRefused 383 = .ok (.iconst 1, 1) := by decide +kernel
theorem dL_isRefused_384 : decode cL_isRefused 384 = .ok (.iconst 2, 1) := by decide +kernel
theorem dL_isRefused_385 : decode cL_isRefused 385 = .ok (.iconst 0, 1) := by decide +kernel
theorem dL_isRefused_386 : decode cL_isRefused 386 = .ok (.invokestatic 94, 3) := by decide +kernel
theorem dL_isRefused_389 : decode cL_isRefused 389 = .ok (.sipush (-1671), 3) := by decide +kernel
theorem dL_isRefused_392 : decode cL_isRefused 392 = .ok (.if_icmp .ne 276, 3) := by decide +kernel
theorem dL_isRefused_395 : decode cL_isRefused 395 = .ok (.aload_n 0, 1) := by decide +kernel
theorem dL_isRefused_396 : decode cL_isRefused 396 = .ok (.bipush 9, 2) := by decide +kernel
theorem dL_isRefused_398 : decode cL_isRefused 398 = .ok (.iload_n 1, 1) := by decide +kernel
theorem dL_isRefused_399 : decode cL_isRefused 399 = .ok (.iconst 2, 1) := by decide +kernel
theorem dL_isRefused_400 : decode cL_isRefused 400 = .ok (.irem, 1) := by decide +kernel
theorem dL_isRefused_401 : decode cL_isRefused 401 = .ok (.iload 5, 2) := by decide +kernel
theorem dL_isRefused_403 : decode cL_isRefused 403 = .ok (.iconst 2, 1) := by decide +kernel
theorem dL_isRefused_404 : decode cL_isRefused 404 = .ok (.iconst 0, 1) := by decide +kernel
theorem dL_isRefused_405 : decode cL_isRefused 405 = .ok (.invokestatic 94, 3) := by decide +kernel
theorem dL_isRefused_408 : decode cL_isRefused 408 = .ok (.sipush (-1671), 3) := by decide +kernel
theorem dL_isRefused_411 : decode cL_isRefused 411 = .ok (.if_icmp .ne 257, 3) := by decide +kernel
theorem dL_isRefused_414 : decode cL_isRefused 414 = .ok (.aload_n 0, 1) := by decide +kernel
theorem dL_isRefused_415 : decode cL_isRefused 415 = .ok (.bipush 9, 2) := by decide +kernel
theorem dL_isRefused_417 : decode cL_isRefused 417 = .ok (.iload_n 1, 1) := by decide +kernel
theorem dL_isRefused_418 : decode cL_isRefused 418 = .ok (.iconst 2, 1) := by decide +kernel
theorem dL_isRefused_419 : decode cL_isRefused 419 = .ok (.irem, 1) := by decide +kernel
theorem dL_isRefused_420 : decode cL_isRefused 420 = .ok (.iconst 1, 1) := by decide +kernel
theorem dL_isRefused_421 : decode cL_isRefused 421 = .ok (.iload 5, 2) := by decide +kernel
theorem dL_isRefused_423 : decode cL_isRefused 423 = .ok (.iconst 0, 1) := by decide +kernel
theorem dL_isRefused_424 : decode cL_isRefused 424 = .ok (.invokestatic 94, 3) := by decide +kernel
theorem dL_isRefused_427 : decode cL_isRefused 427 = .ok (.sipush (-1671), 3) := by decide +kernel
theorem dL_isRefused_430 : decode cL_isRefused 430 = .ok (.if_icmp .ne 238, 3) := by decide +kernel
theorem dL_isRefused_433 : decode cL_isRefused 433 = .ok (.aload_n 0, 1) := by decide +kernel
theorem dL_isRefused_434 : decode cL_isRefused 434 = .ok (.bipush 10, 2) := by decide +kernel
theorem dL_isRefused_436 : decode cL_isRefused 436 = .ok (.iload_n 3, 1) := by decide +kernel
theorem dL_isRefused_437 : decode cL_isRefused 437 = .ok (.iconst 0, 1) := by decide +kernel
theorem dL_isRefused_438 : decode cL_isRefused 438 = .ok (.iconst 0, 1) := by decide +kernel
theorem dL_isRefused_439 : decode cL_isRefused 439 = .ok (.iconst 0, 1) := by decide +kernel
theorem dL_isRefused_440 : decode cL_isRefused 440 = .ok (.invokestatic 94, 3) := by decide +kernel
theorem dL_isRefused_443 : decode cL_isRefused 443 = .ok (.sipush (-1671), 3) := by decide +kernel
theorem dL_isRefused_446 : decode cL_isRefused 446 = .ok (.if_icmp .ne 222, 3) := by decide +kernel
theorem dL_isRefused_449 : decode cL_isRefused 449 = .ok (.aload_n 0, 1) := by decide +kernel
theorem dL_isRefused_450 : decode cL_isRefused 450 = .ok (.bipush 11, 2) := by decide +kernel
theorem dL_isRefused_452 : decode cL_isRefused 452 = .ok (.iload_n 3, 1) := by decide +kernel
theorem dL_isRefused_453 : decode cL_isRefused 453 = .ok (.iconst 0, 1) := by decide +kernel
theorem dL_isRefused_454 : decode cL_isRefused 454 = .ok (.iconst 0, 1) := by decide +kernel
theorem dL_isRefused_455 : decode cL_isRefused 455 = .ok (.iconst 0, 1) := by decide +kernel
theorem dL_isRefused_456 : decode cL_isRefused 456 = .ok (.invokestatic 94, 3) := by decide +kernel
theorem dL_isRefused_459 : decode cL_isRefused 459 = .ok (.sipush (-1671), 3) := by decide +kernel
theorem dL_isRefused_462 : decode cL_isRefused 462 = .ok (.if_icmp .ne 206, 3) := by decide +kernel
theorem dL_isRefused_465 : decode cL_isRefused 465 = .ok (.aload_n 0, 1) := by decide +kernel
theorem dL_isRefused_466 : decode cL_isRefused 466 = .ok (.bipush 12, 2) := by decide +kernel
theorem dL_isRefused_468 : decode cL_isRefused 468 = .ok (.iload_n 3, 1) := by decide +kernel
theorem dL_isRefused_469 : decode cL_isRefused 469 = .ok (.iconst 0, 1) := by decide +kernel
theorem dL_isRefused_470 : decode cL_isRefused 470 = .ok (.iconst 0, 1) := by decide +kernel
theorem dL_isRefused_471 : decode cL_isRefused 471 = .ok (.iconst 0, 1) := by decide +kernel
theorem dL_isRefused_472 : decode cL_isRefused 472 = .ok (.invokestatic 94, 3) := by decide +kernel
theorem dL_isRefused_475 : decode cL_isRefused 475 = .ok (.sipush (-1671), 3) := by decide +kernel
theorem dL_isRefused_478 : decode cL_isRefused 478 = .ok (.if_icmp .ne 190, 3) := by decide +kernel
theorem dL_isRefused_481 : decode cL_isRefused 481 = .ok (.aload_n 0, 1) := by decide +kernel
theorem dL_isRefused_482 : decode cL_isRefused 482 = .ok (.bipush 13, 2) := by decide +kernel
theorem dL_isRefused_484 : decode cL_isRefused 484 = .ok (.iload_n 1, 1) := by decide +kernel
theorem dL_isRefused_485 : decode cL_isRefused 485 = .ok (.iconst 2, 1) := by decide +kernel
theorem dL_isRefused_486 : decode cL_isRefused 486 = .ok (.irem, 1) := by decide +kernel
theorem dL_isRefused_487 : decode cL_isRefused 487 = .ok (.iload 4, 2) := by decide +kernel
theorem dL_isRefused_489 : decode cL_isRefused 489 = .ok (.iconst 0, 1) := by decide +kernel
theorem dL_isRefused_490 : decode cL_isRefused 490 = .ok (.iconst 0, 1) := by decide +kernel
theorem dL_isRefused_491 : decode cL_isRefused 491 = .ok (.invokestatic 94, 3) := by decide +kernel
theorem dL_isRefused_494 : decode cL_isRefused 494 = .ok (.sipush (-1671), 3) := by decide +kernel
theorem dL_isRefused_497 : decode cL_isRefused 497 = .ok (.if_icmp .ne 171, 3) := by decide +kernel
theorem dL_isRefused_500 : decode cL_isRefused 500 = .ok (.aload_n 0, 1) := by decide +kernel
theorem dL_isRefused_501 : decode cL_isRefused 501 = .ok (.bipush 13, 2) := by decide +kernel
theorem dL_isRefused_503 : decode cL_isRefused 503 = .ok (.iload_n 3, 1) := by decide +kernel
theorem dL_isRefused_504 : decode cL_isRefused 504 = .ok (.iconst 1, 1) := by decide +kernel
theorem dL_isRefused_505 : decode cL_isRefused 505 = .ok (.iconst 0, 1) := by decide +kernel
theorem dL_isRefused_506 : decode cL_isRefused 506 = .ok (.iconst 0, 1) := by decide +kernel
theorem dL_isRefused_507 : decode cL_isRefused 507 = .ok (.invokestatic 94, 3) := by decide +kernel
theorem dL_isRefused_510 : decode cL_isRefused 510 = .ok (.sipush (-1671), 3) := by decide +kernel
theorem dL_isRefused_513 : decode cL_isRefused 513 = .ok (.if_icmp .ne 155, 3) := by decide +kernel
theorem dL_isRefused_516 : decode cL_isRefused 516 = .ok (.aload_n 0, 1) := by decide +kernel
theorem dL_isRefused_517 : decode cL_isRefused 517 = .ok (.bipush 14, 2) := by decide +kernel
theorem dL_isRefused_519 : decode cL_isRefused 519 = .ok (.iload_n 1, 1) := by decide +kernel
theorem dL_isRefused_520 : decode cL_isRefused 520 = .ok (.iconst 2, 1) := by decide +kernel
theorem dL_isRefused_521 : decode cL_isRefused 521 = .ok (.irem, 1) := by decide +kernel
theorem dL_isRefused_522 : decode cL_isRefused 522 = .ok (.iload 4, 2) := by decide +kernel
theorem dL_isRefused_524 : decode cL_isRefused 524 = .ok (.iconst 0, 1) := by decide +kernel
theorem dL_isRefused_525 : decode cL_isRefused 525 = .ok (.iconst 0, 1) := by decide +kernel
theorem dL_isRefused_526 : decode cL_isRefused 526 = .ok (.invokestatic 94, 3) := by decide +kernel
theorem dL_isRefused_529 : decode cL_isRefused 529 = .ok (.sipush (-1671), 3) := by decide +kernel
theorem dL_isRefused_532 : decode cL_isRefused 532 = .ok (.if_icmp .ne 136, 3) := by decide +kernel
theorem dL_isRefused_535 : decode cL_isRefused 535 = .ok (.aload_n 0, 1) := by decide +kernel
theorem dL_isRefused_536 : decode cL_isRefused 536 = .ok (.bipush 15, 2) := by decide +kernel
theorem dL_isRefused_538 : decode cL_isRefused 538 = .ok (.iload_n 2, 1) := by decide +kernel
theorem dL_isRefused_539 : decode cL_isRefused 539 = .ok (.ifCond .eq 12, 3) := by decide +kernel
theorem dL_isRefused_542 : decode cL_isRefused 542 = .ok (.iconst (-1), 1) := by decide +kernel
theorem dL_isRefused_543 : decode cL_isRefused 543 = .ok (.iload_n 1, 1) := by decide +kernel
theorem dL_isRefused_544 : decode cL_isRefused 544 = .ok (.bipush 30, 2) := by decide +kernel
theorem dL_isRefused_546 : decode cL_isRefused 546 = .ok (.irem, 1) := by decide +kernel
theorem dL_isRefused_547 : decode cL_isRefused 547 = .ok (.isub, 1) := by decide +kernel
theorem dL_isRefused_548 : decode cL_isRefused 548 = .ok (.goto 4, 3) := by decide +kernel
theorem dL_isRefused_551 : decode cL_isRefused 551 = .ok (.iconst 5, 1) := by decide +kernel
theorem dL_isRefused_552 : decode cL_isRefused 552 = .ok (.iconst 0, 1) := by decide +kernel
theorem dL_isRefused_553 : decode cL_isRefused 553 = .ok (.iconst 0, 1) := by decide +kernel
theorem dL_isRefused_554 : decode cL_isRefused 554 = .ok (.iconst 0, 1) := by decide +kernel
theorem dL_isRefused_555 : decode cL_isRefused 555 = .ok (.invokestatic 94, 3) := by decide +kernel
theorem dL_isRefused_558 : decode cL_isRefused 558 = .ok (.sipush (-1672), 3) := by decide +kernel
theorem dL_isRefused_561 : decode cL_isRefused 561 = .ok (.if_icmp .ne 107, 3) := by decide +kernel
theorem dL_isRefused_564 : decode cL_isRefused 564 = .ok (.aload_n 0, 1) := by decide +kernel
theorem dL_isRefused_565 : decode cL_isRefused 565 = .ok (.bipush 16, 2) := by decide +kernel
theorem dL_isRefused_567 : decode cL_isRefused 567 = .ok (.iload_n 3, 1) := by decide +kernel
theorem dL_isRefused_568 : decode cL_isRefused 568 = .ok (.bipush 9, 2) := by decide +kernel
theorem dL_isRefused_570 : decode cL_isRefused 570 = .ok (.iconst 0, 1) := by decide +kernel
theorem dL_isRefused_571 : decode cL_isRefused 571 = .ok (.iconst 0, 1) := by decide +kernel
theorem dL_isRefused_572 : decode cL_isRefused 572 = .ok (.invokestatic 94, 3) := by decide +kernel
theorem dL_isRefused_575 : decode cL_isRefused 575 = .ok (.sipush (-1671), 3) := by decide +kernel
theorem dL_isRefused_578 : decode cL_isRefused 578 = .ok (.if_icmp .ne 90, 3) := by decide +kernel
theorem dL_isRefused_581 : decode cL_isRefused 581 = .ok (.aload_n 0, 1) := by decide +kernel
theorem dL_isRefused_582 : decode cL_isRefused 582 = .ok (.bipush 16, 2) := by decide +kernel
theorem dL_isRefused_584 : decode cL_isRefused 584 = .ok (.iload_n 1, 1) := by decide +kernel
theorem dL_isRefused_585 : decode cL_isRefused 585 = .ok (.iconst 2, 1) := by decide +kernel
theorem dL_isRefused_586 : decode cL_isRefused 586 = .ok (.irem, 1) := by decide +kernel
theorem dL_isRefused_587 : decode cL_isRefused 587 = .ok (.iload_n 3, 1) := by decide +kernel
theorem dL_isRefused_588 : decode cL_isRefused 588 = .ok (.iconst 0, 1) := by decide +kernel
theorem dL_isRefused_589 : decode cL_isRefused 589 = .ok (.iconst 0, 1) := by decide +kernel
theorem dL_isRefused_590 : decode cL_isRefused 590 = .ok (.invokestatic 94, 3) := by decide +kernel
theorem dL_isRefused_593 : decode cL_isRefused 593 = .ok (.sipush (-1672), 3) := by decide +kernel
theorem dL_isRefused_596 : decode cL_isRefused 596 = .ok (.if_icmp .ne 72, 3) := by decide +kernel
theorem dL_isRefused_599 : decode cL_isRefused 599 = .ok (.aload_n 0, 1) := by decide +kernel
theorem dL_isRefused_600 : decode cL_isRefused 600 = .ok (.bipush 17, 2) := by decide +kernel
theorem dL_isRefused_602 : decode cL_isRefused 602 = .ok (.iload_n 3, 1) := by decide +kernel
theorem dL_isRefused_603 : decode cL_isRefused 603 = .ok (.bipush 9, 2) := by decide +kernel
theorem dL_isRefused_605 : decode cL_isRefused 605 = .ok (.iconst 0, 1) := by decide +kernel
theorem dL_isRefused_606 : decode cL_isRefused 606 = .ok (.iconst 0, 1) := by decide +kernel
theorem dL_isRefused_607 : decode cL_isRefused 607 = .ok (.invokestatic 94, 3) := by decide +kernel
theorem dL_isRefused_610 : decode cL_isRefused 610 = .ok (.sipush (-1671), 3) := by decide +kernel
theorem dL_isRefused_613 : decode cL_isRefused 613 = .ok (.if_icmp .ne 55, 3) := by decide +kernel
theorem dL_isRefused_616 : decode cL_isRefused 616 = .ok (.aload_n 0, 1) := by decide +kernel
theorem dL_isRefused_617 : decode cL_isRefused 617 = .ok (.bipush 17, 2) := by decide +kernel
theorem dL_isRefused_619 : decode cL_isRefused 619 = .ok (.iload_n 1, 1) := by decide +kernel
theorem dL_isRefused_620 : decode cL_isRefused 620 = .ok (.iconst 2, 1) := by decide +kernel
theorem dL_isRefused_621 : decode cL_isRefused 621 = .ok (.irem, 1) := by decide +kernel
theorem dL_isRefused_622 : decode cL_isRefused 622 = .ok (.iload_n 2, 1) := by decide +kernel
theorem dL_isRefused_623 : decode cL_isRefused 623 = .ok (.ifCond .eq 12, 3) := by decide +kernel
theorem dL_isRefused_626 : decode cL_isRefused 626 = .ok (.iconst (-1), 1) := by decide +kernel
theorem dL_isRefused_627 : decode cL_isRefused 627 = .ok (.iload_n 1, 1) := by decide +kernel
theorem dL_isRefused_628 : decode cL_isRefused 628 = .ok (.bipush 30, 2) := by decide +kernel
theorem dL_isRefused_630 : decode cL_isRefused 630 = .ok (.irem, 1) := by decide +kernel
theorem dL_isRefused_631 : decode cL_isRefused 631 = .ok (.isub, 1) := by decide +kernel
theorem dL_isRefused_632 : decode cL_isRefused 632 = .ok (.goto 5, 3) := by decide +kernel
theorem dL_isRefused_635 : decode cL_isRefused 635 = .ok (.bipush 6, 2) := by decide +kernel
theorem dL_isRefused_637 : decode cL_isRefused 637 = .ok (.iconst 0, 1) := by decide +kernel
theorem dL_isRefused_638 : decode cL_isRefused 638 = .ok (.iconst 0, 1) := by decide +kernel
theorem dL_isRefused_639 : decode cL_isRefused 639 = .ok (.invokestatic 94, 3) := by decide +kernel
theorem dL_isRefused_642 : decode cL_isRefused 642 = .ok (.sipush (-1672), 3) := by decide +kernel
theorem dL_isRefused_645 : decode cL_isRefused 645 = .ok (.if_icmp .ne 23, 3) := by decide +kernel
theorem dL_isRefused_648 : decode cL_isRefused 648 = .ok (.aload_n 0, 1) := by decide +kernel
theorem dL_isRefused_649 : decode cL_isRefused 649 = .ok (.bipush 18, 2) := by decide +kernel
theorem dL_isRefused_651 : decode cL_isRefused 651 = .ok (.iload_n 3, 1) := by decide +kernel
theorem dL_isRefused_652 : decode cL_isRefused 652 = .ok (.iconst 0, 1) := by decide +kernel
theorem dL_isRefused_653 : decode cL_isRefused 653 = .ok (.iconst 0, 1) := by decide +kernel
theorem dL_isRefused_654 : decode cL_isRefused 654 = .ok (.iconst 0, 1) := by decide +kernel
theorem dL_isRefused_655 : decode cL_isRefused 655 = .ok (.invokestatic 94, 3) := by decide +kernel
theorem dL_isRefused_658 : decode cL_isRefused 658 = .ok (.sipush (-1671), 3) := by decide +kernel
theorem dL_isRefused_661 : decode cL_isRefused 661 = .ok (.if_icmp .ne 7, 3) := by decide +kernel
theorem dL_isRefused_664 : decode cL_isRefused 664 = .ok (.iconst 1, 1) := by decide +kernel
theorem dL_isRefused_665 : decode cL_isRefused 665 = .ok (.goto 4, 3) := by decide +kernel
theorem dL_isRefused_668 : decode cL_isRefused 668 = .ok (.iconst 0, 1) := by decide +kernel
theorem dL_isRefused_669 : decode cL_isRefused 669 = .ok (.istore 10, 2) := by decide +kernel
theorem dL_isRefused_671 : decode cL_isRefused 671 = .ok (.iload 10, 2) := by decide +kernel
theorem dL_isRefused_673 : decode cL_isRefused 673 = .ok (.ifCond .eq 138, 3) := by decide +kernel
theorem dL_isRefused_676 : decode cL_isRefused 676 = .ok (.iload 8, 2) := by decide +kernel
theorem dL_isRefused_678 : decode cL_isRefused 678 = .ok (.ifCond .eq 57, 3) := by decide +kernel
theorem dL_isRefused_681 : decode cL_isRefused 681 = .ok (.aload_n 0, 1) := by decide +kernel
theorem dL_isRefused_682 : decode cL_isRefused 682 = .ok (.iconst 0, 1) := by decide +kernel
theorem dL_isRefused_683 : decode cL_isRefused 683 = .ok (.iload_n 1, 1) := by decide +kernel
theorem dL_isRefused_684 : decode cL_isRefused 684 = .ok (.iconst 2, 1) := by decide +kernel
theorem dL_isRefused_685 : decode cL_isRefused 685 = .ok (.irem, 1) := by decide +kernel
theorem dL_isRefused_686 : decode cL_isRefused 686 = .ok (.iconst 1, 1) := by decide +kernel
theorem dL_isRefused_687 : decode cL_isRefused 687 = .ok (.iconst 1, 1) := by decide +kernel
theorem dL_isRefused_688 : decode cL_isRefused 688 = .ok (.iconst 0, 1) := by decide +kernel
theorem dL_isRefused_689 : decode cL_isRefused 689 = .ok (.invokestatic 94, 3) := by decide +kernel
theorem dL_isRefused_692 : decode cL_isRefused 692 = .ok (.sipush (-1673), 3) := by decide +kernel
theorem dL_isRefused_695 : decode cL_isRefused 695 = .ok (.if_icmp .ne 116, 3) := by decide +kernel
theorem dL_isRefused_698 : decode cL_isRefused 698 = .ok (.aload_n 0, 1) := by decide +kernel
theorem dL_isRefused_699 : decode cL_isRefused 699 = .ok (.iconst 1, 1) := by decide +kernel
theorem dL_isRefused_700 : decode cL_isRefused 700 = .ok (.iload_n 1, 1) := by decide +kernel
theorem dL_isRefused_701 : decode cL_isRefused 701 = .ok (.iconst 2, 1) := by decide +kernel
theorem dL_isRefused_702 : decode cL_isRefused 702 = .ok (.irem, 1) := by decide +kernel
theorem dL_isRefused_703 : decode cL_isRefused 703 = .ok (.iconst 1, 1) := by decide +kernel
theorem dL_isRefused_704 : decode cL_isRefused 704 = .ok (.iconst 0, 1) := by decide +kernel
theorem dL_isRefused_705 : decode cL_isRefused 705 = .ok (.iconst 0, 1) := by decide +kernel
theorem dL_isRefused_706 : decode cL_isRefused 706 = .ok (.invokestatic 94, 3) := by decide +kernel
theorem dL_isRefused_709 : decode cL_isRefused 709 = .ok (.sipush (-1673), 3) := by decide +kernel
theorem dL_isRefused_712 : decode cL_isRefused 712 = .ok (.if_icmp .ne 99, 3) := by decide +kernel
theorem dL_isRefused_715 : decode cL_isRefused 715 = .ok (.aload_n 0, 1) := by decide +kernel
theorem dL_isRefused_716 : decode cL_isRefused 716 = .ok (.iconst 2, 1) := by decide +kernel
theorem dL_isRefused_717 : decode cL_isRefused 717 = .ok (.iload_n 1, 1) := by decide +kernel
theorem dL_isRefused_718 : decode cL_isRefused 718 = .ok (.iconst 2, 1) := by decide +kernel
theorem dL_isRefused_719 : decode cL_isRefused 719 = .ok (.irem, 1) := by decide +kernel
theorem dL_isRefused_720 : decode cL_isRefused 720 = .ok (.iconst 0, 1) := by decide +kernel
theorem dL_isRefused_721 : decode cL_isRefused 721 = .ok (.iconst 0, 1) := by decide +kernel
theorem dL_isRefused_722 : decode cL_isRefused 722 = .ok (.iconst 0, 1) := by decide +kernel
theorem dL_isRefused_723 : decode cL_isRefused 723 = .ok (.invokestatic 94, 3) := by decide +kernel
theorem dL_isRefused_726 : decode cL_isRefused 726 = .ok (.sipush (-1673), 3) := by decide +kernel
theorem dL_isRefused_729 : decode cL_isRefused 729 = .ok (.if_icmp .ne 82, 3) := by decide +kernel
theorem dL_isRefused_732 : decode cL_isRefused 732 = .ok (.goto 75, 3) := by decide +kernel
theorem dL_isRefused_735 : decode cL_isRefused 735 = .ok (.aload_n 0, 1) := by decide +kernel
theorem dL_isRefused_736 : decode cL_isRefused 736 = .ok (.iconst 3, 1) := by decide +kernel
theorem dL_isRefused_737 : decode cL_isRefused 737 = .ok (.iconst 1, 1) := by decide +kernel
theorem dL_isRefused_738 : decode cL_isRefused 738 = .ok (.iload_n 1, 1) := by decide +kernel
theorem dL_isRefused_739 : decode cL_isRefused 739 = .ok (.bipush 20, 2) := by decide +kernel
theorem dL_isRefused_741 : decode cL_isRefused 741 = .ok (.irem, 1) := by decide +kernel
theorem dL_isRefused_742 : decode cL_isRefused 742 = .ok (.iadd, 1) := by decide +kernel
theorem dL_isRefused_743 : decode cL_isRefused 743 = .ok (.iconst 0, 1) := by decide +kernel
theorem dL_isRefused_744 : decode cL_isRefused 744 = .ok (.iconst 0, 1) := by decide +kernel
theorem dL_isRefused_745 : decode cL_isRefused 745 = .ok (.iconst 0, 1) := by decide +kernel
theorem dL_isRefused_746 : decode cL_isRefused 746 = .ok (.invokestatic 94, 3) := by decide +kernel
theorem dL_isRefused_749 : decode cL_isRefused 749 = .ok (.sipush (-1673), 3) := by decide +kernel
theorem dL_isRefused_752 : decode cL_isRefused 752 = .ok (.if_icmp .ne 59, 3) := by decide +kernel
theorem dL_isRefused_755 : decode cL_isRefused 755 = .ok (.aload_n 0, 1) := by decide +kernel
theorem dL_isRefused_756 : decode cL_isRefused 756 = .ok (.bipush 7, 2) := by decide +kernel
theorem dL_isRefused_758 : decode cL_isRefused 758 = .ok (.iconst 0, 1) := by decide +kernel
theorem dL_isRefused_759 : decode cL_isRefused 759 = .ok (.iconst 0, 1) := by decide +kernel
theorem dL_isRefused_760 : decode cL_isRefused 760 = .ok (.iconst 0, 1) := by decide +kernel
theorem dL_isRefused_761 : decode cL_isRefused 761 = .ok (.iconst 0, 1) := by decide +kernel
theorem dL_isRefused_762 : decode cL_isRefused 762 = .ok (.invokestatic 94, 3) := by decide +kernel
theorem dL_isRefused_765 : decode cL_isRefused 765 = .ok (.sipush (-1673), 3) := by decide +kernel
theorem dL_isRefused_768 : decode cL_isRefused 768 = .ok (.if_icmp .ne 43, 3) := by decide +kernel
theorem dL_isRefused_771 : decode cL_isRefused 771 = .ok (.aload_n 0, 1) := by decide +kernel
theorem dL_isRefused_772 : decode cL_isRefused 772 = .ok (.bipush 8, 2) := by decide +kernel
theorem dL_isRefused_774 : decode cL_isRefused 774 = .ok (.iload_n 1, 1) := by decide +kernel
theorem dL_isRefused_775 : decode cL_isRefused 775 = .ok (.iconst 2, 1) := by decide +kernel
theorem dL_isRefused_776 : decode cL_isRefused 776 = .ok (.irem, 1) := by decide +kernel
theorem dL_isRefused_777 : decode cL_isRefused 777 = .ok (.iconst 1, 1) := by decide +kernel
theorem dL_isRefused_778 : decode cL_isRefused 778 = .ok (.iconst 0, 1) := by decide +kernel
theorem dL_isRefused_779 : decode cL_isRefused 779 = .ok (.iconst 0, 1) := by decide +kernel
theorem dL_isRefused_780 : decode cL_isRefused 780 = .ok (.invokestatic 94, 3) := by decide +kernel
theorem dL_isRefused_783 : decode cL_isRefused 783 = .ok (.sipush (-1673), 3) := by decide +kernel
theorem dL_isRefused_786 : decode cL_isRefused 786 = .ok (.if_icmp .ne 25, 3) := by decide +kernel
theorem dL_isRefused_789 : decode cL_isRefused 789 = .ok (.aload_n 0, 1) := by decide +kernel
theorem dL_isRefused_790 : decode cL_isRefused 790 = .ok (.bipush 9, 2) := by decide +kernel
theorem dL_isRefused_792 : decode cL_isRefused 792 = .ok (.iload_n 1, 1) := by decide +kernel
theorem dL_isRefused_793 : decode cL_isRefused 793 = .ok (.iconst 2, 1) := by decide +kernel
theorem dL_isRefused_794 : decode cL_isRefused 794 = .ok (.irem, 1) := by decide +kernel
theorem dL_isRefused_795 : decode cL_isRefused 795 = .ok (.iconst 1, 1) := by decide +kernel
theorem dL_isRefused_796 : decode cL_isRefused 796 = .ok (.iconst 2, 1) := by decide +kernel
theorem dL_isRefused_797 : decode cL_isRefused 797 = .ok (.iconst 0, 1) := by decide +kernel
theorem dL_isRefused_798 : decode cL_isRefused 798 = .ok (.invokestatic 94, 3) := by decide +kernel
theorem dL_isRefused_801 : decode cL_isRefused 801 = .ok (.sipush (-1673), 3) := by decide +kernel
theorem dL_isRefused_804 : decode cL_isRefused 804 = .ok (.if_icmp .ne 7, 3) := by decide +kernel
theorem dL_isRefused_807 : decode cL_isRefused 807 = .ok (.iconst 1, 1) := by decide +kernel
theorem dL_isRefused_808 : decode cL_isRefused 808 = .ok (.goto 4, 3) := by decide +kernel
theorem dL_isRefused_811 : decode cL_isRefused 811 = .ok (.iconst 0, 1) := by decide +kernel
theorem dL_isRefused_812 : decode cL_isRefused 812 = .ok (.istore 10, 2) := by decide +kernel
theorem dL_isRefused_814 : decode cL_isRefused 814 = .ok (.iload 10, 2) := by decide +kernel
theorem dL_isRefused_816 : decode cL_isRefused 816 = .ok (.ifCond .eq 170, 3) := by decide +kernel
theorem dL_isRefused_819 : decode cL_isRefused 819 = .ok (.iload 9, 2) := by decide +kernel
theorem dL_isRefused_821 : decode cL_isRefused 821 = .ok (.ifCond .eq 102, 3) := by decide +kernel
theorem dL_isRefused_824 : decode cL_isRefused 824 = .ok (.aload_n 0, 1) := by decide +kernel
theorem dL_isRefused_825 : decode cL_isRefused 825 = .ok (.iconst 3, 1) := by decide +kernel
theorem dL_isRefused_826 : decode cL_isRefused 826 = .ok (.iconst 1, 1) := by decide +kernel
theorem dL_isRefused_827 : decode cL_isRefused 827 = .ok (.iload_n 1, 1) := by decide +kernel
theorem dL_isRefused_828 : decode cL_isRefused 828 = .ok (.bipush 20, 2) := by decide +kernel
theorem dL_isRefused_830 : decode cL_isRefused 830 = .ok (.irem, 1) := by decide +kernel
theorem dL_isRefused_831 : decode cL_isRefused 831 = .ok (.iadd, 1) := by decide +kernel
theorem dL_isRefused_832 : decode cL_isRefused 832 = .ok (.iconst 0, 1) := by decide +kernel
theorem dL_isRefused_833 : decode cL_isRefused 833 = .ok (.iconst 0, 1) := by decide +kernel
theorem dL_isRefused_834 : decode cL_isRefused 834 = .ok (.iconst 0, 1) := by decide +kernel
theorem dL_isRefused_835 : decode cL_isRefused 835 = .ok (.invokestatic 94, 3) := by decide +kernel
theorem dL_isRefused_838 : decode cL_isRefused 838 = .ok (.sipush (-1673), 3) := by decide +kernel
theorem dL_isRefused_841 : decode cL_isRefused 841 = .ok (.if_icmp .ne 145, 3) := by decide +kernel
theorem dL_isRefused_844 : decode cL_isRefused 844 = .ok (.aload_n 0, 1) := by decide +kernel
theorem dL_isRefused_845 : decode cL_isRefused 845 = .ok (.bipush 7, 2) := by decide +kernel
theorem dL_isRefused_847 : decode cL_isRefused 847 = .ok (.iconst 0, 1) := by decide +kernel
theorem dL_isRefused_848 : decode cL_isRefused 848 = .ok (.iconst 0, 1) := by decide +kernel
theorem dL_isRefused_849 : decode cL_isRefused 849 = .ok (.iconst 0, 1) := by decide +kernel
theorem dL_isRefused_850 : decode cL_isRefused 850 = .ok (.iconst 0, 1) := by decide +kernel
theorem dL_isRefused_851 : decode cL_isRefused 851 = .ok (.invokestatic 94, 3) := by decide +kernel
theorem dL_isRefused_854 : decode cL_isRefused 854 = .ok (.sipush (-1673), 3) := by decide +kernel
theorem dL_isRefused_857 : decode cL_isRefused 857 = .ok (.if_icmp .ne 129, 3) := by decide +kernel
theorem dL_isRefused_860 : decode cL_isRefused 860 = .ok (.aload_n 0, 1) := by decide +kernel
theorem dL_isRefused_861 : decode cL_isRefused 861 = .ok (.bipush 8, 2) := by decide +kernel
theorem dL_isRefused_863 : decode cL_isRefused 863 = .ok (.iload_n 1, 1) := by decide +kernel
theorem dL_isRefused_864 : decode cL_isRefused 864 = .ok (.iconst 2, 1) := by decide +kernel
theorem dL_isRefused_865 : decode cL_isRefused 865 = .ok (.irem, 1) := by decide +kernel
theorem dL_isRefused_866 : decode cL_isRefused 866 = .ok (.iconst 1, 1) := by decide +kernel
theorem dL_isRefused_867 : decode cL_isRefused 867 = .ok (.iload_n 1, 1) := by decide +kernel
theorem dL_isRefused_868 : decode cL_isRefused 868 = .ok (.bipush 20, 2) := by decide +kernel
theorem dL_isRefused_870 : decode cL_isRefused 870 = .ok (.irem, 1) := by decide +kernel
theorem dL_isRefused_871 : decode cL_isRefused 871 = .ok (.iadd, 1) := by decide +kernel
theorem dL_isRefused_872 : decode cL_isRefused 872 = .ok (.iconst 0, 1) := by decide +kernel
theorem dL_isRefused_873 : decode cL_isRefused 873 = .ok (.iconst 0, 1) := by decide +kernel
theorem dL_isRefused_874 : decode cL_isRefused 874 = .ok (.invokestatic 94, 3) := by decide +kernel
theorem dL_isRefused_877 : decode cL_isRefused 877 = .ok (.sipush (-1673), 3) := by decide +kernel
theorem dL_isRefused_880 : decode cL_isRefused 880 = .ok (.if_icmp .ne 106, 3) := by decide +kernel
theorem dL_isRefused_883 : decode cL_isRefused 883 = .ok (.aload_n 0, 1) := by decide +kernel
theorem dL_isRefused_884 : decode cL_isRefused 884 = .ok (.bipush 9, 2) := by decide +kernel
theorem dL_isRefused_886 : decode cL_isRefused 886 = .ok (.iload_n 1, 1) := by decide +kernel
theorem dL_isRefused_887 : decode cL_isRefused 887 = .ok (.iconst 2, 1) := by decide +kernel
theorem dL_isRefused_888 : decode cL_isRefused 888 = .ok (.irem, 1) := by decide +kernel
theorem dL_isRefused_889 : decode cL_isRefused 889 = .ok (.iconst 1, 1) := by decide +kernel
theorem dL_isRefused_890 : decode cL_isRefused 890 = .ok (.bipush 20, 2) := by decide +kernel
theorem dL_isRefused_892 : decode cL_isRefused 892 = .ok (.iconst 0, 1) := by decide +kernel
theorem dL_isRefused_893 : decode cL_isRefused 893 = .ok (.invokestatic 94, 3) := by decide +kernel
theorem dL_isRefused_896 : decode cL_isRefused 896 = .ok (.sipush (-1673), 3) := by decide +kernel
theorem dL_isRefused_899 : decode cL_isRefused 899 = .ok (.if_icmp .ne 87, 3) := by decide +kernel
theorem dL_isRefused_902 : decode cL_isRefused 902 = .ok (.aload_n 0, 1) := by decide +kernel
theorem dL_isRefused_903 : decode cL_isRefused 903 = .ok (.bipush 10, 2) := by decide +kernel
theorem dL_isRefused_905 : decode cL_isRefused 905 = .ok (.iload_n 1, 1) := by decide +kernel
theorem dL_isRefused_906 : decode cL_isRefused 906 = .ok (.iconst 2, 1) := by decide +kernel
theorem dL_isRefused_907 : decode cL_isRefused 907 = .ok (.irem, 1) := by decide +kernel
theorem dL_isRefused_908 : decode cL_isRefused 908 = .ok (.iconst 0, 1) := by decide +kernel
theorem dL_isRefused_909 : decode cL_isRefused 909 = .ok (.iconst 0, 1) := by decide +kernel
theorem dL_isRefused_910 : decode cL_isRefused 910 = .ok (.iconst 0, 1) := by decide +kernel
theorem dL_isRefused_911 : decode cL_isRefused 911 = .ok (.invokestatic 94, 3) := by decide +kernel
theorem dL_isRefused_914 : decode cL_isRefused 914 = .ok (.sipush (-1673), 3) := by decide +kernel
theorem dL_isRefused_917 : decode cL_isRefused 917 = .ok (.if_icmp .ne 69, 3) := by decide +kernel
theorem dL_isRefused_920 : decode cL_isRefused 920 = .ok (.goto 62, 3) := by decide +kernel
theorem dL_isRefused_923 : decode cL_isRefused 923 = .ok (.aload_n 0, 1) := by decide +kernel
theorem dL_isRefused_924 : decode cL_isRefused 924 = .ok (.iconst 4, 1) := by decide +kernel
theorem dL_isRefused_925 : decode cL_isRefused 925 = .ok (.iload_n 1, 1) := by decide +kernel
theorem dL_isRefused_926 : decode cL_isRefused 926 = .ok (.iconst 2, 1) := by decide +kernel
theorem dL_isRefused_927 : decode cL_isRefused 927 = .ok (.irem, 1) := by decide +kernel
theorem dL_isRefused_928 : decode cL_isRefused 928 = .ok (.iconst 1, 1) := by decide +kernel
theorem dL_isRefused_929 : decode cL_isRefused 929 = .ok (.iload_n 1, 1) := by decide +kernel
theorem dL_isRefused_930 : decode cL_isRefused 930 = .ok (.bipush 20, 2) := by decide +kernel
theorem dL_isRefused_932 : decode cL_isRefused 932 = .ok (.irem, 1) := by decide +kernel
theorem dL_isRefused_933 : decode cL_isRefused 933 = .ok (.iadd, 1) := by decide +kernel
theorem dL_isRefused_934 : decode cL_isRefused 934 = .ok (.iconst 0, 1) := by decide +kernel
theorem dL_isRefused_935 : decode cL_isRefused 935 = .ok (.iconst 0, 1) := by decide +kernel
theorem dL_isRefused_936 : decode cL_isRefused 936 = .ok (.invokestatic 94, 3) := by decide +kernel
theorem dL_isRefused_939 : decode cL_isRefused 939 = .ok (.sipush (-1673), 3) := by decide +kernel
theorem dL_isRefused_942 : decode cL_isRefused 942 = .ok (.if_icmp .ne 44, 3) := by decide +kernel
theorem dL_isRefused_945 : decode cL_isRefused 945 = .ok (.aload_n 0, 1) := by decide +kernel
theorem dL_isRefused_946 : decode cL_isRefused 946 = .ok (.iconst 5, 1) := by decide +kernel
theorem dL_isRefused_947 : decode cL_isRefused 947 = .ok (.iload_n 1, 1) := by decide +kernel
theorem dL_isRefused_948 : decode cL_isRefused 948 = .ok (.iconst 3, 1) := by decide +kernel
theorem dL_isRefused_949 : decode cL_isRefused 949 = .ok (.irem, 1) := by decide +kernel
theorem dL_isRefused_950 : decode cL_isRefused 950 = .ok (.iconst 1, 1) := by decide +kernel
theorem dL_isRefused_951 : decode cL_isRefused 951 = .ok (.isub, 1) := by decide +kernel
theorem dL_isRefused_952 : decode cL_isRefused 952 = .ok (.iconst 0, 1) := by decide +kernel
theorem dL_isRefused_953 : decode cL_isRefused 953 = .ok (.iconst 0, 1) := by decide +kernel
theorem dL_isRefused_954 : decode cL_isRefused 954 = .ok (.iconst 0, 1) := by decide +kernel
theorem dL_isRefused_955 : decode cL_isRefused 955 = .ok (.invokestatic 94, 3) := by decide +kernel
theorem dL_isRefused_958 : decode cL_isRefused 958 = .ok (.sipush (-1673), 3) := by decide +kernel
theorem dL_isRefused_961 : decode cL_isRefused 961 = .ok (.if_icmp .ne 25, 3) := by decide +kernel
theorem dL_isRefused_964 : decode cL_isRefused 964 = .ok (.aload_n 0, 1) := by decide +kernel
theorem dL_isRefused_965 : decode cL_isRefused 965 = .ok (.bipush 6, 2) := by decide +kernel
theorem dL_isRefused_967 : decode cL_isRefused 967 = .ok (.iload_n 1, 1) := by decide +kernel
theorem dL_isRefused_968 : decode cL_isRefused 968 = .ok (.iconst 2, 1) := by decide +kernel
theorem dL_isRefused_969 : decode cL_isRefused 969 = .ok (.irem, 1) := by decide +kernel
theorem dL_isRefused_970 : decode cL_isRefused 970 = .ok (.iconst 1, 1) := by decide +kernel
theorem dL_isRefused_971 : decode cL_isRefused 971 = .ok (.iconst 0, 1) := by decide +kernel
theorem dL_isRefused_972 : decode cL_isRefused 972 = .ok (.iconst 0, 1) := by decide +kernel
theorem dL_isRefused_973 : decode cL_isRefused 973 = .ok (.invokestatic 94, 3) := by decide +kernel
theorem dL_isRefused_976 : decode cL_isRefused 976 = .ok (.sipush (-1673), 3) := by decide +kernel
theorem dL_isRefused_979 : decode cL_isRefused 979 = .ok (.if_icmp .ne 7, 3) := by decide +kernel
theorem dL_isRefused_982 : decode cL_isRefused 982 = .ok (.iconst 1, 1) := by decide +kernel
theorem dL_isRefused_983 : decode cL_isRefused 983 = .ok (.goto 4, 3) := by decide +kernel
theorem dL_isRefused_986 : decode cL_isRefused 986 = .ok (.iconst 0, 1) := by decide +kernel
theorem dL_isRefused_987 : decode cL_isRefused 987 = .ok (.istore 10, 2) := by decide +kernel
theorem dL_isRefused_989 : decode cL_isRefused 989 = .ok (.iload 10, 2) := by decide +kernel
theorem dL_isRefused_991 : decode cL_isRefused 991 = .ok (.ifCond .eq 17, 3) := by decide +kernel
theorem dL_isRefused_994 : decode cL_isRefused 994 = .ok (.aload_n 0, 1) := by decide +kernel
theorem dL_isRefused_995 : decode cL_isRefused 995 = .ok (.invokestatic 88, 3) := by decide +kernel
theorem dL_isRefused_998 : decode cL_isRefused 998 = .ok (.lload 6, 2) := by decide +kernel
theorem dL_isRefused_1000 : decode cL_isRefused 1000 = .ok (.lcmp, 1) := by decide +kernel
theorem dL_isRefused_1001 : decode cL_isRefused 1001 = .ok (.ifCond .ne 7, 3) := by decide +kernel
theorem dL_isRefused_1004 : decode cL_isRefused 1004 = .ok (.iconst 1, 1) := by decide +kernel
theorem dL_isRefused_1005 : decode cL_isRefused 1005 = .ok (.goto 4, 3) := by decide +kernel
theorem dL_isRefused_1008 : decode cL_isRefused 1008 = .ok (.iconst 0, 1) := by decide +kernel
theorem dL_isRefused_1009 : decode cL_isRefused 1009 = .ok (.ireturn, 1) := by decide +kernel
theorem dL_areSound_0 : decode cL_areSound 0 = .ok (.aload_n 0, 1) := by decide +kernel
theorem dL_areSound_1 : decode cL_areSound 1 = .ok (.iconst 0, 1) := by decide +kernel
theorem dL_areSound_2 : decode cL_areSound 2 = .ok (.invokevirtual 64, 3) := by decide +kernel
theorem dL_areSound_5 : decode cL_areSound 5 = .ok (.iconst 1, 1) := by decide +kernel
theorem dL_areSound_6 : decode cL_areSound 6 = .ok (.if_icmp .ne 7, 3) := by decide +kernel
theorem dL_areSound_9 : decode cL_areSound 9 = .ok (.iconst 1, 1) := by decide +kernel
theorem dL_areSound_10 : decode cL_areSound 10 = .ok (.goto 4, 3) := by decide +kernel
theorem dL_areSound_13 : decode cL_areSound 13 = .ok (.iconst 0, 1) := by decide +kernel
theorem dL_areSound_14 : decode cL_areSound 14 = .ok (.istore_n 3, 1) := by decide +kernel
theorem dL_areSound_15 : decode cL_areSound 15 = .ok (.aload_n 0, 1) := by decide +kernel
theorem dL_areSound_16 : decode cL_areSound 16 = .ok (.iconst 2, 1) := by decide +kernel
theorem dL_areSound_17 : decode cL_areSound 17 = .ok (.invokevirtual 64, 3) := by decide +kernel
theorem dL_areSound_20 : decode cL_areSound 20 = .ok (.istore 4, 2) := by decide +kernel
theorem dL_areSound_22 : decode cL_areSound 22 = .ok (.aload_n 0, 1) := by decide +kernel
theorem dL_areSound_23 : decode cL_areSound 23 = .ok (.iconst 3, 1) := by decide +kernel
theorem dL_areSound_24 : decode cL_areSound 24 = .ok (.invokevirtual 64, 3) := by decide +kernel
theorem dL_areSound_27 : decode cL_areSound 27 = .ok (.istore 5, 2) := by decide +kernel
theorem dL_areSound_29 : decode cL_areSound 29 = .ok (.aload_n 0, 1) := by decide +kernel
theorem dL_areSound_30 : decode cL_areSound 30 = .ok (.iconst 4, 1) := by decide +kernel
theorem dL_areSound_31 : decode cL_areSound 31 = .ok (.invokevirtual 64, 3) := by decide +kernel
theorem dL_areSound_34 : decode cL_areSound 34 = .ok (.istore 6, 2) := by decide +kernel
theorem dL_areSound_36 : decode cL_areSound 36 = .ok (.iload 4, 2) := by decide +kernel
theorem dL_areSound_38 : decode cL_areSound 38 = .ok (.iconst (-1), 1) := by decide +kernel
theorem dL_areSound_39 : decode cL_areSound 39 = .ok (.if_icmp .ne 7, 3) := by decide +kernel
theorem dL_areSound_42 : decode cL_areSound 42 = .ok (.iconst 1, 1) := by decide +kernel
theorem dL_areSound_43 : decode cL_areSound 43 = .ok (.goto 4, 3) := by decide +kernel
theorem dL_areSound_46 : decode cL_areSound 46 = .ok (.iconst 0, 1) := by decide +kernel
theorem dL_areSound_47 : decode cL_areSound 47 = .ok (.iload_n 3, 1) := by decide +kernel
theorem dL_areSound_48 : decode cL_areSound 48 = .ok (.ifCond .ne 7, 3) := by decide +kernel
theorem dL_areSound_51 : decode cL_areSound 51 = .ok (.iconst 1, 1) := by decide +kernel
theorem dL_areSound_52 : decode cL_areSound 52 = .ok (.goto 4, 3) := by decide +kernel
theorem dL_areSound_55 : decode cL_areSound 55 = .ok (.iconst 0, 1) := by decide +kernel
theorem dL_areSound_56 : decode cL_areSound 56 = .ok (.if_icmp .ne 65, 3) := by decide +kernel
theorem dL_areSound_59 : decode cL_areSound 59 = .ok (.iload 4, 2) := by decide +kernel
theorem dL_areSound_61 : decode cL_areSound 61 = .ok (.iconst (-1), 1) := by decide +kernel
theorem dL_areSound_62 : decode cL_areSound 62 = .ok (.if_icmp .lt 59, 3) := by decide +kernel
theorem dL_areSound_65 : decode cL_areSound 65 = .ok (.iload 4, 2) := by decide +kernel
theorem dL_areSound_67 : decode cL_areSound 67 = .ok (.iconst 2, 1) := by decide +kernel
theorem dL_areSound_68 : decode cL_areSound 68 = .ok (.if_icmp .ge 53, 3) := by decide +kernel
theorem dL_areSound_71 : decode cL_areSound 71 = .ok (.iload 5, 2) := by decide +kernel
theorem dL_areSound_73 : decode cL_areSound 73 = .ok (.ifCond .lt 48, 3) := by decide +kernel
theorem dL_areSound_76 : decode cL_areSound 76 = .ok (.iload 5, 2) := by decide +kernel
theorem dL_areSound_78 : decode cL_areSound 78 = .ok (.bipush 10, 2) := by decide +kernel
theorem dL_areSound_80 : decode cL_areSound 80 = .ok (.if_icmp .ge 41, 3) := by decide +kernel
theorem dL_areSound_83 : decode cL_areSound 83 = .ok (.aload_n 0, 1) := by decide +kernel
theorem dL_areSound_84 : decode cL_areSound 84 = .ok (.iconst 1, 1) := by decide +kernel
theorem dL_areSound_85 : decode cL_areSound 85 = .ok (.invokevirtual 64, 3) := by decide +kernel
theorem dL_areSound_88 : decode cL_areSound 88 = .ok (.iconst 1, 1) := by decide +kernel
theorem dL_areSound_89 : decode cL_areSound 89 = .ok (.if_icmp .ne 22, 3) := by decide +kernel
theorem dL_areSound_92 : decode cL_areSound 92 = .ok (.iload_n 3, 1) := by decide +kernel
theorem dL_areSound_93 : decode cL_areSound 93 = .ok (.ifCond .eq 28, 3) := by decide +kernel
theorem dL_areSound_96 : decode cL_areSound 96 = .ok (.iload 6, 2) := by decide +kernel
theorem dL_areSound_98 : decode cL_areSound 98 = .ok (.ifCond .le 23, 3) := by decide +kernel
theorem dL_areSound_101 : decode cL_areSound 101 = .ok (.iload 6, 2) := by decide +kernel
theorem dL_areSound_103 : decode cL_areSound 103 = .ok (.bipush 21, 2) := by decide +kernel
theorem dL_areSound_105 : decode cL_areSound 105 = .ok (.if_icmp .ge 16, 3) := by decide +kernel
theorem dL_areSound_108 : decode cL_areSound 108 = .ok (.goto 9, 3) := by decide +kernel
theorem dL_areSound_111 : decode cL_areSound 111 = .ok (.iload 6, 2) := by decide +kernel
theorem dL_areSound_113 : decode cL_areSound 113 = .ok (.iconst (-1), 1) := by decide +kernel
theorem dL_areSound_114 : decode cL_areSound 114 = .ok (.if_icmp .ne 7, 3) := by decide +kernel
theorem dL_areSound_117 : decode cL_areSound 117 = .ok (.iconst 1, 1) := by decide +kernel
theorem dL_areSound_118 : decode cL_areSound 118 = .ok (.goto 4, 3) := by decide +kernel
theorem dL_areSound_121 : decode cL_areSound 121 = .ok (.iconst 0, 1) := by decide +kernel
theorem dL_areSound_122 : decode cL_areSound 122 = .ok (.istore 7, 2) := by decide +kernel
theorem dL_areSound_124 : decode cL_areSound 124 = .ok (.iconst 0, 1) := by decide +kernel
theorem dL_areSound_125 : decode cL_areSound 125 = .ok (.istore 8, 2) := by decide +kernel
theorem dL_areSound_127 : decode cL_areSound 127 = .ok (.iconst 0, 1) := by decide +kernel
theorem dL_areSound_128 : decode cL_areSound 128 = .ok (.istore 9, 2) := by decide +kernel
theorem dL_areSound_130 : decode cL_areSound 130 = .ok (.iconst 0, 1) := by decide +kernel
theorem dL_areSound_131 : decode cL_areSound 131 = .ok (.istore 10, 2) := by decide +kernel
theorem dL_areSound_133 : decode cL_areSound 133 = .ok (.iload 10, 2) := by decide +kernel
theorem dL_areSound_135 : decode cL_areSound 135 = .ok (.iconst 2, 1) := by decide +kernel
theorem dL_areSound_136 : decode cL_areSound 136 = .ok (.if_icmp .ge 301, 3) := by decide +kernel
theorem dL_areSound_139 : decode cL_areSound 139 = .ok (.iload 7, 2) := by decide +kernel
theorem dL_areSound_141 : decode cL_areSound 141 = .ok (.ifCond .eq 296, 3) := by decide +kernel
theorem dL_areSound_144 : decode cL_areSound 144 = .ok (.iconst 0, 1) := by decide +kernel
theorem dL_areSound_145 : decode cL_areSound 145 = .ok (.istore 11, 2) := by decide +kernel
theorem dL_areSound_147 : decode cL_areSound 147 = .ok (.iconst 0, 1) := by decide +kernel
theorem dL_areSound_148 : decode cL_areSound 148 = .ok (.istore 12, 2) := by decide +kernel
theorem dL_areSound_150 : decode cL_areSound 150 = .ok (.iconst 1, 1) := by decide +kernel
theorem dL_areSound_151 : decode cL_areSound 151 = .ok (.istore 13, 2) := by decide +kernel
theorem dL_areSound_153 : decode cL_areSound 153 = .ok (.iload 13, 2) := by decide +kernel
theorem dL_areSound_155 : decode cL_areSound 155 = .ok (.bipush 7, 2) := by decide +kernel
theorem dL_areSound_157 : decode cL_areSound 157 = .ok (.if_icmp .ge 107, 3) := by decide +kernel
theorem dL_areSound_160 : decode cL_areSound 160 = .ok (.iload 7, 2) := by decide +kernel
theorem dL_areSound_162 : decode cL_areSound 162 = .ok (.ifCond .eq 102, 3) := by decide +kernel
theorem dL_areSound_165 : decode cL_areSound 165 = .ok (.aload_n 0, 1) := by decide +kernel
theorem dL_areSound_166 : decode cL_areSound 166 = .ok (.iload 10, 2) := by decide +kernel
theorem dL_areSound_168 : decode cL_areSound 168 = .ok (.iload 13, 2) := by decide +kernel
theorem dL_areSound_170 : decode cL_areSound 170 = .ok (.invokevirtual 58, 3) := by decide +kernel
theorem dL_areSound_173 : decode cL_areSound 173 = .ok (.istore 14, 2) := by decide +kernel
theorem dL_areSound_175 : decode cL_areSound 175 = .ok (.iload 14, 2) := by decide +kernel
theorem dL_areSound_177 : decode cL_areSound 177 = .ok (.iconst (-1), 1) := by decide +kernel
theorem dL_areSound_178 : decode cL_areSound 178 = .ok (.if_icmp .lt 59, 3) := by decide +kernel
theorem dL_areSound_181 : decode cL_areSound 181 = .ok (.iload 14, 2) := by decide +kernel
theorem dL_areSound_183 : decode cL_areSound 183 = .ok (.ifCond .eq 54, 3) := by decide +kernel
theorem dL_areSound_186 : decode cL_areSound 186 = .ok (.iload 14, 2) := by decide +kernel
theorem dL_areSound_188 : decode cL_areSound 188 = .ok (.bipush 21, 2) := by decide +kernel
theorem dL_areSound_190 : decode cL_areSound 190 = .ok (.if_icmp .ge 47, 3) := by decide +kernel
theorem dL_areSound_193 : decode cL_areSound 193 = .ok (.aload_n 0, 1) := by decide +kernel
theorem dL_areSound_194 : decode cL_areSound 194 = .ok (.iload 10, 2) := by decide +kernel
theorem dL_areSound_196 : decode cL_areSound 196 = .ok (.iload 13, 2) := by decide +kernel
theorem dL_areSound_198 : decode cL_areSound 198 = .ok (.invokevirtual 61, 3) := by decide +kernel
theorem dL_areSound_201 : decode cL_areSound 201 = .ok (.iload_n 3, 1) := by decide +kernel
theorem dL_areSound_202 : decode cL_areSound 202 = .ok (.ifCond .eq 8, 3) := by decide +kernel
theorem dL_areSound_205 : decode cL_areSound 205 = .ok (.iload 14, 2) := by decide +kernel
theorem dL_areSound_207 : decode cL_areSound 207 = .ok (.goto 4, 3) := by decide +kernel
theorem dL_areSound_210 : decode cL_areSound 210 = .ok (.iconst (-1), 1) := by decide +kernel
theorem dL_areSound_211 : decode cL_areSound 211 = .ok (.if_icmp .ne 26, 3) := by decide +kernel
theorem dL_areSound_214 : decode cL_areSound 214 = .ok (.iload_n 3, 1) := by decide +kernel
theorem dL_areSound_215 : decode cL_areSound 215 = .ok (.ifCond .eq 18, 3) := by decide +kernel
theorem dL_areSound_218 : decode cL_areSound 218 = .ok (.iload 14, 2) := by decide +kernel
theorem dL_areSound_220 : decode cL_areSound 220 = .ok (.ifCond .le 17, 3) := by decide +kernel
theorem dL_areSound_223 : decode cL_areSound 223 = .ok (.iload 11, 2) := by decide +kernel
theorem dL_areSound_225 : decode cL_areSound 225 = .ok (.iload 14, 2) := by decide +kernel
theorem dL_areSound_227 : decode cL_areSound 227 = .ok (.ishr, 1) := by decide +kernel
theorem dL_areSound_228 : decode cL_areSound 228 = .ok (.iconst 1, 1) := by decide +kernel
theorem dL_areSound_229 : decode cL_areSound 229 = .ok (.iand, 1) := by decide +kernel
theorem dL_areSound_230 : decode cL_areSound 230 = .ok (.ifCond .ne 7, 3) := by decide +kernel
theorem dL_areSound_233 : decode cL_areSound 233 = .ok (.iconst 1, 1) := by decide +kernel
theorem dL_areSound_234 : decode cL_areSound 234 = .ok (.goto 4, 3) := by decide +kernel
theorem dL_areSound_237 : decode cL_areSound 237 = .ok (.iconst 0, 1) := by decide +kernel
theorem dL_areSound_238 : decode cL_areSound 238 = .ok (.istore 7, 2) := by decide +kernel
theorem dL_areSound_240 : decode cL_areSound 240 = .ok (.iload 11, 2) := by decide +kernel
theorem dL_areSound_242 : decode cL_areSound 242 = .ok (.iload 14, 2) := by decide +kernel
theorem dL_areSound_244 : decode cL_areSound 244 = .ok (.ifCond .le 10, 3) := by decide +kernel
theorem dL_areSound_247 : decode cL_areSound 247 = .ok (.iconst 1, 1) := by decide +kernel
theorem dL_areSound_248 : decode cL_areSound 248 = .ok (.iload 14, 2) := by decide +kernel
theorem dL_areSound_250 : decode cL_areSound 250 = .ok (.ishl, 1) := by decide +kernel
theorem dL_areSound_251 : decode cL_areSound 251 = .ok (.goto 4, 3) := by decide +kernel
theorem dL_areSound_254 : decode cL_areSound 254 = .ok (.iconst 0, 1) := by decide +kernel
theorem dL_areSound_255 : decode cL_areSound 255 = .ok (.ior, 1) := by decide +kernel
theorem dL_areSound_256 : decode cL_areSound 256 = .ok (.istore 11, 2) := by decide +kernel
theorem dL_areSound_258 : decode cL_areSound 258 = .ok (.iinc 13 1, 3) := by decide +kernel
theorem dL_areSound_261 : decode cL_areSound 261 = .ok (.goto (-108), 3) := by decide +kernel
theorem dL_areSound_264 : decode cL_areSound 264 = .ok (.iload 8, 2) := by decide +kernel
theorem dL_areSound_266 : decode cL_areSound 266 = .ok (.aload_n 0, 1) := by decide +kernel
theorem dL_areSound_267 : decode cL_areSound 267 = .ok (.iload 10, 2) := by decide +kernel
theorem dL_areSound_269 : decode cL_areSound 269 = .ok (.invokevirtual 52, 3) := by decide +kernel
theorem dL_areSound_272 : decode cL_areSound 272 = .ok (.iadd, 1) := by decide +kernel
theorem dL_areSound_273 : decode cL_areSound 273 = .ok (.istore 8, 2) := by decide +kernel
theorem dL_areSound_275 : decode cL_areSound 275 = .ok (.iload 7, 2) := by decide +kernel
theorem dL_areSound_277 : decode cL_areSound 277 = .ok (.ifCond .eq 101, 3) := by decide +kernel
theorem dL_areSound_280 : decode cL_areSound 280 = .ok (.aload_n 0, 1) := by decide +kernel
theorem dL_areSound_281 : decode cL_areSound 281 = .ok (.iload 10, 2) := by decide +kernel
theorem dL_areSound_283 : decode cL_areSound 283 = .ok (.invokevirtual 52, 3) := by decide +kernel
theorem dL_areSound_286 : decode cL_areSound 286 = .ok (.ifCond .lt 92, 3) := by decide +kernel
theorem dL_areSound_289 : decode cL_areSound 289 = .ok (.iload_n 2, 1) := by decide +kernel
theorem dL_areSound_290 : decode cL_areSound 290 = .ok (.iconst 2, 1) := by decide +kernel
theorem dL_areSound_291 : decode cL_areSound 291 = .ok (.irem, 1) := by decide +kernel
theorem dL_areSound_292 : decode cL_areSound 292 = .ok (.iload 10, 2) := by decide +kernel
theorem dL_areSound_294 : decode cL_areSound 294 = .ok (.if_icmp .eq 18, 3) := by decide +kernel
theorem dL_areSound_297 : decode cL_areSound 297 = .ok (.aload_n 0, 1) := by decide +kernel
theorem dL_areSound_298 : decode cL_areSound 298 = .ok (.iload 10, 2) := by decide +kernel
theorem dL_areSound_300 : decode cL_areSound 300 = .ok (.invokevirtual 55, 3) := by decide +kernel
theorem dL_areSound_303 : decode cL_areSound 303 = .ok (.aload_n 0, 1) := by decide +kernel
theorem dL_areSound_304 : decode cL_areSound 304 = .ok (.iload 10, 2) := by decide +kernel
theorem dL_areSound_306 : decode cL_areSound 306 = .ok (.invokevirtual 52, 3) := by decide +kernel
theorem dL_areSound_309 : decode cL_areSound 309 = .ok (.if_icmp .ne 69, 3) := by decide +kernel
theorem dL_areSound_312 : decode cL_areSound 312 = .ok (.aload_n 0, 1) := by decide +kernel
theorem dL_areSound_313 : decode cL_areSound 313 = .ok (.iload 10, 2) := by decide +kernel
theorem dL_areSound_315 : decode cL_areSound 315 = .ok (.invokevirtual 73, 3) := by decide +kernel
theorem dL_areSound_318 : decode cL_areSound 318 = .ok (.ifCond .lt 60, 3) := by decide +kernel
theorem dL_areSound_321 : decode cL_areSound 321 = .ok (.aload_n 0, 1) := by decide +kernel
theorem dL_areSound_322 : decode cL_areSound 322 = .ok (.iload 10, 2) := by decide +kernel
theorem dL_areSound_324 : decode cL_areSound 324 = .ok (.invokevirtual 73, 3) := by decide +kernel
theorem dL_areSound_327 : decode cL_areSound 327 = .ok (.iconst 3, 1) := by decide +kernel
theorem dL_areSound_328 : decode cL_areSound 328 = .ok (.if_icmp .gt 50, 3) := by decide +kernel
theorem dL_areSound_331 : decode cL_areSound 331 = .ok (.aload_n 0, 1) := by decide +kernel
theorem dL_areSound_332 : decode cL_areSound 332 = .ok (.iload 10, 2) := by decide +kernel
theorem dL_areSound_334 : decode cL_areSound 334 = .ok (.iconst 0, 1) := by decide +kernel
theorem dL_areSound_335 : decode cL_areSound 335 = .ok (.invokevirtual 67, 3) := by decide +kernel
theorem dL_areSound_338 : decode cL_areSound 338 = .ok (.ifCond .lt 40, 3) := by decide +kernel
theorem dL_areSound_341 : decode cL_areSound 341 = .ok (.aload_n 0, 1) := by decide +kernel
theorem dL_areSound_342 : decode cL_areSound 342 = .ok (.iload 10, 2) := by decide +kernel
theorem dL_areSound_344 : decode cL_areSound 344 = .ok (.iconst 0, 1) := by decide +kernel
theorem dL_areSound_345 : decode cL_areSound 345 = .ok (.invokevirtual 67, 3) := by decide +kernel
theorem dL_areSound_348 : decode cL_areSound 348 = .ok (.bipush 6, 2) := by decide +kernel
theorem dL_areSound_350 : decode cL_areSound 350 = .ok (.if_icmp .gt 28, 3) := by decide +kernel
theorem dL_areSound_353 : decode cL_areSound 353 = .ok (.aload_n 0, 1) := by decide +kernel
theorem dL_areSound_354 : decode cL_areSound 354 = .ok (.iload 10, 2) := by decide +kernel
theorem dL_areSound_356 : decode cL_areSound 356 = .ok (.iconst 1, 1) := by decide +kernel
theorem dL_areSound_357 : decode cL_areSound 357 = .ok (.invokevirtual 67, 3) := by decide +kernel
theorem dL_areSound_360 : decode cL_areSound 360 = .ok (.ifCond .lt 18, 3) := by decide +kernel
theorem dL_areSound_363 : decode cL_areSound 363 = .ok (.aload_n 0, 1) := by decide +kernel
theorem dL_areSound_364 : decode cL_areSound 364 = .ok (.iload 10, 2) := by decide +kernel
theorem dL_areSound_366 : decode cL_areSound 366 = .ok (.iconst 1, 1) := by decide +kernel
theorem dL_areSound_367 : decode cL_areSound 367 = .ok (.invokevirtual 67, 3) := by decide +kernel
theorem dL_areSound_370 : decode cL_areSound 370 = .ok (.iconst 2, 1) := by decide +kernel
theorem dL_areSound_371 : decode cL_areSound 371 = .ok (.if_icmp .gt 7, 3) := by decide +kernel
theorem dL_areSound_374 : decode cL_areSound 374 = .ok (.iconst 1, 1) := by decide +kernel
theorem dL_areSound_375 : decode cL_areSound 375 = .ok (.goto 4, 3) := by decide +kernel
theorem dL_areSound_378 : decode cL_areSound 378 = .ok (.iconst 0, 1) := by decide +kernel
theorem dL_areSound_379 : decode cL_areSound 379 = .ok (.istore 7, 2) := by decide +kernel
theorem dL_areSound_381 : decode cL_areSound 381 = .ok (.iconst 0, 1) := by decide +kernel
theorem dL_areSound_382 : decode cL_areSound 382 = .ok (.istore 13, 2) := by decide +kernel
theorem dL_areSound_384 : decode cL_areSound 384 = .ok (.iload 13, 2) := by decide +kernel
theorem dL_areSound_386 : decode cL_areSound 386 = .ok (.bipush 6, 2) := by decide +kernel
theorem dL_areSound_388 : decode cL_areSound 388 = .ok (.if_icmp .ge 43, 3) := by decide +kernel
theorem dL_areSound_391 : decode cL_areSound 391 = .ok (.iload 7, 2) := by decide +kernel
theorem dL_areSound_393 : decode cL_areSound 393 = .ok (.ifCond .eq 38, 3) := by decide +kernel
theorem dL_areSound_396 : decode cL_areSound 396 = .ok (.aload_n 0, 1) := by decide +kernel
theorem dL_areSound_397 : decode cL_areSound 397 = .ok (.iload 10, 2) := by decide +kernel
theorem dL_areSound_399 : decode cL_areSound 399 = .ok (.iload 13, 2) := by decide +kernel
theorem dL_areSound_401 : decode cL_areSound 401 = .ok (.invokevirtual 70, 3) := by decide +kernel
theorem dL_areSound_404 : decode cL_areSound 404 = .ok (.istore 14, 2) := by decide +kernel
theorem dL_areSound_406 : decode cL_areSound 406 = .ok (.iload 14, 2) := by decide +kernel
theorem dL_areSound_408 : decode cL_areSound 408 = .ok (.ifCond .lt 7, 3) := by decide +kernel
theorem dL_areSound_411 : decode cL_areSound 411 = .ok (.iconst 1, 1) := by decide +kernel
theorem dL_areSound_412 : decode cL_areSound 412 = .ok (.goto 4, 3) := by decide +kernel
theorem dL_areSound_415 : decode cL_areSound 415 = .ok (.iconst 0, 1) := by decide +kernel
theorem dL_areSound_416 : decode cL_areSound 416 = .ok (.istore 7, 2) := by decide +kernel
theorem dL_areSound_418 : decode cL_areSound 418 = .ok (.iload 9, 2) := by decide +kernel
theorem dL_areSound_420 : decode cL_areSound 420 = .ok (.iload 14, 2) := by decide +kernel
theorem dL_areSound_422 : decode cL_areSound 422 = .ok (.iadd, 1) := by decide +kernel
theorem dL_areSound_423 : decode cL_areSound 423 = .ok (.istore 9, 2) := by decide +kernel
theorem dL_areSound_425 : decode cL_areSound 425 = .ok (.iinc 13 1, 3) := by decide +kernel
theorem dL_areSound_428 : decode cL_areSound 428 = .ok (.goto (-44), 3) := by decide +kernel
theorem dL_areSound_431 : decode cL_areSound 431 = .ok (.iinc 10 1, 3) := by decide +kernel
theorem dL_areSound_434 : decode cL_areSound 434 = .ok (.goto (-301), 3) := by decide +kernel
theorem dL_areSound_437 : decode cL_areSound 437 = .ok (.iload 7, 2) := by decide +kernel
theorem dL_areSound_439 : decode cL_areSound 439 = .ok (.ifCond .eq 65, 3) := by decide +kernel
theorem dL_areSound_442 : decode cL_areSound 442 = .ok (.iload 9, 2) := by decide +kernel
theorem dL_areSound_444 : decode cL_areSound 444 = .ok (.aload_n 1, 1) := by decide +kernel
theorem dL_areSound_445 : decode cL_areSound 445 = .ok (.iconst 2, 1) := by decide +kernel
theorem dL_areSound_446 : decode cL_areSound 446 = .ok (.iaload, 1) := by decide +kernel
theorem dL_areSound_447 : decode cL_areSound 447 = .ok (.if_icmp .ne 57, 3) := by decide +kernel
theorem dL_areSound_450 : decode cL_areSound 450 = .ok (.iload 8, 2) := by decide +kernel
theorem dL_areSound_452 : decode cL_areSound 452 = .ok (.aload_n 1, 1) := by decide +kernel
theorem dL_areSound_453 : decode cL_areSound 453 = .ok (.iconst 2, 1) := by decide +kernel
theorem dL_areSound_454 : decode cL_areSound 454 = .ok (.iaload, 1) := by decide +kernel
theorem dL_areSound_455 : decode cL_areSound 455 = .ok (.aload_n 1, 1) := by decide +kernel
theorem dL_areSound_456 : decode cL_areSound 456 = .ok (.iconst 0, 1) := by decide +kernel
theorem dL_areSound_457 : decode cL_areSound 457 = .ok (.iaload, 1) := by decide +kernel
theorem dL_areSound_458 : decode cL_areSound 458 = .ok (.iadd, 1) := by decide +kernel
theorem dL_areSound_459 : decode cL_areSound 459 = .ok (.aload_n 1, 1) := by decide +kernel
theorem dL_areSound_460 : decode cL_areSound 460 = .ok (.iconst 1, 1) := by decide +kernel
theorem dL_areSound_461 : decode cL_areSound 461 = .ok (.iaload, 1) := by decide +kernel
theorem dL_areSound_462 : decode cL_areSound 462 = .ok (.isub, 1) := by decide +kernel
theorem dL_areSound_463 : decode cL_areSound 463 = .ok (.if_icmp .ne 41, 3) := by decide +kernel
theorem dL_areSound_466 : decode cL_areSound 466 = .ok (.aload_n 0, 1) := by decide +kernel
theorem dL_areSound_467 : decode cL_areSound 467 = .ok (.iconst 0, 1) := by decide +kernel
theorem dL_areSound_468 : decode cL_areSound 468 = .ok (.invokevirtual 73, 3) := by decide +kernel
theorem dL_areSound_471 : decode cL_areSound 471 = .ok (.aload_n 0, 1) := by decide +kernel
theorem dL_areSound_472 : decode cL_areSound 472 = .ok (.iconst 1, 1) := by decide +kernel
theorem dL_areSound_473 : decode cL_areSound 473 = .ok (.invokevirtual 73, 3) := by decide +kernel
theorem dL_areSound_476 : decode cL_areSound 476 = .ok (.iadd, 1) := by decide +kernel
theorem dL_areSound_477 : decode cL_areSound 477 = .ok (.bipush 6, 2) := by decide +kernel
theorem dL_areSound_479 : decode cL_areSound 479 = .ok (.if_icmp .ge 25, 3) := by decide +kernel
theorem dL_areSound_482 : decode cL_areSound 482 = .ok (.aload_n 0, 1) := by decide +kernel
theorem dL_areSound_483 : decode cL_areSound 483 = .ok (.iconst 0, 1) := by decide +kernel
theorem dL_areSound_484 : decode cL_areSound 484 = .ok (.invokevirtual 73, 3) := by decide +kernel
theorem dL_areSound_487 : decode cL_areSound 487 = .ok (.iconst 3, 1) := by decide +kernel
theorem dL_areSound_488 : decode cL_areSound 488 = .ok (.if_icmp .lt 12, 3) := by decide +kernel
theorem dL_areSound_491 : decode cL_areSound 491 = .ok (.aload_n 0, 1) := by decide +kernel
theorem dL_areSound_492 : decode cL_areSound 492 = .ok (.iconst 1, 1) := by decide +kernel
theorem dL_areSound_493 : decode cL_areSound 493 = .ok (.invokevirtual 73, 3) := by decide +kernel
theorem dL_areSound_496 : decode cL_areSound 496 = .ok (.iconst 3, 1) := by decide +kernel
theorem dL_areSound_497 : decode cL_areSound 497 = .ok (.if_icmp .ge 7, 3) := by decide +kernel
theorem dL_areSound_500 : decode cL_areSound 500 = .ok (.iconst 1, 1) := by decide +kernel
theorem dL_areSound_501 : decode cL_areSound 501 = .ok (.goto 4, 3) := by decide +kernel
theorem dL_areSound_504 : decode cL_areSound 504 = .ok (.iconst 0, 1) := by decide +kernel
theorem dL_areSound_505 : decode cL_areSound 505 = .ok (.ireturn, 1) := by decide +kernel
theorem dL_isBegun_0 : decode cL_isBegun 0 = .ok (.aload_n 0, 1) := by decide +kernel
theorem dL_isBegun_1 : decode cL_isBegun 1 = .ok (.iconst 0, 1) := by decide +kernel
theorem dL_isBegun_2 : decode cL_isBegun 2 = .ok (.invokevirtual 73, 3) := by decide +kernel
theorem dL_isBegun_5 : decode cL_isBegun 5 = .ok (.iconst 3, 1) := by decide +kernel
theorem dL_isBegun_6 : decode cL_isBegun 6 = .ok (.if_icmp .eq 12, 3) := by decide +kernel
theorem dL_isBegun_9 : decode cL_isBegun 9 = .ok (.aload_n 0, 1) := by decide +kernel
theorem dL_isBegun_10 : decode cL_isBegun 10 = .ok (.iconst 1, 1) := by decide +kernel
theorem dL_isBegun_11 : decode cL_isBegun 11 = .ok (.invokevirtual 73, 3) := by decide +kernel
theorem dL_isBegun_14 : decode cL_isBegun 14 = .ok (.iconst 3, 1) := by decide +kernel
theorem dL_isBegun_15 : decode cL_isBegun 15 = .ok (.if_icmp .ne 7, 3) := by decide +kernel
theorem dL_isBegun_18 : decode cL_isBegun 18 = .ok (.iconst 1, 1) := by decide +kernel
theorem dL_isBegun_19 : decode cL_isBegun 19 = .ok (.goto 4, 3) := by decide +kernel
theorem dL_isBegun_22 : decode cL_isBegun 22 = .ok (.iconst 0, 1) := by decide +kernel
theorem dL_isBegun_23 : decode cL_isBegun 23 = .ok (.istore_n 3, 1) := by decide +kernel
theorem dL_isBegun_24 : decode cL_isBegun 24 = .ok (.iconst 1, 1) := by decide +kernel
theorem dL_isBegun_25 : decode cL_isBegun 25 = .ok (.istore 4, 2) := by decide +kernel
theorem dL_isBegun_27 : decode cL_isBegun 27 = .ok (.iconst 0, 1) := by decide +kernel
theorem dL_isBegun_28 : decode cL_isBegun 28 = .ok (.istore 5, 2) := by decide +kernel
theorem dL_isBegun_30 : decode cL_isBegun 30 = .ok (.iload 5, 2) := by decide +kernel
theorem dL_isBegun_32 : decode cL_isBegun 32 = .ok (.bipush 12, 2) := by decide +kernel
theorem dL_isBegun_34 : decode cL_isBegun 34 = .ok (.if_icmp .ge 126, 3) := by decide +kernel
theorem dL_isBegun_37 : decode cL_isBegun 37 = .ok (.iload 4, 2) := by decide +kernel
theorem dL_isBegun_39 : decode cL_isBegun 39 = .ok (.ifCond .eq 121, 3) := by decide +kernel
theorem dL_isBegun_42 : decode cL_isBegun 42 = .ok (.aload_n 0, 1) := by decide +kernel
theorem dL_isBegun_43 : decode cL_isBegun 43 = .ok (.iload 5, 2) := by decide +kernel
theorem dL_isBegun_45 : decode cL_isBegun 45 = .ok (.bipush 6, 2) := by decide +kernel
theorem dL_isBegun_47 : decode cL_isBegun 47 = .ok (.idiv, 1) := by decide +kernel
theorem dL_isBegun_48 : decode cL_isBegun 48 = .ok (.iload 5, 2) := by decide +kernel
theorem dL_isBegun_50 : decode cL_isBegun 50 = .ok (.bipush 6, 2) := by decide +kernel
theorem dL_isBegun_52 : decode cL_isBegun 52 = .ok (.irem, 1) := by decide +kernel
theorem dL_isBegun_53 : decode cL_isBegun 53 = .ok (.iconst 1, 1) := by decide +kernel
theorem dL_isBegun_54 : decode cL_isBegun 54 = .ok (.iadd, 1) := by decide +kernel
theorem dL_isBegun_55 : decode cL_isBegun 55 = .ok (.invokevirtual 58, 3) := by decide +kernel
theorem dL_isBegun_58 : decode cL_isBegun 58 = .ok (.istore 6, 2) := by decide +kernel
theorem dL_isBegun_60 : decode cL_isBegun 60 = .ok (.iconst 1, 1) := by decide +kernel
theorem dL_isBegun_61 : decode cL_isBegun 61 = .ok (.iload 5, 2) := by decide +kernel
theorem dL_isBegun_63 : decode cL_isBegun 63 = .ok (.bipush 6, 2) := by decide +kernel
theorem dL_isBegun_65 : decode cL_isBegun 65 = .ok (.irem, 1) := by decide +kernel
theorem dL_isBegun_66 : decode cL_isBegun 66 = .ok (.iconst 1, 1) := by decide +kernel
theorem dL_isBegun_67 : decode cL_isBegun 67 = .ok (.iload_n 2, 1) := by decide +kernel
theorem dL_isBegun_68 : decode cL_isBegun 68 = .ok (.iconst 3, 1) := by decide +kernel
theorem dL_isBegun_69 : decode cL_isBegun 69 = .ok (.irem, 1) := by decide +kernel
theorem dL_isBegun_70 : decode cL_isBegun 70 = .ok (.iadd, 1) := by decide +kernel
theorem dL_isBegun_71 : decode cL_isBegun 71 = .ok (.imul, 1) := by decide +kernel
theorem dL_isBegun_72 : decode cL_isBegun 72 = .ok (.iload_n 2, 1) := by decide +kernel
theorem dL_isBegun_73 : decode cL_isBegun 73 = .ok (.iconst 3, 1) := by decide +kernel
theorem dL_isBegun_74 : decode cL_isBegun 74 = .ok (.idiv, 1) := by decide +kernel
theorem dL_isBegun_75 : decode cL_isBegun 75 = .ok (.iadd, 1) := by decide +kernel
theorem dL_isBegun_76 : decode cL_isBegun 76 = .ok (.bipush 20, 2) := by decide +kernel
theorem dL_isBegun_78 : decode cL_isBegun 78 = .ok (.irem, 1) := by decide +kernel
theorem dL_isBegun_79 : decode cL_isBegun 79 = .ok (.iadd, 1) := by decide +kernel
theorem dL_isBegun_80 : decode cL_isBegun 80 = .ok (.istore 7, 2) := by decide +kernel
theorem dL_isBegun_82 : decode cL_isBegun 82 = .ok (.aload_n 0, 1) := by decide +kernel
theorem dL_isBegun_83 : decode cL_isBegun 83 = .ok (.iconst 0, 1) := by decide +kernel
theorem dL_isBegun_84 : decode cL_isBegun 84 = .ok (.iload 5, 2) := by decide +kernel
theorem dL_isBegun_86 : decode cL_isBegun 86 = .ok (.bipush 6, 2) := by decide +kernel
theorem dL_isBegun_88 : decode cL_isBegun 88 = .ok (.idiv, 1) := by decide +kernel
theorem dL_isBegun_89 : decode cL_isBegun 89 = .ok (.iload 5, 2) := by decide +kernel
theorem dL_isBegun_91 : decode cL_isBegun 91 = .ok (.bipush 6, 2) := by decide +kernel
theorem dL_isBegun_93 : decode cL_isBegun 93 = .ok (.irem, 1) := by decide +kernel
theorem dL_isBegun_94 : decode cL_isBegun 94 = .ok (.iconst 1, 1) := by decide +kernel
theorem dL_isBegun_95 : decode cL_isBegun 95 = .ok (.iadd, 1) := by decide +kernel
theorem dL_isBegun_96 : decode cL_isBegun 96 = .ok (.iload 7, 2) := by decide +kernel
theorem dL_isBegun_98 : decode cL_isBegun 98 = .ok (.iconst 0, 1) := by decide +kernel
theorem dL_isBegun_99 : decode cL_isBegun 99 = .ok (.invokestatic 94, 3) := by decide +kernel
theorem dL_isBegun_102 : decode cL_isBegun 102 = .ok (.iload_n 3, 1) := by decide +kernel
theorem dL_isBegun_103 : decode cL_isBegun 103 = .ok (.ifCond .eq 9, 3) := by decide +kernel
theorem dL_isBegun_106 : decode cL_isBegun 106 = .ok (.sipush (-1673), 3) := by decide +kernel
theorem dL_isBegun_109 : decode cL_isBegun 109 = .ok (.goto 5, 3) := by decide +kernel
theorem dL_isBegun_112 : decode cL_isBegun 112 = .ok (.iload 6, 2) := by decide +kernel
theorem dL_isBegun_114 : decode cL_isBegun 114 = .ok (.if_icmp .ne 37, 3) := by decide +kernel
theorem dL_isBegun_117 : decode cL_isBegun 117 = .ok (.aload_n 0, 1) := by decide +kernel
theorem dL_isBegun_118 : decode cL_isBegun 118 = .ok (.iload 5, 2) := by decide +kernel
theorem dL_isBegun_120 : decode cL_isBegun 120 = .ok (.bipush 6, 2) := by decide +kernel
theorem dL_isBegun_122 : decode cL_isBegun 122 = .ok (.idiv, 1) := by decide +kernel
theorem dL_isBegun_123 : decode cL_isBegun 123 = .ok (.iload 5, 2) := by decide +kernel
theorem dL_isBegun_125 : decode cL_isBegun 125 = .ok (.bipush 6, 2) := by decide +kernel
theorem dL_isBegun_127 : decode cL_isBegun 127 = .ok (.irem, 1) := by decide +kernel
theorem dL_isBegun_128 : decode cL_isBegun 128 = .ok (.iconst 1, 1) := by decide +kernel
theorem dL_isBegun_129 : decode cL_isBegun 129 = .ok (.iadd, 1) := by decide +kernel
theorem dL_isBegun_130 : decode cL_isBegun 130 = .ok (.invokevirtual 58, 3) := by decide +kernel
theorem dL_isBegun_133 : decode cL_isBegun 133 = .ok (.iload_n 3, 1) := by decide +kernel
theorem dL_isBegun_134 : decode cL_isBegun 134 = .ok (.ifCond .eq 8, 3) := by decide +kernel
theorem dL_isBegun_137 : decode cL_isBegun 137 = .ok (.iload 6, 2) := by decide +kernel
theorem dL_isBegun_139 : decode cL_isBegun 139 = .ok (.goto 5, 3) := by decide +kernel
theorem dL_isBegun_142 : decode cL_isBegun 142 = .ok (.iload 7, 2) := by decide +kernel
theorem dL_isBegun_144 : decode cL_isBegun 144 = .ok (.if_icmp .ne 7, 3) := by decide +kernel
theorem dL_isBegun_147 : decode cL_isBegun 147 = .ok (.iconst 1, 1) := by decide +kernel
theorem dL_isBegun_148 : decode cL_isBegun 148 = .ok (.goto 4, 3) := by decide +kernel
theorem dL_isBegun_151 : decode cL_isBegun 151 = .ok (.iconst 0, 1) := by decide +kernel
theorem dL_isBegun_152 : decode cL_isBegun 152 = .ok (.istore 4, 2) := by decide +kernel
theorem dL_isBegun_154 : decode cL_isBegun 154 = .ok (.iinc 5 1, 3) := by decide +kernel
theorem dL_isBegun_157 : decode cL_isBegun 157 = .ok (.goto (-127), 3) := by decide +kernel
theorem dL_isBegun_160 : decode cL_isBegun 160 = .ok (.aload_n 0, 1) := by decide +kernel
theorem dL_isBegun_161 : decode cL_isBegun 161 = .ok (.iconst 2, 1) := by decide +kernel
theorem dL_isBegun_162 : decode cL_isBegun 162 = .ok (.iload_n 2, 1) := by decide +kernel
theorem dL_isBegun_163 : decode cL_isBegun 163 = .ok (.iconst 2, 1) := by decide +kernel
theorem dL_isBegun_164 : decode cL_isBegun 164 = .ok (.irem, 1) := by decide +kernel
theorem dL_isBegun_165 : decode cL_isBegun 165 = .ok (.iconst 0, 1) := by decide +kernel
theorem dL_isBegun_166 : decode cL_isBegun 166 = .ok (.iconst 0, 1) := by decide +kernel
theorem dL_isBegun_167 : decode cL_isBegun 167 = .ok (.iconst 0, 1) := by decide +kernel
theorem dL_isBegun_168 : decode cL_isBegun 168 = .ok (.invokestatic 94, 3) := by decide +kernel
theorem dL_isBegun_171 : decode cL_isBegun 171 = .ok (.istore 5, 2) := by decide +kernel
theorem dL_isBegun_173 : decode cL_isBegun 173 = .ok (.aload_n 0, 1) := by decide +kernel
theorem dL_isBegun_174 : decode cL_isBegun 174 = .ok (.iconst 0, 1) := by decide +kernel
theorem dL_isBegun_175 : decode cL_isBegun 175 = .ok (.invokevirtual 73, 3) := by decide +kernel
theorem dL_isBegun_178 : decode cL_isBegun 178 = .ok (.aload_n 0, 1) := by decide +kernel
theorem dL_isBegun_179 : decode cL_isBegun 179 = .ok (.iconst 1, 1) := by decide +kernel
theorem dL_isBegun_180 : decode cL_isBegun 180 = .ok (.invokevirtual 73, 3) := by decide +kernel
theorem dL_isBegun_183 : decode cL_isBegun 183 = .ok (.iadd, 1) := by decide +kernel
theorem dL_isBegun_184 : decode cL_isBegun 184 = .ok (.istore 6, 2) := by decide +kernel
theorem dL_isBegun_186 : decode cL_isBegun 186 = .ok (.iload 5, 2) := by decide +kernel
theorem dL_isBegun_188 : decode cL_isBegun 188 = .ok (.ifCond .lt 15, 3) := by decide +kernel
theorem dL_isBegun_191 : decode cL_isBegun 191 = .ok (.aload_n 1, 1) := by decide +kernel
theorem dL_isBegun_192 : decode cL_isBegun 192 = .ok (.iconst 0, 1) := by decide +kernel
theorem dL_isBegun_193 : decode cL_isBegun 193 = .ok (.iconst 0, 1) := by decide +kernel
theorem dL_isBegun_194 : decode cL_isBegun 194 = .ok (.iastore, 1) := by decide +kernel
theorem dL_isBegun_195 : decode cL_isBegun 195 = .ok (.aload_n 1, 1) := by decide +kernel
theorem dL_isBegun_196 : decode cL_isBegun 196 = .ok (.iconst 1, 1) := by decide +kernel
theorem dL_isBegun_197 : decode cL_isBegun 197 = .ok (.iconst 0, 1) := by decide +kernel
theorem dL_isBegun_198 : decode cL_isBegun 198 = .ok (.iastore, 1) := by decide +kernel
theorem dL_isBegun_199 : decode cL_isBegun 199 = .ok (.aload_n 1, 1) := by decide +kernel
theorem dL_isBegun_200 : decode cL_isBegun 200 = .ok (.iconst 2, 1) := by decide +kernel
theorem dL_isBegun_201 : decode cL_isBegun 201 = .ok (.iconst 0, 1) := by decide +kernel
theorem dL_isBegun_202 : decode cL_isBegun 202 = .ok (.iastore, 1) := by decide +kernel
theorem dL_isBegun_203 : decode cL_isBegun 203 = .ok (.iload 4, 2) := by decide +kernel
theorem dL_isBegun_205 : decode cL_isBegun 205 = .ok (.ifCond .eq 89, 3) := by decide +kernel
theorem dL_isBegun_208 : decode cL_isBegun 208 = .ok (.iload_n 3, 1) := by decide +kernel
theorem dL_isBegun_209 : decode cL_isBegun 209 = .ok (.ifCond .eq 14, 3) := by decide +kernel
theorem dL_isBegun_212 : decode cL_isBegun 212 = .ok (.iload 5, 2) := by decide +kernel
theorem dL_isBegun_214 : decode cL_isBegun 214 = .ok (.sipush (-1673), 3) := by decide +kernel
theorem dL_isBegun_217 : decode cL_isBegun 217 = .ok (.if_icmp .ne 77, 3) := by decide +kernel
theorem dL_isBegun_220 : decode cL_isBegun 220 = .ok (.goto 70, 3) := by decide +kernel
theorem dL_isBegun_223 : decode cL_isBegun 223 = .ok (.iload 5, 2) := by decide +kernel
theorem dL_isBegun_225 : decode cL_isBegun 225 = .ok (.iload 6, 2) := by decide +kernel
theorem dL_isBegun_227 : decode cL_isBegun 227 = .ok (.iconst 1, 1) := by decide +kernel
theorem dL_isBegun_228 : decode cL_isBegun 228 = .ok (.iadd, 1) := by decide +kernel
theorem dL_isBegun_229 : decode cL_isBegun 229 = .ok (.if_icmp .ne 65, 3) := by decide +kernel
theorem dL_isBegun_232 : decode cL_isBegun 232 = .ok (.aload_n 0, 1) := by decide +kernel
theorem dL_isBegun_233 : decode cL_isBegun 233 = .ok (.iconst 2, 1) := by decide +kernel
theorem dL_isBegun_234 : decode cL_isBegun 234 = .ok (.invokevirtual 64, 3) := by decide +kernel
theorem dL_isBegun_237 : decode cL_isBegun 237 = .ok (.iload_n 2, 1) := by decide +kernel
theorem dL_isBegun_238 : decode cL_isBegun 238 = .ok (.iconst 2, 1) := by decide +kernel
theorem dL_isBegun_239 : decode cL_isBegun 239 = .ok (.irem, 1) := by decide +kernel
theorem dL_isBegun_240 : decode cL_isBegun 240 = .ok (.if_icmp .ne 54, 3) := by decide +kernel
theorem dL_isBegun_243 : decode cL_isBegun 243 = .ok (.aload_n 0, 1) := by decide +kernel
theorem dL_isBegun_244 : decode cL_isBegun 244 = .ok (.iconst 0, 1) := by decide +kernel
theorem dL_isBegun_245 : decode cL_isBegun 245 = .ok (.invokevirtual 52, 3) := by decide +kernel
theorem dL_isBegun_248 : decode cL_isBegun 248 = .ok (.aload_n 0, 1) := by decide +kernel
theorem dL_isBegun_249 : decode cL_isBegun 249 = .ok (.iconst 1, 1) := by decide +kernel
theorem dL_isBegun_250 : decode cL_isBegun 250 = .ok (.invokevirtual 52, 3) := by decide +kernel
theorem dL_isBegun_253 : decode cL_isBegun 253 = .ok (.iadd, 1) := by decide +kernel
theorem dL_isBegun_254 : decode cL_isBegun 254 = .ok (.ifCond .ne 40, 3) := by decide +kernel
theorem dL_isBegun_257 : decode cL_isBegun 257 = .ok (.aload_n 0, 1) := by decide +kernel
theorem dL_isBegun_258 : decode cL_isBegun 258 = .ok (.iconst 0, 1) := by decide +kernel
theorem dL_isBegun_259 : decode cL_isBegun 259 = .ok (.iconst 1, 1) := by decide +kernel
theorem dL_isBegun_260 : decode cL_isBegun 260 = .ok (.invokevirtual 67, 3) := by decide +kernel
theorem dL_isBegun_263 : decode cL_isBegun 263 = .ok (.aload_n 0, 1) := by decide +kernel
theorem dL_isBegun_264 : decode cL_isBegun 264 = .ok (.iconst 1, 1) := by decide +kernel
theorem dL_isBegun_265 : decode cL_isBegun 265 = .ok (.iconst 1, 1) := by decide +kernel
theorem dL_isBegun_266 : decode cL_isBegun 266 = .ok (.invokevirtual 67, 3) := by decide +kernel
theorem dL_isBegun_269 : decode cL_isBegun 269 = .ok (.iadd, 1) := by decide +kernel
theorem dL_isBegun_270 : decode cL_isBegun 270 = .ok (.iconst 4, 1) := by decide +kernel
theorem dL_isBegun_271 : decode cL_isBegun 271 = .ok (.if_icmp .ne 23, 3) := by decide +kernel
theorem dL_isBegun_274 : decode cL_isBegun 274 = .ok (.aload_n 0, 1) := by decide +kernel
theorem dL_isBegun_275 : decode cL_isBegun 275 = .ok (.iconst 0, 1) := by decide +kernel
theorem dL_isBegun_276 : decode cL_isBegun 276 = .ok (.iconst 0, 1) := by decide +kernel
theorem dL_isBegun_277 : decode cL_isBegun 277 = .ok (.invokevirtual 67, 3) := by decide +kernel
theorem dL_isBegun_280 : decode cL_isBegun 280 = .ok (.aload_n 0, 1) := by decide +kernel
theorem dL_isBegun_281 : decode cL_isBegun 281 = .ok (.iconst 1, 1) := by decide +kernel
theorem dL_isBegun_282 : decode cL_isBegun 282 = .ok (.iconst 0, 1) := by decide +kernel
theorem dL_isBegun_283 : decode cL_isBegun 283 = .ok (.invokevirtual 67, 3) := by decide +kernel
theorem dL_isBegun_286 : decode cL_isBegun 286 = .ok (.iadd, 1) := by decide +kernel
theorem dL_isBegun_287 : decode cL_isBegun 287 = .ok (.ifCond .ne 7, 3) := by decide +kernel
theorem dL_isBegun_290 : decode cL_isBegun 290 = .ok (.iconst 1, 1) := by decide +kernel
theorem dL_isBegun_291 : decode cL_isBegun 291 = .ok (.goto 4, 3) := by decide +kernel
theorem dL_isBegun_294 : decode cL_isBegun 294 = .ok (.iconst 0, 1) := by decide +kernel
theorem dL_isBegun_295 : decode cL_isBegun 295 = .ok (.ireturn, 1) := by decide +kernel
theorem dL_isWon_0 : decode cL_isWon 0 = .ok (.aload_n 1, 1) := by decide +kernel
theorem dL_isWon_1 : decode cL_isWon 1 = .ok (.iconst 2, 1) := by decide +kernel
theorem dL_isWon_2 : decode cL_isWon 2 = .ok (.dup2, 1) := by decide +kernel
theorem dL_isWon_3 : decode cL_isWon 3 = .ok (.iaload, 1) := by decide +kernel
theorem dL_isWon_4 : decode cL_isWon 4 = .ok (.iconst 1, 1) := by decide +kernel
theorem dL_isWon_5 : decode cL_isWon 5 = .ok (.iadd, 1) := by decide +kernel
theorem dL_isWon_6 : decode cL_isWon 6 = .ok (.iastore, 1) := by decide +kernel
theorem dL_isWon_7 : decode cL_isWon 7 = .ok (.aload_n 0, 1) := by decide +kernel
theorem dL_isWon_8 : decode cL_isWon 8 = .ok (.iconst 1, 1) := by decide +kernel
theorem dL_isWon_9 : decode cL_isWon 9 = .ok (.invokevirtual 64, 3) := by decide +kernel
theorem dL_isWon_12 : decode cL_isWon 12 = .ok (.ifCond .ne 74, 3) := by decide +kernel
theorem dL_isWon_15 : decode cL_isWon 15 = .ok (.aload_n 0, 1) := by decide +kernel
theorem dL_isWon_16 : decode cL_isWon 16 = .ok (.iconst 3, 1) := by decide +kernel
theorem dL_isWon_17 : decode cL_isWon 17 = .ok (.invokevirtual 64, 3) := by decide +kernel
theorem dL_isWon_20 : decode cL_isWon 20 = .ok (.iload 5, 2) := by decide +kernel
theorem dL_isWon_22 : decode cL_isWon 22 = .ok (.if_icmp .ne 64, 3) := by decide +kernel
theorem dL_isWon_25 : decode cL_isWon 25 = .ok (.aload_n 0, 1) := by decide +kernel
theorem dL_isWon_26 : decode cL_isWon 26 = .ok (.iconst 0, 1) := by decide +kernel
theorem dL_isWon_27 : decode cL_isWon 27 = .ok (.invokevirtual 52, 3) := by decide +kernel
theorem dL_isWon_30 : decode cL_isWon 30 = .ok (.iload_n 3, 1) := by decide +kernel
theorem dL_isWon_31 : decode cL_isWon 31 = .ok (.iload_n 2, 1) := by decide +kernel
theorem dL_isWon_32 : decode cL_isWon 32 = .ok (.ifCond .ne 7, 3) := by decide +kernel
theorem dL_isWon_35 : decode cL_isWon 35 = .ok (.iconst 1, 1) := by decide +kernel
theorem dL_isWon_36 : decode cL_isWon 36 = .ok (.goto 4, 3) := by decide +kernel
theorem dL_isWon_39 : decode cL_isWon 39 = .ok (.iconst 0, 1) := by decide +kernel
theorem dL_isWon_40 : decode cL_isWon 40 = .ok (.iadd, 1) := by decide +kernel
theorem dL_isWon_41 : decode cL_isWon 41 = .ok (.if_icmp .ne 45, 3) := by decide +kernel
theorem dL_isWon_44 : decode cL_isWon 44 = .ok (.aload_n 0, 1) := by decide +kernel
theorem dL_isWon_45 : decode cL_isWon 45 = .ok (.iconst 1, 1) := by decide +kernel
theorem dL_isWon_46 : decode cL_isWon 46 = .ok (.invokevirtual 52, 3) := by decide +kernel
theorem dL_isWon_49 : decode cL_isWon 49 = .ok (.iload 4, 2) := by decide +kernel
theorem dL_isWon_51 : decode cL_isWon 51 = .ok (.iload_n 2, 1) := by decide +kernel
theorem dL_isWon_52 : decode cL_isWon 52 = .ok (.iconst 1, 1) := by decide +kernel
theorem dL_isWon_53 : decode cL_isWon 53 = .ok (.if_icmp .ne 7, 3) := by decide +kernel
theorem dL_isWon_56 : decode cL_isWon 56 = .ok (.iconst 1, 1) := by decide +kernel
theorem dL_isWon_57 : decode cL_isWon 57 = .ok (.goto 4, 3) := by decide +kernel
theorem dL_isWon_60 : decode cL_isWon 60 = .ok (.iconst 0, 1) := by decide +kernel
theorem dL_isWon_61 : decode cL_isWon 61 = .ok (.iadd, 1) := by decide +kernel
theorem dL_isWon_62 : decode cL_isWon 62 = .ok (.if_icmp .ne 24, 3) := by decide +kernel
theorem dL_isWon_65 : decode cL_isWon 65 = .ok (.aload_n 0, 1) := by decide +kernel
theorem dL_isWon_66 : decode cL_isWon 66 = .ok (.iconst 0, 1) := by decide +kernel
theorem dL_isWon_67 : decode cL_isWon 67 = .ok (.invokevirtual 64, 3) := by decide +kernel
theorem dL_isWon_70 : decode cL_isWon 70 = .ok (.ifCond .eq 12, 3) := by decide +kernel
theorem dL_isWon_73 : decode cL_isWon 73 = .ok (.aload_n 0, 1) := by decide +kernel
theorem dL_isWon_74 : decode cL_isWon 74 = .ok (.iconst 2, 1) := by decide +kernel
theorem dL_isWon_75 : decode cL_isWon 75 = .ok (.invokevirtual 64, 3) := by decide +kernel
theorem dL_isWon_78 : decode cL_isWon 78 = .ok (.iload_n 2, 1) := by decide +kernel
theorem dL_isWon_79 : decode cL_isWon 79 = .ok (.if_icmp .ne 7, 3) := by decide +kernel
theorem dL_isWon_82 : decode cL_isWon 82 = .ok (.iconst 1, 1) := by decide +kernel
theorem dL_isWon_83 : decode cL_isWon 83 = .ok (.goto 4, 3) := by decide +kernel
theorem dL_isWon_86 : decode cL_isWon 86 = .ok (.iconst 0, 1) := by decide +kernel
theorem dL_isWon_87 : decode cL_isWon 87 = .ok (.ireturn, 1) := by decide +kernel
theorem dL_law_0 : decode cL_law 0 = .ok (.new 10, 3) := by decide +kernel
theorem dL_law_3 : decode cL_law 3 = .ok (.dup, 1) := by decide +kernel
theorem dL_law_4 : decode cL_law 4 = .ok (.invokespecial 98, 3) := by decide +kernel
theorem dL_law_7 : decode cL_law 7 = .ok (.astore_n 1, 1) := by decide +kernel
theorem dL_law_8 : decode cL_law 8 = .ok (.iconst 3, 1) := by decide +kernel
theorem dL_law_9 : decode cL_law 9 = .ok (.newarray .int, 2) := by decide +kernel
theorem dL_law_11 : decode cL_law 11 = .ok (.astore_n 2, 1) := by decide +kernel
theorem dL_law_12 : decode cL_law 12 = .ok (.aload_n 1, 1) := by decide +kernel
theorem dL_law_13 : decode cL_law 13 = .ok (.iconst 0, 1) := by decide +kernel
theorem dL_law_14 : decode cL_law 14 = .ok (.invokestatic 99, 3) := by decide +kernel
theorem dL_law_17 : decode cL_law 17 = .ok (.ifCond .eq 24, 3) := by decide +kernel
theorem dL_law_20 : decode cL_law 20 = .ok (.aload_n 1, 1) := by decide +kernel
theorem dL_law_21 : decode cL_law 21 = .ok (.iconst 1, 1) := by decide +kernel
theorem dL_law_22 : decode cL_law 22 = .ok (.invokestatic 99, 3) := by decide +kernel
theorem dL_law_25 : decode cL_law 25 = .ok (.ifCond .eq 16, 3) := by decide +kernel
theorem dL_law_28 : decode cL_law 28 = .ok (.aload_n 1, 1) := by decide +kernel
theorem dL_law_29 : decode cL_law 29 = .ok (.aload_n 2, 1) := by decide +kernel
theorem dL_law_30 : decode cL_law 30 = .ok (.iconst 0, 1) := by decide +kernel
theorem dL_law_31 : decode cL_law 31 = .ok (.invokestatic 103, 3) := by decide +kernel
theorem dL_law_34 : decode cL_law 34 = .ok (.ifCond .eq 7, 3) := by decide +kernel
theorem dL_law_37 : decode cL_law 37 = .ok (.iconst 1, 1) := by decide +kernel
theorem dL_law_38 : decode cL_law 38 = .ok (.goto 4, 3) := by decide +kernel
theorem dL_law_41 : decode cL_law 41 = .ok (.iconst 0, 1) := by decide +kernel
theorem dL_law_42 : decode cL_law 42 = .ok (.istore_n 3, 1) := by decide +kernel
theorem dL_law_43 : decode cL_law 43 = .ok (.iconst 0, 1) := by decide +kernel
theorem dL_law_44 : decode cL_law 44 = .ok (.istore 4, 2) := by decide +kernel
theorem dL_law_46 : decode cL_law 46 = .ok (.iload 4, 2) := by decide +kernel
theorem dL_law_48 : decode cL_law 48 = .ok (.sipush 170, 3) := by decide +kernel
theorem dL_law_51 : decode cL_law 51 = .ok (.if_icmp .ge 1200, 3) := by decide +kernel
theorem dL_law_54 : decode cL_law 54 = .ok (.iload_n 3, 1) := by decide +kernel
theorem dL_law_55 : decode cL_law 55 = .ok (.ifCond .eq 1196, 3) := by decide +kernel
theorem dL_law_58 : decode cL_law 58 = .ok (.aload_n 0, 1) := by decide +kernel
theorem dL_law_59 : decode cL_law 59 = .ok (.iload 4, 2) := by decide +kernel
theorem dL_law_61 : decode cL_law 61 = .ok (.invokestatic 107, 3) := by decide +kernel
theorem dL_law_64 : decode cL_law 64 = .ok (.istore 5, 2) := by decide +kernel
theorem dL_law_66 : decode cL_law 66 = .ok (.iload 5, 2) := by decide +kernel
theorem dL_law_68 : decode cL_law 68 = .ok (.bipush 24, 2) := by decide +kernel
theorem dL_law_70 : decode cL_law 70 = .ok (.irem, 1) := by decide +kernel
theorem dL_law_71 : decode cL_law 71 = .ok (.istore 6, 2) := by decide +kernel
theorem dL_law_73 : decode cL_law 73 = .ok (.iload 5, 2) := by decide +kernel
theorem dL_law_75 : decode cL_law 75 = .ok (.bipush 24, 2) := by decide +kernel
theorem dL_law_77 : decode cL_law 77 = .ok (.idiv, 1) := by decide +kernel
theorem dL_law_78 : decode cL_law 78 = .ok (.istore 7, 2) := by decide +kernel
theorem dL_law_80 : decode cL_law 80 = .ok (.iload 7, 2) := by decide +kernel
theorem dL_law_82 : decode cL_law 82 = .ok (.iconst 2, 1) := by decide +kernel
theorem dL_law_83 : decode cL_law 83 = .ok (.irem, 1) := by decide +kernel
theorem dL_law_84 : decode cL_law 84 = .ok (.istore 8, 2) := by decide +kernel
theorem dL_law_86 : decode cL_law 86 = .ok (.aload_n 1, 1) := by decide +kernel
theorem dL_law_87 : decode cL_law 87 = .ok (.iconst 0, 1) := by decide +kernel
theorem dL_law_88 : decode cL_law 88 = .ok (.invokevirtual 52, 3) := by decide +kernel
theorem dL_law_91 : decode cL_law 91 = .ok (.istore 9, 2) := by decide +kernel
theorem dL_law_93 : decode cL_law 93 = .ok (.aload_n 1, 1) := by decide +kernel
theorem dL_law_94 : decode cL_law 94 = .ok (.iconst 1, 1) := by decide +kernel
theorem dL_law_95 : decode cL_law 95 = .ok (.invokevirtual 52, 3) := by decide +kernel
theorem dL_law_98 : decode cL_law 98 = .ok (.istore 10, 2) := by decide +kernel
theorem dL_law_100 : decode cL_law 100 = .ok (.aload_n 1, 1) := by decide +kernel
theorem dL_law_101 : decode cL_law 101 = .ok (.iconst 0, 1) := by decide +kernel
theorem dL_law_102 : decode cL_law 102 = .ok (.invokevirtual 64, 3) := by decide +kernel
theorem dL_law_105 : decode cL_law 105 = .ok (.ifCond .ne 21, 3) := by decide +kernel
theorem dL_law_108 : decode cL_law 108 = .ok (.iload 6, 2) := by decide +kernel
theorem dL_law_110 : decode cL_law 110 = .ok (.bipush 21, 2) := by decide +kernel
theorem dL_law_112 : decode cL_law 112 = .ok (.if_icmp .ge 14, 3) := by decide +kernel
theorem dL_law_115 : decode cL_law 115 = .ok (.aload_n 1, 1) := by decide +kernel
theorem dL_law_116 : decode cL_law 116 = .ok (.aload_n 2, 1) := by decide +kernel
theorem dL_law_117 : decode cL_law 117 = .ok (.iload 7, 2) := by decide +kernel
theorem dL_law_119 : decode cL_law 119 = .ok (.invokestatic 111, 3) := by decide +kernel
theorem dL_law_122 : decode cL_law 122 = .ok (.istore_n 3, 1) := by decide +kernel
theorem dL_law_123 : decode cL_law 123 = .ok (.goto 1083, 3) := by decide +kernel
theorem dL_law_126 : decode cL_law 126 = .ok (.aload_n 1, 1) := by decide +kernel
theorem dL_law_127 : decode cL_law 127 = .ok (.iconst 1, 1) := by decide +kernel
theorem dL_law_128 : decode cL_law 128 = .ok (.invokevirtual 64, 3) := by decide +kernel
theorem dL_law_131 : decode cL_law 131 = .ok (.iconst 1, 1) := by decide +kernel
theorem dL_law_132 : decode cL_law 132 = .ok (.if_icmp .ne 289, 3) := by decide +kernel
theorem dL_law_135 : decode cL_law 135 = .ok (.iload 6, 2) := by decide +kernel
theorem dL_law_137 : decode cL_law 137 = .ok (.bipush 9, 2) := by decide +kernel
theorem dL_law_139 : decode cL_law 139 = .ok (.if_icmp .ge 115, 3) := by decide +kernel
theorem dL_law_142 : decode cL_law 142 = .ok (.aload_n 1, 1) := by decide +kernel
theorem dL_law_143 : decode cL_law 143 = .ok (.iload 8, 2) := by decide +kernel
theorem dL_law_145 : decode cL_law 145 = .ok (.iconst 1, 1) := by decide +kernel
theorem dL_law_146 : decode cL_law 146 = .ok (.iload 7, 2) := by decide +kernel
theorem dL_law_148 : decode cL_law 148 = .ok (.iconst 2, 1) := by decide +kernel
theorem dL_law_149 : decode cL_law 149 = .ok (.idiv, 1) := by decide +kernel
theorem dL_law_150 : decode cL_law 150 = .ok (.bipush 6, 2) := by decide +kernel
theorem dL_law_152 : decode cL_law 152 = .ok (.irem, 1) := by decide +kernel
theorem dL_law_153 : decode cL_law 153 = .ok (.iadd, 1) := by decide +kernel
theorem dL_law_154 : decode cL_law 154 = .ok (.invokevirtual 58, 3) := by decide +kernel
theorem dL_law_157 : decode cL_law 157 = .ok (.istore 11, 2) := by decide +kernel
theorem dL_law_159 : decode cL_law 159 = .ok (.iload 7, 2) := by decide +kernel
theorem dL_law_161 : decode cL_law 161 = .ok (.bipush 12, 2) := by decide +kernel
theorem dL_law_163 : decode cL_law 163 = .ok (.idiv, 1) := by decide +kernel
theorem dL_law_164 : decode cL_law 164 = .ok (.iconst 3, 1) := by decide +kernel
theorem dL_law_165 : decode cL_law 165 = .ok (.irem, 1) := by decide +kernel
theorem dL_law_166 : decode cL_law 166 = .ok (.istore 12, 2) := by decide +kernel
theorem dL_law_168 : decode cL_law 168 = .ok (.aload_n 1, 1) := by decide +kernel
theorem dL_law_169 : decode cL_law 169 = .ok (.iconst 4, 1) := by decide +kernel
theorem dL_law_170 : decode cL_law 170 = .ok (.iload 8, 2) := by decide +kernel
theorem dL_law_172 : decode cL_law 172 = .ok (.iload 11, 2) := by decide +kernel
theorem dL_law_174 : decode cL_law 174 = .ok (.iload 12, 2) := by decide +kernel
theorem dL_law_176 : decode cL_law 176 = .ok (.iload 7, 2) := by decide +kernel
theorem dL_law_178 : decode cL_law 178 = .ok (.bipush 36, 2) := by decide +kernel
theorem dL_law_180 : decode cL_law 180 = .ok (.idiv, 1) := by decide +kernel
theorem dL_law_181 : decode cL_law 181 = .ok (.iconst 2, 1) := by decide +kernel
theorem dL_law_182 : decode cL_law 182 = .ok (.irem, 1) := by decide +kernel
theorem dL_law_183 : decode cL_law 183 = .ok (.invokestatic 94, 3) := by decide +kernel
theorem dL_law_186 : decode cL_law 186 = .ok (.istore 13, 2) := by decide +kernel
theorem dL_law_188 : decode cL_law 188 = .ok (.iload 13, 2) := by decide +kernel
theorem dL_law_190 : decode cL_law 190 = .ok (.ifCond .lt 59, 3) := by decide +kernel
theorem dL_law_193 : decode cL_law 193 = .ok (.iload 13, 2) := by decide +kernel
theorem dL_law_195 : decode cL_law 195 = .ok (.bipush 6, 2) := by decide +kernel
theorem dL_law_197 : decode cL_law 197 = .ok (.if_icmp .ge 52, 3) := by decide +kernel
theorem dL_law_200 : decode cL_law 200 = .ok (.iload 13, 2) := by decide +kernel
theorem dL_law_202 : decode cL_law 202 = .ok (.ifCond .ne 25, 3) := by decide +kernel
theorem dL_law_205 : decode cL_law 205 = .ok (.aload_n 1, 1) := by decide +kernel
theorem dL_law_206 : decode cL_law 206 = .ok (.iconst 4, 1) := by decide +kernel
theorem dL_law_207 : decode cL_law 207 = .ok (.invokevirtual 64, 3) := by decide +kernel
theorem dL_law_210 : decode cL_law 210 = .ok (.iload 11, 2) := by decide +kernel
theorem dL_law_212 : decode cL_law 212 = .ok (.if_icmp .ne 37, 3) := by decide +kernel
theorem dL_law_215 : decode cL_law 215 = .ok (.aload_n 1, 1) := by decide +kernel
theorem dL_law_216 : decode cL_law 216 = .ok (.iconst 1, 1) := by decide +kernel
theorem dL_law_217 : decode cL_law 217 = .ok (.invokevirtual 64, 3) := by decide +kernel
theorem dL_law_220 : decode cL_law 220 = .ok (.iconst 1, 1) := by decide +kernel
theorem dL_law_221 : decode cL_law 221 = .ok (.if_icmp .ne 28, 3) := by decide +kernel
theorem dL_law_224 : decode cL_law 224 = .ok (.goto 21, 3) := by decide +kernel
theorem dL_law_227 : decode cL_law 227 = .ok (.aload_n 1, 1) := by decide +kernel
theorem dL_law_228 : decode cL_law 228 = .ok (.aload_n 2, 1) := by decide +kernel
theorem dL_law_229 : decode cL_law 229 = .ok (.iconst 1, 1) := by decide +kernel
theorem dL_law_230 : decode cL_law 230 = .ok (.iload 8, 2) := by decide +kernel
theorem dL_law_232 : decode cL_law 232 = .ok (.isub, 1) := by decide +kernel
theorem dL_law_233 : decode cL_law 233 = .ok (.iload 9, 2) := by decide +kernel
theorem dL_law_235 : decode cL_law 235 = .ok (.iload 10, 2) := by decide +kernel
theorem dL_law_237 : decode cL_law 237 = .ok (.iload 13, 2) := by decide +kernel
theorem dL_law_239 : decode cL_law 239 = .ok (.invokestatic 114, 3) := by decide +kernel
theorem dL_law_242 : decode cL_law 242 = .ok (.ifCond .eq 7, 3) := by decide +kernel
theorem dL_law_245 : decode cL_law 245 = .ok (.iconst 1, 1) := by decide +kernel
theorem dL_law_246 : decode cL_law 246 = .ok (.goto 4, 3) := by decide +kernel
theorem dL_law_249 : decode cL_law 249 = .ok (.iconst 0, 1) := by decide +kernel
theorem dL_law_250 : decode cL_law 250 = .ok (.istore_n 3, 1) := by decide +kernel
theorem dL_law_251 : decode cL_law 251 = .ok (.goto 955, 3) := by decide +kernel
theorem dL_law_254 : decode cL_law 254 = .ok (.iload 6, 2) := by decide +kernel
theorem dL_law_256 : decode cL_law 256 = .ok (.bipush 13, 2) := by decide +kernel
theorem dL_law_258 : decode cL_law 258 = .ok (.if_icmp .ge 80, 3) := by decide +kernel
theorem dL_law_261 : decode cL_law 261 = .ok (.iload 7, 2) := by decide +kernel
theorem dL_law_263 : decode cL_law 263 = .ok (.iconst 2, 1) := by decide +kernel
theorem dL_law_264 : decode cL_law 264 = .ok (.idiv, 1) := by decide +kernel
theorem dL_law_265 : decode cL_law 265 = .ok (.iconst 3, 1) := by decide +kernel
theorem dL_law_266 : decode cL_law 266 = .ok (.irem, 1) := by decide +kernel
theorem dL_law_267 : decode cL_law 267 = .ok (.ifCond .ne 7, 3) := by decide +kernel
theorem dL_law_270 : decode cL_law 270 = .ok (.iconst 1, 1) := by decide +kernel
theorem dL_law_271 : decode cL_law 271 = .ok (.goto 4, 3) := by decide +kernel
theorem dL_law_274 : decode cL_law 274 = .ok (.iconst 0, 1) := by decide +kernel
theorem dL_law_275 : decode cL_law 275 = .ok (.istore 11, 2) := by decide +kernel
theorem dL_law_277 : decode cL_law 277 = .ok (.aload_n 1, 1) := by decide +kernel
theorem dL_law_278 : decode cL_law 278 = .ok (.bipush 6, 2) := by decide +kernel
theorem dL_law_280 : decode cL_law 280 = .ok (.iload 8, 2) := by decide +kernel
theorem dL_law_282 : decode cL_law 282 = .ok (.iload 11, 2) := by decide +kernel
theorem dL_law_284 : decode cL_law 284 = .ok (.iconst 0, 1) := by decide +kernel
theorem dL_law_285 : decode cL_law 285 = .ok (.iconst 0, 1) := by decide +kernel
theorem dL_law_286 : decode cL_law 286 = .ok (.invokestatic 94, 3) := by decide +kernel
theorem dL_law_289 : decode cL_law 289 = .ok (.iload 11, 2) := by decide +kernel
theorem dL_law_291 : decode cL_law 291 = .ok (.if_icmp .ne 42, 3) := by decide +kernel
theorem dL_law_294 : decode cL_law 294 = .ok (.iload 11, 2) := by decide +kernel
theorem dL_law_296 : decode cL_law 296 = .ok (.ifCond .ne 15, 3) := by decide +kernel
theorem dL_law_299 : decode cL_law 299 = .ok (.aload_n 1, 1) := by decide +kernel
theorem dL_law_300 : decode cL_law 300 = .ok (.iconst 1, 1) := by decide +kernel
theorem dL_law_301 : decode cL_law 301 = .ok (.invokevirtual 64, 3) := by decide +kernel
theorem dL_law_304 : decode cL_law 304 = .ok (.iconst 1, 1) := by decide +kernel
theorem dL_law_305 : decode cL_law 305 = .ok (.if_icmp .ne 28, 3) := by decide +kernel
theorem dL_law_308 : decode cL_law 308 = .ok (.goto 21, 3) := by decide +kernel
theorem dL_law_311 : decode cL_law 311 = .ok (.aload_n 1, 1) := by decide +kernel
theorem dL_law_312 : decode cL_law 312 = .ok (.aload_n 2, 1) := by decide +kernel
theorem dL_law_313 : decode cL_law 313 = .ok (.iconst 1, 1) := by decide +kernel
theorem dL_law_314 : decode cL_law 314 = .ok (.iload 8, 2) := by decide +kernel
theorem dL_law_316 : decode cL_law 316 = .ok (.isub, 1) := by decide +kernel
theorem dL_law_317 : decode cL_law 317 = .ok (.iload 9, 2) := by decide +kernel
theorem dL_law_319 : decode cL_law 319 = .ok (.iload 10, 2) := by decide +kernel
theorem dL_law_321 : decode cL_law 321 = .ok (.bipush 8, 2) := by decide +kernel
theorem dL_law_323 : decode cL_law 323 = .ok (.invokestatic 114, 3) := by decide +kernel
theorem dL_law_326 : decode cL_law 326 = .ok (.ifCond .eq 7, 3) := by decide +kernel
theorem dL_law_329 : decode cL_law 329 = .ok (.iconst 1, 1) := by decide +kernel
theorem dL_law_330 : decode cL_law 330 = .ok (.goto 4, 3) := by decide +kernel
theorem dL_law_333 : decode cL_law 333 = .ok (.iconst 0, 1) := by decide +kernel
theorem dL_law_334 : decode cL_law 334 = .ok (.istore_n 3, 1) := by decide +kernel
theorem dL_law_335 : decode cL_law 335 = .ok (.goto 871, 3) := by decide +kernel
theorem dL_law_338 : decode cL_law 338 = .ok (.iload 7, 2) := by decide +kernel
theorem dL_law_340 : decode cL_law 340 = .ok (.iconst 3, 1) := by decide +kernel
theorem dL_law_341 : decode cL_law 341 = .ok (.irem, 1) := by decide +kernel
theorem dL_law_342 : decode cL_law 342 = .ok (.iconst 1, 1) := by decide +kernel
theorem dL_law_343 : decode cL_law 343 = .ok (.isub, 1) := by decide +kernel
theorem dL_law_344 : decode cL_law 344 = .ok (.istore 11, 2) := by decide +kernel
theorem dL_law_346 : decode cL_law 346 = .ok (.aload_n 1, 1) := by decide +kernel
theorem dL_law_347 : decode cL_law 347 = .ok (.iconst 5, 1) := by decide +kernel
theorem dL_law_348 : decode cL_law 348 = .ok (.iload 11, 2) := by decide +kernel
theorem dL_law_350 : decode cL_law 350 = .ok (.iconst 0, 1) := by decide +kernel
theorem dL_law_351 : decode cL_law 351 = .ok (.iconst 0, 1) := by decide +kernel
theorem dL_law_352 : decode cL_law 352 = .ok (.iconst 0, 1) := by decide +kernel
theorem dL_law_353 : decode cL_law 353 = .ok (.invokestatic 94, 3) := by decide +kernel
theorem dL_law_356 : decode cL_law 356 = .ok (.istore 12, 2) := by decide +kernel
theorem dL_law_358 : decode cL_law 358 = .ok (.iload 11, 2) := by decide +kernel
theorem dL_law_360 : decode cL_law 360 = .ok (.ifCond .ge 17, 3) := by decide +kernel
theorem dL_law_363 : decode cL_law 363 = .ok (.iload 12, 2) := by decide +kernel
theorem dL_law_365 : decode cL_law 365 = .ok (.ifCond .eq 21, 3) := by decide +kernel
theorem dL_law_368 : decode cL_law 368 = .ok (.iload 12, 2) := by decide +kernel
theorem dL_law_370 : decode cL_law 370 = .ok (.iconst 1, 1) := by decide +kernel
theorem dL_law_371 : decode cL_law 371 = .ok (.if_icmp .ne 45, 3) := by decide +kernel
theorem dL_law_374 : decode cL_law 374 = .ok (.goto 12, 3) := by decide +kernel
theorem dL_law_377 : decode cL_law 377 = .ok (.iload 12, 2) := by decide +kernel
theorem dL_law_379 : decode cL_law 379 = .ok (.iconst 1, 1) := by decide +kernel
theorem dL_law_380 : decode cL_law 380 = .ok (.iload 11, 2) := by decide +kernel
theorem dL_law_382 : decode cL_law 382 = .ok (.isub, 1) := by decide +kernel
theorem dL_law_383 : decode cL_law 383 = .ok (.if_icmp .ne 33, 3) := by decide +kernel
theorem dL_law_386 : decode cL_law 386 = .ok (.aload_n 1, 1) := by decide +kernel
theorem dL_law_387 : decode cL_law 387 = .ok (.aload_n 2, 1) := by decide +kernel
theorem dL_law_388 : decode cL_law 388 = .ok (.iload 12, 2) := by decide +kernel
theorem dL_law_390 : decode cL_law 390 = .ok (.iload 9, 2) := by decide +kernel
theorem dL_law_392 : decode cL_law 392 = .ok (.iload 10, 2) := by decide +kernel
theorem dL_law_394 : decode cL_law 394 = .ok (.iload 11, 2) := by decide +kernel
theorem dL_law_396 : decode cL_law 396 = .ok (.ifCond .ge 8, 3) := by decide +kernel
theorem dL_law_399 : decode cL_law 399 = .ok (.bipush 7, 2) := by decide +kernel
theorem dL_law_401 : decode cL_law 401 = .ok (.goto 5, 3) := by decide +kernel
theorem dL_law_404 : decode cL_law 404 = .ok (.bipush 6, 2) := by decide +kernel
theorem dL_law_406 : decode cL_law 406 = .ok (.invokestatic 114, 3) := by decide +kernel
theorem dL_law_409 : decode cL_law 409 = .ok (.ifCond .eq 7, 3) := by decide +kernel
theorem dL_law_412 : decode cL_law 412 = .ok (.iconst 1, 1) := by decide +kernel
theorem dL_law_413 : decode cL_law 413 = .ok (.goto 4, 3) := by decide +kernel
theorem dL_law_416 : decode cL_law 416 = .ok (.iconst 0, 1) := by decide +kernel
theorem dL_law_417 : decode cL_law 417 = .ok (.istore_n 3, 1) := by decide +kernel
theorem dL_law_418 : decode cL_law 418 = .ok (.goto 788, 3) := by decide +kernel
theorem dL_law_421 : decode cL_law 421 = .ok (.iload 6, 2) := by decide +kernel
theorem dL_law_423 : decode cL_law 423 = .ok (.bipush 13, 2) := by decide +kernel
theorem dL_law_425 : decode cL_law 425 = .ok (.if_icmp .ge 100, 3) := by decide +kernel
theorem dL_law_428 : decode cL_law 428 = .ok (.aload_n 2, 1) := by decide +kernel
theorem dL_law_429 : decode cL_law 429 = .ok (.iconst 2, 1) := by decide +kernel
theorem dL_law_430 : decode cL_law 430 = .ok (.iaload, 1) := by decide +kernel
theorem dL_law_431 : decode cL_law 431 = .ok (.bipush 60, 2) := by decide +kernel
theorem dL_law_433 : decode cL_law 433 = .ok (.if_icmp .ge 92, 3) := by decide +kernel
theorem dL_law_436 : decode cL_law 436 = .ok (.iload 7, 2) := by decide +kernel
theorem dL_law_438 : decode cL_law 438 = .ok (.bipush 6, 2) := by decide +kernel
theorem dL_law_440 : decode cL_law 440 = .ok (.irem, 1) := by decide +kernel
theorem dL_law_441 : decode cL_law 441 = .ok (.ifCond .ne 16, 3) := by decide +kernel
theorem dL_law_444 : decode cL_law 444 = .ok (.iconst 1, 1) := by decide +kernel
theorem dL_law_445 : decode cL_law 445 = .ok (.iload 7, 2) := by decide +kernel
theorem dL_law_447 : decode cL_law 447 = .ok (.bipush 6, 2) := by decide +kernel
theorem dL_law_449 : decode cL_law 449 = .ok (.idiv, 1) := by decide +kernel
theorem dL_law_450 : decode cL_law 450 = .ok (.bipush 6, 2) := by decide +kernel
theorem dL_law_452 : decode cL_law 452 = .ok (.irem, 1) := by decide +kernel
theorem dL_law_453 : decode cL_law 453 = .ok (.iadd, 1) := by decide +kernel
theorem dL_law_454 : decode cL_law 454 = .ok (.goto 4, 3) := by decide +kernel
theorem dL_law_457 : decode cL_law 457 = .ok (.iconst 1, 1) := by decide +kernel
theorem dL_law_458 : decode cL_law 458 = .ok (.istore 11, 2) := by decide +kernel
theorem dL_law_460 : decode cL_law 460 = .ok (.aload_n 1, 1) := by decide +kernel
theorem dL_law_461 : decode cL_law 461 = .ok (.aload_n 1, 1) := by decide +kernel
theorem dL_law_462 : decode cL_law 462 = .ok (.iconst 2, 1) := by decide +kernel
theorem dL_law_463 : decode cL_law 463 = .ok (.invokevirtual 64, 3) := by decide +kernel
theorem dL_law_466 : decode cL_law 466 = .ok (.iload 11, 2) := by decide +kernel
theorem dL_law_468 : decode cL_law 468 = .ok (.invokevirtual 58, 3) := by decide +kernel
theorem dL_law_471 : decode cL_law 471 = .ok (.istore 12, 2) := by decide +kernel
theorem dL_law_473 : decode cL_law 473 = .ok (.aload_n 1, 1) := by decide +kernel
theorem dL_law_474 : decode cL_law 474 = .ok (.iconst 3, 1) := by decide +kernel
theorem dL_law_475 : decode cL_law 475 = .ok (.iload 12, 2) := by decide +kernel
theorem dL_law_477 : decode cL_law 477 = .ok (.iconst 0, 1) := by decide +kernel
theorem dL_law_478 : decode cL_law 478 = .ok (.iconst 0, 1) := by decide +kernel
theorem dL_law_479 : decode cL_law 479 = .ok (.iconst 0, 1) := by decide +kernel
theorem dL_law_480 : decode cL_law 480 = .ok (.invokestatic 94, 3) := by decide +kernel
theorem dL_law_483 : decode cL_law 483 = .ok (.iload 11, 2) := by decide +kernel
theorem dL_law_485 : decode cL_law 485 = .ok (.iconst 1, 1) := by decide +kernel
theorem dL_law_486 : decode cL_law 486 = .ok (.if_icmp .ne 7, 3) := by decide +kernel
theorem dL_law_489 : decode cL_law 489 = .ok (.iconst 1, 1) := by decide +kernel
theorem dL_law_490 : decode cL_law 490 = .ok (.goto 4, 3) := by decide +kernel
theorem dL_law_493 : decode cL_law 493 = .ok (.iconst 0, 1) := by decide +kernel
theorem dL_law_494 : decode cL_law 494 = .ok (.if_icmp .ne 26, 3) := by decide +kernel
theorem dL_law_497 : decode cL_law 497 = .ok (.aload_n 1, 1) := by decide +kernel
theorem dL_law_498 : decode cL_law 498 = .ok (.iconst 1, 1) := by decide +kernel
theorem dL_law_499 : decode cL_law 499 = .ok (.invokevirtual 64, 3) := by decide +kernel
theorem dL_law_502 : decode cL_law 502 = .ok (.iconst 1, 1) := by decide +kernel
theorem dL_law_503 : decode cL_law 503 = .ok (.if_icmp .ne 17, 3) := by decide +kernel
theorem dL_law_506 : decode cL_law 506 = .ok (.aload_n 1, 1) := by decide +kernel
theorem dL_law_507 : decode cL_law 507 = .ok (.iconst 4, 1) := by decide +kernel
theorem dL_law_508 : decode cL_law 508 = .ok (.invokevirtual 64, 3) := by decide +kernel
theorem dL_law_511 : decode cL_law 511 = .ok (.iload 12, 2) := by decide +kernel
theorem dL_law_513 : decode cL_law 513 = .ok (.if_icmp .ne 7, 3) := by decide +kernel
theorem dL_law_516 : decode cL_law 516 = .ok (.iconst 1, 1) := by decide +kernel
theorem dL_law_517 : decode cL_law 517 = .ok (.goto 4, 3) := by decide +kernel
theorem dL_law_520 : decode cL_law 520 = .ok (.iconst 0, 1) := by decide +kernel
theorem dL_law_521 : decode cL_law 521 = .ok (.istore_n 3, 1) := by decide +kernel
theorem dL_law_522 : decode cL_law 522 = .ok (.goto 684, 3) := by decide +kernel
theorem dL_law_525 : decode cL_law 525 = .ok (.iload 6, 2) := by decide +kernel
theorem dL_law_527 : decode cL_law 527 = .ok (.bipush 13, 2) := by decide +kernel
theorem dL_law_529 : decode cL_law 529 = .ok (.if_icmp .ne 131, 3) := by decide +kernel
theorem dL_law_532 : decode cL_law 532 = .ok (.aload_n 1, 1) := by decide +kernel
theorem dL_law_533 : decode cL_law 533 = .ok (.iconst 2, 1) := by decide +kernel
theorem dL_law_534 : decode cL_law 534 = .ok (.invokevirtual 64, 3) := by decide +kernel
theorem dL_law_537 : decode cL_law 537 = .ok (.istore 11, 2) := by decide +kernel
theorem dL_law_539 : decode cL_law 539 = .ok (.aload_n 1, 1) := by decide +kernel
theorem dL_law_540 : decode cL_law 540 = .ok (.bipush 7, 2) := by decide +kernel
theorem dL_law_542 : decode cL_law 542 = .ok (.iconst 0, 1) := by decide +kernel
theorem dL_law_543 : decode cL_law 543 = .ok (.iconst 0, 1) := by decide +kernel
theorem dL_law_544 : decode cL_law 544 = .ok (.iconst 0, 1) := by decide +kernel
theorem dL_law_545 : decode cL_law 545 = .ok (.iconst 0, 1) := by decide +kernel
theorem dL_law_546 : decode cL_law 546 = .ok (.invokestatic 94, 3) := by decide +kernel
theorem dL_law_549 : decode cL_law 549 = .ok (.istore 12, 2) := by decide +kernel
theorem dL_law_551 : decode cL_law 551 = .ok (.iload 12, 2) := by decide +kernel
theorem dL_law_553 : decode cL_law 553 = .ok (.ifCond .lt 104, 3) := by decide +kernel
theorem dL_law_556 : decode cL_law 556 = .ok (.aload_n 2, 1) := by decide +kernel
theorem dL_law_557 : decode cL_law 557 = .ok (.iconst 0, 1) := by decide +kernel
theorem dL_law_558 : decode cL_law 558 = .ok (.dup2, 1) := by decide +kernel
theorem dL_law_559 : decode cL_law 559 = .ok (.iaload, 1) := by decide +kernel
theorem dL_law_560 : decode cL_law 560 = .ok (.iconst 1, 1) := by decide +kernel
theorem dL_law_561 : decode cL_law 561 = .ok (.iadd, 1) := by decide +kernel
theorem dL_law_562 : decode cL_law 562 = .ok (.iastore, 1) := by decide +kernel
theorem dL_law_563 : decode cL_law 563 = .ok (.aload_n 2, 1) := by decide +kernel
theorem dL_law_564 : decode cL_law 564 = .ok (.iconst 1, 1) := by decide +kernel
theorem dL_law_565 : decode cL_law 565 = .ok (.dup2, 1) := by decide +kernel
theorem dL_law_566 : decode cL_law 566 = .ok (.iaload, 1) := by decide +kernel
theorem dL_law_567 : decode cL_law 567 = .ok (.iload 12, 2) := by decide +kernel
theorem dL_law_569 : decode cL_law 569 = .ok (.iadd, 1) := by decide +kernel
theorem dL_law_570 : decode cL_law 570 = .ok (.iastore, 1) := by decide +kernel
theorem dL_law_571 : decode cL_law 571 = .ok (.iload 11, 2) := by decide +kernel
theorem dL_law_573 : decode cL_law 573 = .ok (.ifCond .lt 82, 3) := by decide +kernel
theorem dL_law_576 : decode cL_law 576 = .ok (.aload_n 1, 1) := by decide +kernel
theorem dL_law_577 : decode cL_law 577 = .ok (.iconst 3, 1) := by decide +kernel
theorem dL_law_578 : decode cL_law 578 = .ok (.invokevirtual 64, 3) := by decide +kernel
theorem dL_law_581 : decode cL_law 581 = .ok (.bipush 9, 2) := by decide +kernel
theorem dL_law_583 : decode cL_law 583 = .ok (.if_icmp .ne 72, 3) := by decide +kernel
theorem dL_law_586 : decode cL_law 586 = .ok (.aload_n 1, 1) := by decide +kernel
theorem dL_law_587 : decode cL_law 587 = .ok (.iload 11, 2) := by decide +kernel
theorem dL_law_589 : decode cL_law 589 = .ok (.invokevirtual 52, 3) := by decide +kernel
theorem dL_law_592 : decode cL_law 592 = .ok (.iload 11, 2) := by decide +kernel
theorem dL_law_594 : decode cL_law 594 = .ok (.ifCond .ne 8, 3) := by decide +kernel
theorem dL_law_597 : decode cL_law 597 = .ok (.iload 9, 2) := by decide +kernel
theorem dL_law_599 : decode cL_law 599 = .ok (.goto 5, 3) := by decide +kernel
theorem dL_law_602 : decode cL_law 602 = .ok (.iload 10, 2) := by decide +kernel
theorem dL_law_604 : decode cL_law 604 = .ok (.iload 12, 2) := by decide +kernel
theorem dL_law_606 : decode cL_law 606 = .ok (.isub, 1) := by decide +kernel
theorem dL_law_607 : decode cL_law 607 = .ok (.if_icmp .ne 48, 3) := by decide +kernel
theorem dL_law_610 : decode cL_law 610 = .ok (.aload_n 1, 1) := by decide +kernel
theorem dL_law_611 : decode cL_law 611 = .ok (.iconst 1, 1) := by decide +kernel
theorem dL_law_612 : decode cL_law 612 = .ok (.iload 11, 2) := by decide +kernel
theorem dL_law_614 : decode cL_law 614 = .ok (.isub, 1) := by decide +kernel
theorem dL_law_615 : decode cL_law 615 = .ok (.invokevirtual 52, 3) := by decide +kernel
theorem dL_law_618 : decode cL_law 618 = .ok (.iload 11, 2) := by decide +kernel
theorem dL_law_620 : decode cL_law 620 = .ok (.ifCond .ne 8, 3) := by decide +kernel
theorem dL_law_623 : decode cL_law 623 = .ok (.iload 10, 2) := by decide +kernel
theorem dL_law_625 : decode cL_law 625 = .ok (.goto 5, 3) := by decide +kernel
theorem dL_law_628 : decode cL_law 628 = .ok (.iload 9, 2) := by decide +kernel
theorem dL_law_630 : decode cL_law 630 = .ok (.iconst 1, 1) := by decide +kernel
theorem dL_law_631 : decode cL_law 631 = .ok (.iadd, 1) := by decide +kernel
theorem dL_law_632 : decode cL_law 632 = .ok (.if_icmp .ne 23, 3) := by decide +kernel
theorem dL_law_635 : decode cL_law 635 = .ok (.aload_n 1, 1) := by decide +kernel
theorem dL_law_636 : decode cL_law 636 = .ok (.bipush 7, 2) := by decide +kernel
theorem dL_law_638 : decode cL_law 638 = .ok (.iconst 0, 1) := by decide +kernel
theorem dL_law_639 : decode cL_law 639 = .ok (.iconst 0, 1) := by decide +kernel
theorem dL_law_640 : decode cL_law 640 = .ok (.iconst 0, 1) := by decide +kernel
theorem dL_law_641 : decode cL_law 641 = .ok (.iconst 0, 1) := by decide +kernel
theorem dL_law_642 : decode cL_law 642 = .ok (.invokestatic 94, 3) := by decide +kernel
theorem dL_law_645 : decode cL_law 645 = .ok (.sipush (-1673), 3) := by decide +kernel
theorem dL_law_648 : decode cL_law 648 = .ok (.if_icmp .ne 7, 3) := by decide +kernel
theorem dL_law_651 : decode cL_law 651 = .ok (.iconst 1, 1) := by decide +kernel
theorem dL_law_652 : decode cL_law 652 = .ok (.goto 4, 3) := by decide +kernel
theorem dL_law_655 : decode cL_law 655 = .ok (.iconst 0, 1) := by decide +kernel
theorem dL_law_656 : decode cL_law 656 = .ok (.istore_n 3, 1) := by decide +kernel
theorem dL_law_657 : decode cL_law 657 = .ok (.goto 549, 3) := by decide +kernel
theorem dL_law_660 : decode cL_law 660 = .ok (.iload 6, 2) := by decide +kernel
theorem dL_law_662 : decode cL_law 662 = .ok (.bipush 17, 2) := by decide +kernel
theorem dL_law_664 : decode cL_law 664 = .ok (.if_icmp .ge 87, 3) := by decide +kernel
theorem dL_law_667 : decode cL_law 667 = .ok (.iload 7, 2) := by decide +kernel
theorem dL_law_669 : decode cL_law 669 = .ok (.iconst 2, 1) := by decide +kernel
theorem dL_law_670 : decode cL_law 670 = .ok (.idiv, 1) := by decide +kernel
theorem dL_law_671 : decode cL_law 671 = .ok (.bipush 7, 2) := by decide +kernel
theorem dL_law_673 : decode cL_law 673 = .ok (.irem, 1) := by decide +kernel
theorem dL_law_674 : decode cL_law 674 = .ok (.ifCond .ne 16, 3) := by decide +kernel
theorem dL_law_677 : decode cL_law 677 = .ok (.iconst 1, 1) := by decide +kernel
theorem dL_law_678 : decode cL_law 678 = .ok (.iload 7, 2) := by decide +kernel
theorem dL_law_680 : decode cL_law 680 = .ok (.bipush 14, 2) := by decide +kernel
theorem dL_law_682 : decode cL_law 682 = .ok (.idiv, 1) := by decide +kernel
theorem dL_law_683 : decode cL_law 683 = .ok (.bipush 20, 2) := by decide +kernel
theorem dL_law_685 : decode cL_law 685 = .ok (.irem, 1) := by decide +kernel
theorem dL_law_686 : decode cL_law 686 = .ok (.iadd, 1) := by decide +kernel
theorem dL_law_687 : decode cL_law 687 = .ok (.goto 19, 3) := by decide +kernel
theorem dL_law_690 : decode cL_law 690 = .ok (.aload_n 1, 1) := by decide +kernel
theorem dL_law_691 : decode cL_law 691 = .ok (.iload 8, 2) := by decide +kernel
theorem dL_law_693 : decode cL_law 693 = .ok (.iconst 1, 1) := by decide +kernel
theorem dL_law_694 : decode cL_law 694 = .ok (.iload 7, 2) := by decide +kernel
theorem dL_law_696 : decode cL_law 696 = .ok (.bipush 14, 2) := by decide +kernel
theorem dL_law_698 : decode cL_law 698 = .ok (.idiv, 1) := by decide +kernel
theorem dL_law_699 : decode cL_law 699 = .ok (.bipush 6, 2) := by decide +kernel
theorem dL_law_701 : decode cL_law 701 = .ok (.irem, 1) := by decide +kernel
theorem dL_law_702 : decode cL_law 702 = .ok (.iadd, 1) := by decide +kernel
theorem dL_law_703 : decode cL_law 703 = .ok (.invokevirtual 58, 3) := by decide +kernel
theorem dL_law_706 : decode cL_law 706 = .ok (.istore 11, 2) := by decide +kernel
theorem dL_law_708 : decode cL_law 708 = .ok (.iload 11, 2) := by decide +kernel
theorem dL_law_710 : decode cL_law 710 = .ok (.iconst 1, 1) := by decide +kernel
theorem dL_law_711 : decode cL_law 711 = .ok (.if_icmp .ge 9, 3) := by decide +kernel
theorem dL_law_714 : decode cL_law 714 = .ok (.sipush (-1673), 3) := by decide +kernel
theorem dL_law_717 : decode cL_law 717 = .ok (.goto 15, 3) := by decide +kernel
theorem dL_law_720 : decode cL_law 720 = .ok (.aload_n 1, 1) := by decide +kernel
theorem dL_law_721 : decode cL_law 721 = .ok (.bipush 8, 2) := by decide +kernel
theorem dL_law_723 : decode cL_law 723 = .ok (.iload 8, 2) := by decide +kernel
theorem dL_law_725 : decode cL_law 725 = .ok (.iload 11, 2) := by decide +kernel
theorem dL_law_727 : decode cL_law 727 = .ok (.iconst 0, 1) := by decide +kernel
theorem dL_law_728 : decode cL_law 728 = .ok (.iconst 0, 1) := by decide +kernel
theorem dL_law_729 : decode cL_law 729 = .ok (.invokestatic 94, 3) := by decide +kernel
theorem dL_law_732 : decode cL_law 732 = .ok (.istore 12, 2) := by decide +kernel
theorem dL_law_734 : decode cL_law 734 = .ok (.iload 12, 2) := by decide +kernel
theorem dL_law_736 : decode cL_law 736 = .ok (.sipush (-1673), 3) := by decide +kernel
theorem dL_law_739 : decode cL_law 739 = .ok (.if_icmp .ne 7, 3) := by decide +kernel
theorem dL_law_742 : decode cL_law 742 = .ok (.iconst 1, 1) := by decide +kernel
theorem dL_law_743 : decode cL_law 743 = .ok (.goto 4, 3) := by decide +kernel
theorem dL_law_746 : decode cL_law 746 = .ok (.iconst 0, 1) := by decide +kernel
theorem dL_law_747 : decode cL_law 747 = .ok (.istore_n 3, 1) := by decide +kernel
theorem dL_law_748 : decode cL_law 748 = .ok (.goto 458, 3) := by decide +kernel
theorem dL_law_751 : decode cL_law 751 = .ok (.iload 6, 2) := by decide +kernel
theorem dL_law_753 : decode cL_law 753 = .ok (.bipush 20, 2) := by decide +kernel
theorem dL_law_755 : decode cL_law 755 = .ok (.if_icmp .ge 244, 3) := by decide +kernel
theorem dL_law_758 : decode cL_law 758 = .ok (.aload_n 1, 1) := by decide +kernel
theorem dL_law_759 : decode cL_law 759 = .ok (.iload 8, 2) := by decide +kernel
theorem dL_law_761 : decode cL_law 761 = .ok (.iconst 1, 1) := by decide +kernel
theorem dL_law_762 : decode cL_law 762 = .ok (.iload 7, 2) := by decide +kernel
theorem dL_law_764 : decode cL_law 764 = .ok (.iconst 2, 1) := by decide +kernel
theorem dL_law_765 : decode cL_law 765 = .ok (.idiv, 1) := by decide +kernel
theorem dL_law_766 : decode cL_law 766 = .ok (.bipush 6, 2) := by decide +kernel
theorem dL_law_768 : decode cL_law 768 = .ok (.irem, 1) := by decide +kernel
theorem dL_law_769 : decode cL_law 769 = .ok (.iadd, 1) := by decide +kernel
theorem dL_law_770 : decode cL_law 770 = .ok (.invokevirtual 58, 3) := by decide +kernel
theorem dL_law_773 : decode cL_law 773 = .ok (.istore 11, 2) := by decide +kernel
theorem dL_law_775 : decode cL_law 775 = .ok (.iconst 1, 1) := by decide +kernel
theorem dL_law_776 : decode cL_law 776 = .ok (.iload 7, 2) := by decide +kernel
theorem dL_law_778 : decode cL_law 778 = .ok (.bipush 12, 2) := by decide +kernel
theorem dL_law_780 : decode cL_law 780 = .ok (.idiv, 1) := by decide +kernel
theorem dL_law_781 : decode cL_law 781 = .ok (.bipush 20, 2) := by decide +kernel
theorem dL_law_783 : decode cL_law 783 = .ok (.irem, 1) := by decide +kernel
theorem dL_law_784 : decode cL_law 784 = .ok (.iadd, 1) := by decide +kernel
theorem dL_law_785 : decode cL_law 785 = .ok (.istore 12, 2) := by decide +kernel
theorem dL_law_787 : decode cL_law 787 = .ok (.aload_n 1, 1) := by decide +kernel
theorem dL_law_788 : decode cL_law 788 = .ok (.iload 8, 2) := by decide +kernel
theorem dL_law_790 : decode cL_law 790 = .ok (.iconst 0, 1) := by decide +kernel
theorem dL_law_791 : decode cL_law 791 = .ok (.invokevirtual 67, 3) := by decide +kernel
theorem dL_law_794 : decode cL_law 794 = .ok (.istore 13, 2) := by decide +kernel
theorem dL_law_796 : decode cL_law 796 = .ok (.iconst 1, 1) := by decide +kernel
theorem dL_law_797 : decode cL_law 797 = .ok (.iload 7, 2) := by decide +kernel
theorem dL_law_799 : decode cL_law 799 = .ok (.iconst 2, 1) := by decide +kernel
theorem dL_law_800 : decode cL_law 800 = .ok (.idiv, 1) := by decide +kernel
theorem dL_law_801 : decode cL_law 801 = .ok (.bipush 6, 2) := by decide +kernel
theorem dL_law_803 : decode cL_law 803 = .ok (.irem, 1) := by decide +kernel
theorem dL_law_804 : decode cL_law 804 = .ok (.iadd, 1) := by decide +kernel
theorem dL_law_805 : decode cL_law 805 = .ok (.istore 14, 2) := by decide +kernel
theorem dL_law_807 : decode cL_law 807 = .ok (.iload 11, 2) := by decide +kernel
theorem dL_law_809 : decode cL_law 809 = .ok (.iconst 1, 1) := by decide +kernel
theorem dL_law_810 : decode cL_law 810 = .ok (.if_icmp .ge 9, 3) := by decide +kernel
theorem dL_law_813 : decode cL_law 813 = .ok (.sipush (-1673), 3) := by decide +kernel
theorem dL_law_816 : decode cL_law 816 = .ok (.goto 16, 3) := by decide +kernel
theorem dL_law_819 : decode cL_law 819 = .ok (.aload_n 1, 1) := by decide +kernel
theorem dL_law_820 : decode cL_law 820 = .ok (.bipush 9, 2) := by decide +kernel
theorem dL_law_822 : decode cL_law 822 = .ok (.iload 8, 2) := by decide +kernel
theorem dL_law_824 : decode cL_law 824 = .ok (.iload 11, 2) := by decide +kernel
theorem dL_law_826 : decode cL_law 826 = .ok (.iload 12, 2) := by decide +kernel
theorem dL_law_828 : decode cL_law 828 = .ok (.iconst 0, 1) := by decide +kernel
theorem dL_law_829 : decode cL_law 829 = .ok (.invokestatic 94, 3) := by decide +kernel
theorem dL_law_832 : decode cL_law 832 = .ok (.istore 15, 2) := by decide +kernel
theorem dL_law_834 : decode cL_law 834 = .ok (.iload 15, 2) := by decide +kernel
theorem dL_law_836 : decode cL_law 836 = .ok (.sipush (-1673), 3) := by decide +kernel
theorem dL_law_839 : decode cL_law 839 = .ok (.if_icmp .eq 37, 3) := by decide +kernel
theorem dL_law_842 : decode cL_law 842 = .ok (.iload 15, 2) := by decide +kernel
theorem dL_law_844 : decode cL_law 844 = .ok (.iload 13, 2) := by decide +kernel
theorem dL_law_846 : decode cL_law 846 = .ok (.iconst 1, 1) := by decide +kernel
theorem dL_law_847 : decode cL_law 847 = .ok (.iadd, 1) := by decide +kernel
theorem dL_law_848 : decode cL_law 848 = .ok (.if_icmp .ne 32, 3) := by decide +kernel
theorem dL_law_851 : decode cL_law 851 = .ok (.aload_n 1, 1) := by decide +kernel
theorem dL_law_852 : decode cL_law 852 = .ok (.iload 8, 2) := by decide +kernel
theorem dL_law_854 : decode cL_law 854 = .ok (.iconst 0, 1) := by decide +kernel
theorem dL_law_855 : decode cL_law 855 = .ok (.invokevirtual 67, 3) := by decide +kernel
theorem dL_law_858 : decode cL_law 858 = .ok (.iload 15, 2) := by decide +kernel
theorem dL_law_860 : decode cL_law 860 = .ok (.if_icmp .ne 20, 3) := by decide +kernel
theorem dL_law_863 : decode cL_law 863 = .ok (.aload_n 1, 1) := by decide +kernel
theorem dL_law_864 : decode cL_law 864 = .ok (.iload 8, 2) := by decide +kernel
theorem dL_law_866 : decode cL_law 866 = .ok (.iload 14, 2) := by decide +kernel
theorem dL_law_868 : decode cL_law 868 = .ok (.invokevirtual 58, 3) := by decide +kernel
theorem dL_law_871 : decode cL_law 871 = .ok (.iload 12, 2) := by decide +kernel
theorem dL_law_873 : decode cL_law 873 = .ok (.if_icmp .ne 7, 3) := by decide +kernel
theorem dL_law_876 : decode cL_law 876 = .ok (.iconst 1, 1) := by decide +kernel
theorem dL_law_877 : decode cL_law 877 = .ok (.goto 4, 3) := by decide +kernel
theorem dL_law_880 : decode cL_law 880 = .ok (.iconst 0, 1) := by decide +kernel
theorem dL_law_881 : decode cL_law 881 = .ok (.istore_n 3, 1) := by decide +kernel
theorem dL_law_882 : decode cL_law 882 = .ok (.iload_n 3, 1) := by decide +kernel
theorem dL_law_883 : decode cL_law 883 = .ok (.ifCond .eq 113, 3) := by decide +kernel
theorem dL_law_886 : decode cL_law 886 = .ok (.iload 15, 2) := by decide +kernel
theorem dL_law_888 : decode cL_law 888 = .ok (.ifCond .le 108, 3) := by decide +kernel
theorem dL_law_891 : decode cL_law 891 = .ok (.iload 7, 2) := by decide +kernel
theorem dL_law_893 : decode cL_law 893 = .ok (.iconst 3, 1) := by decide +kernel
theorem dL_law_894 : decode cL_law 894 = .ok (.irem, 1) := by decide +kernel
theorem dL_law_895 : decode cL_law 895 = .ok (.ifCond .ne 101, 3) := by decide +kernel
theorem dL_law_898 : decode cL_law 898 = .ok (.aload_n 1, 1) := by decide +kernel
theorem dL_law_899 : decode cL_law 899 = .ok (.bipush 9, 2) := by decide +kernel
theorem dL_law_901 : decode cL_law 901 = .ok (.iload 8, 2) := by decide +kernel
theorem dL_law_903 : decode cL_law 903 = .ok (.iload 12, 2) := by decide +kernel
theorem dL_law_905 : decode cL_law 905 = .ok (.iload 11, 2) := by decide +kernel
theorem dL_law_907 : decode cL_law 907 = .ok (.iconst 0, 1) := by decide +kernel
theorem dL_law_908 : decode cL_law 908 = .ok (.invokestatic 94, 3) := by decide +kernel
theorem dL_law_911 : decode cL_law 911 = .ok (.istore 16, 2) := by decide +kernel
theorem dL_law_913 : decode cL_law 913 = .ok (.iload 16, 2) := by decide +kernel
theorem dL_law_915 : decode cL_law 915 = .ok (.sipush (-1673), 3) := by decide +kernel
theorem dL_law_918 : decode cL_law 918 = .ok (.if_icmp .ne 24, 3) := by decide +kernel
theorem dL_law_921 : decode cL_law 921 = .ok (.aload_n 1, 1) := by decide +kernel
theorem dL_law_922 : decode cL_law 922 = .ok (.iload 8, 2) := by decide +kernel
theorem dL_law_924 : decode cL_law 924 = .ok (.iload 14, 2) := by decide +kernel
theorem dL_law_926 : decode cL_law 926 = .ok (.invokevirtual 58, 3) := by decide +kernel
theorem dL_law_929 : decode cL_law 929 = .ok (.iload 12, 2) := by decide +kernel
theorem dL_law_931 : decode cL_law 931 = .ok (.if_icmp .ne 7, 3) := by decide +kernel
theorem dL_law_934 : decode cL_law 934 = .ok (.iconst 1, 1) := by decide +kernel
theorem dL_law_935 : decode cL_law 935 = .ok (.goto 60, 3) := by decide +kernel
theorem dL_law_938 : decode cL_law 938 = .ok (.iconst 0, 1) := by decide +kernel
theorem dL_law_939 : decode cL_law 939 = .ok (.goto 56, 3) := by decide +kernel
theorem dL_law_942 : decode cL_law 942 = .ok (.iload 15, 2) := by decide +kernel
theorem dL_law_944 : decode cL_law 944 = .ok (.bipush 6, 2) := by decide +kernel
theorem dL_law_946 : decode cL_law 946 = .ok (.if_icmp .ge 48, 3) := by decide +kernel
theorem dL_law_949 : decode cL_law 949 = .ok (.iload 16, 2) := by decide +kernel
theorem dL_law_951 : decode cL_law 951 = .ok (.iload 15, 2) := by decide +kernel
theorem dL_law_953 : decode cL_law 953 = .ok (.iconst 1, 1) := by decide +kernel
theorem dL_law_954 : decode cL_law 954 = .ok (.iadd, 1) := by decide +kernel
theorem dL_law_955 : decode cL_law 955 = .ok (.if_icmp .ne 39, 3) := by decide +kernel
theorem dL_law_958 : decode cL_law 958 = .ok (.aload_n 1, 1) := by decide +kernel
theorem dL_law_959 : decode cL_law 959 = .ok (.iload 8, 2) := by decide +kernel
theorem dL_law_961 : decode cL_law 961 = .ok (.iload 14, 2) := by decide +kernel
theorem dL_law_963 : decode cL_law 963 = .ok (.invokevirtual 58, 3) := by decide +kernel
theorem dL_law_966 : decode cL_law 966 = .ok (.iload 11, 2) := by decide +kernel
theorem dL_law_968 : decode cL_law 968 = .ok (.if_icmp .ne 26, 3) := by decide +kernel
theorem dL_law_971 : decode cL_law 971 = .ok (.aload_n 1, 1) := by decide +kernel
theorem dL_law_972 : decode cL_law 972 = .ok (.bipush 9, 2) := by decide +kernel
theorem dL_law_974 : decode cL_law 974 = .ok (.iload 8, 2) := by decide +kernel
theorem dL_law_976 : decode cL_law 976 = .ok (.iload 11, 2) := by decide +kernel
theorem dL_law_978 : decode cL_law 978 = .ok (.iload 12, 2) := by decide +kernel
theorem dL_law_980 : decode cL_law 980 = .ok (.iconst 0, 1) := by decide +kernel
theorem dL_law_981 : decode cL_law 981 = .ok (.invokestatic 94, 3) := by decide +kernel
theorem dL_law_984 : decode cL_law 984 = .ok (.sipush (-1673), 3) := by decide +kernel
theorem dL_law_987 : decode cL_law 987 = .ok (.if_icmp .ne 7, 3) := by decide +kernel
theorem dL_law_990 : decode cL_law 990 = .ok (.iconst 1, 1) := by decide +kernel
theorem dL_law_991 : decode cL_law 991 = .ok (.goto 4, 3) := by decide +kernel
theorem dL_law_994 : decode cL_law 994 = .ok (.iconst 0, 1) := by decide +kernel
theorem dL_law_995 : decode cL_law 995 = .ok (.istore_n 3, 1) := by decide +kernel
theorem dL_law_996 : decode cL_law 996 = .ok (.goto 210, 3) := by decide +kernel
theorem dL_law_999 : decode cL_law 999 = .ok (.aload_n 1, 1) := by decide +kernel
theorem dL_law_1000 : decode cL_law 1000 = .ok (.iload 8, 2) := by decide +kernel
theorem dL_law_1002 : decode cL_law 1002 = .ok (.iconst 1, 1) := by decide +kernel
theorem dL_law_1003 : decode cL_law 1003 = .ok (.invokevirtual 67, 3) := by decide +kernel
theorem dL_law_1006 : decode cL_law 1006 = .ok (.istore 11, 2) := by decide +kernel
theorem dL_law_1008 : decode cL_law 1008 = .ok (.aload_n 1, 1) := by decide +kernel
theorem dL_law_1009 : decode cL_law 1009 = .ok (.bipush 10, 2) := by decide +kernel
theorem dL_law_1011 : decode cL_law 1011 = .ok (.iload 8, 2) := by decide +kernel
theorem dL_law_1013 : decode cL_law 1013 = .ok (.iconst 0, 1) := by decide +kernel
theorem dL_law_1014 : decode cL_law 1014 = .ok (.iconst 0, 1) := by decide +kernel
theorem dL_law_1015 : decode cL_law 1015 = .ok (.iconst 0, 1) := by decide +kernel
theorem dL_law_1016 : decode cL_law 1016 = .ok (.invokestatic 94, 3) := by decide +kernel
theorem dL_law_1019 : decode cL_law 1019 = .ok (.istore 12, 2) := by decide +kernel
theorem dL_law_1021 : decode cL_law 1021 = .ok (.iload 12, 2) := by decide +kernel
theorem dL_law_1023 : decode cL_law 1023 = .ok (.sipush (-1673), 3) := by decide +kernel
theorem dL_law_1026 : decode cL_law 1026 = .ok (.if_icmp .eq 120, 3) := by decide +kernel
theorem dL_law_1029 : decode cL_law 1029 = .ok (.iload 11, 2) := by decide +kernel
theorem dL_law_1031 : decode cL_law 1031 = .ok (.ifCond .le 119, 3) := by decide +kernel
theorem dL_law_1034 : decode cL_law 1034 = .ok (.iload 12, 2) := by decide +kernel
theorem dL_law_1036 : decode cL_law 1036 = .ok (.ifCond .ne 40, 3) := by decide +kernel
theorem dL_law_1039 : decode cL_law 1039 = .ok (.aload_n 1, 1) := by decide +kernel
theorem dL_law_1040 : decode cL_law 1040 = .ok (.iload 8, 2) := by decide +kernel
theorem dL_law_1042 : decode cL_law 1042 = .ok (.iconst 1, 1) := by decide +kernel
theorem dL_law_1043 : decode cL_law 1043 = .ok (.invokevirtual 67, 3) := by decide +kernel
theorem dL_law_1046 : decode cL_law 1046 = .ok (.iload 11, 2) := by decide +kernel
theorem dL_law_1048 : decode cL_law 1048 = .ok (.iconst 1, 1) := by decide +kernel
theorem dL_law_1049 : decode cL_law 1049 = .ok (.isub, 1) := by decide +kernel
theorem dL_law_1050 : decode cL_law 1050 = .ok (.if_icmp .ne 100, 3) := by decide +kernel
theorem dL_law_1053 : decode cL_law 1053 = .ok (.aload_n 1, 1) := by decide +kernel
theorem dL_law_1054 : decode cL_law 1054 = .ok (.iconst 0, 1) := by decide +kernel
theorem dL_law_1055 : decode cL_law 1055 = .ok (.invokevirtual 52, 3) := by decide +kernel
theorem dL_law_1058 : decode cL_law 1058 = .ok (.iload 9, 2) := by decide +kernel
theorem dL_law_1060 : decode cL_law 1060 = .ok (.if_icmp .ne 90, 3) := by decide +kernel
theorem dL_law_1063 : decode cL_law 1063 = .ok (.aload_n 1, 1) := by decide +kernel
theorem dL_law_1064 : decode cL_law 1064 = .ok (.iconst 1, 1) := by decide +kernel
theorem dL_law_1065 : decode cL_law 1065 = .ok (.invokevirtual 52, 3) := by decide +kernel
theorem dL_law_1068 : decode cL_law 1068 = .ok (.iload 10, 2) := by decide +kernel
theorem dL_law_1070 : decode cL_law 1070 = .ok (.if_icmp .ne 80, 3) := by decide +kernel
theorem dL_law_1073 : decode cL_law 1073 = .ok (.goto 73, 3) := by decide +kernel
theorem dL_law_1076 : decode cL_law 1076 = .ok (.aload_n 1, 1) := by decide +kernel
theorem dL_law_1077 : decode cL_law 1077 = .ok (.iload 8, 2) := by decide +kernel
theorem dL_law_1079 : decode cL_law 1079 = .ok (.iconst 1, 1) := by decide +kernel
theorem dL_law_1080 : decode cL_law 1080 = .ok (.invokevirtual 67, 3) := by decide +kernel
theorem dL_law_1083 : decode cL_law 1083 = .ok (.iload 11, 2) := by decide +kernel
theorem dL_law_1085 : decode cL_law 1085 = .ok (.if_icmp .ne 65, 3) := by decide +kernel
theorem dL_law_1088 : decode cL_law 1088 = .ok (.aload_n 1, 1) := by decide +kernel
theorem dL_law_1089 : decode cL_law 1089 = .ok (.iconst 3, 1) := by decide +kernel
theorem dL_law_1090 : decode cL_law 1090 = .ok (.invokevirtual 64, 3) := by decide +kernel
theorem dL_law_1093 : decode cL_law 1093 = .ok (.bipush 8, 2) := by decide +kernel
theorem dL_law_1095 : decode cL_law 1095 = .ok (.if_icmp .ne 55, 3) := by decide +kernel
theorem dL_law_1098 : decode cL_law 1098 = .ok (.aload_n 1, 1) := by decide +kernel
theorem dL_law_1099 : decode cL_law 1099 = .ok (.iload 8, 2) := by decide +kernel
theorem dL_law_1101 : decode cL_law 1101 = .ok (.invokevirtual 52, 3) := by decide +kernel
theorem dL_law_1104 : decode cL_law 1104 = .ok (.iload 8, 2) := by decide +kernel
theorem dL_law_1106 : decode cL_law 1106 = .ok (.ifCond .ne 8, 3) := by decide +kernel
theorem dL_law_1109 : decode cL_law 1109 = .ok (.iload 9, 2) := by decide +kernel
theorem dL_law_1111 : decode cL_law 1111 = .ok (.goto 5, 3) := by decide +kernel
theorem dL_law_1114 : decode cL_law 1114 = .ok (.iload 10, 2) := by decide +kernel
theorem dL_law_1116 : decode cL_law 1116 = .ok (.iconst 1, 1) := by decide +kernel
theorem dL_law_1117 : decode cL_law 1117 = .ok (.iadd, 1) := by decide +kernel
theorem dL_law_1118 : decode cL_law 1118 = .ok (.if_icmp .ne 32, 3) := by decide +kernel
theorem dL_law_1121 : decode cL_law 1121 = .ok (.aload_n 1, 1) := by decide +kernel
theorem dL_law_1122 : decode cL_law 1122 = .ok (.iconst 1, 1) := by decide +kernel
theorem dL_law_1123 : decode cL_law 1123 = .ok (.iload 8, 2) := by decide +kernel
theorem dL_law_1125 : decode cL_law 1125 = .ok (.isub, 1) := by decide +kernel
theorem dL_law_1126 : decode cL_law 1126 = .ok (.invokevirtual 52, 3) := by decide +kernel
theorem dL_law_1129 : decode cL_law 1129 = .ok (.iload 8, 2) := by decide +kernel
theorem dL_law_1131 : decode cL_law 1131 = .ok (.ifCond .ne 8, 3) := by decide +kernel
theorem dL_law_1134 : decode cL_law 1134 = .ok (.iload 10, 2) := by decide +kernel
theorem dL_law_1136 : decode cL_law 1136 = .ok (.goto 5, 3) := by decide +kernel
theorem dL_law_1139 : decode cL_law 1139 = .ok (.iload 9, 2) := by decide +kernel
theorem dL_law_1141 : decode cL_law 1141 = .ok (.iconst 1, 1) := by decide +kernel
theorem dL_law_1142 : decode cL_law 1142 = .ok (.isub, 1) := by decide +kernel
theorem dL_law_1143 : decode cL_law 1143 = .ok (.if_icmp .ne 7, 3) := by decide +kernel
theorem dL_law_1146 : decode cL_law 1146 = .ok (.iconst 1, 1) := by decide +kernel
theorem dL_law_1147 : decode cL_law 1147 = .ok (.goto 4, 3) := by decide +kernel
theorem dL_law_1150 : decode cL_law 1150 = .ok (.iconst 0, 1) := by decide +kernel
theorem dL_law_1151 : decode cL_law 1151 = .ok (.istore_n 3, 1) := by decide +kernel
theorem dL_law_1152 : decode cL_law 1152 = .ok (.iload_n 3, 1) := by decide +kernel
theorem dL_law_1153 : decode cL_law 1153 = .ok (.ifCond .eq 51, 3) := by decide +kernel
theorem dL_law_1156 : decode cL_law 1156 = .ok (.iload 12, 2) := by decide +kernel
theorem dL_law_1158 : decode cL_law 1158 = .ok (.sipush (-1673), 3) := by decide +kernel
theorem dL_law_1161 : decode cL_law 1161 = .ok (.if_icmp .eq 39, 3) := by decide +kernel
theorem dL_law_1164 : decode cL_law 1164 = .ok (.aload_n 1, 1) := by decide +kernel
theorem dL_law_1165 : decode cL_law 1165 = .ok (.bipush 10, 2) := by decide +kernel
theorem dL_law_1167 : decode cL_law 1167 = .ok (.iload 8, 2) := by decide +kernel
theorem dL_law_1169 : decode cL_law 1169 = .ok (.iconst 0, 1) := by decide +kernel
theorem dL_law_1170 : decode cL_law 1170 = .ok (.iconst 0, 1) := by decide +kernel
theorem dL_law_1171 : decode cL_law 1171 = .ok (.iconst 0, 1) := by decide +kernel
theorem dL_law_1172 : decode cL_law 1172 = .ok (.invokestatic 94, 3) := by decide +kernel
theorem dL_law_1175 : decode cL_law 1175 = .ok (.sipush (-1673), 3) := by decide +kernel
theorem dL_law_1178 : decode cL_law 1178 = .ok (.if_icmp .ne 26, 3) := by decide +kernel
theorem dL_law_1181 : decode cL_law 1181 = .ok (.aload_n 1, 1) := by decide +kernel
theorem dL_law_1182 : decode cL_law 1182 = .ok (.bipush 10, 2) := by decide +kernel
theorem dL_law_1184 : decode cL_law 1184 = .ok (.iconst 1, 1) := by decide +kernel
theorem dL_law_1185 : decode cL_law 1185 = .ok (.iload 8, 2) := by decide +kernel
theorem dL_law_1187 : decode cL_law 1187 = .ok (.isub, 1) := by decide +kernel
theorem dL_law_1188 : decode cL_law 1188 = .ok (.iconst 0, 1) := by decide +kernel
theorem dL_law_1189 : decode cL_law 1189 = .ok (.iconst 0, 1) := by decide +kernel
theorem dL_law_1190 : decode cL_law 1190 = .ok (.iconst 0, 1) := by decide +kernel
theorem dL_law_1191 : decode cL_law 1191 = .ok (.invokestatic 94, 3) := by decide +kernel
theorem dL_law_1194 : decode cL_law 1194 = .ok (.sipush (-1673), 3) := by decide +kernel
theorem dL_law_1197 : decode cL_law 1197 = .ok (.if_icmp .ne 7, 3) := by decide +kernel
theorem dL_law_1200 : decode cL_law 1200 = .ok (.iconst 1, 1) := by decide +kernel
theorem dL_law_1201 : decode cL_law 1201 = .ok (.goto 4, 3) := by decide +kernel
theorem dL_law_1204 : decode cL_law 1204 = .ok (.iconst 0, 1) := by decide +kernel
theorem dL_law_1205 : decode cL_law 1205 = .ok (.istore_n 3, 1) := by decide +kernel
theorem dL_law_1206 : decode cL_law 1206 = .ok (.iload_n 3, 1) := by decide +kernel
theorem dL_law_1207 : decode cL_law 1207 = .ok (.ifCond .eq 36, 3) := by decide +kernel
theorem dL_law_1210 : decode cL_law 1210 = .ok (.aload_n 1, 1) := by decide +kernel
theorem dL_law_1211 : decode cL_law 1211 = .ok (.aload_n 2, 1) := by decide +kernel
theorem dL_law_1212 : decode cL_law 1212 = .ok (.iload 7, 2) := by decide +kernel
theorem dL_law_1214 : decode cL_law 1214 = .ok (.invokestatic 103, 3) := by decide +kernel
theorem dL_law_1217 : decode cL_law 1217 = .ok (.ifCond .eq 26, 3) := by decide +kernel
theorem dL_law_1220 : decode cL_law 1220 = .ok (.iload 4, 2) := by decide +kernel
theorem dL_law_1222 : decode cL_law 1222 = .ok (.bipush 50, 2) := by decide +kernel
theorem dL_law_1224 : decode cL_law 1224 = .ok (.irem, 1) := by decide +kernel
theorem dL_law_1225 : decode cL_law 1225 = .ok (.ifCond .gt 14, 3) := by decide +kernel
theorem dL_law_1228 : decode cL_law 1228 = .ok (.aload_n 1, 1) := by decide +kernel
theorem dL_law_1229 : decode cL_law 1229 = .ok (.iload 5, 2) := by decide +kernel
theorem dL_law_1231 : decode cL_law 1231 = .ok (.iconst 3, 1) := by decide +kernel
theorem dL_law_1232 : decode cL_law 1232 = .ok (.idiv, 1) := by decide +kernel
theorem dL_law_1233 : decode cL_law 1233 = .ok (.invokestatic 99, 3) := by decide +kernel
theorem dL_law_1236 : decode cL_law 1236 = .ok (.ifCond .eq 7, 3) := by decide +kernel
theorem dL_law_1239 : decode cL_law 1239 = .ok (.iconst 1, 1) := by decide +kernel
theorem dL_law_1240 : decode cL_law 1240 = .ok (.goto 4, 3) := by decide +kernel
theorem dL_law_1243 : decode cL_law 1243 = .ok (.iconst 0, 1) := by decide +kernel
theorem dL_law_1244 : decode cL_law 1244 = .ok (.istore_n 3, 1) := by decide +kernel
theorem dL_law_1245 : decode cL_law 1245 = .ok (.iinc 4 1, 3) := by decide +kernel
theorem dL_law_1248 : decode cL_law 1248 = .ok (.goto (-1202), 3) := by decide +kernel
theorem dL_law_1251 : decode cL_law 1251 = .ok (.iload_n 3, 1) := by decide +kernel
theorem dL_law_1252 : decode cL_law 1252 = .ok (.ireturn, 1) := by decide +kernel
