theorem dX7_init_0 : decode cX7_init 0 = .ok (.aload_n 0, 1) := by decide +kernel
theorem dX7_init_1 : decode cX7_init 1 = .ok (.invokespecial 1, 3) := by decide +kernel
theorem dX7_init_4 : decode cX7_init 4 = .ok (.aload_n 0, 1) := by decide +kernel
theorem dX7_init_5 : decode cX7_init 5 = .ok (.sipush 144, 3) := by decide +kernel
theorem dX7_init_8 : decode cX7_init 8 = .ok (.newarray .boolean, 2) := by decide +kernel
theorem dX7_init_10 : decode cX7_init 10 = .ok (.putfield 7, 3) := by decide +kernel
theorem dX7_init_13 : decode cX7_init 13 = .ok (.aload_n 0, 1) := by decide +kernel
theorem dX7_init_14 : decode cX7_init 14 = .ok (.sipush 144, 3) := by decide +kernel
theorem dX7_init_17 : decode cX7_init 17 = .ok (.newarray .double, 2) := by decide +kernel
theorem dX7_init_19 : decode cX7_init 19 = .ok (.putfield 13, 3) := by decide +kernel
theorem dX7_init_22 : decode cX7_init 22 = .ok (.aload_n 0, 1) := by decide +kernel
theorem dX7_init_23 : decode cX7_init 23 = .ok (.sipush 144, 3) := by decide +kernel
theorem dX7_init_26 : decode cX7_init 26 = .ok (.newarray .double, 2) := by decide +kernel
theorem dX7_init_28 : decode cX7_init 28 = .ok (.putfield 17, 3) := by decide +kernel
theorem dX7_init_31 : decode cX7_init 31 = .ok (.aload_n 0, 1) := by decide +kernel
theorem dX7_init_32 : decode cX7_init 32 = .ok (.sipush 144, 3) := by decide +kernel
theorem dX7_init_35 : decode cX7_init 35 = .ok (.newarray .long, 2) := by decide +kernel
theorem dX7_init_37 : decode cX7_init 37 = .ok (.putfield 20, 3) := by decide +kernel
theorem dX7_init_40 : decode cX7_init 40 = .ok (.aload_n 0, 1) := by decide +kernel
theorem dX7_init_41 : decode cX7_init 41 = .ok (.sipush 144, 3) := by decide +kernel
theorem dX7_init_44 : decode cX7_init 44 = .ok (.newarray .double, 2) := by decide +kernel
theorem dX7_init_46 : decode cX7_init 46 = .ok (.putfield 24, 3) := by decide +kernel
theorem dX7_init_49 : decode cX7_init 49 = .ok (.aload_n 0, 1) := by decide +kernel
theorem dX7_init_50 : decode cX7_init 50 = .ok (.sipush 144, 3) := by decide +kernel
theorem dX7_init_53 : decode cX7_init 53 = .ok (.newarray .double, 2) := by decide +kernel
theorem dX7_init_55 : decode cX7_init 55 = .ok (.putfield 27, 3) := by decide +kernel
theorem dX7_init_58 : decode cX7_init 58 = .ok (.aload_n 0, 1) := by decide +kernel
theorem dX7_init_59 : decode cX7_init 59 = .ok (.sipush 144, 3) := by decide +kernel
theorem dX7_init_62 : decode cX7_init 62 = .ok (.newarray .double, 2) := by decide +kernel
theorem dX7_init_64 : decode cX7_init 64 = .ok (.putfield 30, 3) := by decide +kernel
theorem dX7_init_67 : decode cX7_init 67 = .ok (.aload_n 0, 1) := by decide +kernel
theorem dX7_init_68 : decode cX7_init 68 = .ok (.sipush 336, 3) := by decide +kernel
theorem dX7_init_71 : decode cX7_init 71 = .ok (.newarray .double, 2) := by decide +kernel
theorem dX7_init_73 : decode cX7_init 73 = .ok (.putfield 33, 3) := by decide +kernel
theorem dX7_init_76 : decode cX7_init 76 = .ok (.aload_n 0, 1) := by decide +kernel
theorem dX7_init_77 : decode cX7_init 77 = .ok (.iconst 4, 1) := by decide +kernel
theorem dX7_init_78 : decode cX7_init 78 = .ok (.newarray .long, 2) := by decide +kernel
theorem dX7_init_80 : decode cX7_init 80 = .ok (.putfield 36, 3) := by decide +kernel
theorem dX7_init_83 : decode cX7_init 83 = .ok (.aload_n 0, 1) := by decide +kernel
theorem dX7_init_84 : decode cX7_init 84 = .ok (.sipush 144, 3) := by decide +kernel
theorem dX7_init_87 : decode cX7_init 87 = .ok (.newarray .long, 2) := by decide +kernel
theorem dX7_init_89 : decode cX7_init 89 = .ok (.putfield 39, 3) := by decide +kernel
theorem dX7_init_92 : decode cX7_init 92 = .ok (.aload_n 0, 1) := by decide +kernel
theorem dX7_init_93 : decode cX7_init 93 = .ok (.sipush 144, 3) := by decide +kernel
theorem dX7_init_96 : decode cX7_init 96 = .ok (.newarray .double, 2) := by decide +kernel
theorem dX7_init_98 : decode cX7_init 98 = .ok (.putfield 42, 3) := by decide +kernel
theorem dX7_init_101 : decode cX7_init 101 = .ok (.aload_n 0, 1) := by decide +kernel
theorem dX7_init_102 : decode cX7_init 102 = .ok (.sipush 144, 3) := by decide +kernel
theorem dX7_init_105 : decode cX7_init 105 = .ok (.newarray .double, 2) := by decide +kernel
theorem dX7_init_107 : decode cX7_init 107 = .ok (.putfield 45, 3) := by decide +kernel
theorem dX7_init_110 : decode cX7_init 110 = .ok (.aload_n 0, 1) := by decide +kernel
theorem dX7_init_111 : decode cX7_init 111 = .ok (.sipush 336, 3) := by decide +kernel
theorem dX7_init_114 : decode cX7_init 114 = .ok (.newarray .long, 2) := by decide +kernel
theorem dX7_init_116 : decode cX7_init 116 = .ok (.putfield 48, 3) := by decide +kernel
theorem dX7_init_119 : decode cX7_init 119 = .ok (.aload_n 0, 1) := by decide +kernel
theorem dX7_init_120 : decode cX7_init 120 = .ok (.bipush 32, 2) := by decide +kernel
theorem dX7_init_122 : decode cX7_init 122 = .ok (.newarray .boolean, 2) := by decide +kernel
theorem dX7_init_124 : decode cX7_init 124 = .ok (.putfield 51, 3) := by decide +kernel
theorem dX7_init_127 : decode cX7_init 127 = .ok (.aload_n 0, 1) := by decide +kernel
theorem dX7_init_128 : decode cX7_init 128 = .ok (.bipush 32, 2) := by decide +kernel
theorem dX7_init_130 : decode cX7_init 130 = .ok (.newarray .double, 2) := by decide +kernel
theorem dX7_init_132 : decode cX7_init 132 = .ok (.putfield 54, 3) := by decide +kernel
theorem dX7_init_135 : decode cX7_init 135 = .ok (.aload_n 0, 1) := by decide +kernel
theorem dX7_init_136 : decode cX7_init 136 = .ok (.bipush 32, 2) := by decide +kernel
theorem dX7_init_138 : decode cX7_init 138 = .ok (.newarray .double, 2) := by decide +kernel
theorem dX7_init_140 : decode cX7_init 140 = .ok (.putfield 57, 3) := by decide +kernel
theorem dX7_init_143 : decode cX7_init 143 = .ok (.aload_n 0, 1) := by decide +kernel
theorem dX7_init_144 : decode cX7_init 144 = .ok (.bipush 24, 2) := by decide +kernel
theorem dX7_init_146 : decode cX7_init 146 = .ok (.newarray .double, 2) := by decide +kernel
theorem dX7_init_148 : decode cX7_init 148 = .ok (.putfield 60, 3) := by decide +kernel
theorem dX7_init_151 : decode cX7_init 151 = .ok (.aload_n 0, 1) := by decide +kernel
theorem dX7_init_152 : decode cX7_init 152 = .ok (.bipush 24, 2) := by decide +kernel
theorem dX7_init_154 : decode cX7_init 154 = .ok (.newarray .double, 2) := by decide +kernel
theorem dX7_init_156 : decode cX7_init 156 = .ok (.putfield 63, 3) := by decide +kernel
theorem dX7_init_159 : decode cX7_init 159 = .ok (.aload_n 0, 1) := by decide +kernel
theorem dX7_init_160 : decode cX7_init 160 = .ok (.bipush 10, 2) := by decide +kernel
theorem dX7_init_162 : decode cX7_init 162 = .ok (.newarray .int, 2) := by decide +kernel
theorem dX7_init_164 : decode cX7_init 164 = .ok (.putfield 66, 3) := by decide +kernel
theorem dX7_init_167 : decode cX7_init 167 = .ok (.aload_n 0, 1) := by decide +kernel
theorem dX7_init_168 : decode cX7_init 168 = .ok (.sipush 144, 3) := by decide +kernel
theorem dX7_init_171 : decode cX7_init 171 = .ok (.newarray .boolean, 2) := by decide +kernel
theorem dX7_init_173 : decode cX7_init 173 = .ok (.putfield 70, 3) := by decide +kernel
theorem dX7_init_176 : decode cX7_init 176 = .ok (.aload_n 0, 1) := by decide +kernel
theorem dX7_init_177 : decode cX7_init 177 = .ok (.bipush 10, 2) := by decide +kernel
theorem dX7_init_179 : decode cX7_init 179 = .ok (.newarray .boolean, 2) := by decide +kernel
theorem dX7_init_181 : decode cX7_init 181 = .ok (.putfield 73, 3) := by decide +kernel
theorem dX7_init_184 : decode cX7_init 184 = .ok (.aload_n 0, 1) := by decide +kernel
theorem dX7_init_185 : decode cX7_init 185 = .ok (.bipush 40, 2) := by decide +kernel
theorem dX7_init_187 : decode cX7_init 187 = .ok (.newarray .int, 2) := by decide +kernel
theorem dX7_init_189 : decode cX7_init 189 = .ok (.putfield 76, 3) := by decide +kernel
theorem dX7_init_192 : decode cX7_init 192 = .ok (.aload_n 0, 1) := by decide +kernel
theorem dX7_init_193 : decode cX7_init 193 = .ok (.bipush 40, 2) := by decide +kernel
theorem dX7_init_195 : decode cX7_init 195 = .ok (.newarray .double, 2) := by decide +kernel
theorem dX7_init_197 : decode cX7_init 197 = .ok (.putfield 79, 3) := by decide +kernel
theorem dX7_init_200 : decode cX7_init 200 = .ok (.aload_n 0, 1) := by decide +kernel
theorem dX7_init_201 : decode cX7_init 201 = .ok (.bipush 40, 2) := by decide +kernel
theorem dX7_init_203 : decode cX7_init 203 = .ok (.newarray .double, 2) := by decide +kernel
theorem dX7_init_205 : decode cX7_init 205 = .ok (.putfield 82, 3) := by decide +kernel
theorem dX7_init_208 : decode cX7_init 208 = .ok (.aload_n 0, 1) := by decide +kernel
theorem dX7_init_209 : decode cX7_init 209 = .ok (.bipush 25, 2) := by decide +kernel
theorem dX7_init_211 : decode cX7_init 211 = .ok (.newarray .double, 2) := by decide +kernel
theorem dX7_init_213 : decode cX7_init 213 = .ok (.putfield 85, 3) := by decide +kernel
theorem dX7_init_216 : decode cX7_init 216 = .ok (.aload_n 0, 1) := by decide +kernel
theorem dX7_init_217 : decode cX7_init 217 = .ok (.iconst 5, 1) := by decide +kernel
theorem dX7_init_218 : decode cX7_init 218 = .ok (.newarray .double, 2) := by decide +kernel
theorem dX7_init_220 : decode cX7_init 220 = .ok (.putfield 88, 3) := by decide +kernel
theorem dX7_init_223 : decode cX7_init 223 = .ok (.aload_n 0, 1) := by decide +kernel
theorem dX7_init_224 : decode cX7_init 224 = .ok (.iconst 5, 1) := by decide +kernel
theorem dX7_init_225 : decode cX7_init 225 = .ok (.newarray .double, 2) := by decide +kernel
theorem dX7_init_227 : decode cX7_init 227 = .ok (.putfield 91, 3) := by decide +kernel
theorem dX7_init_230 : decode cX7_init 230 = .ok (.aload_n 0, 1) := by decide +kernel
theorem dX7_init_231 : decode cX7_init 231 = .ok (.iconst 4, 1) := by decide +kernel
theorem dX7_init_232 : decode cX7_init 232 = .ok (.newarray .int, 2) := by decide +kernel
theorem dX7_init_234 : decode cX7_init 234 = .ok (.putfield 94, 3) := by decide +kernel
theorem dX7_init_237 : decode cX7_init 237 = .ok (.aload_n 0, 1) := by decide +kernel
theorem dX7_init_238 : decode cX7_init 238 = .ok (.sipush 576, 3) := by decide +kernel
theorem dX7_init_241 : decode cX7_init 241 = .ok (.newarray .long, 2) := by decide +kernel
theorem dX7_init_243 : decode cX7_init 243 = .ok (.putfield 97, 3) := by decide +kernel
theorem dX7_init_246 : decode cX7_init 246 = .ok (.aload_n 0, 1) := by decide +kernel
theorem dX7_init_247 : decode cX7_init 247 = .ok (.sipush 576, 3) := by decide +kernel
theorem dX7_init_250 : decode cX7_init 250 = .ok (.newarray .double, 2) := by decide +kernel
theorem dX7_init_252 : decode cX7_init 252 = .ok (.putfield 100, 3) := by decide +kernel
theorem dX7_init_255 : decode cX7_init 255 = .ok (.aload_n 0, 1) := by decide +kernel
theorem dX7_init_256 : decode cX7_init 256 = .ok (.sipush 576, 3) := by decide +kernel
theorem dX7_init_259 : decode cX7_init 259 = .ok (.newarray .double, 2) := by decide +kernel
theorem dX7_init_261 : decode cX7_init 261 = .ok (.putfield 103, 3) := by decide +kernel
theorem dX7_init_264 : decode cX7_init 264 = .ok (.aload_n 0, 1) := by decide +kernel
theorem dX7_init_265 : decode cX7_init 265 = .ok (.sipush 576, 3) := by decide +kernel
theorem dX7_init_268 : decode cX7_init 268 = .ok (.newarray .double, 2) := by decide +kernel
theorem dX7_init_270 : decode cX7_init 270 = .ok (.putfield 106, 3) := by decide +kernel
theorem dX7_init_273 : decode cX7_init 273 = .ok (.aload_n 0, 1) := by decide +kernel
theorem dX7_init_274 : decode cX7_init 274 = .ok (.sipush 1344, 3) := by decide +kernel
theorem dX7_init_277 : decode cX7_init 277 = .ok (.newarray .double, 2) := by decide +kernel
theorem dX7_init_279 : decode cX7_init 279 = .ok (.putfield 109, 3) := by decide +kernel
theorem dX7_init_282 : decode cX7_init 282 = .ok (.aload_n 0, 1) := by decide +kernel
theorem dX7_init_283 : decode cX7_init 283 = .ok (.bipush 16, 2) := by decide +kernel
theorem dX7_init_285 : decode cX7_init 285 = .ok (.newarray .long, 2) := by decide +kernel
theorem dX7_init_287 : decode cX7_init 287 = .ok (.putfield 112, 3) := by decide +kernel
theorem dX7_init_290 : decode cX7_init 290 = .ok (.aload_n 0, 1) := by decide +kernel
theorem dX7_init_291 : decode cX7_init 291 = .ok (.iconst 4, 1) := by decide +kernel
theorem dX7_init_292 : decode cX7_init 292 = .ok (.newarray .long, 2) := by decide +kernel
theorem dX7_init_294 : decode cX7_init 294 = .ok (.putfield 115, 3) := by decide +kernel
theorem dX7_init_297 : decode cX7_init 297 = .ok (.aload_n 0, 1) := by decide +kernel
theorem dX7_init_298 : decode cX7_init 298 = .ok (.iconst 4, 1) := by decide +kernel
theorem dX7_init_299 : decode cX7_init 299 = .ok (.newarray .double, 2) := by decide +kernel
theorem dX7_init_301 : decode cX7_init 301 = .ok (.putfield 118, 3) := by decide +kernel
theorem dX7_init_304 : decode cX7_init 304 = .ok (.aload_n 0, 1) := by decide +kernel
theorem dX7_init_305 : decode cX7_init 305 = .ok (.iload_n 1, 1) := by decide +kernel
theorem dX7_init_306 : decode cX7_init 306 = .ok (.iconst 1, 1) := by decide +kernel
theorem dX7_init_307 : decode cX7_init 307 = .ok (.if_icmp .ge 7, 3) := by decide +kernel
theorem dX7_init_310 : decode cX7_init 310 = .ok (.iconst 1, 1) := by decide +kernel
theorem dX7_init_311 : decode cX7_init 311 = .ok (.goto 15, 3) := by decide +kernel
theorem dX7_init_314 : decode cX7_init 314 = .ok (.iload_n 1, 1) := by decide +kernel
theorem dX7_init_315 : decode cX7_init 315 = .ok (.bipush 12, 2) := by decide +kernel
theorem dX7_init_317 : decode cX7_init 317 = .ok (.if_icmp .le 8, 3) := by decide +kernel
theorem dX7_init_320 : decode cX7_init 320 = .ok (.bipush 12, 2) := by decide +kernel
theorem dX7_init_322 : decode cX7_init 322 = .ok (.goto 4, 3) := by decide +kernel
theorem dX7_init_325 : decode cX7_init 325 = .ok (.iload_n 1, 1) := by decide +kernel
theorem dX7_init_326 : decode cX7_init 326 = .ok (.putfield 121, 3) := by decide +kernel
theorem dX7_init_329 : decode cX7_init 329 = .ok (.aload_n 0, 1) := by decide +kernel
theorem dX7_init_330 : decode cX7_init 330 = .ok (.iload_n 2, 1) := by decide +kernel
theorem dX7_init_331 : decode cX7_init 331 = .ok (.iconst 1, 1) := by decide +kernel
theorem dX7_init_332 : decode cX7_init 332 = .ok (.if_icmp .ge 7, 3) := by decide +kernel
theorem dX7_init_335 : decode cX7_init 335 = .ok (.iconst 1, 1) := by decide +kernel
theorem dX7_init_336 : decode cX7_init 336 = .ok (.goto 15, 3) := by decide +kernel
theorem dX7_init_339 : decode cX7_init 339 = .ok (.iload_n 2, 1) := by decide +kernel
theorem dX7_init_340 : decode cX7_init 340 = .ok (.bipush 12, 2) := by decide +kernel
theorem dX7_init_342 : decode cX7_init 342 = .ok (.if_icmp .le 8, 3) := by decide +kernel
theorem dX7_init_345 : decode cX7_init 345 = .ok (.bipush 12, 2) := by decide +kernel
theorem dX7_init_347 : decode cX7_init 347 = .ok (.goto 4, 3) := by decide +kernel
theorem dX7_init_350 : decode cX7_init 350 = .ok (.iload_n 2, 1) := by decide +kernel
theorem dX7_init_351 : decode cX7_init 351 = .ok (.putfield 125, 3) := by decide +kernel
theorem dX7_init_354 : decode cX7_init 354 = .ok (.aload_n 0, 1) := by decide +kernel
theorem dX7_init_355 : decode cX7_init 355 = .ok (.iload_n 3, 1) := by decide +kernel
theorem dX7_init_356 : decode cX7_init 356 = .ok (.iconst 1, 1) := by decide +kernel
theorem dX7_init_357 : decode cX7_init 357 = .ok (.if_icmp .ge 7, 3) := by decide +kernel
theorem dX7_init_360 : decode cX7_init 360 = .ok (.iconst 1, 1) := by decide +kernel
theorem dX7_init_361 : decode cX7_init 361 = .ok (.goto 13, 3) := by decide +kernel
theorem dX7_init_364 : decode cX7_init 364 = .ok (.iload_n 3, 1) := by decide +kernel
theorem dX7_init_365 : decode cX7_init 365 = .ok (.iconst 4, 1) := by decide +kernel
theorem dX7_init_366 : decode cX7_init 366 = .ok (.if_icmp .le 7, 3) := by decide +kernel
theorem dX7_init_369 : decode cX7_init 369 = .ok (.iconst 4, 1) := by decide +kernel
theorem dX7_init_370 : decode cX7_init 370 = .ok (.goto 4, 3) := by decide +kernel
theorem dX7_init_373 : decode cX7_init 373 = .ok (.iload_n 3, 1) := by decide +kernel
theorem dX7_init_374 : decode cX7_init 374 = .ok (.putfield 128, 3) := by decide +kernel
theorem dX7_init_377 : decode cX7_init 377 = .ok (.return_, 1) := by decide +kernel
theorem dX7_isIn_0 : decode cX7_isIn 0 = .ok (.dload_n 0, 1) := by decide +kernel
theorem dX7_isIn_1 : decode cX7_isIn 1 = .ok (.dload_n 2, 1) := by decide +kernel
theorem dX7_isIn_2 : decode cX7_isIn 2 = .ok (.dcmp .l, 1) := by decide +kernel
theorem dX7_isIn_3 : decode cX7_isIn 3 = .ok (.ifCond .lt 14, 3) := by decide +kernel
theorem dX7_isIn_6 : decode cX7_isIn 6 = .ok (.dload_n 0, 1) := by decide +kernel
theorem dX7_isIn_7 : decode cX7_isIn 7 = .ok (.dload 4, 2) := by decide +kernel
theorem dX7_isIn_9 : decode cX7_isIn 9 = .ok (.dcmp .g, 1) := by decide +kernel
theorem dX7_isIn_10 : decode cX7_isIn 10 = .ok (.ifCond .gt 7, 3) := by decide +kernel
theorem dX7_isIn_13 : decode cX7_isIn 13 = .ok (.iconst 1, 1) := by decide +kernel
theorem dX7_isIn_14 : decode cX7_isIn 14 = .ok (.goto 4, 3) := by decide +kernel
theorem dX7_isIn_17 : decode cX7_isIn 17 = .ok (.iconst 0, 1) := by decide +kernel
theorem dX7_isIn_18 : decode cX7_isIn 18 = .ok (.ireturn, 1) := by decide +kernel
theorem dX7_isCell_0 : decode cX7_isCell 0 = .ok (.iload_n 1, 1) := by decide +kernel
theorem dX7_isCell_1 : decode cX7_isCell 1 = .ok (.ifCond .lt 27, 3) := by decide +kernel
theorem dX7_isCell_4 : decode cX7_isCell 4 = .ok (.iload_n 1, 1) := by decide +kernel
theorem dX7_isCell_5 : decode cX7_isCell 5 = .ok (.aload_n 0, 1) := by decide +kernel
theorem dX7_isCell_6 : decode cX7_isCell 6 = .ok (.getfield 121, 3) := by decide +kernel
theorem dX7_isCell_9 : decode cX7_isCell 9 = .ok (.if_icmp .ge 19, 3) := by decide +kernel
theorem dX7_isCell_12 : decode cX7_isCell 12 = .ok (.iload_n 2, 1) := by decide +kernel
theorem dX7_isCell_13 : decode cX7_isCell 13 = .ok (.ifCond .lt 15, 3) := by decide +kernel
theorem dX7_isCell_16 : decode cX7_isCell 16 = .ok (.iload_n 2, 1) := by decide +kernel
theorem dX7_isCell_17 : decode cX7_isCell 17 = .ok (.aload_n 0, 1) := by decide +kernel
theorem dX7_isCell_18 : decode cX7_isCell 18 = .ok (.getfield 125, 3) := by decide +kernel
theorem dX7_isCell_21 : decode cX7_isCell 21 = .ok (.if_icmp .ge 7, 3) := by decide +kernel
theorem dX7_isCell_24 : decode cX7_isCell 24 = .ok (.iconst 1, 1) := by decide +kernel
theorem dX7_isCell_25 : decode cX7_isCell 25 = .ok (.goto 4, 3) := by decide +kernel
theorem dX7_isCell_28 : decode cX7_isCell 28 = .ok (.iconst 0, 1) := by decide +kernel
theorem dX7_isCell_29 : decode cX7_isCell 29 = .ok (.ireturn, 1) := by decide +kernel
theorem dX7_at_0 : decode cX7_at 0 = .ok (.bipush 12, 2) := by decide +kernel
theorem dX7_at_2 : decode cX7_at 2 = .ok (.iload_n 1, 1) := by decide +kernel
theorem dX7_at_3 : decode cX7_at 3 = .ok (.imul, 1) := by decide +kernel
theorem dX7_at_4 : decode cX7_at 4 = .ok (.iload_n 0, 1) := by decide +kernel
theorem dX7_at_5 : decode cX7_at 5 = .ok (.iadd, 1) := by decide +kernel
theorem dX7_at_6 : decode cX7_at 6 = .ok (.ireturn, 1) := by decide +kernel
theorem dX7_isWater_0 : decode cX7_isWater 0 = .ok (.aload_n 0, 1) := by decide +kernel
theorem dX7_isWater_1 : decode cX7_isWater 1 = .ok (.iload_n 1, 1) := by decide +kernel
theorem dX7_isWater_2 : decode cX7_isWater 2 = .ok (.iload_n 2, 1) := by decide +kernel
theorem dX7_isWater_3 : decode cX7_isWater 3 = .ok (.invokevirtual 131, 3) := by decide +kernel
theorem dX7_isWater_6 : decode cX7_isWater 6 = .ok (.ifCond .eq 20, 3) := by decide +kernel
theorem dX7_isWater_9 : decode cX7_isWater 9 = .ok (.aload_n 0, 1) := by decide +kernel
theorem dX7_isWater_10 : decode cX7_isWater 10 = .ok (.getfield 7, 3) := by decide +kernel
theorem dX7_isWater_13 : decode cX7_isWater 13 = .ok (.iload_n 1, 1) := by decide +kernel
theorem dX7_isWater_14 : decode cX7_isWater 14 = .ok (.iload_n 2, 1) := by decide +kernel
theorem dX7_isWater_15 : decode cX7_isWater 15 = .ok (.invokestatic 135, 3) := by decide +kernel
theorem dX7_isWater_18 : decode cX7_isWater 18 = .ok (.baload, 1) := by decide +kernel
theorem dX7_isWater_19 : decode cX7_isWater 19 = .ok (.ifCond .eq 7, 3) := by decide +kernel
theorem dX7_isWater_22 : decode cX7_isWater 22 = .ok (.iconst 1, 1) := by decide +kernel
theorem dX7_isWater_23 : decode cX7_isWater 23 = .ok (.goto 4, 3) := by decide +kernel
theorem dX7_isWater_26 : decode cX7_isWater 26 = .ok (.iconst 0, 1) := by decide +kernel
theorem dX7_isWater_27 : decode cX7_isWater 27 = .ok (.ireturn, 1) := by decide +kernel
theorem dX7_isOpen_0 : decode cX7_isOpen 0 = .ok (.iconst 0, 1) := by decide +kernel
theorem dX7_isOpen_1 : decode cX7_isOpen 1 = .ok (.istore_n 2, 1) := by decide +kernel
theorem dX7_isOpen_2 : decode cX7_isOpen 2 = .ok (.iconst 0, 1) := by decide +kernel
theorem dX7_isOpen_3 : decode cX7_isOpen 3 = .ok (.istore_n 3, 1) := by decide +kernel
theorem dX7_isOpen_4 : decode cX7_isOpen 4 = .ok (.iload_n 3, 1) := by decide +kernel
theorem dX7_isOpen_5 : decode cX7_isOpen 5 = .ok (.bipush 8, 2) := by decide +kernel
theorem dX7_isOpen_7 : decode cX7_isOpen 7 = .ok (.if_icmp .ge 33, 3) := by decide +kernel
theorem dX7_isOpen_10 : decode cX7_isOpen 10 = .ok (.iload_n 2, 1) := by decide +kernel
theorem dX7_isOpen_11 : decode cX7_isOpen 11 = .ok (.ifCond .ne 17, 3) := by decide +kernel
theorem dX7_isOpen_14 : decode cX7_isOpen 14 = .ok (.aload_n 0, 1) := by decide +kernel
theorem dX7_isOpen_15 : decode cX7_isOpen 15 = .ok (.getfield 51, 3) := by decide +kernel
theorem dX7_isOpen_18 : decode cX7_isOpen 18 = .ok (.bipush 8, 2) := by decide +kernel
theorem dX7_isOpen_20 : decode cX7_isOpen 20 = .ok (.iload_n 1, 1) := by decide +kernel
theorem dX7_isOpen_21 : decode cX7_isOpen 21 = .ok (.imul, 1) := by decide +kernel
theorem dX7_isOpen_22 : decode cX7_isOpen 22 = .ok (.iload_n 3, 1) := by decide +kernel
theorem dX7_isOpen_23 : decode cX7_isOpen 23 = .ok (.iadd, 1) := by decide +kernel
theorem dX7_isOpen_24 : decode cX7_isOpen 24 = .ok (.baload, 1) := by decide +kernel
theorem dX7_isOpen_25 : decode cX7_isOpen 25 = .ok (.ifCond .eq 7, 3) := by decide +kernel
theorem dX7_isOpen_28 : decode cX7_isOpen 28 = .ok (.iconst 1, 1) := by decide +kernel
theorem dX7_isOpen_29 : decode cX7_isOpen 29 = .ok (.goto 4, 3) := by decide +kernel
theorem dX7_isOpen_32 : decode cX7_isOpen 32 = .ok (.iconst 0, 1) := by decide +kernel
theorem dX7_isOpen_33 : decode cX7_isOpen 33 = .ok (.istore_n 2, 1) := by decide +kernel
theorem dX7_isOpen_34 : decode cX7_isOpen 34 = .ok (.iinc 3 1, 3) := by decide +kernel
theorem dX7_isOpen_37 : decode cX7_isOpen 37 = .ok (.goto (-33), 3) := by decide +kernel
theorem dX7_isOpen_40 : decode cX7_isOpen 40 = .ok (.iload_n 2, 1) := by decide +kernel
theorem dX7_isOpen_41 : decode cX7_isOpen 41 = .ok (.ireturn, 1) := by decide +kernel
theorem dX7_hasFace_0 : decode cX7_hasFace 0 = .ok (.aload_n 0, 1) := by decide +kernel
theorem dX7_hasFace_1 : decode cX7_hasFace 1 = .ok (.iload_n 1, 1) := by decide +kernel
theorem dX7_hasFace_2 : decode cX7_hasFace 2 = .ok (.iload_n 2, 1) := by decide +kernel
theorem dX7_hasFace_3 : decode cX7_hasFace 3 = .ok (.invokevirtual 139, 3) := by decide +kernel
theorem dX7_hasFace_6 : decode cX7_hasFace 6 = .ok (.ifCond .eq 36, 3) := by decide +kernel
theorem dX7_hasFace_9 : decode cX7_hasFace 9 = .ok (.iload_n 3, 1) := by decide +kernel
theorem dX7_hasFace_10 : decode cX7_hasFace 10 = .ok (.ifCond .ne 17, 3) := by decide +kernel
theorem dX7_hasFace_13 : decode cX7_hasFace 13 = .ok (.aload_n 0, 1) := by decide +kernel
theorem dX7_hasFace_14 : decode cX7_hasFace 14 = .ok (.iload_n 1, 1) := by decide +kernel
theorem dX7_hasFace_15 : decode cX7_hasFace 15 = .ok (.iconst 1, 1) := by decide +kernel
theorem dX7_hasFace_16 : decode cX7_hasFace 16 = .ok (.iadd, 1) := by decide +kernel
theorem dX7_hasFace_17 : decode cX7_hasFace 17 = .ok (.iload_n 2, 1) := by decide +kernel
theorem dX7_hasFace_18 : decode cX7_hasFace 18 = .ok (.invokevirtual 139, 3) := by decide +kernel
theorem dX7_hasFace_21 : decode cX7_hasFace 21 = .ok (.ifCond .eq 21, 3) := by decide +kernel
theorem dX7_hasFace_24 : decode cX7_hasFace 24 = .ok (.goto 14, 3) := by decide +kernel
theorem dX7_hasFace_27 : decode cX7_hasFace 27 = .ok (.aload_n 0, 1) := by decide +kernel
theorem dX7_hasFace_28 : decode cX7_hasFace 28 = .ok (.iload_n 1, 1) := by decide +kernel
theorem dX7_hasFace_29 : decode cX7_hasFace 29 = .ok (.iload_n 2, 1) := by decide +kernel
theorem dX7_hasFace_30 : decode cX7_hasFace 30 = .ok (.iconst 1, 1) := by decide +kernel
theorem dX7_hasFace_31 : decode cX7_hasFace 31 = .ok (.iadd, 1) := by decide +kernel
theorem dX7_hasFace_32 : decode cX7_hasFace 32 = .ok (.invokevirtual 139, 3) := by decide +kernel
theorem dX7_hasFace_35 : decode cX7_hasFace 35 = .ok (.ifCond .eq 7, 3) := by decide +kernel
theorem dX7_hasFace_38 : decode cX7_hasFace 38 = .ok (.iconst 1, 1) := by decide +kernel
theorem dX7_hasFace_39 : decode cX7_hasFace 39 = .ok (.goto 4, 3) := by decide +kernel
theorem dX7_hasFace_42 : decode cX7_hasFace 42 = .ok (.iconst 0, 1) := by decide +kernel
theorem dX7_hasFace_43 : decode cX7_hasFace 43 = .ok (.ireturn, 1) := by decide +kernel
theorem dX7_isAtSide_0 : decode cX7_isAtSide 0 = .ok (.iload_n 3, 1) := by decide +kernel
theorem dX7_isAtSide_1 : decode cX7_isAtSide 1 = .ok (.ifCond .ne 15, 3) := by decide +kernel
theorem dX7_isAtSide_4 : decode cX7_isAtSide 4 = .ok (.iload_n 1, 1) := by decide +kernel
theorem dX7_isAtSide_5 : decode cX7_isAtSide 5 = .ok (.ifCond .ne 7, 3) := by decide +kernel
theorem dX7_isAtSide_8 : decode cX7_isAtSide 8 = .ok (.iconst 1, 1) := by decide +kernel
theorem dX7_isAtSide_9 : decode cX7_isAtSide 9 = .ok (.goto 62, 3) := by decide +kernel
theorem dX7_isAtSide_12 : decode cX7_isAtSide 12 = .ok (.iconst 0, 1) := by decide +kernel
theorem dX7_isAtSide_13 : decode cX7_isAtSide 13 = .ok (.goto 58, 3) := by decide +kernel
theorem dX7_isAtSide_16 : decode cX7_isAtSide 16 = .ok (.iload_n 3, 1) := by decide +kernel
theorem dX7_isAtSide_17 : decode cX7_isAtSide 17 = .ok (.iconst 1, 1) := by decide +kernel
theorem dX7_isAtSide_18 : decode cX7_isAtSide 18 = .ok (.if_icmp .ne 21, 3) := by decide +kernel
theorem dX7_isAtSide_21 : decode cX7_isAtSide 21 = .ok (.iload_n 1, 1) := by decide +kernel
theorem dX7_isAtSide_22 : decode cX7_isAtSide 22 = .ok (.aload_n 0, 1) := by decide +kernel
theorem dX7_isAtSide_23 : decode cX7_isAtSide 23 = .ok (.getfield 121, 3) := by decide +kernel
theorem dX7_isAtSide_26 : decode cX7_isAtSide 26 = .ok (.iconst 1, 1) := by decide +kernel
theorem dX7_isAtSide_27 : decode cX7_isAtSide 27 = .ok (.isub, 1) := by decide +kernel
theorem dX7_isAtSide_28 : decode cX7_isAtSide 28 = .ok (.if_icmp .ne 7, 3) := by decide +kernel
theorem dX7_isAtSide_31 : decode cX7_isAtSide 31 = .ok (.iconst 1, 1) := by decide +kernel
theorem dX7_isAtSide_32 : decode cX7_isAtSide 32 = .ok (.goto 39, 3) := by decide +kernel
theorem dX7_isAtSide_35 : decode cX7_isAtSide 35 = .ok (.iconst 0, 1) := by decide +kernel
theorem dX7_isAtSide_36 : decode cX7_isAtSide 36 = .ok (.goto 35, 3) := by decide +kernel
theorem dX7_isAtSide_39 : decode cX7_isAtSide 39 = .ok (.iload_n 3, 1) := by decide +kernel
theorem dX7_isAtSide_40 : decode cX7_isAtSide 40 = .ok (.iconst 2, 1) := by decide +kernel
theorem dX7_isAtSide_41 : decode cX7_isAtSide 41 = .ok (.if_icmp .ne 15, 3) := by decide +kernel
theorem dX7_isAtSide_44 : decode cX7_isAtSide 44 = .ok (.iload_n 2, 1) := by decide +kernel
theorem dX7_isAtSide_45 : decode cX7_isAtSide 45 = .ok (.ifCond .ne 7, 3) := by decide +kernel
theorem dX7_isAtSide_48 : decode cX7_isAtSide 48 = .ok (.iconst 1, 1) := by decide +kernel
theorem dX7_isAtSide_49 : decode cX7_isAtSide 49 = .ok (.goto 22, 3) := by decide +kernel
theorem dX7_isAtSide_52 : decode cX7_isAtSide 52 = .ok (.iconst 0, 1) := by decide +kernel
theorem dX7_isAtSide_53 : decode cX7_isAtSide 53 = .ok (.goto 18, 3) := by decide +kernel
theorem dX7_isAtSide_56 : decode cX7_isAtSide 56 = .ok (.iload_n 2, 1) := by decide +kernel
theorem dX7_isAtSide_57 : decode cX7_isAtSide 57 = .ok (.aload_n 0, 1) := by decide +kernel
theorem dX7_isAtSide_58 : decode cX7_isAtSide 58 = .ok (.getfield 125, 3) := by decide +kernel
theorem dX7_isAtSide_61 : decode cX7_isAtSide 61 = .ok (.iconst 1, 1) := by decide +kernel
theorem dX7_isAtSide_62 : decode cX7_isAtSide 62 = .ok (.isub, 1) := by decide +kernel
theorem dX7_isAtSide_63 : decode cX7_isAtSide 63 = .ok (.if_icmp .ne 7, 3) := by decide +kernel
theorem dX7_isAtSide_66 : decode cX7_isAtSide 66 = .ok (.iconst 1, 1) := by decide +kernel
theorem dX7_isAtSide_67 : decode cX7_isAtSide 67 = .ok (.goto 4, 3) := by decide +kernel
theorem dX7_isAtSide_70 : decode cX7_isAtSide 70 = .ok (.iconst 0, 1) := by decide +kernel
theorem dX7_isAtSide_71 : decode cX7_isAtSide 71 = .ok (.ireturn, 1) := by decide +kernel
theorem dX7_sideFace_0 : decode cX7_sideFace 0 = .ok (.sipush 288, 3) := by decide +kernel
theorem dX7_sideFace_3 : decode cX7_sideFace 3 = .ok (.bipush 12, 2) := by decide +kernel
theorem dX7_sideFace_5 : decode cX7_sideFace 5 = .ok (.iload_n 2, 1) := by decide +kernel
theorem dX7_sideFace_6 : decode cX7_sideFace 6 = .ok (.imul, 1) := by decide +kernel
theorem dX7_sideFace_7 : decode cX7_sideFace 7 = .ok (.iadd, 1) := by decide +kernel
theorem dX7_sideFace_8 : decode cX7_sideFace 8 = .ok (.iload_n 2, 1) := by decide +kernel
theorem dX7_sideFace_9 : decode cX7_sideFace 9 = .ok (.iconst 2, 1) := by decide +kernel
theorem dX7_sideFace_10 : decode cX7_sideFace 10 = .ok (.if_icmp .ge 7, 3) := by decide +kernel
theorem dX7_sideFace_13 : decode cX7_sideFace 13 = .ok (.iload_n 1, 1) := by decide +kernel
theorem dX7_sideFace_14 : decode cX7_sideFace 14 = .ok (.goto 4, 3) := by decide +kernel
theorem dX7_sideFace_17 : decode cX7_sideFace 17 = .ok (.iload_n 0, 1) := by decide +kernel
theorem dX7_sideFace_18 : decode cX7_sideFace 18 = .ok (.iadd, 1) := by decide +kernel
theorem dX7_sideFace_19 : decode cX7_sideFace 19 = .ok (.ireturn, 1) := by decide +kernel
theorem dX7_hasSideFace_0 : decode cX7_hasSideFace 0 = .ok (.aload_n 0, 1) := by decide +kernel
theorem dX7_hasSideFace_1 : decode cX7_hasSideFace 1 = .ok (.iload_n 1, 1) := by decide +kernel
theorem dX7_hasSideFace_2 : decode cX7_hasSideFace 2 = .ok (.iload_n 2, 1) := by decide +kernel
theorem dX7_hasSideFace_3 : decode cX7_hasSideFace 3 = .ok (.invokevirtual 139, 3) := by decide +kernel
theorem dX7_hasSideFace_6 : decode cX7_hasSideFace 6 = .ok (.ifCond .eq 25, 3) := by decide +kernel
theorem dX7_hasSideFace_9 : decode cX7_hasSideFace 9 = .ok (.aload_n 0, 1) := by decide +kernel
theorem dX7_hasSideFace_10 : decode cX7_hasSideFace 10 = .ok (.iload_n 1, 1) := by decide +kernel
theorem dX7_hasSideFace_11 : decode cX7_hasSideFace 11 = .ok (.iload_n 2, 1) := by decide +kernel
theorem dX7_hasSideFace_12 : decode cX7_hasSideFace 12 = .ok (.iload_n 3, 1) := by decide +kernel
theorem dX7_hasSideFace_13 : decode cX7_hasSideFace 13 = .ok (.invokevirtual 142, 3) := by decide +kernel
theorem dX7_hasSideFace_16 : decode cX7_hasSideFace 16 = .ok (.ifCond .eq 15, 3) := by decide +kernel
theorem dX7_hasSideFace_19 : decode cX7_hasSideFace 19 = .ok (.aload_n 0, 1) := by decide +kernel
theorem dX7_hasSideFace_20 : decode cX7_hasSideFace 20 = .ok (.iload_n 3, 1) := by decide +kernel
theorem dX7_hasSideFace_21 : decode cX7_hasSideFace 21 = .ok (.invokevirtual 146, 3) := by decide +kernel
theorem dX7_hasSideFace_24 : decode cX7_hasSideFace 24 = .ok (.ifCond .eq 7, 3) := by decide +kernel
theorem dX7_hasSideFace_27 : decode cX7_hasSideFace 27 = .ok (.iconst 1, 1) := by decide +kernel
theorem dX7_hasSideFace_28 : decode cX7_hasSideFace 28 = .ok (.goto 4, 3) := by decide +kernel
theorem dX7_hasSideFace_31 : decode cX7_hasSideFace 31 = .ok (.iconst 0, 1) := by decide +kernel
theorem dX7_hasSideFace_32 : decode cX7_hasSideFace 32 = .ok (.ireturn, 1) := by decide +kernel
theorem dX7_depth_0 : decode cX7_depth 0 = .ok (.aload_n 0, 1) := by decide +kernel
theorem dX7_depth_1 : decode cX7_depth 1 = .ok (.iload_n 1, 1) := by decide +kernel
theorem dX7_depth_2 : decode cX7_depth 2 = .ok (.iload_n 2, 1) := by decide +kernel
theorem dX7_depth_3 : decode cX7_depth 3 = .ok (.invokevirtual 131, 3) := by decide +kernel
theorem dX7_depth_6 : decode cX7_depth 6 = .ok (.ifCond .eq 14, 3) := by decide +kernel
theorem dX7_depth_9 : decode cX7_depth 9 = .ok (.dload_n 3, 1) := by decide +kernel
theorem dX7_depth_10 : decode cX7_depth 10 = .ok (.dconst 0, 1) := by decide +kernel
theorem dX7_depth_11 : decode cX7_depth 11 = .ok (.ldc2_w 150, 3) := by decide +kernel
theorem dX7_depth_14 : decode cX7_depth 14 = .ok (.invokestatic 152, 3) := by decide +kernel
theorem dX7_depth_17 : decode cX7_depth 17 = .ok (.ifCond .ne 5, 3) := by decide +kernel
theorem dX7_depth_20 : decode cX7_depth 20 = .ok (.iconst 0, 1) := by decide +kernel
theorem dX7_depth_21 : decode cX7_depth 21 = .ok (.ireturn, 1) := by decide +kernel
theorem dX7_depth_22 : decode cX7_depth 22 = .ok (.iload_n 1, 1) := by decide +kernel
theorem dX7_depth_23 : decode cX7_depth 23 = .ok (.iload_n 2, 1) := by decide +kernel
theorem dX7_depth_24 : decode cX7_depth 24 = .ok (.invokestatic 135, 3) := by decide +kernel
theorem dX7_depth_27 : decode cX7_depth 27 = .ok (.istore 5, 2) := by decide +kernel
theorem dX7_depth_29 : decode cX7_depth 29 = .ok (.aload_n 0, 1) := by decide +kernel
theorem dX7_depth_30 : decode cX7_depth 30 = .ok (.dup, 1) := by decide +kernel
theorem dX7_depth_31 : decode cX7_depth 31 = .ok (.getfield 156, 3) := by decide +kernel
theorem dX7_depth_34 : decode cX7_depth 34 = .ok (.aload_n 0, 1) := by decide +kernel
theorem dX7_depth_35 : decode cX7_depth 35 = .ok (.getfield 20, 3) := by decide +kernel
theorem dX7_depth_38 : decode cX7_depth 38 = .ok (.iload 5, 2) := by decide +kernel
theorem dX7_depth_40 : decode cX7_depth 40 = .ok (.laload, 1) := by decide +kernel
theorem dX7_depth_41 : decode cX7_depth 41 = .ok (.lsub, 1) := by decide +kernel
theorem dX7_depth_42 : decode cX7_depth 42 = .ok (.putfield 156, 3) := by decide +kernel
theorem dX7_depth_45 : decode cX7_depth 45 = .ok (.aload_n 0, 1) := by decide +kernel
theorem dX7_depth_46 : decode cX7_depth 46 = .ok (.getfield 7, 3) := by decide +kernel
theorem dX7_depth_49 : decode cX7_depth 49 = .ok (.iload 5, 2) := by decide +kernel
theorem dX7_depth_51 : decode cX7_depth 51 = .ok (.dload_n 3, 1) := by decide +kernel
theorem dX7_depth_52 : decode cX7_depth 52 = .ok (.dconst 0, 1) := by decide +kernel
theorem dX7_depth_53 : decode cX7_depth 53 = .ok (.dcmp .l, 1) := by decide +kernel
theorem dX7_depth_54 : decode cX7_depth 54 = .ok (.ifCond .le 7, 3) := by decide +kernel
theorem dX7_depth_57 : decode cX7_depth 57 = .ok (.iconst 1, 1) := by decide +kernel
theorem dX7_depth_58 : decode cX7_depth 58 = .ok (.goto 4, 3) := by decide +kernel
theorem dX7_depth_61 : decode cX7_depth 61 = .ok (.iconst 0, 1) := by decide +kernel
theorem dX7_depth_62 : decode cX7_depth 62 = .ok (.bastore, 1) := by decide +kernel
theorem dX7_depth_63 : decode cX7_depth 63 = .ok (.aload_n 0, 1) := by decide +kernel
theorem dX7_depth_64 : decode cX7_depth 64 = .ok (.getfield 13, 3) := by decide +kernel
theorem dX7_depth_67 : decode cX7_depth 67 = .ok (.iload 5, 2) := by decide +kernel
theorem dX7_depth_69 : decode cX7_depth 69 = .ok (.dload_n 3, 1) := by decide +kernel
theorem dX7_depth_70 : decode cX7_depth 70 = .ok (.dastore, 1) := by decide +kernel
theorem dX7_depth_71 : decode cX7_depth 71 = .ok (.aload_n 0, 1) := by decide +kernel
theorem dX7_depth_72 : decode cX7_depth 72 = .ok (.getfield 20, 3) := by decide +kernel
theorem dX7_depth_75 : decode cX7_depth 75 = .ok (.iload 5, 2) := by decide +kernel
theorem dX7_depth_77 : decode cX7_depth 77 = .ok (.dload_n 3, 1) := by decide +kernel
theorem dX7_depth_78 : decode cX7_depth 78 = .ok (.ldc2_w 150, 3) := by decide +kernel
theorem dX7_depth_81 : decode cX7_depth 81 = .ok (.dmul, 1) := by decide +kernel
theorem dX7_depth_82 : decode cX7_depth 82 = .ok (.d2l, 1) := by decide +kernel
theorem dX7_depth_83 : decode cX7_depth 83 = .ok (.lastore, 1) := by decide +kernel
theorem dX7_depth_84 : decode cX7_depth 84 = .ok (.aload_n 0, 1) := by decide +kernel
theorem dX7_depth_85 : decode cX7_depth 85 = .ok (.dup, 1) := by decide +kernel
theorem dX7_depth_86 : decode cX7_depth 86 = .ok (.getfield 156, 3) := by decide +kernel
theorem dX7_depth_89 : decode cX7_depth 89 = .ok (.aload_n 0, 1) := by decide +kernel
theorem dX7_depth_90 : decode cX7_depth 90 = .ok (.getfield 20, 3) := by decide +kernel
theorem dX7_depth_93 : decode cX7_depth 93 = .ok (.iload 5, 2) := by decide +kernel
theorem dX7_depth_95 : decode cX7_depth 95 = .ok (.laload, 1) := by decide +kernel
theorem dX7_depth_96 : decode cX7_depth 96 = .ok (.ladd, 1) := by decide +kernel
theorem dX7_depth_97 : decode cX7_depth 97 = .ok (.putfield 156, 3) := by decide +kernel
theorem dX7_depth_100 : decode cX7_depth 100 = .ok (.aload_n 0, 1) := by decide +kernel
theorem dX7_depth_101 : decode cX7_depth 101 = .ok (.getfield 24, 3) := by decide +kernel
theorem dX7_depth_104 : decode cX7_depth 104 = .ok (.iload 5, 2) := by decide +kernel
theorem dX7_depth_106 : decode cX7_depth 106 = .ok (.ldc2_w 160, 3) := by decide +kernel
theorem dX7_depth_109 : decode cX7_depth 109 = .ok (.dastore, 1) := by decide +kernel
theorem dX7_depth_110 : decode cX7_depth 110 = .ok (.aload_n 0, 1) := by decide +kernel
theorem dX7_depth_111 : decode cX7_depth 111 = .ok (.getfield 27, 3) := by decide +kernel
theorem dX7_depth_114 : decode cX7_depth 114 = .ok (.iload 5, 2) := by decide +kernel
theorem dX7_depth_116 : decode cX7_depth 116 = .ok (.ldc2_w 162, 3) := by decide +kernel
theorem dX7_depth_119 : decode cX7_depth 119 = .ok (.dastore, 1) := by decide +kernel
theorem dX7_depth_120 : decode cX7_depth 120 = .ok (.aload_n 0, 1) := by decide +kernel
theorem dX7_depth_121 : decode cX7_depth 121 = .ok (.getfield 30, 3) := by decide +kernel
theorem dX7_depth_124 : decode cX7_depth 124 = .ok (.iload 5, 2) := by decide +kernel
theorem dX7_depth_126 : decode cX7_depth 126 = .ok (.dconst 0, 1) := by decide +kernel
theorem dX7_depth_127 : decode cX7_depth 127 = .ok (.dastore, 1) := by decide +kernel
theorem dX7_depth_128 : decode cX7_depth 128 = .ok (.aload_n 0, 1) := by decide +kernel
theorem dX7_depth_129 : decode cX7_depth 129 = .ok (.getfield 33, 3) := by decide +kernel
theorem dX7_depth_132 : decode cX7_depth 132 = .ok (.iload 5, 2) := by decide +kernel
theorem dX7_depth_134 : decode cX7_depth 134 = .ok (.dconst 0, 1) := by decide +kernel
theorem dX7_depth_135 : decode cX7_depth 135 = .ok (.dastore, 1) := by decide +kernel
theorem dX7_depth_136 : decode cX7_depth 136 = .ok (.aload_n 0, 1) := by decide +kernel
theorem dX7_depth_137 : decode cX7_depth 137 = .ok (.getfield 33, 3) := by decide +kernel
theorem dX7_depth_140 : decode cX7_depth 140 = .ok (.sipush 144, 3) := by decide +kernel
theorem dX7_depth_143 : decode cX7_depth 143 = .ok (.iload 5, 2) := by decide +kernel
theorem dX7_depth_145 : decode cX7_depth 145 = .ok (.iadd, 1) := by decide +kernel
theorem dX7_depth_146 : decode cX7_depth 146 = .ok (.dconst 0, 1) := by decide +kernel
theorem dX7_depth_147 : decode cX7_depth 147 = .ok (.dastore, 1) := by decide +kernel
theorem dX7_depth_148 : decode cX7_depth 148 = .ok (.iload_n 1, 1) := by decide +kernel
theorem dX7_depth_149 : decode cX7_depth 149 = .ok (.ifCond .le 16, 3) := by decide +kernel
theorem dX7_depth_152 : decode cX7_depth 152 = .ok (.aload_n 0, 1) := by decide +kernel
theorem dX7_depth_153 : decode cX7_depth 153 = .ok (.getfield 33, 3) := by decide +kernel
theorem dX7_depth_156 : decode cX7_depth 156 = .ok (.iload_n 1, 1) := by decide +kernel
theorem dX7_depth_157 : decode cX7_depth 157 = .ok (.iconst 1, 1) := by decide +kernel
theorem dX7_depth_158 : decode cX7_depth 158 = .ok (.isub, 1) := by decide +kernel
theorem dX7_depth_159 : decode cX7_depth 159 = .ok (.iload_n 2, 1) := by decide +kernel
theorem dX7_depth_160 : decode cX7_depth 160 = .ok (.invokestatic 135, 3) := by decide +kernel
theorem dX7_depth_163 : decode cX7_depth 163 = .ok (.dconst 0, 1) := by decide +kernel
theorem dX7_depth_164 : decode cX7_depth 164 = .ok (.dastore, 1) := by decide +kernel
theorem dX7_depth_165 : decode cX7_depth 165 = .ok (.iload_n 2, 1) := by decide +kernel
theorem dX7_depth_166 : decode cX7_depth 166 = .ok (.ifCond .le 20, 3) := by decide +kernel
theorem dX7_depth_169 : decode cX7_depth 169 = .ok (.aload_n 0, 1) := by decide +kernel
theorem dX7_depth_170 : decode cX7_depth 170 = .ok (.getfield 33, 3) := by decide +kernel
theorem dX7_depth_173 : decode cX7_depth 173 = .ok (.sipush 144, 3) := by decide +kernel
theorem dX7_depth_176 : decode cX7_depth 176 = .ok (.iload_n 1, 1) := by decide +kernel
theorem dX7_depth_177 : decode cX7_depth 177 = .ok (.iload_n 2, 1) := by decide +kernel
theorem dX7_depth_178 : decode cX7_depth 178 = .ok (.iconst 1, 1) := by decide +kernel
theorem dX7_depth_179 : decode cX7_depth 179 = .ok (.isub, 1) := by decide +kernel
theorem dX7_depth_180 : decode cX7_depth 180 = .ok (.invokestatic 135, 3) := by decide +kernel
theorem dX7_depth_183 : decode cX7_depth 183 = .ok (.iadd, 1) := by decide +kernel
theorem dX7_depth_184 : decode cX7_depth 184 = .ok (.dconst 0, 1) := by decide +kernel
theorem dX7_depth_185 : decode cX7_depth 185 = .ok (.dastore, 1) := by decide +kernel
theorem dX7_depth_186 : decode cX7_depth 186 = .ok (.iconst 0, 1) := by decide +kernel
theorem dX7_depth_187 : decode cX7_depth 187 = .ok (.istore 6, 2) := by decide +kernel
theorem dX7_depth_189 : decode cX7_depth 189 = .ok (.iload 6, 2) := by decide +kernel
theorem dX7_depth_191 : decode cX7_depth 191 = .ok (.iconst 4, 1) := by decide +kernel
theorem dX7_depth_192 : decode cX7_depth 192 = .ok (.if_icmp .ge 33, 3) := by decide +kernel
theorem dX7_depth_195 : decode cX7_depth 195 = .ok (.aload_n 0, 1) := by decide +kernel
theorem dX7_depth_196 : decode cX7_depth 196 = .ok (.iload_n 1, 1) := by decide +kernel
theorem dX7_depth_197 : decode cX7_depth 197 = .ok (.iload_n 2, 1) := by decide +kernel
theorem dX7_depth_198 : decode cX7_depth 198 = .ok (.iload 6, 2) := by decide +kernel
theorem dX7_depth_200 : decode cX7_depth 200 = .ok (.invokevirtual 142, 3) := by decide +kernel
theorem dX7_depth_203 : decode cX7_depth 203 = .ok (.ifCond .eq 16, 3) := by decide +kernel
theorem dX7_depth_206 : decode cX7_depth 206 = .ok (.aload_n 0, 1) := by decide +kernel
theorem dX7_depth_207 : decode cX7_depth 207 = .ok (.getfield 33, 3) := by decide +kernel
theorem dX7_depth_210 : decode cX7_depth 210 = .ok (.iload_n 1, 1) := by decide +kernel
theorem dX7_depth_211 : decode cX7_depth 211 = .ok (.iload_n 2, 1) := by decide +kernel
theorem dX7_depth_212 : decode cX7_depth 212 = .ok (.iload 6, 2) := by decide +kernel
theorem dX7_depth_214 : decode cX7_depth 214 = .ok (.invokestatic 164, 3) := by decide +kernel
theorem dX7_depth_217 : decode cX7_depth 217 = .ok (.dconst 0, 1) := by decide +kernel
theorem dX7_depth_218 : decode cX7_depth 218 = .ok (.dastore, 1) := by decide +kernel
theorem dX7_depth_219 : decode cX7_depth 219 = .ok (.iinc 6 1, 3) := by decide +kernel
theorem dX7_depth_222 : decode cX7_depth 222 = .ok (.goto (-33), 3) := by decide +kernel
theorem dX7_depth_225 : decode cX7_depth 225 = .ok (.iconst 0, 1) := by decide +kernel
theorem dX7_depth_226 : decode cX7_depth 226 = .ok (.istore 6, 2) := by decide +kernel
theorem dX7_depth_228 : decode cX7_depth 228 = .ok (.iload 6, 2) := by decide +kernel
theorem dX7_depth_230 : decode cX7_depth 230 = .ok (.aload_n 0, 1) := by decide +kernel
theorem dX7_depth_231 : decode cX7_depth 231 = .ok (.getfield 168, 3) := by decide +kernel
theorem dX7_depth_234 : decode cX7_depth 234 = .ok (.if_icmp .ge 43, 3) := by decide +kernel
theorem dX7_depth_237 : decode cX7_depth 237 = .ok (.aload_n 0, 1) := by decide +kernel
theorem dX7_depth_238 : decode cX7_depth 238 = .ok (.getfield 73, 3) := by decide +kernel
theorem dX7_depth_241 : decode cX7_depth 241 = .ok (.iload 6, 2) := by decide +kernel
theorem dX7_depth_243 : decode cX7_depth 243 = .ok (.aload_n 0, 1) := by decide +kernel
theorem dX7_depth_244 : decode cX7_depth 244 = .ok (.getfield 73, 3) := by decide +kernel
theorem dX7_depth_247 : decode cX7_depth 247 = .ok (.iload 6, 2) := by decide +kernel
theorem dX7_depth_249 : decode cX7_depth 249 = .ok (.baload, 1) := by decide +kernel
theorem dX7_depth_250 : decode cX7_depth 250 = .ok (.ifCond .eq 19, 3) := by decide +kernel
theorem dX7_depth_253 : decode cX7_depth 253 = .ok (.aload_n 0, 1) := by decide +kernel
theorem dX7_depth_254 : decode cX7_depth 254 = .ok (.getfield 66, 3) := by decide +kernel
theorem dX7_depth_257 : decode cX7_depth 257 = .ok (.iload 6, 2) := by decide +kernel
theorem dX7_depth_259 : decode cX7_depth 259 = .ok (.iaload, 1) := by decide +kernel
theorem dX7_depth_260 : decode cX7_depth 260 = .ok (.iload 5, 2) := by decide +kernel
theorem dX7_depth_262 : decode cX7_depth 262 = .ok (.if_icmp .eq 7, 3) := by decide +kernel
theorem dX7_depth_265 : decode cX7_depth 265 = .ok (.iconst 1, 1) := by decide +kernel
theorem dX7_depth_266 : decode cX7_depth 266 = .ok (.goto 4, 3) := by decide +kernel
theorem dX7_depth_269 : decode cX7_depth 269 = .ok (.iconst 0, 1) := by decide +kernel
theorem dX7_depth_270 : decode cX7_depth 270 = .ok (.bastore, 1) := by decide +kernel
theorem dX7_depth_271 : decode cX7_depth 271 = .ok (.iinc 6 1, 3) := by decide +kernel
theorem dX7_depth_274 : decode cX7_depth 274 = .ok (.goto (-46), 3) := by decide +kernel
theorem dX7_depth_277 : decode cX7_depth 277 = .ok (.aload_n 0, 1) := by decide +kernel
theorem dX7_depth_278 : decode cX7_depth 278 = .ok (.getfield 70, 3) := by decide +kernel
theorem dX7_depth_281 : decode cX7_depth 281 = .ok (.iload 5, 2) := by decide +kernel
theorem dX7_depth_283 : decode cX7_depth 283 = .ok (.iconst 0, 1) := by decide +kernel
theorem dX7_depth_284 : decode cX7_depth 284 = .ok (.bastore, 1) := by decide +kernel
theorem dX7_depth_285 : decode cX7_depth 285 = .ok (.aload_n 0, 1) := by decide +kernel
theorem dX7_depth_286 : decode cX7_depth 286 = .ok (.dup, 1) := by decide +kernel
theorem dX7_depth_287 : decode cX7_depth 287 = .ok (.getfield 171, 3) := by decide +kernel
theorem dX7_depth_290 : decode cX7_depth 290 = .ok (.iconst 1, 1) := by decide +kernel
theorem dX7_depth_291 : decode cX7_depth 291 = .ok (.iadd, 1) := by decide +kernel
theorem dX7_depth_292 : decode cX7_depth 292 = .ok (.putfield 171, 3) := by decide +kernel
theorem dX7_depth_295 : decode cX7_depth 295 = .ok (.iconst 1, 1) := by decide +kernel
theorem dX7_depth_296 : decode cX7_depth 296 = .ok (.ireturn, 1) := by decide +kernel
theorem dX7_border_0 : decode cX7_border 0 = .ok (.iload_n 1, 1) := by decide +kernel
theorem dX7_border_1 : decode cX7_border 1 = .ok (.ifCond .lt 39, 3) := by decide +kernel
theorem dX7_border_4 : decode cX7_border 4 = .ok (.iload_n 1, 1) := by decide +kernel
theorem dX7_border_5 : decode cX7_border 5 = .ok (.iconst 3, 1) := by decide +kernel
theorem dX7_border_6 : decode cX7_border 6 = .ok (.if_icmp .gt 34, 3) := by decide +kernel
theorem dX7_border_9 : decode cX7_border 9 = .ok (.iload_n 2, 1) := by decide +kernel
theorem dX7_border_10 : decode cX7_border 10 = .ok (.ifCond .lt 30, 3) := by decide +kernel
theorem dX7_border_13 : decode cX7_border 13 = .ok (.iload_n 2, 1) := by decide +kernel
theorem dX7_border_14 : decode cX7_border 14 = .ok (.bipush 7, 2) := by decide +kernel
theorem dX7_border_16 : decode cX7_border 16 = .ok (.if_icmp .gt 24, 3) := by decide +kernel
theorem dX7_border_19 : decode cX7_border 19 = .ok (.dload_n 3, 1) := by decide +kernel
theorem dX7_border_20 : decode cX7_border 20 = .ok (.dconst 0, 1) := by decide +kernel
theorem dX7_border_21 : decode cX7_border 21 = .ok (.ldc2_w 174, 3) := by decide +kernel
theorem dX7_border_24 : decode cX7_border 24 = .ok (.invokestatic 152, 3) := by decide +kernel
theorem dX7_border_27 : decode cX7_border 27 = .ok (.ifCond .eq 13, 3) := by decide +kernel
theorem dX7_border_30 : decode cX7_border 30 = .ok (.dload 5, 2) := by decide +kernel
theorem dX7_border_32 : decode cX7_border 32 = .ok (.dconst 0, 1) := by decide +kernel
theorem dX7_border_33 : decode cX7_border 33 = .ok (.dconst 1, 1) := by decide +kernel
theorem dX7_border_34 : decode cX7_border 34 = .ok (.invokestatic 152, 3) := by decide +kernel
theorem dX7_border_37 : decode cX7_border 37 = .ok (.ifCond .ne 5, 3) := by decide +kernel
theorem dX7_border_40 : decode cX7_border 40 = .ok (.iconst 0, 1) := by decide +kernel
theorem dX7_border_41 : decode cX7_border 41 = .ok (.ireturn, 1) := by decide +kernel
theorem dX7_border_42 : decode cX7_border 42 = .ok (.aload_n 0, 1) := by decide +kernel
theorem dX7_border_43 : decode cX7_border 43 = .ok (.getfield 51, 3) := by decide +kernel
theorem dX7_border_46 : decode cX7_border 46 = .ok (.bipush 8, 2) := by decide +kernel
theorem dX7_border_48 : decode cX7_border 48 = .ok (.iload_n 1, 1) := by decide +kernel
theorem dX7_border_49 : decode cX7_border 49 = .ok (.imul, 1) := by decide +kernel
theorem dX7_border_50 : decode cX7_border 50 = .ok (.iload_n 2, 1) := by decide +kernel
theorem dX7_border_51 : decode cX7_border 51 = .ok (.iadd, 1) := by decide +kernel
theorem dX7_border_52 : decode cX7_border 52 = .ok (.iconst 1, 1) := by decide +kernel
theorem dX7_border_53 : decode cX7_border 53 = .ok (.bastore, 1) := by decide +kernel
theorem dX7_border_54 : decode cX7_border 54 = .ok (.aload_n 0, 1) := by decide +kernel
theorem dX7_border_55 : decode cX7_border 55 = .ok (.getfield 54, 3) := by decide +kernel
theorem dX7_border_58 : decode cX7_border 58 = .ok (.bipush 8, 2) := by decide +kernel
theorem dX7_border_60 : decode cX7_border 60 = .ok (.iload_n 1, 1) := by decide +kernel
theorem dX7_border_61 : decode cX7_border 61 = .ok (.imul, 1) := by decide +kernel
theorem dX7_border_62 : decode cX7_border 62 = .ok (.iload_n 2, 1) := by decide +kernel
theorem dX7_border_63 : decode cX7_border 63 = .ok (.iadd, 1) := by decide +kernel
theorem dX7_border_64 : decode cX7_border 64 = .ok (.dload_n 3, 1) := by decide +kernel
theorem dX7_border_65 : decode cX7_border 65 = .ok (.dastore, 1) := by decide +kernel
theorem dX7_border_66 : decode cX7_border 66 = .ok (.aload_n 0, 1) := by decide +kernel
theorem dX7_border_67 : decode cX7_border 67 = .ok (.getfield 57, 3) := by decide +kernel
theorem dX7_border_70 : decode cX7_border 70 = .ok (.bipush 8, 2) := by decide +kernel
theorem dX7_border_72 : decode cX7_border 72 = .ok (.iload_n 1, 1) := by decide +kernel
theorem dX7_border_73 : decode cX7_border 73 = .ok (.imul, 1) := by decide +kernel
theorem dX7_border_74 : decode cX7_border 74 = .ok (.iload_n 2, 1) := by decide +kernel
theorem dX7_border_75 : decode cX7_border 75 = .ok (.iadd, 1) := by decide +kernel
theorem dX7_border_76 : decode cX7_border 76 = .ok (.dload 5, 2) := by decide +kernel
theorem dX7_border_78 : decode cX7_border 78 = .ok (.dastore, 1) := by decide +kernel
theorem dX7_border_79 : decode cX7_border 79 = .ok (.iconst 1, 1) := by decide +kernel
theorem dX7_border_80 : decode cX7_border 80 = .ok (.ireturn, 1) := by decide +kernel
theorem dX7_wind_0 : decode cX7_wind 0 = .ok (.iload_n 1, 1) := by decide +kernel
theorem dX7_wind_1 : decode cX7_wind 1 = .ok (.ifCond .lt 36, 3) := by decide +kernel
theorem dX7_wind_4 : decode cX7_wind 4 = .ok (.iload_n 1, 1) := by decide +kernel
theorem dX7_wind_5 : decode cX7_wind 5 = .ok (.bipush 23, 2) := by decide +kernel
theorem dX7_wind_7 : decode cX7_wind 7 = .ok (.if_icmp .gt 30, 3) := by decide +kernel
theorem dX7_wind_10 : decode cX7_wind 10 = .ok (.dload_n 2, 1) := by decide +kernel
theorem dX7_wind_11 : decode cX7_wind 11 = .ok (.ldc2_w 176, 3) := by decide +kernel
theorem dX7_wind_14 : decode cX7_wind 14 = .ok (.ldc2_w 178, 3) := by decide +kernel
theorem dX7_wind_17 : decode cX7_wind 17 = .ok (.invokestatic 152, 3) := by decide +kernel
theorem dX7_wind_20 : decode cX7_wind 20 = .ok (.ifCond .eq 17, 3) := by decide +kernel
theorem dX7_wind_23 : decode cX7_wind 23 = .ok (.dload 4, 2) := by decide +kernel
theorem dX7_wind_25 : decode cX7_wind 25 = .ok (.ldc2_w 176, 3) := by decide +kernel
theorem dX7_wind_28 : decode cX7_wind 28 = .ok (.ldc2_w 178, 3) := by decide +kernel
theorem dX7_wind_31 : decode cX7_wind 31 = .ok (.invokestatic 152, 3) := by decide +kernel
theorem dX7_wind_34 : decode cX7_wind 34 = .ok (.ifCond .ne 5, 3) := by decide +kernel
theorem dX7_wind_37 : decode cX7_wind 37 = .ok (.iconst 0, 1) := by decide +kernel
theorem dX7_wind_38 : decode cX7_wind 38 = .ok (.ireturn, 1) := by decide +kernel
theorem dX7_wind_39 : decode cX7_wind 39 = .ok (.aload_n 0, 1) := by decide +kernel
theorem dX7_wind_40 : decode cX7_wind 40 = .ok (.getfield 60, 3) := by decide +kernel
theorem dX7_wind_43 : decode cX7_wind 43 = .ok (.iload_n 1, 1) := by decide +kernel
theorem dX7_wind_44 : decode cX7_wind 44 = .ok (.dload_n 2, 1) := by decide +kernel
theorem dX7_wind_45 : decode cX7_wind 45 = .ok (.dastore, 1) := by decide +kernel
theorem dX7_wind_46 : decode cX7_wind 46 = .ok (.aload_n 0, 1) := by decide +kernel
theorem dX7_wind_47 : decode cX7_wind 47 = .ok (.getfield 63, 3) := by decide +kernel
theorem dX7_wind_50 : decode cX7_wind 50 = .ok (.iload_n 1, 1) := by decide +kernel
theorem dX7_wind_51 : decode cX7_wind 51 = .ok (.dload 4, 2) := by decide +kernel
theorem dX7_wind_53 : decode cX7_wind 53 = .ok (.dastore, 1) := by decide +kernel
theorem dX7_wind_54 : decode cX7_wind 54 = .ok (.iconst 1, 1) := by decide +kernel
theorem dX7_wind_55 : decode cX7_wind 55 = .ok (.ireturn, 1) := by decide +kernel
theorem dX7_river_0 : decode cX7_river 0 = .ok (.aload_n 0, 1) := by decide +kernel
theorem dX7_river_1 : decode cX7_river 1 = .ok (.iload_n 1, 1) := by decide +kernel
theorem dX7_river_2 : decode cX7_river 2 = .ok (.iload_n 2, 1) := by decide +kernel
theorem dX7_river_3 : decode cX7_river 3 = .ok (.invokevirtual 139, 3) := by decide +kernel
theorem dX7_river_6 : decode cX7_river 6 = .ok (.ifCond .eq 14, 3) := by decide +kernel
theorem dX7_river_9 : decode cX7_river 9 = .ok (.dload_n 3, 1) := by decide +kernel
theorem dX7_river_10 : decode cX7_river 10 = .ok (.dconst 0, 1) := by decide +kernel
theorem dX7_river_11 : decode cX7_river 11 = .ok (.ldc2_w 150, 3) := by decide +kernel
theorem dX7_river_14 : decode cX7_river 14 = .ok (.invokestatic 152, 3) := by decide +kernel
theorem dX7_river_17 : decode cX7_river 17 = .ok (.ifCond .ne 5, 3) := by decide +kernel
theorem dX7_river_20 : decode cX7_river 20 = .ok (.iconst 0, 1) := by decide +kernel
theorem dX7_river_21 : decode cX7_river 21 = .ok (.ireturn, 1) := by decide +kernel
theorem dX7_river_22 : decode cX7_river 22 = .ok (.aload_n 0, 1) := by decide +kernel
theorem dX7_river_23 : decode cX7_river 23 = .ok (.getfield 17, 3) := by decide +kernel
theorem dX7_river_26 : decode cX7_river 26 = .ok (.iload_n 1, 1) := by decide +kernel
theorem dX7_river_27 : decode cX7_river 27 = .ok (.iload_n 2, 1) := by decide +kernel
theorem dX7_river_28 : decode cX7_river 28 = .ok (.invokestatic 135, 3) := by decide +kernel
theorem dX7_river_31 : decode cX7_river 31 = .ok (.dload_n 3, 1) := by decide +kernel
theorem dX7_river_32 : decode cX7_river 32 = .ok (.dastore, 1) := by decide +kernel
theorem dX7_river_33 : decode cX7_river 33 = .ok (.iconst 1, 1) := by decide +kernel
theorem dX7_river_34 : decode cX7_river 34 = .ok (.ireturn, 1) := by decide +kernel
theorem dX7_saw_0 : decode cX7_saw 0 = .ok (.dload_n 0, 1) := by decide +kernel
theorem dX7_saw_1 : decode cX7_saw 1 = .ok (.dload_n 0, 1) := by decide +kernel
theorem dX7_saw_2 : decode cX7_saw 2 = .ok (.d2l, 1) := by decide +kernel
theorem dX7_saw_3 : decode cX7_saw 3 = .ok (.l2d, 1) := by decide +kernel
theorem dX7_saw_4 : decode cX7_saw 4 = .ok (.dsub, 1) := by decide +kernel
theorem dX7_saw_5 : decode cX7_saw 5 = .ok (.dstore_n 2, 1) := by decide +kernel
theorem dX7_saw_6 : decode cX7_saw 6 = .ok (.dload_n 2, 1) := by decide +kernel
theorem dX7_saw_7 : decode cX7_saw 7 = .ok (.ldc2_w 180, 3) := by decide +kernel
theorem dX7_saw_10 : decode cX7_saw 10 = .ok (.dcmp .g, 1) := by decide +kernel
theorem dX7_saw_11 : decode cX7_saw 11 = .ok (.ifCond .ge 13, 3) := by decide +kernel
theorem dX7_saw_14 : decode cX7_saw 14 = .ok (.dconst 1, 1) := by decide +kernel
theorem dX7_saw_15 : decode cX7_saw 15 = .ok (.ldc2_w 182, 3) := by decide +kernel
theorem dX7_saw_18 : decode cX7_saw 18 = .ok (.dload_n 2, 1) := by decide +kernel
theorem dX7_saw_19 : decode cX7_saw 19 = .ok (.dmul, 1) := by decide +kernel
theorem dX7_saw_20 : decode cX7_saw 20 = .ok (.dsub, 1) := by decide +kernel
theorem dX7_saw_21 : decode cX7_saw 21 = .ok (.goto 12, 3) := by decide +kernel
theorem dX7_saw_24 : decode cX7_saw 24 = .ok (.ldc2_w 182, 3) := by decide +kernel
theorem dX7_saw_27 : decode cX7_saw 27 = .ok (.dload_n 2, 1) := by decide +kernel
theorem dX7_saw_28 : decode cX7_saw 28 = .ok (.dmul, 1) := by decide +kernel
theorem dX7_saw_29 : decode cX7_saw 29 = .ok (.ldc2_w 184, 3) := by decide +kernel
theorem dX7_saw_32 : decode cX7_saw 32 = .ok (.dsub, 1) := by decide +kernel
theorem dX7_saw_33 : decode cX7_saw 33 = .ok (.dreturn, 1) := by decide +kernel
theorem dX7_outside_0 : decode cX7_outside 0 = .ok (.dconst 0, 1) := by decide +kernel
theorem dX7_outside_1 : decode cX7_outside 1 = .ok (.dstore_n 2, 1) := by decide +kernel
theorem dX7_outside_2 : decode cX7_outside 2 = .ok (.iconst 0, 1) := by decide +kernel
theorem dX7_outside_3 : decode cX7_outside 3 = .ok (.istore 4, 2) := by decide +kernel
theorem dX7_outside_5 : decode cX7_outside 5 = .ok (.iload 4, 2) := by decide +kernel
theorem dX7_outside_7 : decode cX7_outside 7 = .ok (.bipush 8, 2) := by decide +kernel
theorem dX7_outside_9 : decode cX7_outside 9 = .ok (.if_icmp .ge 70, 3) := by decide +kernel
theorem dX7_outside_12 : decode cX7_outside 12 = .ok (.aload_n 0, 1) := by decide +kernel
theorem dX7_outside_13 : decode cX7_outside 13 = .ok (.getfield 51, 3) := by decide +kernel
theorem dX7_outside_16 : decode cX7_outside 16 = .ok (.bipush 8, 2) := by decide +kernel
theorem dX7_outside_18 : decode cX7_outside 18 = .ok (.iload_n 1, 1) := by decide +kernel
theorem dX7_outside_19 : decode cX7_outside 19 = .ok (.imul, 1) := by decide +kernel
theorem dX7_outside_20 : decode cX7_outside 20 = .ok (.iload 4, 2) := by decide +kernel
theorem dX7_outside_22 : decode cX7_outside 22 = .ok (.iadd, 1) := by decide +kernel
theorem dX7_outside_23 : decode cX7_outside 23 = .ok (.baload, 1) := by decide +kernel
theorem dX7_outside_24 : decode cX7_outside 24 = .ok (.ifCond .eq 49, 3) := by decide +kernel
theorem dX7_outside_27 : decode cX7_outside 27 = .ok (.dload_n 2, 1) := by decide +kernel
theorem dX7_outside_28 : decode cX7_outside 28 = .ok (.aload_n 0, 1) := by decide +kernel
theorem dX7_outside_29 : decode cX7_outside 29 = .ok (.getfield 54, 3) := by decide +kernel
theorem dX7_outside_32 : decode cX7_outside 32 = .ok (.bipush 8, 2) := by decide +kernel
theorem dX7_outside_34 : decode cX7_outside 34 = .ok (.iload_n 1, 1) := by decide +kernel
theorem dX7_outside_35 : decode cX7_outside 35 = .ok (.imul, 1) := by decide +kernel
theorem dX7_outside_36 : decode cX7_outside 36 = .ok (.iload 4, 2) := by decide +kernel
theorem dX7_outside_38 : decode cX7_outside 38 = .ok (.iadd, 1) := by decide +kernel
theorem dX7_outside_39 : decode cX7_outside 39 = .ok (.daload, 1) := by decide +kernel
theorem dX7_outside_40 : decode cX7_outside 40 = .ok (.aload_n 0, 1) := by decide +kernel
theorem dX7_outside_41 : decode cX7_outside 41 = .ok (.getfield 186, 3) := by decide +kernel
theorem dX7_outside_44 : decode cX7_outside 44 = .ok (.ldc2_w 190, 3) := by decide +kernel
theorem dX7_outside_47 : decode cX7_outside 47 = .ok (.iload 4, 2) := by decide +kernel
theorem dX7_outside_49 : decode cX7_outside 49 = .ok (.iconst 1, 1) := by decide +kernel
theorem dX7_outside_50 : decode cX7_outside 50 = .ok (.iadd, 1) := by decide +kernel
theorem dX7_outside_51 : decode cX7_outside 51 = .ok (.i2d, 1) := by decide +kernel
theorem dX7_outside_52 : decode cX7_outside 52 = .ok (.dmul, 1) := by decide +kernel
theorem dX7_outside_53 : decode cX7_outside 53 = .ok (.ddiv, 1) := by decide +kernel
theorem dX7_outside_54 : decode cX7_outside 54 = .ok (.aload_n 0, 1) := by decide +kernel
theorem dX7_outside_55 : decode cX7_outside 55 = .ok (.getfield 57, 3) := by decide +kernel
theorem dX7_outside_58 : decode cX7_outside 58 = .ok (.bipush 8, 2) := by decide +kernel
theorem dX7_outside_60 : decode cX7_outside 60 = .ok (.iload_n 1, 1) := by decide +kernel
theorem dX7_outside_61 : decode cX7_outside 61 = .ok (.imul, 1) := by decide +kernel
theorem dX7_outside_62 : decode cX7_outside 62 = .ok (.iload 4, 2) := by decide +kernel
theorem dX7_outside_64 : decode cX7_outside 64 = .ok (.iadd, 1) := by decide +kernel
theorem dX7_outside_65 : decode cX7_outside 65 = .ok (.daload, 1) := by decide +kernel
theorem dX7_outside_66 : decode cX7_outside 66 = .ok (.dadd, 1) := by decide +kernel
theorem dX7_outside_67 : decode cX7_outside 67 = .ok (.invokestatic 192, 3) := by decide +kernel
theorem dX7_outside_70 : decode cX7_outside 70 = .ok (.dmul, 1) := by decide +kernel
theorem dX7_outside_71 : decode cX7_outside 71 = .ok (.dadd, 1) := by decide +kernel
theorem dX7_outside_72 : decode cX7_outside 72 = .ok (.dstore_n 2, 1) := by decide +kernel
theorem dX7_outside_73 : decode cX7_outside 73 = .ok (.iinc 4 1, 3) := by decide +kernel
theorem dX7_outside_76 : decode cX7_outside 76 = .ok (.goto (-71), 3) := by decide +kernel
theorem dX7_outside_79 : decode cX7_outside 79 = .ok (.dload_n 2, 1) := by decide +kernel
theorem dX7_outside_80 : decode cX7_outside 80 = .ok (.dreturn, 1) := by decide +kernel
theorem dX7_levelOf_0 : decode cX7_levelOf 0 = .ok (.aload_n 0, 1) := by decide +kernel
theorem dX7_levelOf_1 : decode cX7_levelOf 1 = .ok (.getfield 20, 3) := by decide +kernel
theorem dX7_levelOf_4 : decode cX7_levelOf 4 = .ok (.iload_n 1, 1) := by decide +kernel
theorem dX7_levelOf_5 : decode cX7_levelOf 5 = .ok (.laload, 1) := by decide +kernel
theorem dX7_levelOf_6 : decode cX7_levelOf 6 = .ok (.l2d, 1) := by decide +kernel
theorem dX7_levelOf_7 : decode cX7_levelOf 7 = .ok (.ldc2_w 196, 3) := by decide +kernel
theorem dX7_levelOf_10 : decode cX7_levelOf 10 = .ok (.dmul, 1) := by decide +kernel
theorem dX7_levelOf_11 : decode cX7_levelOf 11 = .ok (.aload_n 0, 1) := by decide +kernel
theorem dX7_levelOf_12 : decode cX7_levelOf 12 = .ok (.getfield 13, 3) := by decide +kernel
theorem dX7_levelOf_15 : decode cX7_levelOf 15 = .ok (.iload_n 1, 1) := by decide +kernel
theorem dX7_levelOf_16 : decode cX7_levelOf 16 = .ok (.daload, 1) := by decide +kernel
theorem dX7_levelOf_17 : decode cX7_levelOf 17 = .ok (.dsub, 1) := by decide +kernel
theorem dX7_levelOf_18 : decode cX7_levelOf 18 = .ok (.dreturn, 1) := by decide +kernel
theorem dX7_size_0 : decode cX7_size 0 = .ok (.dload_n 0, 1) := by decide +kernel
theorem dX7_size_1 : decode cX7_size 1 = .ok (.dconst 0, 1) := by decide +kernel
theorem dX7_size_2 : decode cX7_size 2 = .ok (.dcmp .g, 1) := by decide +kernel
theorem dX7_size_3 : decode cX7_size 3 = .ok (.ifCond .ge 9, 3) := by decide +kernel
theorem dX7_size_6 : decode cX7_size 6 = .ok (.dconst 0, 1) := by decide +kernel
theorem dX7_size_7 : decode cX7_size 7 = .ok (.dload_n 0, 1) := by decide +kernel
theorem dX7_size_8 : decode cX7_size 8 = .ok (.dsub, 1) := by decide +kernel
theorem dX7_size_9 : decode cX7_size 9 = .ok (.goto 4, 3) := by decide +kernel
theorem dX7_size_12 : decode cX7_size 12 = .ok (.dload_n 0, 1) := by decide +kernel
theorem dX7_size_13 : decode cX7_size 13 = .ok (.dreturn, 1) := by decide +kernel
theorem dX7_flow_0 : decode cX7_flow 0 = .ok (.iload_n 3, 1) := by decide +kernel
theorem dX7_flow_1 : decode cX7_flow 1 = .ok (.iconst (-1), 1) := by decide +kernel
theorem dX7_flow_2 : decode cX7_flow 2 = .ok (.if_icmp .ne 8, 3) := by decide +kernel
theorem dX7_flow_5 : decode cX7_flow 5 = .ok (.dload 5, 2) := by decide +kernel
theorem dX7_flow_7 : decode cX7_flow 7 = .ok (.goto 8, 3) := by decide +kernel
theorem dX7_flow_10 : decode cX7_flow 10 = .ok (.aload_n 0, 1) := by decide +kernel
theorem dX7_flow_11 : decode cX7_flow 11 = .ok (.iload_n 3, 1) := by decide +kernel
theorem dX7_flow_12 : decode cX7_flow 12 = .ok (.invokevirtual 198, 3) := by decide +kernel
theorem dX7_flow_15 : decode cX7_flow 15 = .ok (.iload 4, 2) := by decide +kernel
theorem dX7_flow_17 : decode cX7_flow 17 = .ok (.iconst (-1), 1) := by decide +kernel
theorem dX7_flow_18 : decode cX7_flow 18 = .ok (.if_icmp .ne 8, 3) := by decide +kernel
theorem dX7_flow_21 : decode cX7_flow 21 = .ok (.dload 5, 2) := by decide +kernel
theorem dX7_flow_23 : decode cX7_flow 23 = .ok (.goto 9, 3) := by decide +kernel
theorem dX7_flow_26 : decode cX7_flow 26 = .ok (.aload_n 0, 1) := by decide +kernel
theorem dX7_flow_27 : decode cX7_flow 27 = .ok (.iload 4, 2) := by decide +kernel
theorem dX7_flow_29 : decode cX7_flow 29 = .ok (.invokevirtual 198, 3) := by decide +kernel
theorem dX7_flow_32 : decode cX7_flow 32 = .ok (.dsub, 1) := by decide +kernel
theorem dX7_flow_33 : decode cX7_flow 33 = .ok (.dstore 9, 2) := by decide +kernel
theorem dX7_flow_35 : decode cX7_flow 35 = .ok (.aload_n 0, 1) := by decide +kernel
theorem dX7_flow_36 : decode cX7_flow 36 = .ok (.getfield 186, 3) := by decide +kernel
theorem dX7_flow_39 : decode cX7_flow 39 = .ok (.ldc2_w 190, 3) := by decide +kernel
theorem dX7_flow_42 : decode cX7_flow 42 = .ok (.ddiv, 1) := by decide +kernel
theorem dX7_flow_43 : decode cX7_flow 43 = .ok (.d2l, 1) := by decide +kernel
theorem dX7_flow_44 : decode cX7_flow 44 = .ok (.ldc2_w 202, 3) := by decide +kernel
theorem dX7_flow_47 : decode cX7_flow 47 = .ok (.lrem, 1) := by decide +kernel
theorem dX7_flow_48 : decode cX7_flow 48 = .ok (.l2i, 1) := by decide +kernel
theorem dX7_flow_49 : decode cX7_flow 49 = .ok (.istore 11, 2) := by decide +kernel
theorem dX7_flow_51 : decode cX7_flow 51 = .ok (.iload_n 2, 1) := by decide +kernel
theorem dX7_flow_52 : decode cX7_flow 52 = .ok (.ifCond .ne 13, 3) := by decide +kernel
theorem dX7_flow_55 : decode cX7_flow 55 = .ok (.aload_n 0, 1) := by decide +kernel
theorem dX7_flow_56 : decode cX7_flow 56 = .ok (.getfield 60, 3) := by decide +kernel
theorem dX7_flow_59 : decode cX7_flow 59 = .ok (.iload 11, 2) := by decide +kernel
theorem dX7_flow_61 : decode cX7_flow 61 = .ok (.daload, 1) := by decide +kernel
theorem dX7_flow_62 : decode cX7_flow 62 = .ok (.goto 10, 3) := by decide +kernel
theorem dX7_flow_65 : decode cX7_flow 65 = .ok (.aload_n 0, 1) := by decide +kernel
theorem dX7_flow_66 : decode cX7_flow 66 = .ok (.getfield 63, 3) := by decide +kernel
theorem dX7_flow_69 : decode cX7_flow 69 = .ok (.iload 11, 2) := by decide +kernel
theorem dX7_flow_71 : decode cX7_flow 71 = .ok (.daload, 1) := by decide +kernel
theorem dX7_flow_72 : decode cX7_flow 72 = .ok (.dstore 12, 2) := by decide +kernel
theorem dX7_flow_74 : decode cX7_flow 74 = .ok (.aload_n 0, 1) := by decide +kernel
theorem dX7_flow_75 : decode cX7_flow 75 = .ok (.getfield 33, 3) := by decide +kernel
theorem dX7_flow_78 : decode cX7_flow 78 = .ok (.iload_n 1, 1) := by decide +kernel
theorem dX7_flow_79 : decode cX7_flow 79 = .ok (.daload, 1) := by decide +kernel
theorem dX7_flow_80 : decode cX7_flow 80 = .ok (.dstore 14, 2) := by decide +kernel
theorem dX7_flow_82 : decode cX7_flow 82 = .ok (.dload 14, 2) := by decide +kernel
theorem dX7_flow_84 : decode cX7_flow 84 = .ok (.dload 7, 2) := by decide +kernel
theorem dX7_flow_86 : decode cX7_flow 86 = .ok (.ldc2_w 204, 3) := by decide +kernel
theorem dX7_flow_89 : decode cX7_flow 89 = .ok (.dload 9, 2) := by decide +kernel
theorem dX7_flow_91 : decode cX7_flow 91 = .ok (.dmul, 1) := by decide +kernel
theorem dX7_flow_92 : decode cX7_flow 92 = .ok (.ldc2_w 206, 3) := by decide +kernel
theorem dX7_flow_95 : decode cX7_flow 95 = .ok (.dload 12, 2) := by decide +kernel
theorem dX7_flow_97 : decode cX7_flow 97 = .ok (.dmul, 1) := by decide +kernel
theorem dX7_flow_98 : decode cX7_flow 98 = .ok (.dadd, 1) := by decide +kernel
theorem dX7_flow_99 : decode cX7_flow 99 = .ok (.dmul, 1) := by decide +kernel
theorem dX7_flow_100 : decode cX7_flow 100 = .ok (.dadd, 1) := by decide +kernel
theorem dX7_flow_101 : decode cX7_flow 101 = .ok (.dconst 1, 1) := by decide +kernel
theorem dX7_flow_102 : decode cX7_flow 102 = .ok (.ldc2_w 208, 3) := by decide +kernel
theorem dX7_flow_105 : decode cX7_flow 105 = .ok (.dload 7, 2) := by decide +kernel
theorem dX7_flow_107 : decode cX7_flow 107 = .ok (.dmul, 1) := by decide +kernel
theorem dX7_flow_108 : decode cX7_flow 108 = .ok (.dload 14, 2) := by decide +kernel
theorem dX7_flow_110 : decode cX7_flow 110 = .ok (.invokestatic 210, 3) := by decide +kernel
theorem dX7_flow_113 : decode cX7_flow 113 = .ok (.dmul, 1) := by decide +kernel
theorem dX7_flow_114 : decode cX7_flow 114 = .ok (.dadd, 1) := by decide +kernel
theorem dX7_flow_115 : decode cX7_flow 115 = .ok (.ddiv, 1) := by decide +kernel
theorem dX7_flow_116 : decode cX7_flow 116 = .ok (.dstore 14, 2) := by decide +kernel
theorem dX7_flow_118 : decode cX7_flow 118 = .ok (.aload_n 0, 1) := by decide +kernel
theorem dX7_flow_119 : decode cX7_flow 119 = .ok (.getfield 33, 3) := by decide +kernel
theorem dX7_flow_122 : decode cX7_flow 122 = .ok (.iload_n 1, 1) := by decide +kernel
theorem dX7_flow_123 : decode cX7_flow 123 = .ok (.dload 14, 2) := by decide +kernel
theorem dX7_flow_125 : decode cX7_flow 125 = .ok (.dastore, 1) := by decide +kernel
theorem dX7_flow_126 : decode cX7_flow 126 = .ok (.iload_n 3, 1) := by decide +kernel
theorem dX7_flow_127 : decode cX7_flow 127 = .ok (.iconst (-1), 1) := by decide +kernel
theorem dX7_flow_128 : decode cX7_flow 128 = .ok (.if_icmp .ne 13, 3) := by decide +kernel
theorem dX7_flow_131 : decode cX7_flow 131 = .ok (.aload_n 0, 1) := by decide +kernel
theorem dX7_flow_132 : decode cX7_flow 132 = .ok (.getfield 20, 3) := by decide +kernel
theorem dX7_flow_135 : decode cX7_flow 135 = .ok (.iload 4, 2) := by decide +kernel
theorem dX7_flow_137 : decode cX7_flow 137 = .ok (.laload, 1) := by decide +kernel
theorem dX7_flow_138 : decode cX7_flow 138 = .ok (.goto 34, 3) := by decide +kernel
theorem dX7_flow_141 : decode cX7_flow 141 = .ok (.iload 4, 2) := by decide +kernel
theorem dX7_flow_143 : decode cX7_flow 143 = .ok (.iconst (-1), 1) := by decide +kernel
theorem dX7_flow_144 : decode cX7_flow 144 = .ok (.if_icmp .ne 12, 3) := by decide +kernel
theorem dX7_flow_147 : decode cX7_flow 147 = .ok (.aload_n 0, 1) := by decide +kernel
theorem dX7_flow_148 : decode cX7_flow 148 = .ok (.getfield 20, 3) := by decide +kernel
theorem dX7_flow_151 : decode cX7_flow 151 = .ok (.iload_n 3, 1) := by decide +kernel
theorem dX7_flow_152 : decode cX7_flow 152 = .ok (.laload, 1) := by decide +kernel
theorem dX7_flow_153 : decode cX7_flow 153 = .ok (.goto 19, 3) := by decide +kernel
theorem dX7_flow_156 : decode cX7_flow 156 = .ok (.aload_n 0, 1) := by decide +kernel
theorem dX7_flow_157 : decode cX7_flow 157 = .ok (.getfield 20, 3) := by decide +kernel
theorem dX7_flow_160 : decode cX7_flow 160 = .ok (.iload_n 3, 1) := by decide +kernel
theorem dX7_flow_161 : decode cX7_flow 161 = .ok (.laload, 1) := by decide +kernel
theorem dX7_flow_162 : decode cX7_flow 162 = .ok (.aload_n 0, 1) := by decide +kernel
theorem dX7_flow_163 : decode cX7_flow 163 = .ok (.getfield 20, 3) := by decide +kernel
theorem dX7_flow_166 : decode cX7_flow 166 = .ok (.iload 4, 2) := by decide +kernel
theorem dX7_flow_168 : decode cX7_flow 168 = .ok (.laload, 1) := by decide +kernel
theorem dX7_flow_169 : decode cX7_flow 169 = .ok (.invokestatic 213, 3) := by decide +kernel
theorem dX7_flow_172 : decode cX7_flow 172 = .ok (.lstore 16, 2) := by decide +kernel
theorem dX7_flow_174 : decode cX7_flow 174 = .ok (.dload 14, 2) := by decide +kernel
theorem dX7_flow_176 : decode cX7_flow 176 = .ok (.dload 7, 2) := by decide +kernel
theorem dX7_flow_178 : decode cX7_flow 178 = .ok (.dmul, 1) := by decide +kernel
theorem dX7_flow_179 : decode cX7_flow 179 = .ok (.lload 16, 2) := by decide +kernel
theorem dX7_flow_181 : decode cX7_flow 181 = .ok (.l2d, 1) := by decide +kernel
theorem dX7_flow_182 : decode cX7_flow 182 = .ok (.ldc2_w 196, 3) := by decide +kernel
theorem dX7_flow_185 : decode cX7_flow 185 = .ok (.dmul, 1) := by decide +kernel
theorem dX7_flow_186 : decode cX7_flow 186 = .ok (.dmul, 1) := by decide +kernel
theorem dX7_flow_187 : decode cX7_flow 187 = .ok (.d2l, 1) := by decide +kernel
theorem dX7_flow_188 : decode cX7_flow 188 = .ok (.lstore 18, 2) := by decide +kernel
theorem dX7_flow_190 : decode cX7_flow 190 = .ok (.lload 18, 2) := by decide +kernel
theorem dX7_flow_192 : decode cX7_flow 192 = .ok (.lconst 0, 1) := by decide +kernel
theorem dX7_flow_193 : decode cX7_flow 193 = .ok (.lcmp, 1) := by decide +kernel
theorem dX7_flow_194 : decode cX7_flow 194 = .ok (.ifCond .le 7, 3) := by decide +kernel
theorem dX7_flow_197 : decode cX7_flow 197 = .ok (.iload_n 3, 1) := by decide +kernel
theorem dX7_flow_198 : decode cX7_flow 198 = .ok (.goto 5, 3) := by decide +kernel
theorem dX7_flow_201 : decode cX7_flow 201 = .ok (.iload 4, 2) := by decide +kernel
theorem dX7_flow_203 : decode cX7_flow 203 = .ok (.istore 20, 2) := by decide +kernel
theorem dX7_flow_205 : decode cX7_flow 205 = .ok (.iload 20, 2) := by decide +kernel
theorem dX7_flow_207 : decode cX7_flow 207 = .ok (.iconst (-1), 1) := by decide +kernel
theorem dX7_flow_208 : decode cX7_flow 208 = .ok (.if_icmp .eq 66, 3) := by decide +kernel
theorem dX7_flow_211 : decode cX7_flow 211 = .ok (.aload_n 0, 1) := by decide +kernel
theorem dX7_flow_212 : decode cX7_flow 212 = .ok (.getfield 20, 3) := by decide +kernel
theorem dX7_flow_215 : decode cX7_flow 215 = .ok (.iload 20, 2) := by decide +kernel
theorem dX7_flow_217 : decode cX7_flow 217 = .ok (.laload, 1) := by decide +kernel
theorem dX7_flow_218 : decode cX7_flow 218 = .ok (.ldc2_w 219, 3) := by decide +kernel
theorem dX7_flow_221 : decode cX7_flow 221 = .ok (.ldiv, 1) := by decide +kernel
theorem dX7_flow_222 : decode cX7_flow 222 = .ok (.lstore 21, 2) := by decide +kernel
theorem dX7_flow_224 : decode cX7_flow 224 = .ok (.aload_n 0, 1) := by decide +kernel
theorem dX7_flow_225 : decode cX7_flow 225 = .ok (.getfield 20, 3) := by decide +kernel
theorem dX7_flow_228 : decode cX7_flow 228 = .ok (.iload 20, 2) := by decide +kernel
theorem dX7_flow_230 : decode cX7_flow 230 = .ok (.laload, 1) := by decide +kernel
theorem dX7_flow_231 : decode cX7_flow 231 = .ok (.ldc2_w 221, 3) := by decide +kernel
theorem dX7_flow_234 : decode cX7_flow 234 = .ok (.lcmp, 1) := by decide +kernel
theorem dX7_flow_235 : decode cX7_flow 235 = .ok (.ifCond .ge 7, 3) := by decide +kernel
theorem dX7_flow_238 : decode cX7_flow 238 = .ok (.lconst 0, 1) := by decide +kernel
theorem dX7_flow_239 : decode cX7_flow 239 = .ok (.goto 33, 3) := by decide +kernel
theorem dX7_flow_242 : decode cX7_flow 242 = .ok (.lload 18, 2) := by decide +kernel
theorem dX7_flow_244 : decode cX7_flow 244 = .ok (.lload 21, 2) := by decide +kernel
theorem dX7_flow_246 : decode cX7_flow 246 = .ok (.lcmp, 1) := by decide +kernel
theorem dX7_flow_247 : decode cX7_flow 247 = .ok (.ifCond .le 8, 3) := by decide +kernel
theorem dX7_flow_250 : decode cX7_flow 250 = .ok (.lload 21, 2) := by decide +kernel
theorem dX7_flow_252 : decode cX7_flow 252 = .ok (.goto 20, 3) := by decide +kernel
theorem dX7_flow_255 : decode cX7_flow 255 = .ok (.lload 18, 2) := by decide +kernel
theorem dX7_flow_257 : decode cX7_flow 257 = .ok (.lload 21, 2) := by decide +kernel
theorem dX7_flow_259 : decode cX7_flow 259 = .ok (.lneg, 1) := by decide +kernel
theorem dX7_flow_260 : decode cX7_flow 260 = .ok (.lcmp, 1) := by decide +kernel
theorem dX7_flow_261 : decode cX7_flow 261 = .ok (.ifCond .ge 9, 3) := by decide +kernel
theorem dX7_flow_264 : decode cX7_flow 264 = .ok (.lload 21, 2) := by decide +kernel
theorem dX7_flow_266 : decode cX7_flow 266 = .ok (.lneg, 1) := by decide +kernel
theorem dX7_flow_267 : decode cX7_flow 267 = .ok (.goto 5, 3) := by decide +kernel
theorem dX7_flow_270 : decode cX7_flow 270 = .ok (.lload 18, 2) := by decide +kernel
theorem dX7_flow_272 : decode cX7_flow 272 = .ok (.lstore 18, 2) := by decide +kernel
theorem dX7_flow_274 : decode cX7_flow 274 = .ok (.aload_n 0, 1) := by decide +kernel
theorem dX7_flow_275 : decode cX7_flow 275 = .ok (.getfield 48, 3) := by decide +kernel
theorem dX7_flow_278 : decode cX7_flow 278 = .ok (.iload_n 1, 1) := by decide +kernel
theorem dX7_flow_279 : decode cX7_flow 279 = .ok (.lload 18, 2) := by decide +kernel
theorem dX7_flow_281 : decode cX7_flow 281 = .ok (.lastore, 1) := by decide +kernel
theorem dX7_flow_282 : decode cX7_flow 282 = .ok (.return_, 1) := by decide +kernel
theorem dX7_step_0 : decode cX7_step 0 = .ok (.iconst 0, 1) := by decide +kernel
theorem dX7_step_1 : decode cX7_step 1 = .ok (.istore_n 3, 1) := by decide +kernel
theorem dX7_step_2 : decode cX7_step 2 = .ok (.iload_n 3, 1) := by decide +kernel
theorem dX7_step_3 : decode cX7_step 3 = .ok (.sipush 336, 3) := by decide +kernel
theorem dX7_step_6 : decode cX7_step 6 = .ok (.if_icmp .ge 16, 3) := by decide +kernel
theorem dX7_step_9 : decode cX7_step 9 = .ok (.aload_n 0, 1) := by decide +kernel
theorem dX7_step_10 : decode cX7_step 10 = .ok (.getfield 48, 3) := by decide +kernel
theorem dX7_step_13 : decode cX7_step 13 = .ok (.iload_n 3, 1) := by decide +kernel
theorem dX7_step_14 : decode cX7_step 14 = .ok (.lconst 0, 1) := by decide +kernel
theorem dX7_step_15 : decode cX7_step 15 = .ok (.lastore, 1) := by decide +kernel
theorem dX7_step_16 : decode cX7_step 16 = .ok (.iinc 3 1, 3) := by decide +kernel
theorem dX7_step_19 : decode cX7_step 19 = .ok (.goto (-17), 3) := by decide +kernel
theorem dX7_step_22 : decode cX7_step 22 = .ok (.iconst 0, 1) := by decide +kernel
theorem dX7_step_23 : decode cX7_step 23 = .ok (.istore_n 3, 1) := by decide +kernel
theorem dX7_step_24 : decode cX7_step 24 = .ok (.iload_n 3, 1) := by decide +kernel
theorem dX7_step_25 : decode cX7_step 25 = .ok (.aload_n 0, 1) := by decide +kernel
theorem dX7_step_26 : decode cX7_step 26 = .ok (.getfield 125, 3) := by decide +kernel
theorem dX7_step_29 : decode cX7_step 29 = .ok (.if_icmp .ge 203, 3) := by decide +kernel
theorem dX7_step_32 : decode cX7_step 32 = .ok (.iconst 0, 1) := by decide +kernel
