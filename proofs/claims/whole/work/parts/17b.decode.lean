theorem dX7_step_33 : decode cX7_step 33 = .ok (.istore 4, 2) := by decide +kernel
theorem dX7_step_35 : decode cX7_step 35 = .ok (.iload 4, 2) := by decide +kernel
theorem dX7_step_37 : decode cX7_step 37 = .ok (.aload_n 0, 1) := by decide +kernel
theorem dX7_step_38 : decode cX7_step 38 = .ok (.getfield 121, 3) := by decide +kernel
theorem dX7_step_41 : decode cX7_step 41 = .ok (.if_icmp .ge 185, 3) := by decide +kernel
theorem dX7_step_44 : decode cX7_step 44 = .ok (.iconst 0, 1) := by decide +kernel
theorem dX7_step_45 : decode cX7_step 45 = .ok (.istore 5, 2) := by decide +kernel
theorem dX7_step_47 : decode cX7_step 47 = .ok (.iload 5, 2) := by decide +kernel
theorem dX7_step_49 : decode cX7_step 49 = .ok (.iconst 2, 1) := by decide +kernel
theorem dX7_step_50 : decode cX7_step 50 = .ok (.if_icmp .ge 72, 3) := by decide +kernel
theorem dX7_step_53 : decode cX7_step 53 = .ok (.aload_n 0, 1) := by decide +kernel
theorem dX7_step_54 : decode cX7_step 54 = .ok (.iload 4, 2) := by decide +kernel
theorem dX7_step_56 : decode cX7_step 56 = .ok (.iload_n 3, 1) := by decide +kernel
theorem dX7_step_57 : decode cX7_step 57 = .ok (.iload 5, 2) := by decide +kernel
theorem dX7_step_59 : decode cX7_step 59 = .ok (.invokevirtual 223, 3) := by decide +kernel
theorem dX7_step_62 : decode cX7_step 62 = .ok (.ifCond .eq 54, 3) := by decide +kernel
theorem dX7_step_65 : decode cX7_step 65 = .ok (.aload_n 0, 1) := by decide +kernel
theorem dX7_step_66 : decode cX7_step 66 = .ok (.sipush 144, 3) := by decide +kernel
theorem dX7_step_69 : decode cX7_step 69 = .ok (.iload 5, 2) := by decide +kernel
theorem dX7_step_71 : decode cX7_step 71 = .ok (.imul, 1) := by decide +kernel
theorem dX7_step_72 : decode cX7_step 72 = .ok (.iload 4, 2) := by decide +kernel
theorem dX7_step_74 : decode cX7_step 74 = .ok (.iload_n 3, 1) := by decide +kernel
theorem dX7_step_75 : decode cX7_step 75 = .ok (.invokestatic 135, 3) := by decide +kernel
theorem dX7_step_78 : decode cX7_step 78 = .ok (.iadd, 1) := by decide +kernel
theorem dX7_step_79 : decode cX7_step 79 = .ok (.iload 5, 2) := by decide +kernel
theorem dX7_step_81 : decode cX7_step 81 = .ok (.iload 4, 2) := by decide +kernel
theorem dX7_step_83 : decode cX7_step 83 = .ok (.iload_n 3, 1) := by decide +kernel
theorem dX7_step_84 : decode cX7_step 84 = .ok (.invokestatic 135, 3) := by decide +kernel
theorem dX7_step_87 : decode cX7_step 87 = .ok (.iload 5, 2) := by decide +kernel
theorem dX7_step_89 : decode cX7_step 89 = .ok (.ifCond .ne 14, 3) := by decide +kernel
theorem dX7_step_92 : decode cX7_step 92 = .ok (.iload 4, 2) := by decide +kernel
theorem dX7_step_94 : decode cX7_step 94 = .ok (.iconst 1, 1) := by decide +kernel
theorem dX7_step_95 : decode cX7_step 95 = .ok (.iadd, 1) := by decide +kernel
theorem dX7_step_96 : decode cX7_step 96 = .ok (.iload_n 3, 1) := by decide +kernel
theorem dX7_step_97 : decode cX7_step 97 = .ok (.invokestatic 135, 3) := by decide +kernel
theorem dX7_step_100 : decode cX7_step 100 = .ok (.goto 11, 3) := by decide +kernel
theorem dX7_step_103 : decode cX7_step 103 = .ok (.iload 4, 2) := by decide +kernel
theorem dX7_step_105 : decode cX7_step 105 = .ok (.iload_n 3, 1) := by decide +kernel
theorem dX7_step_106 : decode cX7_step 106 = .ok (.iconst 1, 1) := by decide +kernel
theorem dX7_step_107 : decode cX7_step 107 = .ok (.iadd, 1) := by decide +kernel
theorem dX7_step_108 : decode cX7_step 108 = .ok (.invokestatic 135, 3) := by decide +kernel
theorem dX7_step_111 : decode cX7_step 111 = .ok (.dconst 0, 1) := by decide +kernel
theorem dX7_step_112 : decode cX7_step 112 = .ok (.dload_n 1, 1) := by decide +kernel
theorem dX7_step_113 : decode cX7_step 113 = .ok (.invokevirtual 226, 3) := by decide +kernel
theorem dX7_step_116 : decode cX7_step 116 = .ok (.iinc 5 1, 3) := by decide +kernel
theorem dX7_step_119 : decode cX7_step 119 = .ok (.goto (-72), 3) := by decide +kernel
theorem dX7_step_122 : decode cX7_step 122 = .ok (.iconst 0, 1) := by decide +kernel
theorem dX7_step_123 : decode cX7_step 123 = .ok (.istore 5, 2) := by decide +kernel
theorem dX7_step_125 : decode cX7_step 125 = .ok (.iload 5, 2) := by decide +kernel
theorem dX7_step_127 : decode cX7_step 127 = .ok (.iconst 4, 1) := by decide +kernel
theorem dX7_step_128 : decode cX7_step 128 = .ok (.if_icmp .ge 92, 3) := by decide +kernel
theorem dX7_step_131 : decode cX7_step 131 = .ok (.aload_n 0, 1) := by decide +kernel
theorem dX7_step_132 : decode cX7_step 132 = .ok (.iload 4, 2) := by decide +kernel
theorem dX7_step_134 : decode cX7_step 134 = .ok (.iload_n 3, 1) := by decide +kernel
theorem dX7_step_135 : decode cX7_step 135 = .ok (.iload 5, 2) := by decide +kernel
theorem dX7_step_137 : decode cX7_step 137 = .ok (.invokevirtual 230, 3) := by decide +kernel
theorem dX7_step_140 : decode cX7_step 140 = .ok (.ifCond .eq 74, 3) := by decide +kernel
theorem dX7_step_143 : decode cX7_step 143 = .ok (.iload 5, 2) := by decide +kernel
theorem dX7_step_145 : decode cX7_step 145 = .ok (.ifCond .eq 9, 3) := by decide +kernel
theorem dX7_step_148 : decode cX7_step 148 = .ok (.iload 5, 2) := by decide +kernel
theorem dX7_step_150 : decode cX7_step 150 = .ok (.iconst 2, 1) := by decide +kernel
theorem dX7_step_151 : decode cX7_step 151 = .ok (.if_icmp .ne 7, 3) := by decide +kernel
theorem dX7_step_154 : decode cX7_step 154 = .ok (.iconst 1, 1) := by decide +kernel
theorem dX7_step_155 : decode cX7_step 155 = .ok (.goto 4, 3) := by decide +kernel
theorem dX7_step_158 : decode cX7_step 158 = .ok (.iconst 0, 1) := by decide +kernel
theorem dX7_step_159 : decode cX7_step 159 = .ok (.istore 6, 2) := by decide +kernel
theorem dX7_step_161 : decode cX7_step 161 = .ok (.aload_n 0, 1) := by decide +kernel
theorem dX7_step_162 : decode cX7_step 162 = .ok (.iload 4, 2) := by decide +kernel
theorem dX7_step_164 : decode cX7_step 164 = .ok (.iload_n 3, 1) := by decide +kernel
theorem dX7_step_165 : decode cX7_step 165 = .ok (.iload 5, 2) := by decide +kernel
theorem dX7_step_167 : decode cX7_step 167 = .ok (.invokestatic 164, 3) := by decide +kernel
theorem dX7_step_170 : decode cX7_step 170 = .ok (.iload 5, 2) := by decide +kernel
theorem dX7_step_172 : decode cX7_step 172 = .ok (.iconst 2, 1) := by decide +kernel
theorem dX7_step_173 : decode cX7_step 173 = .ok (.idiv, 1) := by decide +kernel
theorem dX7_step_174 : decode cX7_step 174 = .ok (.iload 6, 2) := by decide +kernel
theorem dX7_step_176 : decode cX7_step 176 = .ok (.ifCond .eq 7, 3) := by decide +kernel
theorem dX7_step_179 : decode cX7_step 179 = .ok (.iconst (-1), 1) := by decide +kernel
theorem dX7_step_180 : decode cX7_step 180 = .ok (.goto 9, 3) := by decide +kernel
theorem dX7_step_183 : decode cX7_step 183 = .ok (.iload 4, 2) := by decide +kernel
theorem dX7_step_185 : decode cX7_step 185 = .ok (.iload_n 3, 1) := by decide +kernel
theorem dX7_step_186 : decode cX7_step 186 = .ok (.invokestatic 135, 3) := by decide +kernel
theorem dX7_step_189 : decode cX7_step 189 = .ok (.iload 6, 2) := by decide +kernel
theorem dX7_step_191 : decode cX7_step 191 = .ok (.ifCond .eq 12, 3) := by decide +kernel
theorem dX7_step_194 : decode cX7_step 194 = .ok (.iload 4, 2) := by decide +kernel
theorem dX7_step_196 : decode cX7_step 196 = .ok (.iload_n 3, 1) := by decide +kernel
theorem dX7_step_197 : decode cX7_step 197 = .ok (.invokestatic 135, 3) := by decide +kernel
theorem dX7_step_200 : decode cX7_step 200 = .ok (.goto 4, 3) := by decide +kernel
theorem dX7_step_203 : decode cX7_step 203 = .ok (.iconst (-1), 1) := by decide +kernel
theorem dX7_step_204 : decode cX7_step 204 = .ok (.aload_n 0, 1) := by decide +kernel
theorem dX7_step_205 : decode cX7_step 205 = .ok (.iload 5, 2) := by decide +kernel
theorem dX7_step_207 : decode cX7_step 207 = .ok (.invokevirtual 233, 3) := by decide +kernel
theorem dX7_step_210 : decode cX7_step 210 = .ok (.dload_n 1, 1) := by decide +kernel
theorem dX7_step_211 : decode cX7_step 211 = .ok (.invokevirtual 226, 3) := by decide +kernel
theorem dX7_step_214 : decode cX7_step 214 = .ok (.iinc 5 1, 3) := by decide +kernel
theorem dX7_step_217 : decode cX7_step 217 = .ok (.goto (-92), 3) := by decide +kernel
theorem dX7_step_220 : decode cX7_step 220 = .ok (.iinc 4 1, 3) := by decide +kernel
theorem dX7_step_223 : decode cX7_step 223 = .ok (.goto (-188), 3) := by decide +kernel
theorem dX7_step_226 : decode cX7_step 226 = .ok (.iinc 3 1, 3) := by decide +kernel
theorem dX7_step_229 : decode cX7_step 229 = .ok (.goto (-205), 3) := by decide +kernel
theorem dX7_step_232 : decode cX7_step 232 = .ok (.iconst 0, 1) := by decide +kernel
theorem dX7_step_233 : decode cX7_step 233 = .ok (.istore_n 3, 1) := by decide +kernel
theorem dX7_step_234 : decode cX7_step 234 = .ok (.iload_n 3, 1) := by decide +kernel
theorem dX7_step_235 : decode cX7_step 235 = .ok (.sipush 144, 3) := by decide +kernel
theorem dX7_step_238 : decode cX7_step 238 = .ok (.if_icmp .ge 45, 3) := by decide +kernel
theorem dX7_step_241 : decode cX7_step 241 = .ok (.aload_n 0, 1) := by decide +kernel
theorem dX7_step_242 : decode cX7_step 242 = .ok (.getfield 39, 3) := by decide +kernel
theorem dX7_step_245 : decode cX7_step 245 = .ok (.iload_n 3, 1) := by decide +kernel
theorem dX7_step_246 : decode cX7_step 246 = .ok (.aload_n 0, 1) := by decide +kernel
theorem dX7_step_247 : decode cX7_step 247 = .ok (.getfield 20, 3) := by decide +kernel
theorem dX7_step_250 : decode cX7_step 250 = .ok (.iload_n 3, 1) := by decide +kernel
theorem dX7_step_251 : decode cX7_step 251 = .ok (.laload, 1) := by decide +kernel
theorem dX7_step_252 : decode cX7_step 252 = .ok (.lastore, 1) := by decide +kernel
theorem dX7_step_253 : decode cX7_step 253 = .ok (.aload_n 0, 1) := by decide +kernel
theorem dX7_step_254 : decode cX7_step 254 = .ok (.getfield 42, 3) := by decide +kernel
theorem dX7_step_257 : decode cX7_step 257 = .ok (.iload_n 3, 1) := by decide +kernel
theorem dX7_step_258 : decode cX7_step 258 = .ok (.aload_n 0, 1) := by decide +kernel
theorem dX7_step_259 : decode cX7_step 259 = .ok (.getfield 24, 3) := by decide +kernel
theorem dX7_step_262 : decode cX7_step 262 = .ok (.iload_n 3, 1) := by decide +kernel
theorem dX7_step_263 : decode cX7_step 263 = .ok (.daload, 1) := by decide +kernel
theorem dX7_step_264 : decode cX7_step 264 = .ok (.dastore, 1) := by decide +kernel
theorem dX7_step_265 : decode cX7_step 265 = .ok (.aload_n 0, 1) := by decide +kernel
theorem dX7_step_266 : decode cX7_step 266 = .ok (.getfield 45, 3) := by decide +kernel
theorem dX7_step_269 : decode cX7_step 269 = .ok (.iload_n 3, 1) := by decide +kernel
theorem dX7_step_270 : decode cX7_step 270 = .ok (.aload_n 0, 1) := by decide +kernel
theorem dX7_step_271 : decode cX7_step 271 = .ok (.getfield 27, 3) := by decide +kernel
theorem dX7_step_274 : decode cX7_step 274 = .ok (.iload_n 3, 1) := by decide +kernel
theorem dX7_step_275 : decode cX7_step 275 = .ok (.daload, 1) := by decide +kernel
theorem dX7_step_276 : decode cX7_step 276 = .ok (.dastore, 1) := by decide +kernel
theorem dX7_step_277 : decode cX7_step 277 = .ok (.iinc 3 1, 3) := by decide +kernel
theorem dX7_step_280 : decode cX7_step 280 = .ok (.goto (-46), 3) := by decide +kernel
theorem dX7_step_283 : decode cX7_step 283 = .ok (.iconst 0, 1) := by decide +kernel
theorem dX7_step_284 : decode cX7_step 284 = .ok (.istore_n 3, 1) := by decide +kernel
theorem dX7_step_285 : decode cX7_step 285 = .ok (.iload_n 3, 1) := by decide +kernel
theorem dX7_step_286 : decode cX7_step 286 = .ok (.aload_n 0, 1) := by decide +kernel
theorem dX7_step_287 : decode cX7_step 287 = .ok (.getfield 125, 3) := by decide +kernel
theorem dX7_step_290 : decode cX7_step 290 = .ok (.if_icmp .ge 45, 3) := by decide +kernel
theorem dX7_step_293 : decode cX7_step 293 = .ok (.iconst 0, 1) := by decide +kernel
theorem dX7_step_294 : decode cX7_step 294 = .ok (.istore 4, 2) := by decide +kernel
theorem dX7_step_296 : decode cX7_step 296 = .ok (.iload 4, 2) := by decide +kernel
theorem dX7_step_298 : decode cX7_step 298 = .ok (.aload_n 0, 1) := by decide +kernel
theorem dX7_step_299 : decode cX7_step 299 = .ok (.getfield 121, 3) := by decide +kernel
theorem dX7_step_302 : decode cX7_step 302 = .ok (.if_icmp .ge 27, 3) := by decide +kernel
theorem dX7_step_305 : decode cX7_step 305 = .ok (.aload_n 0, 1) := by decide +kernel
theorem dX7_step_306 : decode cX7_step 306 = .ok (.iload 4, 2) := by decide +kernel
theorem dX7_step_308 : decode cX7_step 308 = .ok (.iload_n 3, 1) := by decide +kernel
theorem dX7_step_309 : decode cX7_step 309 = .ok (.invokevirtual 139, 3) := by decide +kernel
theorem dX7_step_312 : decode cX7_step 312 = .ok (.ifCond .eq 11, 3) := by decide +kernel
theorem dX7_step_315 : decode cX7_step 315 = .ok (.aload_n 0, 1) := by decide +kernel
theorem dX7_step_316 : decode cX7_step 316 = .ok (.iload 4, 2) := by decide +kernel
theorem dX7_step_318 : decode cX7_step 318 = .ok (.iload_n 3, 1) := by decide +kernel
theorem dX7_step_319 : decode cX7_step 319 = .ok (.dload_n 1, 1) := by decide +kernel
theorem dX7_step_320 : decode cX7_step 320 = .ok (.invokevirtual 236, 3) := by decide +kernel
theorem dX7_step_323 : decode cX7_step 323 = .ok (.iinc 4 1, 3) := by decide +kernel
theorem dX7_step_326 : decode cX7_step 326 = .ok (.goto (-30), 3) := by decide +kernel
theorem dX7_step_329 : decode cX7_step 329 = .ok (.iinc 3 1, 3) := by decide +kernel
theorem dX7_step_332 : decode cX7_step 332 = .ok (.goto (-47), 3) := by decide +kernel
theorem dX7_step_335 : decode cX7_step 335 = .ok (.aload_n 0, 1) := by decide +kernel
theorem dX7_step_336 : decode cX7_step 336 = .ok (.aload_n 0, 1) := by decide +kernel
theorem dX7_step_337 : decode cX7_step 337 = .ok (.getfield 186, 3) := by decide +kernel
theorem dX7_step_340 : decode cX7_step 340 = .ok (.dload_n 1, 1) := by decide +kernel
theorem dX7_step_341 : decode cX7_step 341 = .ok (.dadd, 1) := by decide +kernel
theorem dX7_step_342 : decode cX7_step 342 = .ok (.putfield 186, 3) := by decide +kernel
theorem dX7_step_345 : decode cX7_step 345 = .ok (.return_, 1) := by decide +kernel
theorem dX7_pass_0 : decode cX7_pass 0 = .ok (.lload_n 3, 1) := by decide +kernel
theorem dX7_pass_1 : decode cX7_pass 1 = .ok (.lconst 0, 1) := by decide +kernel
theorem dX7_pass_2 : decode cX7_pass 2 = .ok (.lcmp, 1) := by decide +kernel
theorem dX7_pass_3 : decode cX7_pass 3 = .ok (.ifCond .le 68, 3) := by decide +kernel
theorem dX7_pass_6 : decode cX7_pass 6 = .ok (.aload_n 0, 1) := by decide +kernel
theorem dX7_pass_7 : decode cX7_pass 7 = .ok (.aload_n 0, 1) := by decide +kernel
theorem dX7_pass_8 : decode cX7_pass 8 = .ok (.getfield 240, 3) := by decide +kernel
theorem dX7_pass_11 : decode cX7_pass 11 = .ok (.lload_n 3, 1) := by decide +kernel
theorem dX7_pass_12 : decode cX7_pass 12 = .ok (.l2d, 1) := by decide +kernel
theorem dX7_pass_13 : decode cX7_pass 13 = .ok (.iload 5, 2) := by decide +kernel
theorem dX7_pass_15 : decode cX7_pass 15 = .ok (.iconst (-1), 1) := by decide +kernel
theorem dX7_pass_16 : decode cX7_pass 16 = .ok (.if_icmp .ne 9, 3) := by decide +kernel
theorem dX7_pass_19 : decode cX7_pass 19 = .ok (.ldc2_w 243, 3) := by decide +kernel
theorem dX7_pass_22 : decode cX7_pass 22 = .ok (.goto 10, 3) := by decide +kernel
theorem dX7_pass_25 : decode cX7_pass 25 = .ok (.aload_n 0, 1) := by decide +kernel
theorem dX7_pass_26 : decode cX7_pass 26 = .ok (.getfield 42, 3) := by decide +kernel
theorem dX7_pass_29 : decode cX7_pass 29 = .ok (.iload 5, 2) := by decide +kernel
theorem dX7_pass_31 : decode cX7_pass 31 = .ok (.daload, 1) := by decide +kernel
theorem dX7_pass_32 : decode cX7_pass 32 = .ok (.dmul, 1) := by decide +kernel
theorem dX7_pass_33 : decode cX7_pass 33 = .ok (.dadd, 1) := by decide +kernel
theorem dX7_pass_34 : decode cX7_pass 34 = .ok (.putfield 240, 3) := by decide +kernel
theorem dX7_pass_37 : decode cX7_pass 37 = .ok (.aload_n 0, 1) := by decide +kernel
theorem dX7_pass_38 : decode cX7_pass 38 = .ok (.aload_n 0, 1) := by decide +kernel
theorem dX7_pass_39 : decode cX7_pass 39 = .ok (.getfield 245, 3) := by decide +kernel
theorem dX7_pass_42 : decode cX7_pass 42 = .ok (.lload_n 3, 1) := by decide +kernel
theorem dX7_pass_43 : decode cX7_pass 43 = .ok (.l2d, 1) := by decide +kernel
theorem dX7_pass_44 : decode cX7_pass 44 = .ok (.iload 5, 2) := by decide +kernel
theorem dX7_pass_46 : decode cX7_pass 46 = .ok (.iconst (-1), 1) := by decide +kernel
theorem dX7_pass_47 : decode cX7_pass 47 = .ok (.if_icmp .ne 9, 3) := by decide +kernel
theorem dX7_pass_50 : decode cX7_pass 50 = .ok (.ldc2_w 248, 3) := by decide +kernel
theorem dX7_pass_53 : decode cX7_pass 53 = .ok (.goto 10, 3) := by decide +kernel
theorem dX7_pass_56 : decode cX7_pass 56 = .ok (.aload_n 0, 1) := by decide +kernel
theorem dX7_pass_57 : decode cX7_pass 57 = .ok (.getfield 45, 3) := by decide +kernel
theorem dX7_pass_60 : decode cX7_pass 60 = .ok (.iload 5, 2) := by decide +kernel
theorem dX7_pass_62 : decode cX7_pass 62 = .ok (.daload, 1) := by decide +kernel
theorem dX7_pass_63 : decode cX7_pass 63 = .ok (.dmul, 1) := by decide +kernel
theorem dX7_pass_64 : decode cX7_pass 64 = .ok (.dadd, 1) := by decide +kernel
theorem dX7_pass_65 : decode cX7_pass 65 = .ok (.putfield 245, 3) := by decide +kernel
theorem dX7_pass_68 : decode cX7_pass 68 = .ok (.goto 41, 3) := by decide +kernel
theorem dX7_pass_71 : decode cX7_pass 71 = .ok (.aload_n 0, 1) := by decide +kernel
theorem dX7_pass_72 : decode cX7_pass 72 = .ok (.aload_n 0, 1) := by decide +kernel
theorem dX7_pass_73 : decode cX7_pass 73 = .ok (.getfield 240, 3) := by decide +kernel
theorem dX7_pass_76 : decode cX7_pass 76 = .ok (.lload_n 3, 1) := by decide +kernel
theorem dX7_pass_77 : decode cX7_pass 77 = .ok (.lneg, 1) := by decide +kernel
theorem dX7_pass_78 : decode cX7_pass 78 = .ok (.l2d, 1) := by decide +kernel
theorem dX7_pass_79 : decode cX7_pass 79 = .ok (.aload_n 0, 1) := by decide +kernel
theorem dX7_pass_80 : decode cX7_pass 80 = .ok (.getfield 42, 3) := by decide +kernel
theorem dX7_pass_83 : decode cX7_pass 83 = .ok (.iload_n 1, 1) := by decide +kernel
theorem dX7_pass_84 : decode cX7_pass 84 = .ok (.daload, 1) := by decide +kernel
theorem dX7_pass_85 : decode cX7_pass 85 = .ok (.dmul, 1) := by decide +kernel
theorem dX7_pass_86 : decode cX7_pass 86 = .ok (.dsub, 1) := by decide +kernel
theorem dX7_pass_87 : decode cX7_pass 87 = .ok (.putfield 240, 3) := by decide +kernel
theorem dX7_pass_90 : decode cX7_pass 90 = .ok (.aload_n 0, 1) := by decide +kernel
theorem dX7_pass_91 : decode cX7_pass 91 = .ok (.aload_n 0, 1) := by decide +kernel
theorem dX7_pass_92 : decode cX7_pass 92 = .ok (.getfield 245, 3) := by decide +kernel
theorem dX7_pass_95 : decode cX7_pass 95 = .ok (.lload_n 3, 1) := by decide +kernel
theorem dX7_pass_96 : decode cX7_pass 96 = .ok (.lneg, 1) := by decide +kernel
theorem dX7_pass_97 : decode cX7_pass 97 = .ok (.l2d, 1) := by decide +kernel
theorem dX7_pass_98 : decode cX7_pass 98 = .ok (.aload_n 0, 1) := by decide +kernel
theorem dX7_pass_99 : decode cX7_pass 99 = .ok (.getfield 45, 3) := by decide +kernel
theorem dX7_pass_102 : decode cX7_pass 102 = .ok (.iload_n 1, 1) := by decide +kernel
theorem dX7_pass_103 : decode cX7_pass 103 = .ok (.daload, 1) := by decide +kernel
theorem dX7_pass_104 : decode cX7_pass 104 = .ok (.dmul, 1) := by decide +kernel
theorem dX7_pass_105 : decode cX7_pass 105 = .ok (.dsub, 1) := by decide +kernel
theorem dX7_pass_106 : decode cX7_pass 106 = .ok (.putfield 245, 3) := by decide +kernel
theorem dX7_pass_109 : decode cX7_pass 109 = .ok (.aload_n 0, 1) := by decide +kernel
theorem dX7_pass_110 : decode cX7_pass 110 = .ok (.getfield 20, 3) := by decide +kernel
theorem dX7_pass_113 : decode cX7_pass 113 = .ok (.iload_n 1, 1) := by decide +kernel
theorem dX7_pass_114 : decode cX7_pass 114 = .ok (.dup2, 1) := by decide +kernel
theorem dX7_pass_115 : decode cX7_pass 115 = .ok (.laload, 1) := by decide +kernel
theorem dX7_pass_116 : decode cX7_pass 116 = .ok (.lload_n 3, 1) := by decide +kernel
theorem dX7_pass_117 : decode cX7_pass 117 = .ok (.ladd, 1) := by decide +kernel
theorem dX7_pass_118 : decode cX7_pass 118 = .ok (.lastore, 1) := by decide +kernel
theorem dX7_pass_119 : decode cX7_pass 119 = .ok (.aload_n 0, 1) := by decide +kernel
theorem dX7_pass_120 : decode cX7_pass 120 = .ok (.aload_n 0, 1) := by decide +kernel
theorem dX7_pass_121 : decode cX7_pass 121 = .ok (.getfield 250, 3) := by decide +kernel
theorem dX7_pass_124 : decode cX7_pass 124 = .ok (.aload_n 0, 1) := by decide +kernel
theorem dX7_pass_125 : decode cX7_pass 125 = .ok (.getfield 33, 3) := by decide +kernel
theorem dX7_pass_128 : decode cX7_pass 128 = .ok (.iload_n 2, 1) := by decide +kernel
theorem dX7_pass_129 : decode cX7_pass 129 = .ok (.daload, 1) := by decide +kernel
theorem dX7_pass_130 : decode cX7_pass 130 = .ok (.invokestatic 210, 3) := by decide +kernel
theorem dX7_pass_133 : decode cX7_pass 133 = .ok (.invokestatic 253, 3) := by decide +kernel
theorem dX7_pass_136 : decode cX7_pass 136 = .ok (.putfield 250, 3) := by decide +kernel
theorem dX7_pass_139 : decode cX7_pass 139 = .ok (.return_, 1) := by decide +kernel
theorem dX7_change_0 : decode cX7_change 0 = .ok (.iload_n 1, 1) := by decide +kernel
theorem dX7_change_1 : decode cX7_change 1 = .ok (.iload_n 2, 1) := by decide +kernel
theorem dX7_change_2 : decode cX7_change 2 = .ok (.invokestatic 135, 3) := by decide +kernel
theorem dX7_change_5 : decode cX7_change 5 = .ok (.istore 5, 2) := by decide +kernel
theorem dX7_change_7 : decode cX7_change 7 = .ok (.aload_n 0, 1) := by decide +kernel
theorem dX7_change_8 : decode cX7_change 8 = .ok (.aload_n 0, 1) := by decide +kernel
theorem dX7_change_9 : decode cX7_change 9 = .ok (.getfield 42, 3) := by decide +kernel
theorem dX7_change_12 : decode cX7_change 12 = .ok (.iload 5, 2) := by decide +kernel
theorem dX7_change_14 : decode cX7_change 14 = .ok (.daload, 1) := by decide +kernel
theorem dX7_change_15 : decode cX7_change 15 = .ok (.aload_n 0, 1) := by decide +kernel
theorem dX7_change_16 : decode cX7_change 16 = .ok (.getfield 39, 3) := by decide +kernel
theorem dX7_change_19 : decode cX7_change 19 = .ok (.iload 5, 2) := by decide +kernel
theorem dX7_change_21 : decode cX7_change 21 = .ok (.laload, 1) := by decide +kernel
theorem dX7_change_22 : decode cX7_change 22 = .ok (.l2d, 1) := by decide +kernel
theorem dX7_change_23 : decode cX7_change 23 = .ok (.dmul, 1) := by decide +kernel
theorem dX7_change_24 : decode cX7_change 24 = .ok (.putfield 240, 3) := by decide +kernel
theorem dX7_change_27 : decode cX7_change 27 = .ok (.aload_n 0, 1) := by decide +kernel
theorem dX7_change_28 : decode cX7_change 28 = .ok (.aload_n 0, 1) := by decide +kernel
theorem dX7_change_29 : decode cX7_change 29 = .ok (.getfield 45, 3) := by decide +kernel
theorem dX7_change_32 : decode cX7_change 32 = .ok (.iload 5, 2) := by decide +kernel
theorem dX7_change_34 : decode cX7_change 34 = .ok (.daload, 1) := by decide +kernel
theorem dX7_change_35 : decode cX7_change 35 = .ok (.aload_n 0, 1) := by decide +kernel
theorem dX7_change_36 : decode cX7_change 36 = .ok (.getfield 39, 3) := by decide +kernel
theorem dX7_change_39 : decode cX7_change 39 = .ok (.iload 5, 2) := by decide +kernel
theorem dX7_change_41 : decode cX7_change 41 = .ok (.laload, 1) := by decide +kernel
theorem dX7_change_42 : decode cX7_change 42 = .ok (.l2d, 1) := by decide +kernel
theorem dX7_change_43 : decode cX7_change 43 = .ok (.dmul, 1) := by decide +kernel
theorem dX7_change_44 : decode cX7_change 44 = .ok (.putfield 245, 3) := by decide +kernel
theorem dX7_change_47 : decode cX7_change 47 = .ok (.aload_n 0, 1) := by decide +kernel
theorem dX7_change_48 : decode cX7_change 48 = .ok (.dconst 0, 1) := by decide +kernel
theorem dX7_change_49 : decode cX7_change 49 = .ok (.putfield 250, 3) := by decide +kernel
theorem dX7_change_52 : decode cX7_change 52 = .ok (.iload_n 1, 1) := by decide +kernel
theorem dX7_change_53 : decode cX7_change 53 = .ok (.ifCond .le 47, 3) := by decide +kernel
theorem dX7_change_56 : decode cX7_change 56 = .ok (.aload_n 0, 1) := by decide +kernel
theorem dX7_change_57 : decode cX7_change 57 = .ok (.iload_n 1, 1) := by decide +kernel
theorem dX7_change_58 : decode cX7_change 58 = .ok (.iconst 1, 1) := by decide +kernel
theorem dX7_change_59 : decode cX7_change 59 = .ok (.isub, 1) := by decide +kernel
theorem dX7_change_60 : decode cX7_change 60 = .ok (.iload_n 2, 1) := by decide +kernel
theorem dX7_change_61 : decode cX7_change 61 = .ok (.iconst 0, 1) := by decide +kernel
theorem dX7_change_62 : decode cX7_change 62 = .ok (.invokevirtual 223, 3) := by decide +kernel
theorem dX7_change_65 : decode cX7_change 65 = .ok (.ifCond .eq 35, 3) := by decide +kernel
theorem dX7_change_68 : decode cX7_change 68 = .ok (.aload_n 0, 1) := by decide +kernel
theorem dX7_change_69 : decode cX7_change 69 = .ok (.iload 5, 2) := by decide +kernel
theorem dX7_change_71 : decode cX7_change 71 = .ok (.iload_n 1, 1) := by decide +kernel
theorem dX7_change_72 : decode cX7_change 72 = .ok (.iconst 1, 1) := by decide +kernel
theorem dX7_change_73 : decode cX7_change 73 = .ok (.isub, 1) := by decide +kernel
theorem dX7_change_74 : decode cX7_change 74 = .ok (.iload_n 2, 1) := by decide +kernel
theorem dX7_change_75 : decode cX7_change 75 = .ok (.invokestatic 135, 3) := by decide +kernel
theorem dX7_change_78 : decode cX7_change 78 = .ok (.aload_n 0, 1) := by decide +kernel
theorem dX7_change_79 : decode cX7_change 79 = .ok (.getfield 48, 3) := by decide +kernel
theorem dX7_change_82 : decode cX7_change 82 = .ok (.iload_n 1, 1) := by decide +kernel
theorem dX7_change_83 : decode cX7_change 83 = .ok (.iconst 1, 1) := by decide +kernel
theorem dX7_change_84 : decode cX7_change 84 = .ok (.isub, 1) := by decide +kernel
theorem dX7_change_85 : decode cX7_change 85 = .ok (.iload_n 2, 1) := by decide +kernel
theorem dX7_change_86 : decode cX7_change 86 = .ok (.invokestatic 135, 3) := by decide +kernel
theorem dX7_change_89 : decode cX7_change 89 = .ok (.laload, 1) := by decide +kernel
theorem dX7_change_90 : decode cX7_change 90 = .ok (.iload_n 1, 1) := by decide +kernel
theorem dX7_change_91 : decode cX7_change 91 = .ok (.iconst 1, 1) := by decide +kernel
theorem dX7_change_92 : decode cX7_change 92 = .ok (.isub, 1) := by decide +kernel
theorem dX7_change_93 : decode cX7_change 93 = .ok (.iload_n 2, 1) := by decide +kernel
theorem dX7_change_94 : decode cX7_change 94 = .ok (.invokestatic 135, 3) := by decide +kernel
theorem dX7_change_97 : decode cX7_change 97 = .ok (.invokevirtual 257, 3) := by decide +kernel
theorem dX7_change_100 : decode cX7_change 100 = .ok (.aload_n 0, 1) := by decide +kernel
theorem dX7_change_101 : decode cX7_change 101 = .ok (.iload_n 1, 1) := by decide +kernel
theorem dX7_change_102 : decode cX7_change 102 = .ok (.iload_n 2, 1) := by decide +kernel
theorem dX7_change_103 : decode cX7_change 103 = .ok (.iconst 0, 1) := by decide +kernel
theorem dX7_change_104 : decode cX7_change 104 = .ok (.invokevirtual 223, 3) := by decide +kernel
theorem dX7_change_107 : decode cX7_change 107 = .ok (.ifCond .eq 26, 3) := by decide +kernel
theorem dX7_change_110 : decode cX7_change 110 = .ok (.aload_n 0, 1) := by decide +kernel
theorem dX7_change_111 : decode cX7_change 111 = .ok (.iload 5, 2) := by decide +kernel
theorem dX7_change_113 : decode cX7_change 113 = .ok (.iload 5, 2) := by decide +kernel
theorem dX7_change_115 : decode cX7_change 115 = .ok (.aload_n 0, 1) := by decide +kernel
theorem dX7_change_116 : decode cX7_change 116 = .ok (.getfield 48, 3) := by decide +kernel
theorem dX7_change_119 : decode cX7_change 119 = .ok (.iload 5, 2) := by decide +kernel
theorem dX7_change_121 : decode cX7_change 121 = .ok (.laload, 1) := by decide +kernel
theorem dX7_change_122 : decode cX7_change 122 = .ok (.lneg, 1) := by decide +kernel
theorem dX7_change_123 : decode cX7_change 123 = .ok (.iload_n 1, 1) := by decide +kernel
theorem dX7_change_124 : decode cX7_change 124 = .ok (.iconst 1, 1) := by decide +kernel
theorem dX7_change_125 : decode cX7_change 125 = .ok (.iadd, 1) := by decide +kernel
theorem dX7_change_126 : decode cX7_change 126 = .ok (.iload_n 2, 1) := by decide +kernel
theorem dX7_change_127 : decode cX7_change 127 = .ok (.invokestatic 135, 3) := by decide +kernel
theorem dX7_change_130 : decode cX7_change 130 = .ok (.invokevirtual 257, 3) := by decide +kernel
theorem dX7_change_133 : decode cX7_change 133 = .ok (.iload_n 2, 1) := by decide +kernel
theorem dX7_change_134 : decode cX7_change 134 = .ok (.ifCond .le 55, 3) := by decide +kernel
theorem dX7_change_137 : decode cX7_change 137 = .ok (.aload_n 0, 1) := by decide +kernel
theorem dX7_change_138 : decode cX7_change 138 = .ok (.iload_n 1, 1) := by decide +kernel
theorem dX7_change_139 : decode cX7_change 139 = .ok (.iload_n 2, 1) := by decide +kernel
theorem dX7_change_140 : decode cX7_change 140 = .ok (.iconst 1, 1) := by decide +kernel
theorem dX7_change_141 : decode cX7_change 141 = .ok (.isub, 1) := by decide +kernel
theorem dX7_change_142 : decode cX7_change 142 = .ok (.iconst 1, 1) := by decide +kernel
theorem dX7_change_143 : decode cX7_change 143 = .ok (.invokevirtual 223, 3) := by decide +kernel
theorem dX7_change_146 : decode cX7_change 146 = .ok (.ifCond .eq 43, 3) := by decide +kernel
theorem dX7_change_149 : decode cX7_change 149 = .ok (.aload_n 0, 1) := by decide +kernel
theorem dX7_change_150 : decode cX7_change 150 = .ok (.iload 5, 2) := by decide +kernel
theorem dX7_change_152 : decode cX7_change 152 = .ok (.sipush 144, 3) := by decide +kernel
theorem dX7_change_155 : decode cX7_change 155 = .ok (.iload_n 1, 1) := by decide +kernel
theorem dX7_change_156 : decode cX7_change 156 = .ok (.iload_n 2, 1) := by decide +kernel
theorem dX7_change_157 : decode cX7_change 157 = .ok (.iconst 1, 1) := by decide +kernel
theorem dX7_change_158 : decode cX7_change 158 = .ok (.isub, 1) := by decide +kernel
theorem dX7_change_159 : decode cX7_change 159 = .ok (.invokestatic 135, 3) := by decide +kernel
theorem dX7_change_162 : decode cX7_change 162 = .ok (.iadd, 1) := by decide +kernel
theorem dX7_change_163 : decode cX7_change 163 = .ok (.aload_n 0, 1) := by decide +kernel
theorem dX7_change_164 : decode cX7_change 164 = .ok (.getfield 48, 3) := by decide +kernel
theorem dX7_change_167 : decode cX7_change 167 = .ok (.sipush 144, 3) := by decide +kernel
theorem dX7_change_170 : decode cX7_change 170 = .ok (.iload_n 1, 1) := by decide +kernel
theorem dX7_change_171 : decode cX7_change 171 = .ok (.iload_n 2, 1) := by decide +kernel
theorem dX7_change_172 : decode cX7_change 172 = .ok (.iconst 1, 1) := by decide +kernel
theorem dX7_change_173 : decode cX7_change 173 = .ok (.isub, 1) := by decide +kernel
theorem dX7_change_174 : decode cX7_change 174 = .ok (.invokestatic 135, 3) := by decide +kernel
theorem dX7_change_177 : decode cX7_change 177 = .ok (.iadd, 1) := by decide +kernel
theorem dX7_change_178 : decode cX7_change 178 = .ok (.laload, 1) := by decide +kernel
theorem dX7_change_179 : decode cX7_change 179 = .ok (.iload_n 1, 1) := by decide +kernel
theorem dX7_change_180 : decode cX7_change 180 = .ok (.iload_n 2, 1) := by decide +kernel
theorem dX7_change_181 : decode cX7_change 181 = .ok (.iconst 1, 1) := by decide +kernel
theorem dX7_change_182 : decode cX7_change 182 = .ok (.isub, 1) := by decide +kernel
theorem dX7_change_183 : decode cX7_change 183 = .ok (.invokestatic 135, 3) := by decide +kernel
theorem dX7_change_186 : decode cX7_change 186 = .ok (.invokevirtual 257, 3) := by decide +kernel
theorem dX7_change_189 : decode cX7_change 189 = .ok (.aload_n 0, 1) := by decide +kernel
theorem dX7_change_190 : decode cX7_change 190 = .ok (.iload_n 1, 1) := by decide +kernel
theorem dX7_change_191 : decode cX7_change 191 = .ok (.iload_n 2, 1) := by decide +kernel
theorem dX7_change_192 : decode cX7_change 192 = .ok (.iconst 1, 1) := by decide +kernel
theorem dX7_change_193 : decode cX7_change 193 = .ok (.invokevirtual 223, 3) := by decide +kernel
theorem dX7_change_196 : decode cX7_change 196 = .ok (.ifCond .eq 34, 3) := by decide +kernel
theorem dX7_change_199 : decode cX7_change 199 = .ok (.aload_n 0, 1) := by decide +kernel
theorem dX7_change_200 : decode cX7_change 200 = .ok (.iload 5, 2) := by decide +kernel
theorem dX7_change_202 : decode cX7_change 202 = .ok (.sipush 144, 3) := by decide +kernel
theorem dX7_change_205 : decode cX7_change 205 = .ok (.iload 5, 2) := by decide +kernel
theorem dX7_change_207 : decode cX7_change 207 = .ok (.iadd, 1) := by decide +kernel
theorem dX7_change_208 : decode cX7_change 208 = .ok (.aload_n 0, 1) := by decide +kernel
theorem dX7_change_209 : decode cX7_change 209 = .ok (.getfield 48, 3) := by decide +kernel
theorem dX7_change_212 : decode cX7_change 212 = .ok (.sipush 144, 3) := by decide +kernel
theorem dX7_change_215 : decode cX7_change 215 = .ok (.iload 5, 2) := by decide +kernel
theorem dX7_change_217 : decode cX7_change 217 = .ok (.iadd, 1) := by decide +kernel
theorem dX7_change_218 : decode cX7_change 218 = .ok (.laload, 1) := by decide +kernel
theorem dX7_change_219 : decode cX7_change 219 = .ok (.lneg, 1) := by decide +kernel
theorem dX7_change_220 : decode cX7_change 220 = .ok (.iload_n 1, 1) := by decide +kernel
theorem dX7_change_221 : decode cX7_change 221 = .ok (.iload_n 2, 1) := by decide +kernel
theorem dX7_change_222 : decode cX7_change 222 = .ok (.iconst 1, 1) := by decide +kernel
theorem dX7_change_223 : decode cX7_change 223 = .ok (.iadd, 1) := by decide +kernel
theorem dX7_change_224 : decode cX7_change 224 = .ok (.invokestatic 135, 3) := by decide +kernel
theorem dX7_change_227 : decode cX7_change 227 = .ok (.invokevirtual 257, 3) := by decide +kernel
theorem dX7_change_230 : decode cX7_change 230 = .ok (.iconst 0, 1) := by decide +kernel
theorem dX7_change_231 : decode cX7_change 231 = .ok (.istore 6, 2) := by decide +kernel
theorem dX7_change_233 : decode cX7_change 233 = .ok (.iload 6, 2) := by decide +kernel
theorem dX7_change_235 : decode cX7_change 235 = .ok (.iconst 4, 1) := by decide +kernel
theorem dX7_change_236 : decode cX7_change 236 = .ok (.if_icmp .ge 83, 3) := by decide +kernel
theorem dX7_change_239 : decode cX7_change 239 = .ok (.aload_n 0, 1) := by decide +kernel
theorem dX7_change_240 : decode cX7_change 240 = .ok (.iload_n 1, 1) := by decide +kernel
theorem dX7_change_241 : decode cX7_change 241 = .ok (.iload_n 2, 1) := by decide +kernel
theorem dX7_change_242 : decode cX7_change 242 = .ok (.iload 6, 2) := by decide +kernel
theorem dX7_change_244 : decode cX7_change 244 = .ok (.invokevirtual 230, 3) := by decide +kernel
theorem dX7_change_247 : decode cX7_change 247 = .ok (.ifCond .eq 66, 3) := by decide +kernel
theorem dX7_change_250 : decode cX7_change 250 = .ok (.iload_n 1, 1) := by decide +kernel
theorem dX7_change_251 : decode cX7_change 251 = .ok (.iload_n 2, 1) := by decide +kernel
theorem dX7_change_252 : decode cX7_change 252 = .ok (.iload 6, 2) := by decide +kernel
theorem dX7_change_254 : decode cX7_change 254 = .ok (.invokestatic 164, 3) := by decide +kernel
theorem dX7_change_257 : decode cX7_change 257 = .ok (.istore 7, 2) := by decide +kernel
theorem dX7_change_259 : decode cX7_change 259 = .ok (.iload 6, 2) := by decide +kernel
theorem dX7_change_261 : decode cX7_change 261 = .ok (.ifCond .eq 9, 3) := by decide +kernel
theorem dX7_change_264 : decode cX7_change 264 = .ok (.iload 6, 2) := by decide +kernel
theorem dX7_change_266 : decode cX7_change 266 = .ok (.iconst 2, 1) := by decide +kernel
theorem dX7_change_267 : decode cX7_change 267 = .ok (.if_icmp .ne 13, 3) := by decide +kernel
theorem dX7_change_270 : decode cX7_change 270 = .ok (.aload_n 0, 1) := by decide +kernel
theorem dX7_change_271 : decode cX7_change 271 = .ok (.getfield 48, 3) := by decide +kernel
theorem dX7_change_274 : decode cX7_change 274 = .ok (.iload 7, 2) := by decide +kernel
theorem dX7_change_276 : decode cX7_change 276 = .ok (.laload, 1) := by decide +kernel
theorem dX7_change_277 : decode cX7_change 277 = .ok (.goto 11, 3) := by decide +kernel
theorem dX7_change_280 : decode cX7_change 280 = .ok (.aload_n 0, 1) := by decide +kernel
theorem dX7_change_281 : decode cX7_change 281 = .ok (.getfield 48, 3) := by decide +kernel
theorem dX7_change_284 : decode cX7_change 284 = .ok (.iload 7, 2) := by decide +kernel
theorem dX7_change_286 : decode cX7_change 286 = .ok (.laload, 1) := by decide +kernel
theorem dX7_change_287 : decode cX7_change 287 = .ok (.lneg, 1) := by decide +kernel
theorem dX7_change_288 : decode cX7_change 288 = .ok (.lstore 8, 2) := by decide +kernel
theorem dX7_change_290 : decode cX7_change 290 = .ok (.aload_n 0, 1) := by decide +kernel
theorem dX7_change_291 : decode cX7_change 291 = .ok (.iload 5, 2) := by decide +kernel
theorem dX7_change_293 : decode cX7_change 293 = .ok (.iload 7, 2) := by decide +kernel
theorem dX7_change_295 : decode cX7_change 295 = .ok (.lload 8, 2) := by decide +kernel
theorem dX7_change_297 : decode cX7_change 297 = .ok (.iconst (-1), 1) := by decide +kernel
theorem dX7_change_298 : decode cX7_change 298 = .ok (.invokevirtual 257, 3) := by decide +kernel
theorem dX7_change_301 : decode cX7_change 301 = .ok (.aload_n 0, 1) := by decide +kernel
theorem dX7_change_302 : decode cX7_change 302 = .ok (.getfield 36, 3) := by decide +kernel
theorem dX7_change_305 : decode cX7_change 305 = .ok (.iload 6, 2) := by decide +kernel
theorem dX7_change_307 : decode cX7_change 307 = .ok (.dup2, 1) := by decide +kernel
theorem dX7_change_308 : decode cX7_change 308 = .ok (.laload, 1) := by decide +kernel
theorem dX7_change_309 : decode cX7_change 309 = .ok (.lload 8, 2) := by decide +kernel
theorem dX7_change_311 : decode cX7_change 311 = .ok (.ladd, 1) := by decide +kernel
theorem dX7_change_312 : decode cX7_change 312 = .ok (.lastore, 1) := by decide +kernel
theorem dX7_change_313 : decode cX7_change 313 = .ok (.iinc 6 1, 3) := by decide +kernel
theorem dX7_change_316 : decode cX7_change 316 = .ok (.goto (-83), 3) := by decide +kernel
theorem dX7_change_319 : decode cX7_change 319 = .ok (.aload_n 0, 1) := by decide +kernel
theorem dX7_change_320 : decode cX7_change 320 = .ok (.getfield 17, 3) := by decide +kernel
theorem dX7_change_323 : decode cX7_change 323 = .ok (.iload 5, 2) := by decide +kernel
theorem dX7_change_325 : decode cX7_change 325 = .ok (.daload, 1) := by decide +kernel
theorem dX7_change_326 : decode cX7_change 326 = .ok (.dload_n 3, 1) := by decide +kernel
theorem dX7_change_327 : decode cX7_change 327 = .ok (.dmul, 1) := by decide +kernel
theorem dX7_change_328 : decode cX7_change 328 = .ok (.d2l, 1) := by decide +kernel
theorem dX7_change_329 : decode cX7_change 329 = .ok (.lstore 6, 2) := by decide +kernel
theorem dX7_change_331 : decode cX7_change 331 = .ok (.aload_n 0, 1) := by decide +kernel
theorem dX7_change_332 : decode cX7_change 332 = .ok (.getfield 20, 3) := by decide +kernel
theorem dX7_change_335 : decode cX7_change 335 = .ok (.iload 5, 2) := by decide +kernel
theorem dX7_change_337 : decode cX7_change 337 = .ok (.dup2, 1) := by decide +kernel
theorem dX7_change_338 : decode cX7_change 338 = .ok (.laload, 1) := by decide +kernel
theorem dX7_change_339 : decode cX7_change 339 = .ok (.lload 6, 2) := by decide +kernel
theorem dX7_change_341 : decode cX7_change 341 = .ok (.ladd, 1) := by decide +kernel
theorem dX7_change_342 : decode cX7_change 342 = .ok (.lastore, 1) := by decide +kernel
theorem dX7_change_343 : decode cX7_change 343 = .ok (.aload_n 0, 1) := by decide +kernel
theorem dX7_change_344 : decode cX7_change 344 = .ok (.dup, 1) := by decide +kernel
theorem dX7_change_345 : decode cX7_change 345 = .ok (.getfield 261, 3) := by decide +kernel
theorem dX7_change_348 : decode cX7_change 348 = .ok (.lload 6, 2) := by decide +kernel
theorem dX7_change_350 : decode cX7_change 350 = .ok (.ladd, 1) := by decide +kernel
theorem dX7_change_351 : decode cX7_change 351 = .ok (.putfield 261, 3) := by decide +kernel
theorem dX7_change_354 : decode cX7_change 354 = .ok (.aload_n 0, 1) := by decide +kernel
theorem dX7_change_355 : decode cX7_change 355 = .ok (.aload_n 0, 1) := by decide +kernel
theorem dX7_change_356 : decode cX7_change 356 = .ok (.getfield 240, 3) := by decide +kernel
theorem dX7_change_359 : decode cX7_change 359 = .ok (.lload 6, 2) := by decide +kernel
theorem dX7_change_361 : decode cX7_change 361 = .ok (.l2d, 1) := by decide +kernel
theorem dX7_change_362 : decode cX7_change 362 = .ok (.ldc2_w 264, 3) := by decide +kernel
theorem dX7_change_365 : decode cX7_change 365 = .ok (.dmul, 1) := by decide +kernel
theorem dX7_change_366 : decode cX7_change 366 = .ok (.dadd, 1) := by decide +kernel
theorem dX7_change_367 : decode cX7_change 367 = .ok (.putfield 240, 3) := by decide +kernel
theorem dX7_change_370 : decode cX7_change 370 = .ok (.aload_n 0, 1) := by decide +kernel
theorem dX7_change_371 : decode cX7_change 371 = .ok (.aload_n 0, 1) := by decide +kernel
theorem dX7_change_372 : decode cX7_change 372 = .ok (.getfield 245, 3) := by decide +kernel
theorem dX7_change_375 : decode cX7_change 375 = .ok (.lload 6, 2) := by decide +kernel
theorem dX7_change_377 : decode cX7_change 377 = .ok (.l2d, 1) := by decide +kernel
theorem dX7_change_378 : decode cX7_change 378 = .ok (.dconst 0, 1) := by decide +kernel
theorem dX7_change_379 : decode cX7_change 379 = .ok (.dmul, 1) := by decide +kernel
theorem dX7_change_380 : decode cX7_change 380 = .ok (.dadd, 1) := by decide +kernel
theorem dX7_change_381 : decode cX7_change 381 = .ok (.putfield 245, 3) := by decide +kernel
theorem dX7_change_384 : decode cX7_change 384 = .ok (.aload_n 0, 1) := by decide +kernel
theorem dX7_change_385 : decode cX7_change 385 = .ok (.getfield 20, 3) := by decide +kernel
theorem dX7_change_388 : decode cX7_change 388 = .ok (.iload 5, 2) := by decide +kernel
theorem dX7_change_390 : decode cX7_change 390 = .ok (.laload, 1) := by decide +kernel
theorem dX7_change_391 : decode cX7_change 391 = .ok (.lconst 0, 1) := by decide +kernel
theorem dX7_change_392 : decode cX7_change 392 = .ok (.lcmp, 1) := by decide +kernel
theorem dX7_change_393 : decode cX7_change 393 = .ok (.ifCond .le 43, 3) := by decide +kernel
theorem dX7_change_396 : decode cX7_change 396 = .ok (.aload_n 0, 1) := by decide +kernel
theorem dX7_change_397 : decode cX7_change 397 = .ok (.getfield 24, 3) := by decide +kernel
theorem dX7_change_400 : decode cX7_change 400 = .ok (.iload 5, 2) := by decide +kernel
theorem dX7_change_402 : decode cX7_change 402 = .ok (.aload_n 0, 1) := by decide +kernel
theorem dX7_change_403 : decode cX7_change 403 = .ok (.getfield 240, 3) := by decide +kernel
theorem dX7_change_406 : decode cX7_change 406 = .ok (.aload_n 0, 1) := by decide +kernel
theorem dX7_change_407 : decode cX7_change 407 = .ok (.getfield 20, 3) := by decide +kernel
theorem dX7_change_410 : decode cX7_change 410 = .ok (.iload 5, 2) := by decide +kernel
theorem dX7_change_412 : decode cX7_change 412 = .ok (.laload, 1) := by decide +kernel
theorem dX7_change_413 : decode cX7_change 413 = .ok (.l2d, 1) := by decide +kernel
theorem dX7_change_414 : decode cX7_change 414 = .ok (.ddiv, 1) := by decide +kernel
theorem dX7_change_415 : decode cX7_change 415 = .ok (.dastore, 1) := by decide +kernel
theorem dX7_change_416 : decode cX7_change 416 = .ok (.aload_n 0, 1) := by decide +kernel
theorem dX7_change_417 : decode cX7_change 417 = .ok (.getfield 27, 3) := by decide +kernel
theorem dX7_change_420 : decode cX7_change 420 = .ok (.iload 5, 2) := by decide +kernel
theorem dX7_change_422 : decode cX7_change 422 = .ok (.aload_n 0, 1) := by decide +kernel
theorem dX7_change_423 : decode cX7_change 423 = .ok (.getfield 245, 3) := by decide +kernel
theorem dX7_change_426 : decode cX7_change 426 = .ok (.aload_n 0, 1) := by decide +kernel
theorem dX7_change_427 : decode cX7_change 427 = .ok (.getfield 20, 3) := by decide +kernel
theorem dX7_change_430 : decode cX7_change 430 = .ok (.iload 5, 2) := by decide +kernel
theorem dX7_change_432 : decode cX7_change 432 = .ok (.laload, 1) := by decide +kernel
theorem dX7_change_433 : decode cX7_change 433 = .ok (.l2d, 1) := by decide +kernel
theorem dX7_change_434 : decode cX7_change 434 = .ok (.ddiv, 1) := by decide +kernel
theorem dX7_change_435 : decode cX7_change 435 = .ok (.dastore, 1) := by decide +kernel
theorem dX7_change_436 : decode cX7_change 436 = .ok (.aload_n 0, 1) := by decide +kernel
theorem dX7_change_437 : decode cX7_change 437 = .ok (.getfield 250, 3) := by decide +kernel
theorem dX7_change_440 : decode cX7_change 440 = .ok (.ldc2_w 266, 3) := by decide +kernel
theorem dX7_change_443 : decode cX7_change 443 = .ok (.dcmp .l, 1) := by decide +kernel
theorem dX7_change_444 : decode cX7_change 444 = .ok (.ifCond .le 32, 3) := by decide +kernel
theorem dX7_change_447 : decode cX7_change 447 = .ok (.aload_n 0, 1) := by decide +kernel
theorem dX7_change_448 : decode cX7_change 448 = .ok (.getfield 30, 3) := by decide +kernel
theorem dX7_change_451 : decode cX7_change 451 = .ok (.iload 5, 2) := by decide +kernel
theorem dX7_change_453 : decode cX7_change 453 = .ok (.aload_n 0, 1) := by decide +kernel
theorem dX7_change_454 : decode cX7_change 454 = .ok (.getfield 30, 3) := by decide +kernel
theorem dX7_change_457 : decode cX7_change 457 = .ok (.iload 5, 2) := by decide +kernel
theorem dX7_change_459 : decode cX7_change 459 = .ok (.daload, 1) := by decide +kernel
theorem dX7_change_460 : decode cX7_change 460 = .ok (.ldc2_w 196, 3) := by decide +kernel
theorem dX7_change_463 : decode cX7_change 463 = .ok (.dload_n 3, 1) := by decide +kernel
theorem dX7_change_464 : decode cX7_change 464 = .ok (.dmul, 1) := by decide +kernel
theorem dX7_change_465 : decode cX7_change 465 = .ok (.aload_n 0, 1) := by decide +kernel
theorem dX7_change_466 : decode cX7_change 466 = .ok (.getfield 250, 3) := by decide +kernel
theorem dX7_change_469 : decode cX7_change 469 = .ok (.ldc2_w 266, 3) := by decide +kernel
theorem dX7_change_472 : decode cX7_change 472 = .ok (.dsub, 1) := by decide +kernel
theorem dX7_change_473 : decode cX7_change 473 = .ok (.dmul, 1) := by decide +kernel
theorem dX7_change_474 : decode cX7_change 474 = .ok (.dadd, 1) := by decide +kernel
theorem dX7_change_475 : decode cX7_change 475 = .ok (.dastore, 1) := by decide +kernel
theorem dX7_change_476 : decode cX7_change 476 = .ok (.return_, 1) := by decide +kernel
theorem dX7_run_0 : decode cX7_run 0 = .ok (.iload_n 1, 1) := by decide +kernel
theorem dX7_run_1 : decode cX7_run 1 = .ok (.ifCond .lt 21, 3) := by decide +kernel
theorem dX7_run_4 : decode cX7_run 4 = .ok (.iload_n 1, 1) := by decide +kernel
theorem dX7_run_5 : decode cX7_run 5 = .ok (.sipush 200, 3) := by decide +kernel
theorem dX7_run_8 : decode cX7_run 8 = .ok (.if_icmp .gt 14, 3) := by decide +kernel
theorem dX7_run_11 : decode cX7_run 11 = .ok (.dload_n 2, 1) := by decide +kernel
theorem dX7_run_12 : decode cX7_run 12 = .ok (.dconst 1, 1) := by decide +kernel
theorem dX7_run_13 : decode cX7_run 13 = .ok (.ldc2_w 268, 3) := by decide +kernel
theorem dX7_run_16 : decode cX7_run 16 = .ok (.invokestatic 152, 3) := by decide +kernel
theorem dX7_run_19 : decode cX7_run 19 = .ok (.ifCond .ne 5, 3) := by decide +kernel
theorem dX7_run_22 : decode cX7_run 22 = .ok (.iconst (-1), 1) := by decide +kernel
theorem dX7_run_23 : decode cX7_run 23 = .ok (.ireturn, 1) := by decide +kernel
theorem dX7_run_24 : decode cX7_run 24 = .ok (.iconst 0, 1) := by decide +kernel
theorem dX7_run_25 : decode cX7_run 25 = .ok (.istore 4, 2) := by decide +kernel
theorem dX7_run_27 : decode cX7_run 27 = .ok (.iload 4, 2) := by decide +kernel
theorem dX7_run_29 : decode cX7_run 29 = .ok (.iload_n 1, 1) := by decide +kernel
theorem dX7_run_30 : decode cX7_run 30 = .ok (.if_icmp .ge 14, 3) := by decide +kernel
theorem dX7_run_33 : decode cX7_run 33 = .ok (.aload_n 0, 1) := by decide +kernel
theorem dX7_run_34 : decode cX7_run 34 = .ok (.dload_n 2, 1) := by decide +kernel
theorem dX7_run_35 : decode cX7_run 35 = .ok (.invokevirtual 270, 3) := by decide +kernel
theorem dX7_run_38 : decode cX7_run 38 = .ok (.iinc 4 1, 3) := by decide +kernel
theorem dX7_run_41 : decode cX7_run 41 = .ok (.goto (-14), 3) := by decide +kernel
theorem dX7_run_44 : decode cX7_run 44 = .ok (.iload_n 1, 1) := by decide +kernel
theorem dX7_run_45 : decode cX7_run 45 = .ok (.ireturn, 1) := by decide +kernel
theorem dX7_level_0 : decode cX7_level 0 = .ok (.aload_n 0, 1) := by decide +kernel
theorem dX7_level_1 : decode cX7_level 1 = .ok (.iload_n 1, 1) := by decide +kernel
theorem dX7_level_2 : decode cX7_level 2 = .ok (.iload_n 2, 1) := by decide +kernel
theorem dX7_level_3 : decode cX7_level 3 = .ok (.invokevirtual 139, 3) := by decide +kernel
theorem dX7_level_6 : decode cX7_level 6 = .ok (.ifCond .eq 15, 3) := by decide +kernel
theorem dX7_level_9 : decode cX7_level 9 = .ok (.aload_n 0, 1) := by decide +kernel
theorem dX7_level_10 : decode cX7_level 10 = .ok (.iload_n 1, 1) := by decide +kernel
theorem dX7_level_11 : decode cX7_level 11 = .ok (.iload_n 2, 1) := by decide +kernel
theorem dX7_level_12 : decode cX7_level 12 = .ok (.invokestatic 135, 3) := by decide +kernel
theorem dX7_level_15 : decode cX7_level 15 = .ok (.invokevirtual 198, 3) := by decide +kernel
theorem dX7_level_18 : decode cX7_level 18 = .ok (.goto 6, 3) := by decide +kernel
theorem dX7_level_21 : decode cX7_level 21 = .ok (.ldc2_w 274, 3) := by decide +kernel
theorem dX7_level_24 : decode cX7_level 24 = .ok (.dreturn, 1) := by decide +kernel
theorem dX7_isLayer_0 : decode cX7_isLayer 0 = .ok (.iload_n 1, 1) := by decide +kernel
theorem dX7_isLayer_1 : decode cX7_isLayer 1 = .ok (.ifCond .lt 15, 3) := by decide +kernel
theorem dX7_isLayer_4 : decode cX7_isLayer 4 = .ok (.iload_n 1, 1) := by decide +kernel
theorem dX7_isLayer_5 : decode cX7_isLayer 5 = .ok (.aload_n 0, 1) := by decide +kernel
theorem dX7_isLayer_6 : decode cX7_isLayer 6 = .ok (.getfield 128, 3) := by decide +kernel
theorem dX7_isLayer_9 : decode cX7_isLayer 9 = .ok (.if_icmp .ge 7, 3) := by decide +kernel
theorem dX7_isLayer_12 : decode cX7_isLayer 12 = .ok (.iconst 1, 1) := by decide +kernel
theorem dX7_isLayer_13 : decode cX7_isLayer 13 = .ok (.goto 4, 3) := by decide +kernel
theorem dX7_isLayer_16 : decode cX7_isLayer 16 = .ok (.iconst 0, 1) := by decide +kernel
theorem dX7_isLayer_17 : decode cX7_isLayer 17 = .ok (.ireturn, 1) := by decide +kernel
theorem dX7_speed_0 : decode cX7_speed 0 = .ok (.aload_n 0, 1) := by decide +kernel
theorem dX7_speed_1 : decode cX7_speed 1 = .ok (.iload_n 1, 1) := by decide +kernel
theorem dX7_speed_2 : decode cX7_speed 2 = .ok (.iload_n 2, 1) := by decide +kernel
theorem dX7_speed_3 : decode cX7_speed 3 = .ok (.invokevirtual 139, 3) := by decide +kernel
theorem dX7_speed_6 : decode cX7_speed 6 = .ok (.ifCond .eq 22, 3) := by decide +kernel
theorem dX7_speed_9 : decode cX7_speed 9 = .ok (.aload_n 0, 1) := by decide +kernel
theorem dX7_speed_10 : decode cX7_speed 10 = .ok (.iload_n 3, 1) := by decide +kernel
theorem dX7_speed_11 : decode cX7_speed 11 = .ok (.invokevirtual 276, 3) := by decide +kernel
theorem dX7_speed_14 : decode cX7_speed 14 = .ok (.ifCond .eq 14, 3) := by decide +kernel
theorem dX7_speed_17 : decode cX7_speed 17 = .ok (.iload 4, 2) := by decide +kernel
theorem dX7_speed_19 : decode cX7_speed 19 = .ok (.ifCond .lt 9, 3) := by decide +kernel
theorem dX7_speed_22 : decode cX7_speed 22 = .ok (.iload 4, 2) := by decide +kernel
theorem dX7_speed_24 : decode cX7_speed 24 = .ok (.iconst 1, 1) := by decide +kernel
theorem dX7_speed_25 : decode cX7_speed 25 = .ok (.if_icmp .le 5, 3) := by decide +kernel
theorem dX7_speed_28 : decode cX7_speed 28 = .ok (.dconst 0, 1) := by decide +kernel
theorem dX7_speed_29 : decode cX7_speed 29 = .ok (.dreturn, 1) := by decide +kernel
theorem dX7_speed_30 : decode cX7_speed 30 = .ok (.iload 4, 2) := by decide +kernel
theorem dX7_speed_32 : decode cX7_speed 32 = .ok (.ifCond .ne 7, 3) := by decide +kernel
theorem dX7_speed_35 : decode cX7_speed 35 = .ok (.iconst 1, 1) := by decide +kernel
theorem dX7_speed_36 : decode cX7_speed 36 = .ok (.goto 4, 3) := by decide +kernel
theorem dX7_speed_39 : decode cX7_speed 39 = .ok (.iconst 3, 1) := by decide +kernel
theorem dX7_speed_40 : decode cX7_speed 40 = .ok (.istore 5, 2) := by decide +kernel
theorem dX7_speed_42 : decode cX7_speed 42 = .ok (.aload_n 0, 1) := by decide +kernel
theorem dX7_speed_43 : decode cX7_speed 43 = .ok (.iload_n 1, 1) := by decide +kernel
theorem dX7_speed_44 : decode cX7_speed 44 = .ok (.iload_n 2, 1) := by decide +kernel
theorem dX7_speed_45 : decode cX7_speed 45 = .ok (.iload 4, 2) := by decide +kernel
theorem dX7_speed_47 : decode cX7_speed 47 = .ok (.invokevirtual 223, 3) := by decide +kernel
theorem dX7_speed_50 : decode cX7_speed 50 = .ok (.ifCond .eq 23, 3) := by decide +kernel
theorem dX7_speed_53 : decode cX7_speed 53 = .ok (.aload_n 0, 1) := by decide +kernel
theorem dX7_speed_54 : decode cX7_speed 54 = .ok (.getfield 33, 3) := by decide +kernel
theorem dX7_speed_57 : decode cX7_speed 57 = .ok (.sipush 144, 3) := by decide +kernel
theorem dX7_speed_60 : decode cX7_speed 60 = .ok (.iload 4, 2) := by decide +kernel
theorem dX7_speed_62 : decode cX7_speed 62 = .ok (.imul, 1) := by decide +kernel
theorem dX7_speed_63 : decode cX7_speed 63 = .ok (.iload_n 1, 1) := by decide +kernel
theorem dX7_speed_64 : decode cX7_speed 64 = .ok (.iload_n 2, 1) := by decide +kernel
theorem dX7_speed_65 : decode cX7_speed 65 = .ok (.invokestatic 135, 3) := by decide +kernel
theorem dX7_speed_68 : decode cX7_speed 68 = .ok (.iadd, 1) := by decide +kernel
theorem dX7_speed_69 : decode cX7_speed 69 = .ok (.daload, 1) := by decide +kernel
theorem dX7_speed_70 : decode cX7_speed 70 = .ok (.goto 30, 3) := by decide +kernel
theorem dX7_speed_73 : decode cX7_speed 73 = .ok (.aload_n 0, 1) := by decide +kernel
theorem dX7_speed_74 : decode cX7_speed 74 = .ok (.iload_n 1, 1) := by decide +kernel
theorem dX7_speed_75 : decode cX7_speed 75 = .ok (.iload_n 2, 1) := by decide +kernel
theorem dX7_speed_76 : decode cX7_speed 76 = .ok (.iload 5, 2) := by decide +kernel
theorem dX7_speed_78 : decode cX7_speed 78 = .ok (.invokevirtual 230, 3) := by decide +kernel
theorem dX7_speed_81 : decode cX7_speed 81 = .ok (.ifCond .eq 18, 3) := by decide +kernel
theorem dX7_speed_84 : decode cX7_speed 84 = .ok (.aload_n 0, 1) := by decide +kernel
theorem dX7_speed_85 : decode cX7_speed 85 = .ok (.getfield 33, 3) := by decide +kernel
theorem dX7_speed_88 : decode cX7_speed 88 = .ok (.iload_n 1, 1) := by decide +kernel
theorem dX7_speed_89 : decode cX7_speed 89 = .ok (.iload_n 2, 1) := by decide +kernel
theorem dX7_speed_90 : decode cX7_speed 90 = .ok (.iload 5, 2) := by decide +kernel
theorem dX7_speed_92 : decode cX7_speed 92 = .ok (.invokestatic 164, 3) := by decide +kernel
theorem dX7_speed_95 : decode cX7_speed 95 = .ok (.daload, 1) := by decide +kernel
theorem dX7_speed_96 : decode cX7_speed 96 = .ok (.goto 4, 3) := by decide +kernel
theorem dX7_speed_99 : decode cX7_speed 99 = .ok (.dconst 0, 1) := by decide +kernel
theorem dX7_speed_100 : decode cX7_speed 100 = .ok (.dstore 6, 2) := by decide +kernel
theorem dX7_speed_102 : decode cX7_speed 102 = .ok (.dload 6, 2) := by decide +kernel
theorem dX7_speed_104 : decode cX7_speed 104 = .ok (.dconst 1, 1) := by decide +kernel
theorem dX7_speed_105 : decode cX7_speed 105 = .ok (.ldc2_w 279, 3) := by decide +kernel
theorem dX7_speed_108 : decode cX7_speed 108 = .ok (.aload_n 0, 1) := by decide +kernel
theorem dX7_speed_109 : decode cX7_speed 109 = .ok (.getfield 128, 3) := by decide +kernel
theorem dX7_speed_112 : decode cX7_speed 112 = .ok (.iconst 1, 1) := by decide +kernel
theorem dX7_speed_113 : decode cX7_speed 113 = .ok (.isub, 1) := by decide +kernel
theorem dX7_speed_114 : decode cX7_speed 114 = .ok (.iconst 2, 1) := by decide +kernel
theorem dX7_speed_115 : decode cX7_speed 115 = .ok (.iload_n 3, 1) := by decide +kernel
theorem dX7_speed_116 : decode cX7_speed 116 = .ok (.imul, 1) := by decide +kernel
theorem dX7_speed_117 : decode cX7_speed 117 = .ok (.isub, 1) := by decide +kernel
theorem dX7_speed_118 : decode cX7_speed 118 = .ok (.i2d, 1) := by decide +kernel
theorem dX7_speed_119 : decode cX7_speed 119 = .ok (.dmul, 1) := by decide +kernel
theorem dX7_speed_120 : decode cX7_speed 120 = .ok (.dadd, 1) := by decide +kernel
theorem dX7_speed_121 : decode cX7_speed 121 = .ok (.dmul, 1) := by decide +kernel
theorem dX7_speed_122 : decode cX7_speed 122 = .ok (.dreturn, 1) := by decide +kernel
theorem dX7_total_0 : decode cX7_total 0 = .ok (.lconst 0, 1) := by decide +kernel
theorem dX7_total_1 : decode cX7_total 1 = .ok (.lstore_n 1, 1) := by decide +kernel
theorem dX7_total_2 : decode cX7_total 2 = .ok (.iconst 0, 1) := by decide +kernel
theorem dX7_total_3 : decode cX7_total 3 = .ok (.istore_n 3, 1) := by decide +kernel
theorem dX7_total_4 : decode cX7_total 4 = .ok (.iload_n 3, 1) := by decide +kernel
theorem dX7_total_5 : decode cX7_total 5 = .ok (.sipush 144, 3) := by decide +kernel
theorem dX7_total_8 : decode cX7_total 8 = .ok (.if_icmp .ge 18, 3) := by decide +kernel
theorem dX7_total_11 : decode cX7_total 11 = .ok (.lload_n 1, 1) := by decide +kernel
theorem dX7_total_12 : decode cX7_total 12 = .ok (.aload_n 0, 1) := by decide +kernel
theorem dX7_total_13 : decode cX7_total 13 = .ok (.getfield 20, 3) := by decide +kernel
theorem dX7_total_16 : decode cX7_total 16 = .ok (.iload_n 3, 1) := by decide +kernel
theorem dX7_total_17 : decode cX7_total 17 = .ok (.laload, 1) := by decide +kernel
theorem dX7_total_18 : decode cX7_total 18 = .ok (.ladd, 1) := by decide +kernel
theorem dX7_total_19 : decode cX7_total 19 = .ok (.lstore_n 1, 1) := by decide +kernel
theorem dX7_total_20 : decode cX7_total 20 = .ok (.iinc 3 1, 3) := by decide +kernel
theorem dX7_total_23 : decode cX7_total 23 = .ok (.goto (-19), 3) := by decide +kernel
theorem dX7_total_26 : decode cX7_total 26 = .ok (.lload_n 1, 1) := by decide +kernel
theorem dX7_total_27 : decode cX7_total 27 = .ok (.lreturn, 1) := by decide +kernel
theorem dX7_limb_0 : decode cX7_limb 0 = .ok (.iload_n 2, 1) := by decide +kernel
theorem dX7_limb_1 : decode cX7_limb 1 = .ok (.ifCond .ne 11, 3) := by decide +kernel
theorem dX7_limb_4 : decode cX7_limb 4 = .ok (.lload_n 0, 1) := by decide +kernel
theorem dX7_limb_5 : decode cX7_limb 5 = .ok (.ldc2_w 281, 3) := by decide +kernel
theorem dX7_limb_8 : decode cX7_limb 8 = .ok (.land, 1) := by decide +kernel
theorem dX7_limb_9 : decode cX7_limb 9 = .ok (.goto 18, 3) := by decide +kernel
theorem dX7_limb_12 : decode cX7_limb 12 = .ok (.iload_n 2, 1) := by decide +kernel
theorem dX7_limb_13 : decode cX7_limb 13 = .ok (.iconst 1, 1) := by decide +kernel
theorem dX7_limb_14 : decode cX7_limb 14 = .ok (.if_icmp .ne 10, 3) := by decide +kernel
theorem dX7_limb_17 : decode cX7_limb 17 = .ok (.lload_n 0, 1) := by decide +kernel
theorem dX7_limb_18 : decode cX7_limb 18 = .ok (.bipush 32, 2) := by decide +kernel
theorem dX7_limb_20 : decode cX7_limb 20 = .ok (.lshr, 1) := by decide +kernel
theorem dX7_limb_21 : decode cX7_limb 21 = .ok (.goto 6, 3) := by decide +kernel
theorem dX7_limb_24 : decode cX7_limb 24 = .ok (.ldc2_w 283, 3) := by decide +kernel
theorem dX7_limb_27 : decode cX7_limb 27 = .ok (.lreturn, 1) := by decide +kernel
theorem dX7_volume_0 : decode cX7_volume 0 = .ok (.aload_n 0, 1) := by decide +kernel
theorem dX7_volume_1 : decode cX7_volume 1 = .ok (.invokevirtual 285, 3) := by decide +kernel
theorem dX7_volume_4 : decode cX7_volume 4 = .ok (.iload_n 1, 1) := by decide +kernel
theorem dX7_volume_5 : decode cX7_volume 5 = .ok (.invokestatic 289, 3) := by decide +kernel
theorem dX7_volume_8 : decode cX7_volume 8 = .ok (.lreturn, 1) := by decide +kernel
theorem dX7_through_0 : decode cX7_through 0 = .ok (.iload_n 1, 1) := by decide +kernel
theorem dX7_through_1 : decode cX7_through 1 = .ok (.ifCond .lt 8, 3) := by decide +kernel
theorem dX7_through_4 : decode cX7_through 4 = .ok (.iload_n 1, 1) := by decide +kernel
theorem dX7_through_5 : decode cX7_through 5 = .ok (.iconst 3, 1) := by decide +kernel
theorem dX7_through_6 : decode cX7_through 6 = .ok (.if_icmp .le 9, 3) := by decide +kernel
theorem dX7_through_9 : decode cX7_through 9 = .ok (.ldc2_w 283, 3) := by decide +kernel
theorem dX7_through_12 : decode cX7_through 12 = .ok (.goto 13, 3) := by decide +kernel
theorem dX7_through_15 : decode cX7_through 15 = .ok (.aload_n 0, 1) := by decide +kernel
theorem dX7_through_16 : decode cX7_through 16 = .ok (.getfield 36, 3) := by decide +kernel
theorem dX7_through_19 : decode cX7_through 19 = .ok (.iload_n 1, 1) := by decide +kernel
theorem dX7_through_20 : decode cX7_through 20 = .ok (.laload, 1) := by decide +kernel
theorem dX7_through_21 : decode cX7_through 21 = .ok (.iload_n 2, 1) := by decide +kernel
theorem dX7_through_22 : decode cX7_through 22 = .ok (.invokestatic 289, 3) := by decide +kernel
theorem dX7_through_25 : decode cX7_through 25 = .ok (.lreturn, 1) := by decide +kernel
theorem dX7_kept_0 : decode cX7_kept 0 = .ok (.aload_n 0, 1) := by decide +kernel
theorem dX7_kept_1 : decode cX7_kept 1 = .ok (.invokevirtual 285, 3) := by decide +kernel
theorem dX7_kept_4 : decode cX7_kept 4 = .ok (.aload_n 0, 1) := by decide +kernel
theorem dX7_kept_5 : decode cX7_kept 5 = .ok (.getfield 156, 3) := by decide +kernel
theorem dX7_kept_8 : decode cX7_kept 8 = .ok (.aload_n 0, 1) := by decide +kernel
theorem dX7_kept_9 : decode cX7_kept 9 = .ok (.getfield 36, 3) := by decide +kernel
theorem dX7_kept_12 : decode cX7_kept 12 = .ok (.iconst 0, 1) := by decide +kernel
theorem dX7_kept_13 : decode cX7_kept 13 = .ok (.laload, 1) := by decide +kernel
theorem dX7_kept_14 : decode cX7_kept 14 = .ok (.ladd, 1) := by decide +kernel
theorem dX7_kept_15 : decode cX7_kept 15 = .ok (.aload_n 0, 1) := by decide +kernel
theorem dX7_kept_16 : decode cX7_kept 16 = .ok (.getfield 36, 3) := by decide +kernel
theorem dX7_kept_19 : decode cX7_kept 19 = .ok (.iconst 1, 1) := by decide +kernel
theorem dX7_kept_20 : decode cX7_kept 20 = .ok (.laload, 1) := by decide +kernel
theorem dX7_kept_21 : decode cX7_kept 21 = .ok (.ladd, 1) := by decide +kernel
theorem dX7_kept_22 : decode cX7_kept 22 = .ok (.aload_n 0, 1) := by decide +kernel
theorem dX7_kept_23 : decode cX7_kept 23 = .ok (.getfield 36, 3) := by decide +kernel
theorem dX7_kept_26 : decode cX7_kept 26 = .ok (.iconst 2, 1) := by decide +kernel
theorem dX7_kept_27 : decode cX7_kept 27 = .ok (.laload, 1) := by decide +kernel
theorem dX7_kept_28 : decode cX7_kept 28 = .ok (.ladd, 1) := by decide +kernel
theorem dX7_kept_29 : decode cX7_kept 29 = .ok (.aload_n 0, 1) := by decide +kernel
theorem dX7_kept_30 : decode cX7_kept 30 = .ok (.getfield 36, 3) := by decide +kernel
theorem dX7_kept_33 : decode cX7_kept 33 = .ok (.iconst 3, 1) := by decide +kernel
theorem dX7_kept_34 : decode cX7_kept 34 = .ok (.laload, 1) := by decide +kernel
theorem dX7_kept_35 : decode cX7_kept 35 = .ok (.ladd, 1) := by decide +kernel
theorem dX7_kept_36 : decode cX7_kept 36 = .ok (.aload_n 0, 1) := by decide +kernel
theorem dX7_kept_37 : decode cX7_kept 37 = .ok (.getfield 261, 3) := by decide +kernel
theorem dX7_kept_40 : decode cX7_kept 40 = .ok (.ladd, 1) := by decide +kernel
theorem dX7_kept_41 : decode cX7_kept 41 = .ok (.lcmp, 1) := by decide +kernel
theorem dX7_kept_42 : decode cX7_kept 42 = .ok (.ifCond .ne 7, 3) := by decide +kernel
theorem dX7_kept_45 : decode cX7_kept 45 = .ok (.iconst 1, 1) := by decide +kernel
theorem dX7_kept_46 : decode cX7_kept 46 = .ok (.goto 4, 3) := by decide +kernel
theorem dX7_kept_49 : decode cX7_kept 49 = .ok (.iconst 0, 1) := by decide +kernel
theorem dX7_kept_50 : decode cX7_kept 50 = .ok (.ireturn, 1) := by decide +kernel
theorem dX7_warm_0 : decode cX7_warm 0 = .ok (.aload_n 0, 1) := by decide +kernel
theorem dX7_warm_1 : decode cX7_warm 1 = .ok (.iload_n 1, 1) := by decide +kernel
theorem dX7_warm_2 : decode cX7_warm 2 = .ok (.iload_n 2, 1) := by decide +kernel
theorem dX7_warm_3 : decode cX7_warm 3 = .ok (.invokevirtual 139, 3) := by decide +kernel
theorem dX7_warm_6 : decode cX7_warm 6 = .ok (.ifCond .eq 31, 3) := by decide +kernel
theorem dX7_warm_9 : decode cX7_warm 9 = .ok (.aload_n 0, 1) := by decide +kernel
theorem dX7_warm_10 : decode cX7_warm 10 = .ok (.iload_n 3, 1) := by decide +kernel
theorem dX7_warm_11 : decode cX7_warm 11 = .ok (.invokevirtual 276, 3) := by decide +kernel
theorem dX7_warm_14 : decode cX7_warm 14 = .ok (.ifCond .eq 23, 3) := by decide +kernel
theorem dX7_warm_17 : decode cX7_warm 17 = .ok (.aload_n 0, 1) := by decide +kernel
theorem dX7_warm_18 : decode cX7_warm 18 = .ok (.getfield 24, 3) := by decide +kernel
theorem dX7_warm_21 : decode cX7_warm 21 = .ok (.iload_n 1, 1) := by decide +kernel
theorem dX7_warm_22 : decode cX7_warm 22 = .ok (.iload_n 2, 1) := by decide +kernel
theorem dX7_warm_23 : decode cX7_warm 23 = .ok (.invokestatic 135, 3) := by decide +kernel
theorem dX7_warm_26 : decode cX7_warm 26 = .ok (.daload, 1) := by decide +kernel
theorem dX7_warm_27 : decode cX7_warm 27 = .ok (.ldc2_w 180, 3) := by decide +kernel
theorem dX7_warm_30 : decode cX7_warm 30 = .ok (.iload_n 3, 1) := by decide +kernel
theorem dX7_warm_31 : decode cX7_warm 31 = .ok (.i2d, 1) := by decide +kernel
theorem dX7_warm_32 : decode cX7_warm 32 = .ok (.dmul, 1) := by decide +kernel
theorem dX7_warm_33 : decode cX7_warm 33 = .ok (.dsub, 1) := by decide +kernel
theorem dX7_warm_34 : decode cX7_warm 34 = .ok (.goto 6, 3) := by decide +kernel
theorem dX7_warm_37 : decode cX7_warm 37 = .ok (.ldc2_w 274, 3) := by decide +kernel
theorem dX7_warm_40 : decode cX7_warm 40 = .ok (.dreturn, 1) := by decide +kernel
theorem dX7_salt_0 : decode cX7_salt 0 = .ok (.aload_n 0, 1) := by decide +kernel
theorem dX7_salt_1 : decode cX7_salt 1 = .ok (.iload_n 1, 1) := by decide +kernel
theorem dX7_salt_2 : decode cX7_salt 2 = .ok (.iload_n 2, 1) := by decide +kernel
theorem dX7_salt_3 : decode cX7_salt 3 = .ok (.invokevirtual 139, 3) := by decide +kernel
theorem dX7_salt_6 : decode cX7_salt 6 = .ok (.ifCond .eq 31, 3) := by decide +kernel
theorem dX7_salt_9 : decode cX7_salt 9 = .ok (.aload_n 0, 1) := by decide +kernel
theorem dX7_salt_10 : decode cX7_salt 10 = .ok (.iload_n 3, 1) := by decide +kernel
theorem dX7_salt_11 : decode cX7_salt 11 = .ok (.invokevirtual 276, 3) := by decide +kernel
theorem dX7_salt_14 : decode cX7_salt 14 = .ok (.ifCond .eq 23, 3) := by decide +kernel
theorem dX7_salt_17 : decode cX7_salt 17 = .ok (.aload_n 0, 1) := by decide +kernel
theorem dX7_salt_18 : decode cX7_salt 18 = .ok (.getfield 27, 3) := by decide +kernel
theorem dX7_salt_21 : decode cX7_salt 21 = .ok (.iload_n 1, 1) := by decide +kernel
theorem dX7_salt_22 : decode cX7_salt 22 = .ok (.iload_n 2, 1) := by decide +kernel
theorem dX7_salt_23 : decode cX7_salt 23 = .ok (.invokestatic 135, 3) := by decide +kernel
theorem dX7_salt_26 : decode cX7_salt 26 = .ok (.daload, 1) := by decide +kernel
theorem dX7_salt_27 : decode cX7_salt 27 = .ok (.ldc2_w 293, 3) := by decide +kernel
theorem dX7_salt_30 : decode cX7_salt 30 = .ok (.iload_n 3, 1) := by decide +kernel
theorem dX7_salt_31 : decode cX7_salt 31 = .ok (.i2d, 1) := by decide +kernel
theorem dX7_salt_32 : decode cX7_salt 32 = .ok (.dmul, 1) := by decide +kernel
theorem dX7_salt_33 : decode cX7_salt 33 = .ok (.dadd, 1) := by decide +kernel
theorem dX7_salt_34 : decode cX7_salt 34 = .ok (.goto 6, 3) := by decide +kernel
theorem dX7_salt_37 : decode cX7_salt 37 = .ok (.ldc2_w 274, 3) := by decide +kernel
theorem dX7_salt_40 : decode cX7_salt 40 = .ok (.dreturn, 1) := by decide +kernel
theorem dX7_dry_0 : decode cX7_dry 0 = .ok (.aload_n 0, 1) := by decide +kernel
theorem dX7_dry_1 : decode cX7_dry 1 = .ok (.iload_n 1, 1) := by decide +kernel
theorem dX7_dry_2 : decode cX7_dry 2 = .ok (.iload_n 2, 1) := by decide +kernel
theorem dX7_dry_3 : decode cX7_dry 3 = .ok (.invokevirtual 139, 3) := by decide +kernel
theorem dX7_dry_6 : decode cX7_dry 6 = .ok (.ifCond .eq 20, 3) := by decide +kernel
theorem dX7_dry_9 : decode cX7_dry 9 = .ok (.aload_n 0, 1) := by decide +kernel
theorem dX7_dry_10 : decode cX7_dry 10 = .ok (.getfield 20, 3) := by decide +kernel
theorem dX7_dry_13 : decode cX7_dry 13 = .ok (.iload_n 1, 1) := by decide +kernel
theorem dX7_dry_14 : decode cX7_dry 14 = .ok (.iload_n 2, 1) := by decide +kernel
theorem dX7_dry_15 : decode cX7_dry 15 = .ok (.invokestatic 135, 3) := by decide +kernel
theorem dX7_dry_18 : decode cX7_dry 18 = .ok (.laload, 1) := by decide +kernel
theorem dX7_dry_19 : decode cX7_dry 19 = .ok (.ldc2_w 221, 3) := by decide +kernel
theorem dX7_dry_22 : decode cX7_dry 22 = .ok (.lcmp, 1) := by decide +kernel
theorem dX7_dry_23 : decode cX7_dry 23 = .ok (.ifCond .ge 7, 3) := by decide +kernel
theorem dX7_dry_26 : decode cX7_dry 26 = .ok (.iconst 1, 1) := by decide +kernel
theorem dX7_dry_27 : decode cX7_dry 27 = .ok (.goto 4, 3) := by decide +kernel
theorem dX7_dry_30 : decode cX7_dry 30 = .ok (.iconst 0, 1) := by decide +kernel
theorem dX7_dry_31 : decode cX7_dry 31 = .ok (.ireturn, 1) := by decide +kernel
theorem dX7_nest_0 : decode cX7_nest 0 = .ok (.aload_n 0, 1) := by decide +kernel
theorem dX7_nest_1 : decode cX7_nest 1 = .ok (.iload_n 1, 1) := by decide +kernel
theorem dX7_nest_2 : decode cX7_nest 2 = .ok (.iload_n 2, 1) := by decide +kernel
theorem dX7_nest_3 : decode cX7_nest 3 = .ok (.invokevirtual 139, 3) := by decide +kernel
theorem dX7_nest_6 : decode cX7_nest 6 = .ok (.ifCond .eq 36, 3) := by decide +kernel
theorem dX7_nest_9 : decode cX7_nest 9 = .ok (.aload_n 0, 1) := by decide +kernel
theorem dX7_nest_10 : decode cX7_nest 10 = .ok (.getfield 70, 3) := by decide +kernel
theorem dX7_nest_13 : decode cX7_nest 13 = .ok (.iload_n 1, 1) := by decide +kernel
theorem dX7_nest_14 : decode cX7_nest 14 = .ok (.iload_n 2, 1) := by decide +kernel
theorem dX7_nest_15 : decode cX7_nest 15 = .ok (.invokestatic 135, 3) := by decide +kernel
theorem dX7_nest_18 : decode cX7_nest 18 = .ok (.baload, 1) := by decide +kernel
theorem dX7_nest_19 : decode cX7_nest 19 = .ok (.ifCond .ne 23, 3) := by decide +kernel
theorem dX7_nest_22 : decode cX7_nest 22 = .ok (.iload_n 3, 1) := by decide +kernel
theorem dX7_nest_23 : decode cX7_nest 23 = .ok (.iconst 2, 1) := by decide +kernel
theorem dX7_nest_24 : decode cX7_nest 24 = .ok (.if_icmp .lt 18, 3) := by decide +kernel
theorem dX7_nest_27 : decode cX7_nest 27 = .ok (.iload_n 3, 1) := by decide +kernel
theorem dX7_nest_28 : decode cX7_nest 28 = .ok (.bipush 8, 2) := by decide +kernel
theorem dX7_nest_30 : decode cX7_nest 30 = .ok (.if_icmp .gt 12, 3) := by decide +kernel
theorem dX7_nest_33 : decode cX7_nest 33 = .ok (.aload_n 0, 1) := by decide +kernel
theorem dX7_nest_34 : decode cX7_nest 34 = .ok (.getfield 168, 3) := by decide +kernel
theorem dX7_nest_37 : decode cX7_nest 37 = .ok (.bipush 10, 2) := by decide +kernel
theorem dX7_nest_39 : decode cX7_nest 39 = .ok (.if_icmp .ne 5, 3) := by decide +kernel
theorem dX7_nest_42 : decode cX7_nest 42 = .ok (.iconst (-1), 1) := by decide +kernel
theorem dX7_nest_43 : decode cX7_nest 43 = .ok (.ireturn, 1) := by decide +kernel
theorem dX7_nest_44 : decode cX7_nest 44 = .ok (.aload_n 0, 1) := by decide +kernel
theorem dX7_nest_45 : decode cX7_nest 45 = .ok (.getfield 66, 3) := by decide +kernel
theorem dX7_nest_48 : decode cX7_nest 48 = .ok (.aload_n 0, 1) := by decide +kernel
theorem dX7_nest_49 : decode cX7_nest 49 = .ok (.getfield 168, 3) := by decide +kernel
theorem dX7_nest_52 : decode cX7_nest 52 = .ok (.iload_n 1, 1) := by decide +kernel
theorem dX7_nest_53 : decode cX7_nest 53 = .ok (.iload_n 2, 1) := by decide +kernel
theorem dX7_nest_54 : decode cX7_nest 54 = .ok (.invokestatic 135, 3) := by decide +kernel
theorem dX7_nest_57 : decode cX7_nest 57 = .ok (.iastore, 1) := by decide +kernel
theorem dX7_nest_58 : decode cX7_nest 58 = .ok (.aload_n 0, 1) := by decide +kernel
theorem dX7_nest_59 : decode cX7_nest 59 = .ok (.getfield 73, 3) := by decide +kernel
theorem dX7_nest_62 : decode cX7_nest 62 = .ok (.aload_n 0, 1) := by decide +kernel
theorem dX7_nest_63 : decode cX7_nest 63 = .ok (.getfield 168, 3) := by decide +kernel
theorem dX7_nest_66 : decode cX7_nest 66 = .ok (.iconst 1, 1) := by decide +kernel
theorem dX7_nest_67 : decode cX7_nest 67 = .ok (.bastore, 1) := by decide +kernel
theorem dX7_nest_68 : decode cX7_nest 68 = .ok (.aload_n 0, 1) := by decide +kernel
theorem dX7_nest_69 : decode cX7_nest 69 = .ok (.getfield 70, 3) := by decide +kernel
theorem dX7_nest_72 : decode cX7_nest 72 = .ok (.iload_n 1, 1) := by decide +kernel
theorem dX7_nest_73 : decode cX7_nest 73 = .ok (.iload_n 2, 1) := by decide +kernel
theorem dX7_nest_74 : decode cX7_nest 74 = .ok (.invokestatic 135, 3) := by decide +kernel
theorem dX7_nest_77 : decode cX7_nest 77 = .ok (.iconst 1, 1) := by decide +kernel
theorem dX7_nest_78 : decode cX7_nest 78 = .ok (.bastore, 1) := by decide +kernel
theorem dX7_nest_79 : decode cX7_nest 79 = .ok (.aload_n 0, 1) := by decide +kernel
theorem dX7_nest_80 : decode cX7_nest 80 = .ok (.dup, 1) := by decide +kernel
theorem dX7_nest_81 : decode cX7_nest 81 = .ok (.getfield 168, 3) := by decide +kernel
theorem dX7_nest_84 : decode cX7_nest 84 = .ok (.iconst 1, 1) := by decide +kernel
theorem dX7_nest_85 : decode cX7_nest 85 = .ok (.iadd, 1) := by decide +kernel
theorem dX7_nest_86 : decode cX7_nest 86 = .ok (.putfield 168, 3) := by decide +kernel
theorem dX7_nest_89 : decode cX7_nest 89 = .ok (.aload_n 0, 1) := by decide +kernel
theorem dX7_nest_90 : decode cX7_nest 90 = .ok (.dup, 1) := by decide +kernel
theorem dX7_nest_91 : decode cX7_nest 91 = .ok (.getfield 171, 3) := by decide +kernel
theorem dX7_nest_94 : decode cX7_nest 94 = .ok (.iconst 1, 1) := by decide +kernel
theorem dX7_nest_95 : decode cX7_nest 95 = .ok (.iadd, 1) := by decide +kernel
theorem dX7_nest_96 : decode cX7_nest 96 = .ok (.putfield 171, 3) := by decide +kernel
theorem dX7_nest_99 : decode cX7_nest 99 = .ok (.aload_n 0, 1) := by decide +kernel
theorem dX7_nest_100 : decode cX7_nest 100 = .ok (.getfield 168, 3) := by decide +kernel
theorem dX7_nest_103 : decode cX7_nest 103 = .ok (.iconst 1, 1) := by decide +kernel
theorem dX7_nest_104 : decode cX7_nest 104 = .ok (.isub, 1) := by decide +kernel
theorem dX7_nest_105 : decode cX7_nest 105 = .ok (.ireturn, 1) := by decide +kernel
theorem dX7_equal_0 : decode cX7_equal 0 = .ok (.iload_n 1, 1) := by decide +kernel
theorem dX7_equal_1 : decode cX7_equal 1 = .ok (.ifCond .lt 24, 3) := by decide +kernel
theorem dX7_equal_4 : decode cX7_equal 4 = .ok (.iload_n 1, 1) := by decide +kernel
theorem dX7_equal_5 : decode cX7_equal 5 = .ok (.aload_n 0, 1) := by decide +kernel
theorem dX7_equal_6 : decode cX7_equal 6 = .ok (.getfield 168, 3) := by decide +kernel
theorem dX7_equal_9 : decode cX7_equal 9 = .ok (.if_icmp .ge 16, 3) := by decide +kernel
theorem dX7_equal_12 : decode cX7_equal 12 = .ok (.aload_n 0, 1) := by decide +kernel
theorem dX7_equal_13 : decode cX7_equal 13 = .ok (.getfield 73, 3) := by decide +kernel
theorem dX7_equal_16 : decode cX7_equal 16 = .ok (.iload_n 1, 1) := by decide +kernel
theorem dX7_equal_17 : decode cX7_equal 17 = .ok (.baload, 1) := by decide +kernel
theorem dX7_equal_18 : decode cX7_equal 18 = .ok (.ifCond .eq 7, 3) := by decide +kernel
theorem dX7_equal_21 : decode cX7_equal 21 = .ok (.iconst 1, 1) := by decide +kernel
theorem dX7_equal_22 : decode cX7_equal 22 = .ok (.goto 4, 3) := by decide +kernel
theorem dX7_equal_25 : decode cX7_equal 25 = .ok (.iconst 0, 1) := by decide +kernel
theorem dX7_equal_26 : decode cX7_equal 26 = .ok (.ireturn, 1) := by decide +kernel
theorem dX7_ice_0 : decode cX7_ice 0 = .ok (.aload_n 0, 1) := by decide +kernel
theorem dX7_ice_1 : decode cX7_ice 1 = .ok (.iload_n 1, 1) := by decide +kernel
theorem dX7_ice_2 : decode cX7_ice 2 = .ok (.iload_n 2, 1) := by decide +kernel
theorem dX7_ice_3 : decode cX7_ice 3 = .ok (.invokevirtual 139, 3) := by decide +kernel
theorem dX7_ice_6 : decode cX7_ice 6 = .ok (.ifCond .ne 5, 3) := by decide +kernel
theorem dX7_ice_9 : decode cX7_ice 9 = .ok (.dconst 0, 1) := by decide +kernel
theorem dX7_ice_10 : decode cX7_ice 10 = .ok (.dreturn, 1) := by decide +kernel
theorem dX7_ice_11 : decode cX7_ice 11 = .ok (.ldc2_w 295, 3) := by decide +kernel
theorem dX7_ice_14 : decode cX7_ice 14 = .ok (.ldc2_w 297, 3) := by decide +kernel
theorem dX7_ice_17 : decode cX7_ice 17 = .ok (.aload_n 0, 1) := by decide +kernel
theorem dX7_ice_18 : decode cX7_ice 18 = .ok (.getfield 24, 3) := by decide +kernel
theorem dX7_ice_21 : decode cX7_ice 21 = .ok (.iload_n 1, 1) := by decide +kernel
theorem dX7_ice_22 : decode cX7_ice 22 = .ok (.iload_n 2, 1) := by decide +kernel
theorem dX7_ice_23 : decode cX7_ice 23 = .ok (.invokestatic 135, 3) := by decide +kernel
theorem dX7_ice_26 : decode cX7_ice 26 = .ok (.daload, 1) := by decide +kernel
theorem dX7_ice_27 : decode cX7_ice 27 = .ok (.dadd, 1) := by decide +kernel
theorem dX7_ice_28 : decode cX7_ice 28 = .ok (.dsub, 1) := by decide +kernel
theorem dX7_ice_29 : decode cX7_ice 29 = .ok (.ldc2_w 180, 3) := by decide +kernel
theorem dX7_ice_32 : decode cX7_ice 32 = .ok (.dmul, 1) := by decide +kernel
theorem dX7_ice_33 : decode cX7_ice 33 = .ok (.dstore_n 3, 1) := by decide +kernel
theorem dX7_ice_34 : decode cX7_ice 34 = .ok (.dload_n 3, 1) := by decide +kernel
theorem dX7_ice_35 : decode cX7_ice 35 = .ok (.dconst 0, 1) := by decide +kernel
theorem dX7_ice_36 : decode cX7_ice 36 = .ok (.dcmp .g, 1) := by decide +kernel
theorem dX7_ice_37 : decode cX7_ice 37 = .ok (.ifCond .ge 7, 3) := by decide +kernel
theorem dX7_ice_40 : decode cX7_ice 40 = .ok (.dconst 0, 1) := by decide +kernel
theorem dX7_ice_41 : decode cX7_ice 41 = .ok (.goto 14, 3) := by decide +kernel
