theorem dX11_init_0 : decode cX11_init 0 = .ok (.aload_n 0, 1) := by decide +kernel
theorem dX11_init_1 : decode cX11_init 1 = .ok (.invokespecial 1, 3) := by decide +kernel
theorem dX11_init_4 : decode cX11_init 4 = .ok (.aload_n 0, 1) := by decide +kernel
theorem dX11_init_5 : decode cX11_init 5 = .ok (.bipush 12, 2) := by decide +kernel
theorem dX11_init_7 : decode cX11_init 7 = .ok (.newarray .int, 2) := by decide +kernel
theorem dX11_init_9 : decode cX11_init 9 = .ok (.putfield 9, 3) := by decide +kernel
theorem dX11_init_12 : decode cX11_init 12 = .ok (.aload_n 0, 1) := by decide +kernel
theorem dX11_init_13 : decode cX11_init 13 = .ok (.sipush 720, 3) := by decide +kernel
theorem dX11_init_16 : decode cX11_init 16 = .ok (.newarray .int, 2) := by decide +kernel
theorem dX11_init_18 : decode cX11_init 18 = .ok (.putfield 13, 3) := by decide +kernel
theorem dX11_init_21 : decode cX11_init 21 = .ok (.aload_n 0, 1) := by decide +kernel
theorem dX11_init_22 : decode cX11_init 22 = .ok (.bipush 60, 2) := by decide +kernel
theorem dX11_init_24 : decode cX11_init 24 = .ok (.newarray .int, 2) := by decide +kernel
theorem dX11_init_26 : decode cX11_init 26 = .ok (.putfield 16, 3) := by decide +kernel
theorem dX11_init_29 : decode cX11_init 29 = .ok (.aload_n 0, 1) := by decide +kernel
theorem dX11_init_30 : decode cX11_init 30 = .ok (.bipush 60, 2) := by decide +kernel
theorem dX11_init_32 : decode cX11_init 32 = .ok (.newarray .boolean, 2) := by decide +kernel
theorem dX11_init_34 : decode cX11_init 34 = .ok (.putfield 19, 3) := by decide +kernel
theorem dX11_init_37 : decode cX11_init 37 = .ok (.aload_n 0, 1) := by decide +kernel
theorem dX11_init_38 : decode cX11_init 38 = .ok (.bipush 60, 2) := by decide +kernel
theorem dX11_init_40 : decode cX11_init 40 = .ok (.newarray .boolean, 2) := by decide +kernel
theorem dX11_init_42 : decode cX11_init 42 = .ok (.putfield 23, 3) := by decide +kernel
theorem dX11_init_45 : decode cX11_init 45 = .ok (.aload_n 0, 1) := by decide +kernel
theorem dX11_init_46 : decode cX11_init 46 = .ok (.bipush 60, 2) := by decide +kernel
theorem dX11_init_48 : decode cX11_init 48 = .ok (.newarray .int, 2) := by decide +kernel
theorem dX11_init_50 : decode cX11_init 50 = .ok (.putfield 26, 3) := by decide +kernel
theorem dX11_init_53 : decode cX11_init 53 = .ok (.aload_n 0, 1) := by decide +kernel
theorem dX11_init_54 : decode cX11_init 54 = .ok (.bipush 60, 2) := by decide +kernel
theorem dX11_init_56 : decode cX11_init 56 = .ok (.newarray .boolean, 2) := by decide +kernel
theorem dX11_init_58 : decode cX11_init 58 = .ok (.putfield 29, 3) := by decide +kernel
theorem dX11_init_61 : decode cX11_init 61 = .ok (.aload_n 0, 1) := by decide +kernel
theorem dX11_init_62 : decode cX11_init 62 = .ok (.sipush 5776, 3) := by decide +kernel
theorem dX11_init_65 : decode cX11_init 65 = .ok (.newarray .int, 2) := by decide +kernel
theorem dX11_init_67 : decode cX11_init 67 = .ok (.putfield 32, 3) := by decide +kernel
theorem dX11_init_70 : decode cX11_init 70 = .ok (.aload_n 0, 1) := by decide +kernel
theorem dX11_init_71 : decode cX11_init 71 = .ok (.sipush 722, 3) := by decide +kernel
theorem dX11_init_74 : decode cX11_init 74 = .ok (.newarray .int, 2) := by decide +kernel
theorem dX11_init_76 : decode cX11_init 76 = .ok (.putfield 35, 3) := by decide +kernel
theorem dX11_init_79 : decode cX11_init 79 = .ok (.aload_n 0, 1) := by decide +kernel
theorem dX11_init_80 : decode cX11_init 80 = .ok (.sipush 722, 3) := by decide +kernel
theorem dX11_init_83 : decode cX11_init 83 = .ok (.newarray .int, 2) := by decide +kernel
theorem dX11_init_85 : decode cX11_init 85 = .ok (.putfield 38, 3) := by decide +kernel
theorem dX11_init_88 : decode cX11_init 88 = .ok (.aload_n 0, 1) := by decide +kernel
theorem dX11_init_89 : decode cX11_init 89 = .ok (.sipush 5776, 3) := by decide +kernel
theorem dX11_init_92 : decode cX11_init 92 = .ok (.newarray .int, 2) := by decide +kernel
theorem dX11_init_94 : decode cX11_init 94 = .ok (.putfield 41, 3) := by decide +kernel
theorem dX11_init_97 : decode cX11_init 97 = .ok (.aload_n 0, 1) := by decide +kernel
theorem dX11_init_98 : decode cX11_init 98 = .ok (.sipush 722, 3) := by decide +kernel
theorem dX11_init_101 : decode cX11_init 101 = .ok (.newarray .int, 2) := by decide +kernel
theorem dX11_init_103 : decode cX11_init 103 = .ok (.putfield 44, 3) := by decide +kernel
theorem dX11_init_106 : decode cX11_init 106 = .ok (.aload_n 0, 1) := by decide +kernel
theorem dX11_init_107 : decode cX11_init 107 = .ok (.sipush 722, 3) := by decide +kernel
theorem dX11_init_110 : decode cX11_init 110 = .ok (.newarray .int, 2) := by decide +kernel
theorem dX11_init_112 : decode cX11_init 112 = .ok (.putfield 47, 3) := by decide +kernel
theorem dX11_init_115 : decode cX11_init 115 = .ok (.aload_n 0, 1) := by decide +kernel
theorem dX11_init_116 : decode cX11_init 116 = .ok (.sipush 5776, 3) := by decide +kernel
theorem dX11_init_119 : decode cX11_init 119 = .ok (.newarray .int, 2) := by decide +kernel
theorem dX11_init_121 : decode cX11_init 121 = .ok (.putfield 50, 3) := by decide +kernel
theorem dX11_init_124 : decode cX11_init 124 = .ok (.aload_n 0, 1) := by decide +kernel
theorem dX11_init_125 : decode cX11_init 125 = .ok (.sipush 14440, 3) := by decide +kernel
theorem dX11_init_128 : decode cX11_init 128 = .ok (.newarray .int, 2) := by decide +kernel
theorem dX11_init_130 : decode cX11_init 130 = .ok (.putfield 53, 3) := by decide +kernel
theorem dX11_init_133 : decode cX11_init 133 = .ok (.aload_n 0, 1) := by decide +kernel
theorem dX11_init_134 : decode cX11_init 134 = .ok (.sipush 14440, 3) := by decide +kernel
theorem dX11_init_137 : decode cX11_init 137 = .ok (.newarray .int, 2) := by decide +kernel
theorem dX11_init_139 : decode cX11_init 139 = .ok (.putfield 56, 3) := by decide +kernel
theorem dX11_init_142 : decode cX11_init 142 = .ok (.aload_n 0, 1) := by decide +kernel
theorem dX11_init_143 : decode cX11_init 143 = .ok (.sipush 7220, 3) := by decide +kernel
theorem dX11_init_146 : decode cX11_init 146 = .ok (.newarray .int, 2) := by decide +kernel
theorem dX11_init_148 : decode cX11_init 148 = .ok (.putfield 59, 3) := by decide +kernel
theorem dX11_init_151 : decode cX11_init 151 = .ok (.aload_n 0, 1) := by decide +kernel
theorem dX11_init_152 : decode cX11_init 152 = .ok (.sipush 7220, 3) := by decide +kernel
theorem dX11_init_155 : decode cX11_init 155 = .ok (.newarray .int, 2) := by decide +kernel
theorem dX11_init_157 : decode cX11_init 157 = .ok (.putfield 62, 3) := by decide +kernel
theorem dX11_init_160 : decode cX11_init 160 = .ok (.aload_n 0, 1) := by decide +kernel
theorem dX11_init_161 : decode cX11_init 161 = .ok (.sipush 240, 3) := by decide +kernel
theorem dX11_init_164 : decode cX11_init 164 = .ok (.newarray .int, 2) := by decide +kernel
theorem dX11_init_166 : decode cX11_init 166 = .ok (.putfield 65, 3) := by decide +kernel
theorem dX11_init_169 : decode cX11_init 169 = .ok (.aload_n 0, 1) := by decide +kernel
theorem dX11_init_170 : decode cX11_init 170 = .ok (.sipush 240, 3) := by decide +kernel
theorem dX11_init_173 : decode cX11_init 173 = .ok (.newarray .int, 2) := by decide +kernel
theorem dX11_init_175 : decode cX11_init 175 = .ok (.putfield 68, 3) := by decide +kernel
theorem dX11_init_178 : decode cX11_init 178 = .ok (.aload_n 0, 1) := by decide +kernel
theorem dX11_init_179 : decode cX11_init 179 = .ok (.bipush 30, 2) := by decide +kernel
theorem dX11_init_181 : decode cX11_init 181 = .ok (.newarray .int, 2) := by decide +kernel
theorem dX11_init_183 : decode cX11_init 183 = .ok (.putfield 71, 3) := by decide +kernel
theorem dX11_init_186 : decode cX11_init 186 = .ok (.aload_n 0, 1) := by decide +kernel
theorem dX11_init_187 : decode cX11_init 187 = .ok (.bipush 16, 2) := by decide +kernel
theorem dX11_init_189 : decode cX11_init 189 = .ok (.newarray .int, 2) := by decide +kernel
theorem dX11_init_191 : decode cX11_init 191 = .ok (.putfield 74, 3) := by decide +kernel
theorem dX11_init_194 : decode cX11_init 194 = .ok (.aload_n 0, 1) := by decide +kernel
theorem dX11_init_195 : decode cX11_init 195 = .ok (.bipush 24, 2) := by decide +kernel
theorem dX11_init_197 : decode cX11_init 197 = .ok (.newarray .int, 2) := by decide +kernel
theorem dX11_init_199 : decode cX11_init 199 = .ok (.putfield 77, 3) := by decide +kernel
theorem dX11_init_202 : decode cX11_init 202 = .ok (.aload_n 0, 1) := by decide +kernel
theorem dX11_init_203 : decode cX11_init 203 = .ok (.sipush 200, 3) := by decide +kernel
theorem dX11_init_206 : decode cX11_init 206 = .ok (.newarray .byte, 2) := by decide +kernel
theorem dX11_init_208 : decode cX11_init 208 = .ok (.putfield 80, 3) := by decide +kernel
theorem dX11_init_211 : decode cX11_init 211 = .ok (.aload_n 0, 1) := by decide +kernel
theorem dX11_init_212 : decode cX11_init 212 = .ok (.sipush 1200, 3) := by decide +kernel
theorem dX11_init_215 : decode cX11_init 215 = .ok (.newarray .int, 2) := by decide +kernel
theorem dX11_init_217 : decode cX11_init 217 = .ok (.putfield 84, 3) := by decide +kernel
theorem dX11_init_220 : decode cX11_init 220 = .ok (.aload_n 0, 1) := by decide +kernel
theorem dX11_init_221 : decode cX11_init 221 = .ok (.sipush 1200, 3) := by decide +kernel
theorem dX11_init_224 : decode cX11_init 224 = .ok (.newarray .int, 2) := by decide +kernel
theorem dX11_init_226 : decode cX11_init 226 = .ok (.putfield 87, 3) := by decide +kernel
theorem dX11_init_229 : decode cX11_init 229 = .ok (.aload_n 0, 1) := by decide +kernel
theorem dX11_init_230 : decode cX11_init 230 = .ok (.sipush 1200, 3) := by decide +kernel
theorem dX11_init_233 : decode cX11_init 233 = .ok (.newarray .int, 2) := by decide +kernel
theorem dX11_init_235 : decode cX11_init 235 = .ok (.putfield 90, 3) := by decide +kernel
theorem dX11_init_238 : decode cX11_init 238 = .ok (.aload_n 0, 1) := by decide +kernel
theorem dX11_init_239 : decode cX11_init 239 = .ok (.sipush 1200, 3) := by decide +kernel
theorem dX11_init_242 : decode cX11_init 242 = .ok (.newarray .int, 2) := by decide +kernel
theorem dX11_init_244 : decode cX11_init 244 = .ok (.putfield 93, 3) := by decide +kernel
theorem dX11_init_247 : decode cX11_init 247 = .ok (.aload_n 0, 1) := by decide +kernel
theorem dX11_init_248 : decode cX11_init 248 = .ok (.sipush 1200, 3) := by decide +kernel
theorem dX11_init_251 : decode cX11_init 251 = .ok (.newarray .int, 2) := by decide +kernel
theorem dX11_init_253 : decode cX11_init 253 = .ok (.putfield 96, 3) := by decide +kernel
theorem dX11_init_256 : decode cX11_init 256 = .ok (.aload_n 0, 1) := by decide +kernel
theorem dX11_init_257 : decode cX11_init 257 = .ok (.sipush 1200, 3) := by decide +kernel
theorem dX11_init_260 : decode cX11_init 260 = .ok (.newarray .int, 2) := by decide +kernel
theorem dX11_init_262 : decode cX11_init 262 = .ok (.putfield 99, 3) := by decide +kernel
theorem dX11_init_265 : decode cX11_init 265 = .ok (.aload_n 0, 1) := by decide +kernel
theorem dX11_init_266 : decode cX11_init 266 = .ok (.sipush 18600, 3) := by decide +kernel
theorem dX11_init_269 : decode cX11_init 269 = .ok (.newarray .int, 2) := by decide +kernel
theorem dX11_init_271 : decode cX11_init 271 = .ok (.putfield 102, 3) := by decide +kernel
theorem dX11_init_274 : decode cX11_init 274 = .ok (.aload_n 0, 1) := by decide +kernel
theorem dX11_init_275 : decode cX11_init 275 = .ok (.sipush 620, 3) := by decide +kernel
theorem dX11_init_278 : decode cX11_init 278 = .ok (.newarray .boolean, 2) := by decide +kernel
theorem dX11_init_280 : decode cX11_init 280 = .ok (.putfield 105, 3) := by decide +kernel
theorem dX11_init_283 : decode cX11_init 283 = .ok (.aload_n 0, 1) := by decide +kernel
theorem dX11_init_284 : decode cX11_init 284 = .ok (.sipush 620, 3) := by decide +kernel
theorem dX11_init_287 : decode cX11_init 287 = .ok (.newarray .boolean, 2) := by decide +kernel
theorem dX11_init_289 : decode cX11_init 289 = .ok (.putfield 108, 3) := by decide +kernel
theorem dX11_init_292 : decode cX11_init 292 = .ok (.aload_n 0, 1) := by decide +kernel
theorem dX11_init_293 : decode cX11_init 293 = .ok (.bipush 64, 2) := by decide +kernel
theorem dX11_init_295 : decode cX11_init 295 = .ok (.newarray .int, 2) := by decide +kernel
theorem dX11_init_297 : decode cX11_init 297 = .ok (.putfield 111, 3) := by decide +kernel
theorem dX11_init_300 : decode cX11_init 300 = .ok (.aload_n 0, 1) := by decide +kernel
theorem dX11_init_301 : decode cX11_init 301 = .ok (.sipush 390, 3) := by decide +kernel
theorem dX11_init_304 : decode cX11_init 304 = .ok (.newarray .int, 2) := by decide +kernel
theorem dX11_init_306 : decode cX11_init 306 = .ok (.putfield 114, 3) := by decide +kernel
theorem dX11_init_309 : decode cX11_init 309 = .ok (.aload_n 0, 1) := by decide +kernel
theorem dX11_init_310 : decode cX11_init 310 = .ok (.bipush 64, 2) := by decide +kernel
theorem dX11_init_312 : decode cX11_init 312 = .ok (.newarray .int, 2) := by decide +kernel
theorem dX11_init_314 : decode cX11_init 314 = .ok (.putfield 117, 3) := by decide +kernel
theorem dX11_init_317 : decode cX11_init 317 = .ok (.aload_n 0, 1) := by decide +kernel
theorem dX11_init_318 : decode cX11_init 318 = .ok (.bipush 64, 2) := by decide +kernel
theorem dX11_init_320 : decode cX11_init 320 = .ok (.newarray .int, 2) := by decide +kernel
theorem dX11_init_322 : decode cX11_init 322 = .ok (.putfield 120, 3) := by decide +kernel
theorem dX11_init_325 : decode cX11_init 325 = .ok (.aload_n 0, 1) := by decide +kernel
theorem dX11_init_326 : decode cX11_init 326 = .ok (.bipush 64, 2) := by decide +kernel
theorem dX11_init_328 : decode cX11_init 328 = .ok (.newarray .int, 2) := by decide +kernel
theorem dX11_init_330 : decode cX11_init 330 = .ok (.putfield 123, 3) := by decide +kernel
theorem dX11_init_333 : decode cX11_init 333 = .ok (.aload_n 0, 1) := by decide +kernel
theorem dX11_init_334 : decode cX11_init 334 = .ok (.iconst 1, 1) := by decide +kernel
theorem dX11_init_335 : decode cX11_init 335 = .ok (.putfield 126, 3) := by decide +kernel
theorem dX11_init_338 : decode cX11_init 338 = .ok (.iconst 0, 1) := by decide +kernel
theorem dX11_init_339 : decode cX11_init 339 = .ok (.istore_n 1, 1) := by decide +kernel
theorem dX11_init_340 : decode cX11_init 340 = .ok (.iload_n 1, 1) := by decide +kernel
theorem dX11_init_341 : decode cX11_init 341 = .ok (.sipush 240, 3) := by decide +kernel
theorem dX11_init_344 : decode cX11_init 344 = .ok (.if_icmp .ge 16, 3) := by decide +kernel
theorem dX11_init_347 : decode cX11_init 347 = .ok (.aload_n 0, 1) := by decide +kernel
theorem dX11_init_348 : decode cX11_init 348 = .ok (.getfield 65, 3) := by decide +kernel
theorem dX11_init_351 : decode cX11_init 351 = .ok (.iload_n 1, 1) := by decide +kernel
theorem dX11_init_352 : decode cX11_init 352 = .ok (.iconst (-1), 1) := by decide +kernel
theorem dX11_init_353 : decode cX11_init 353 = .ok (.iastore, 1) := by decide +kernel
theorem dX11_init_354 : decode cX11_init 354 = .ok (.iinc 1 1, 3) := by decide +kernel
theorem dX11_init_357 : decode cX11_init 357 = .ok (.goto (-17), 3) := by decide +kernel
theorem dX11_init_360 : decode cX11_init 360 = .ok (.aload_n 0, 1) := by decide +kernel
theorem dX11_init_361 : decode cX11_init 361 = .ok (.invokevirtual 130, 3) := by decide +kernel
theorem dX11_init_364 : decode cX11_init 364 = .ok (.return_, 1) := by decide +kernel
theorem dX11_thrown_0 : decode cX11_thrown 0 = .ok (.aload_n 0, 1) := by decide +kernel
theorem dX11_thrown_1 : decode cX11_thrown 1 = .ok (.getfield 133, 3) := by decide +kernel
theorem dX11_thrown_4 : decode cX11_thrown 4 = .ok (.ireturn, 1) := by decide +kernel
theorem dX11_bad_0 : decode cX11_bad 0 = .ok (.iload_n 1, 1) := by decide +kernel
theorem dX11_bad_1 : decode cX11_bad 1 = .ok (.ifCond .eq 8, 3) := by decide +kernel
theorem dX11_bad_4 : decode cX11_bad 4 = .ok (.aload_n 0, 1) := by decide +kernel
theorem dX11_bad_5 : decode cX11_bad 5 = .ok (.iload_n 2, 1) := by decide +kernel
theorem dX11_bad_6 : decode cX11_bad 6 = .ok (.putfield 133, 3) := by decide +kernel
theorem dX11_bad_9 : decode cX11_bad 9 = .ok (.iload_n 1, 1) := by decide +kernel
theorem dX11_bad_10 : decode cX11_bad 10 = .ok (.ireturn, 1) := by decide +kernel
theorem dX11_isCall_0 : decode cX11_isCall 0 = .ok (.iload_n 0, 1) := by decide +kernel
theorem dX11_isCall_1 : decode cX11_isCall 1 = .ok (.ifCond .lt 13, 3) := by decide +kernel
theorem dX11_isCall_4 : decode cX11_isCall 4 = .ok (.iload_n 0, 1) := by decide +kernel
theorem dX11_isCall_5 : decode cX11_isCall 5 = .ok (.bipush 8, 2) := by decide +kernel
theorem dX11_isCall_7 : decode cX11_isCall 7 = .ok (.if_icmp .ge 7, 3) := by decide +kernel
theorem dX11_isCall_10 : decode cX11_isCall 10 = .ok (.iconst 1, 1) := by decide +kernel
theorem dX11_isCall_11 : decode cX11_isCall 11 = .ok (.goto 4, 3) := by decide +kernel
theorem dX11_isCall_14 : decode cX11_isCall 14 = .ok (.iconst 0, 1) := by decide +kernel
theorem dX11_isCall_15 : decode cX11_isCall 15 = .ok (.ireturn, 1) := by decide +kernel
theorem dX11_push_0 : decode cX11_push 0 = .ok (.aload_n 0, 1) := by decide +kernel
theorem dX11_push_1 : decode cX11_push 1 = .ok (.iconst 0, 1) := by decide +kernel
theorem dX11_push_2 : decode cX11_push 2 = .ok (.putfield 133, 3) := by decide +kernel
theorem dX11_push_5 : decode cX11_push 5 = .ok (.aload_n 0, 1) := by decide +kernel
theorem dX11_push_6 : decode cX11_push 6 = .ok (.iload_n 1, 1) := by decide +kernel
theorem dX11_push_7 : decode cX11_push 7 = .ok (.invokestatic 136, 3) := by decide +kernel
theorem dX11_push_10 : decode cX11_push 10 = .ok (.ifCond .ne 7, 3) := by decide +kernel
theorem dX11_push_13 : decode cX11_push 13 = .ok (.iconst 1, 1) := by decide +kernel
theorem dX11_push_14 : decode cX11_push 14 = .ok (.goto 4, 3) := by decide +kernel
theorem dX11_push_17 : decode cX11_push 17 = .ok (.iconst 0, 1) := by decide +kernel
theorem dX11_push_18 : decode cX11_push 18 = .ok (.iconst 1, 1) := by decide +kernel
theorem dX11_push_19 : decode cX11_push 19 = .ok (.invokevirtual 140, 3) := by decide +kernel
theorem dX11_push_22 : decode cX11_push 22 = .ok (.ifCond .eq 5, 3) := by decide +kernel
theorem dX11_push_25 : decode cX11_push 25 = .ok (.iconst 0, 1) := by decide +kernel
theorem dX11_push_26 : decode cX11_push 26 = .ok (.ireturn, 1) := by decide +kernel
theorem dX11_push_27 : decode cX11_push 27 = .ok (.aload_n 0, 1) := by decide +kernel
theorem dX11_push_28 : decode cX11_push 28 = .ok (.getfield 144, 3) := by decide +kernel
theorem dX11_push_31 : decode cX11_push 31 = .ok (.bipush 12, 2) := by decide +kernel
theorem dX11_push_33 : decode cX11_push 33 = .ok (.if_icmp .ne 5, 3) := by decide +kernel
theorem dX11_push_36 : decode cX11_push 36 = .ok (.iconst (-1), 1) := by decide +kernel
theorem dX11_push_37 : decode cX11_push 37 = .ok (.ireturn, 1) := by decide +kernel
theorem dX11_push_38 : decode cX11_push 38 = .ok (.aload_n 0, 1) := by decide +kernel
theorem dX11_push_39 : decode cX11_push 39 = .ok (.getfield 9, 3) := by decide +kernel
theorem dX11_push_42 : decode cX11_push 42 = .ok (.aload_n 0, 1) := by decide +kernel
theorem dX11_push_43 : decode cX11_push 43 = .ok (.getfield 144, 3) := by decide +kernel
theorem dX11_push_46 : decode cX11_push 46 = .ok (.iload_n 1, 1) := by decide +kernel
theorem dX11_push_47 : decode cX11_push 47 = .ok (.iastore, 1) := by decide +kernel
theorem dX11_push_48 : decode cX11_push 48 = .ok (.aload_n 0, 1) := by decide +kernel
theorem dX11_push_49 : decode cX11_push 49 = .ok (.dup, 1) := by decide +kernel
theorem dX11_push_50 : decode cX11_push 50 = .ok (.getfield 144, 3) := by decide +kernel
theorem dX11_push_53 : decode cX11_push 53 = .ok (.iconst 1, 1) := by decide +kernel
theorem dX11_push_54 : decode cX11_push 54 = .ok (.iadd, 1) := by decide +kernel
theorem dX11_push_55 : decode cX11_push 55 = .ok (.putfield 144, 3) := by decide +kernel
theorem dX11_push_58 : decode cX11_push 58 = .ok (.aload_n 0, 1) := by decide +kernel
theorem dX11_push_59 : decode cX11_push 59 = .ok (.getfield 144, 3) := by decide +kernel
theorem dX11_push_62 : decode cX11_push 62 = .ok (.ireturn, 1) := by decide +kernel
theorem dX11_empty_0 : decode cX11_empty 0 = .ok (.aload_n 0, 1) := by decide +kernel
theorem dX11_empty_1 : decode cX11_empty 1 = .ok (.iconst 0, 1) := by decide +kernel
theorem dX11_empty_2 : decode cX11_empty 2 = .ok (.putfield 133, 3) := by decide +kernel
theorem dX11_empty_5 : decode cX11_empty 5 = .ok (.aload_n 0, 1) := by decide +kernel
theorem dX11_empty_6 : decode cX11_empty 6 = .ok (.getfield 144, 3) := by decide +kernel
theorem dX11_empty_9 : decode cX11_empty 9 = .ok (.istore_n 1, 1) := by decide +kernel
theorem dX11_empty_10 : decode cX11_empty 10 = .ok (.aload_n 0, 1) := by decide +kernel
theorem dX11_empty_11 : decode cX11_empty 11 = .ok (.iconst 0, 1) := by decide +kernel
theorem dX11_empty_12 : decode cX11_empty 12 = .ok (.putfield 144, 3) := by decide +kernel
theorem dX11_empty_15 : decode cX11_empty 15 = .ok (.iload_n 1, 1) := by decide +kernel
theorem dX11_empty_16 : decode cX11_empty 16 = .ok (.ireturn, 1) := by decide +kernel
theorem dX11_hand_0 : decode cX11_hand 0 = .ok (.aload_n 0, 1) := by decide +kernel
theorem dX11_hand_1 : decode cX11_hand 1 = .ok (.iconst 0, 1) := by decide +kernel
theorem dX11_hand_2 : decode cX11_hand 2 = .ok (.putfield 133, 3) := by decide +kernel
theorem dX11_hand_5 : decode cX11_hand 5 = .ok (.iload_n 1, 1) := by decide +kernel
theorem dX11_hand_6 : decode cX11_hand 6 = .ok (.ifCond .lt 20, 3) := by decide +kernel
theorem dX11_hand_9 : decode cX11_hand 9 = .ok (.iload_n 1, 1) := by decide +kernel
theorem dX11_hand_10 : decode cX11_hand 10 = .ok (.aload_n 0, 1) := by decide +kernel
theorem dX11_hand_11 : decode cX11_hand 11 = .ok (.getfield 144, 3) := by decide +kernel
theorem dX11_hand_14 : decode cX11_hand 14 = .ok (.if_icmp .ge 12, 3) := by decide +kernel
theorem dX11_hand_17 : decode cX11_hand 17 = .ok (.aload_n 0, 1) := by decide +kernel
theorem dX11_hand_18 : decode cX11_hand 18 = .ok (.getfield 9, 3) := by decide +kernel
theorem dX11_hand_21 : decode cX11_hand 21 = .ok (.iload_n 1, 1) := by decide +kernel
theorem dX11_hand_22 : decode cX11_hand 22 = .ok (.iaload, 1) := by decide +kernel
theorem dX11_hand_23 : decode cX11_hand 23 = .ok (.goto 4, 3) := by decide +kernel
theorem dX11_hand_26 : decode cX11_hand 26 = .ok (.iconst (-1), 1) := by decide +kernel
theorem dX11_hand_27 : decode cX11_hand 27 = .ok (.ireturn, 1) := by decide +kernel
theorem dX11_row_0 : decode cX11_row 0 = .ok (.aload_n 0, 1) := by decide +kernel
theorem dX11_row_1 : decode cX11_row 1 = .ok (.iconst 0, 1) := by decide +kernel
theorem dX11_row_2 : decode cX11_row 2 = .ok (.putfield 133, 3) := by decide +kernel
theorem dX11_row_5 : decode cX11_row 5 = .ok (.iload_n 1, 1) := by decide +kernel
theorem dX11_row_6 : decode cX11_row 6 = .ok (.ifCond .ne 12, 3) := by decide +kernel
theorem dX11_row_9 : decode cX11_row 9 = .ok (.aload_n 0, 1) := by decide +kernel
theorem dX11_row_10 : decode cX11_row 10 = .ok (.getfield 144, 3) := by decide +kernel
theorem dX11_row_13 : decode cX11_row 13 = .ok (.ifCond .ne 5, 3) := by decide +kernel
theorem dX11_row_16 : decode cX11_row 16 = .ok (.iconst (-1), 1) := by decide +kernel
theorem dX11_row_17 : decode cX11_row 17 = .ok (.ireturn, 1) := by decide +kernel
theorem dX11_row_18 : decode cX11_row 18 = .ok (.aload_n 0, 1) := by decide +kernel
theorem dX11_row_19 : decode cX11_row 19 = .ok (.getfield 147, 3) := by decide +kernel
theorem dX11_row_22 : decode cX11_row 22 = .ok (.bipush 60, 2) := by decide +kernel
theorem dX11_row_24 : decode cX11_row 24 = .ok (.if_icmp .ne 6, 3) := by decide +kernel
theorem dX11_row_27 : decode cX11_row 27 = .ok (.bipush (-2), 2) := by decide +kernel
theorem dX11_row_29 : decode cX11_row 29 = .ok (.ireturn, 1) := by decide +kernel
theorem dX11_row_30 : decode cX11_row 30 = .ok (.iconst 0, 1) := by decide +kernel
theorem dX11_row_31 : decode cX11_row 31 = .ok (.istore_n 2, 1) := by decide +kernel
theorem dX11_row_32 : decode cX11_row 32 = .ok (.iload_n 2, 1) := by decide +kernel
theorem dX11_row_33 : decode cX11_row 33 = .ok (.aload_n 0, 1) := by decide +kernel
theorem dX11_row_34 : decode cX11_row 34 = .ok (.getfield 144, 3) := by decide +kernel
theorem dX11_row_37 : decode cX11_row 37 = .ok (.if_icmp .ge 29, 3) := by decide +kernel
theorem dX11_row_40 : decode cX11_row 40 = .ok (.aload_n 0, 1) := by decide +kernel
theorem dX11_row_41 : decode cX11_row 41 = .ok (.getfield 13, 3) := by decide +kernel
theorem dX11_row_44 : decode cX11_row 44 = .ok (.bipush 12, 2) := by decide +kernel
theorem dX11_row_46 : decode cX11_row 46 = .ok (.aload_n 0, 1) := by decide +kernel
theorem dX11_row_47 : decode cX11_row 47 = .ok (.getfield 147, 3) := by decide +kernel
theorem dX11_row_50 : decode cX11_row 50 = .ok (.imul, 1) := by decide +kernel
theorem dX11_row_51 : decode cX11_row 51 = .ok (.iload_n 2, 1) := by decide +kernel
theorem dX11_row_52 : decode cX11_row 52 = .ok (.iadd, 1) := by decide +kernel
theorem dX11_row_53 : decode cX11_row 53 = .ok (.aload_n 0, 1) := by decide +kernel
theorem dX11_row_54 : decode cX11_row 54 = .ok (.getfield 9, 3) := by decide +kernel
theorem dX11_row_57 : decode cX11_row 57 = .ok (.iload_n 2, 1) := by decide +kernel
theorem dX11_row_58 : decode cX11_row 58 = .ok (.iaload, 1) := by decide +kernel
theorem dX11_row_59 : decode cX11_row 59 = .ok (.iastore, 1) := by decide +kernel
theorem dX11_row_60 : decode cX11_row 60 = .ok (.iinc 2 1, 3) := by decide +kernel
theorem dX11_row_63 : decode cX11_row 63 = .ok (.goto (-31), 3) := by decide +kernel
theorem dX11_row_66 : decode cX11_row 66 = .ok (.aload_n 0, 1) := by decide +kernel
theorem dX11_row_67 : decode cX11_row 67 = .ok (.getfield 16, 3) := by decide +kernel
theorem dX11_row_70 : decode cX11_row 70 = .ok (.aload_n 0, 1) := by decide +kernel
theorem dX11_row_71 : decode cX11_row 71 = .ok (.getfield 147, 3) := by decide +kernel
theorem dX11_row_74 : decode cX11_row 74 = .ok (.aload_n 0, 1) := by decide +kernel
theorem dX11_row_75 : decode cX11_row 75 = .ok (.getfield 144, 3) := by decide +kernel
theorem dX11_row_78 : decode cX11_row 78 = .ok (.iastore, 1) := by decide +kernel
theorem dX11_row_79 : decode cX11_row 79 = .ok (.aload_n 0, 1) := by decide +kernel
theorem dX11_row_80 : decode cX11_row 80 = .ok (.getfield 19, 3) := by decide +kernel
theorem dX11_row_83 : decode cX11_row 83 = .ok (.aload_n 0, 1) := by decide +kernel
theorem dX11_row_84 : decode cX11_row 84 = .ok (.getfield 147, 3) := by decide +kernel
theorem dX11_row_87 : decode cX11_row 87 = .ok (.iload_n 1, 1) := by decide +kernel
theorem dX11_row_88 : decode cX11_row 88 = .ok (.bastore, 1) := by decide +kernel
theorem dX11_row_89 : decode cX11_row 89 = .ok (.aload_n 0, 1) := by decide +kernel
theorem dX11_row_90 : decode cX11_row 90 = .ok (.getfield 23, 3) := by decide +kernel
theorem dX11_row_93 : decode cX11_row 93 = .ok (.aload_n 0, 1) := by decide +kernel
theorem dX11_row_94 : decode cX11_row 94 = .ok (.getfield 147, 3) := by decide +kernel
theorem dX11_row_97 : decode cX11_row 97 = .ok (.iconst 1, 1) := by decide +kernel
theorem dX11_row_98 : decode cX11_row 98 = .ok (.bastore, 1) := by decide +kernel
theorem dX11_row_99 : decode cX11_row 99 = .ok (.aload_n 0, 1) := by decide +kernel
theorem dX11_row_100 : decode cX11_row 100 = .ok (.iconst 0, 1) := by decide +kernel
theorem dX11_row_101 : decode cX11_row 101 = .ok (.putfield 144, 3) := by decide +kernel
theorem dX11_row_104 : decode cX11_row 104 = .ok (.aload_n 0, 1) := by decide +kernel
theorem dX11_row_105 : decode cX11_row 105 = .ok (.dup, 1) := by decide +kernel
theorem dX11_row_106 : decode cX11_row 106 = .ok (.getfield 147, 3) := by decide +kernel
theorem dX11_row_109 : decode cX11_row 109 = .ok (.iconst 1, 1) := by decide +kernel
theorem dX11_row_110 : decode cX11_row 110 = .ok (.iadd, 1) := by decide +kernel
theorem dX11_row_111 : decode cX11_row 111 = .ok (.putfield 147, 3) := by decide +kernel
theorem dX11_row_114 : decode cX11_row 114 = .ok (.aload_n 0, 1) := by decide +kernel
theorem dX11_row_115 : decode cX11_row 115 = .ok (.getfield 147, 3) := by decide +kernel
theorem dX11_row_118 : decode cX11_row 118 = .ok (.iconst 1, 1) := by decide +kernel
theorem dX11_row_119 : decode cX11_row 119 = .ok (.isub, 1) := by decide +kernel
theorem dX11_row_120 : decode cX11_row 120 = .ok (.ireturn, 1) := by decide +kernel
theorem dX11_isRow_0 : decode cX11_isRow 0 = .ok (.aload_n 0, 1) := by decide +kernel
theorem dX11_isRow_1 : decode cX11_isRow 1 = .ok (.iload_n 1, 1) := by decide +kernel
theorem dX11_isRow_2 : decode cX11_isRow 2 = .ok (.ifCond .lt 11, 3) := by decide +kernel
theorem dX11_isRow_5 : decode cX11_isRow 5 = .ok (.iload_n 1, 1) := by decide +kernel
theorem dX11_isRow_6 : decode cX11_isRow 6 = .ok (.aload_n 0, 1) := by decide +kernel
theorem dX11_isRow_7 : decode cX11_isRow 7 = .ok (.getfield 147, 3) := by decide +kernel
theorem dX11_isRow_10 : decode cX11_isRow 10 = .ok (.if_icmp .lt 7, 3) := by decide +kernel
theorem dX11_isRow_13 : decode cX11_isRow 13 = .ok (.iconst 1, 1) := by decide +kernel
theorem dX11_isRow_14 : decode cX11_isRow 14 = .ok (.goto 4, 3) := by decide +kernel
theorem dX11_isRow_17 : decode cX11_isRow 17 = .ok (.iconst 0, 1) := by decide +kernel
theorem dX11_isRow_18 : decode cX11_isRow 18 = .ok (.putfield 133, 3) := by decide +kernel
theorem dX11_isRow_21 : decode cX11_isRow 21 = .ok (.aload_n 0, 1) := by decide +kernel
theorem dX11_isRow_22 : decode cX11_isRow 22 = .ok (.getfield 133, 3) := by decide +kernel
theorem dX11_isRow_25 : decode cX11_isRow 25 = .ok (.ifCond .ne 7, 3) := by decide +kernel
theorem dX11_isRow_28 : decode cX11_isRow 28 = .ok (.iconst 1, 1) := by decide +kernel
theorem dX11_isRow_29 : decode cX11_isRow 29 = .ok (.goto 4, 3) := by decide +kernel
theorem dX11_isRow_32 : decode cX11_isRow 32 = .ok (.iconst 0, 1) := by decide +kernel
theorem dX11_isRow_33 : decode cX11_isRow 33 = .ok (.ireturn, 1) := by decide +kernel
theorem dX11_drop_0 : decode cX11_drop 0 = .ok (.aload_n 0, 1) := by decide +kernel
theorem dX11_drop_1 : decode cX11_drop 1 = .ok (.iload_n 1, 1) := by decide +kernel
theorem dX11_drop_2 : decode cX11_drop 2 = .ok (.invokevirtual 150, 3) := by decide +kernel
theorem dX11_drop_5 : decode cX11_drop 5 = .ok (.ifCond .ne 5, 3) := by decide +kernel
theorem dX11_drop_8 : decode cX11_drop 8 = .ok (.iconst 0, 1) := by decide +kernel
theorem dX11_drop_9 : decode cX11_drop 9 = .ok (.ireturn, 1) := by decide +kernel
theorem dX11_drop_10 : decode cX11_drop 10 = .ok (.aload_n 0, 1) := by decide +kernel
theorem dX11_drop_11 : decode cX11_drop 11 = .ok (.getfield 23, 3) := by decide +kernel
theorem dX11_drop_14 : decode cX11_drop 14 = .ok (.iload_n 1, 1) := by decide +kernel
theorem dX11_drop_15 : decode cX11_drop 15 = .ok (.baload, 1) := by decide +kernel
theorem dX11_drop_16 : decode cX11_drop 16 = .ok (.istore_n 2, 1) := by decide +kernel
theorem dX11_drop_17 : decode cX11_drop 17 = .ok (.aload_n 0, 1) := by decide +kernel
theorem dX11_drop_18 : decode cX11_drop 18 = .ok (.getfield 23, 3) := by decide +kernel
theorem dX11_drop_21 : decode cX11_drop 21 = .ok (.iload_n 1, 1) := by decide +kernel
theorem dX11_drop_22 : decode cX11_drop 22 = .ok (.iconst 0, 1) := by decide +kernel
theorem dX11_drop_23 : decode cX11_drop 23 = .ok (.bastore, 1) := by decide +kernel
theorem dX11_drop_24 : decode cX11_drop 24 = .ok (.iload_n 2, 1) := by decide +kernel
theorem dX11_drop_25 : decode cX11_drop 25 = .ok (.ireturn, 1) := by decide +kernel
theorem dX11_quarrels_0 : decode cX11_quarrels 0 = .ok (.aload_n 0, 1) := by decide +kernel
theorem dX11_quarrels_1 : decode cX11_quarrels 1 = .ok (.getfield 23, 3) := by decide +kernel
theorem dX11_quarrels_4 : decode cX11_quarrels 4 = .ok (.iload_n 1, 1) := by decide +kernel
theorem dX11_quarrels_5 : decode cX11_quarrels 5 = .ok (.baload, 1) := by decide +kernel
theorem dX11_quarrels_6 : decode cX11_quarrels 6 = .ok (.ifCond .eq 49, 3) := by decide +kernel
theorem dX11_quarrels_9 : decode cX11_quarrels 9 = .ok (.aload_n 0, 1) := by decide +kernel
theorem dX11_quarrels_10 : decode cX11_quarrels 10 = .ok (.getfield 23, 3) := by decide +kernel
theorem dX11_quarrels_13 : decode cX11_quarrels 13 = .ok (.iload_n 2, 1) := by decide +kernel
theorem dX11_quarrels_14 : decode cX11_quarrels 14 = .ok (.baload, 1) := by decide +kernel
theorem dX11_quarrels_15 : decode cX11_quarrels 15 = .ok (.ifCond .eq 40, 3) := by decide +kernel
theorem dX11_quarrels_18 : decode cX11_quarrels 18 = .ok (.aload_n 0, 1) := by decide +kernel
theorem dX11_quarrels_19 : decode cX11_quarrels 19 = .ok (.getfield 19, 3) := by decide +kernel
theorem dX11_quarrels_22 : decode cX11_quarrels 22 = .ok (.iload_n 1, 1) := by decide +kernel
theorem dX11_quarrels_23 : decode cX11_quarrels 23 = .ok (.baload, 1) := by decide +kernel
theorem dX11_quarrels_24 : decode cX11_quarrels 24 = .ok (.ifCond .ne 31, 3) := by decide +kernel
theorem dX11_quarrels_27 : decode cX11_quarrels 27 = .ok (.aload_n 0, 1) := by decide +kernel
theorem dX11_quarrels_28 : decode cX11_quarrels 28 = .ok (.getfield 19, 3) := by decide +kernel
theorem dX11_quarrels_31 : decode cX11_quarrels 31 = .ok (.iload_n 2, 1) := by decide +kernel
theorem dX11_quarrels_32 : decode cX11_quarrels 32 = .ok (.baload, 1) := by decide +kernel
theorem dX11_quarrels_33 : decode cX11_quarrels 33 = .ok (.ifCond .eq 22, 3) := by decide +kernel
theorem dX11_quarrels_36 : decode cX11_quarrels 36 = .ok (.aload_n 0, 1) := by decide +kernel
theorem dX11_quarrels_37 : decode cX11_quarrels 37 = .ok (.getfield 16, 3) := by decide +kernel
theorem dX11_quarrels_40 : decode cX11_quarrels 40 = .ok (.iload_n 1, 1) := by decide +kernel
theorem dX11_quarrels_41 : decode cX11_quarrels 41 = .ok (.iaload, 1) := by decide +kernel
theorem dX11_quarrels_42 : decode cX11_quarrels 42 = .ok (.aload_n 0, 1) := by decide +kernel
theorem dX11_quarrels_43 : decode cX11_quarrels 43 = .ok (.getfield 16, 3) := by decide +kernel
theorem dX11_quarrels_46 : decode cX11_quarrels 46 = .ok (.iload_n 2, 1) := by decide +kernel
theorem dX11_quarrels_47 : decode cX11_quarrels 47 = .ok (.iaload, 1) := by decide +kernel
theorem dX11_quarrels_48 : decode cX11_quarrels 48 = .ok (.if_icmp .gt 7, 3) := by decide +kernel
theorem dX11_quarrels_51 : decode cX11_quarrels 51 = .ok (.iconst 1, 1) := by decide +kernel
theorem dX11_quarrels_52 : decode cX11_quarrels 52 = .ok (.goto 4, 3) := by decide +kernel
theorem dX11_quarrels_55 : decode cX11_quarrels 55 = .ok (.iconst 0, 1) := by decide +kernel
theorem dX11_quarrels_56 : decode cX11_quarrels 56 = .ok (.istore_n 3, 1) := by decide +kernel
theorem dX11_quarrels_57 : decode cX11_quarrels 57 = .ok (.iconst 0, 1) := by decide +kernel
theorem dX11_quarrels_58 : decode cX11_quarrels 58 = .ok (.istore 4, 2) := by decide +kernel
theorem dX11_quarrels_60 : decode cX11_quarrels 60 = .ok (.iload 4, 2) := by decide +kernel
theorem dX11_quarrels_62 : decode cX11_quarrels 62 = .ok (.aload_n 0, 1) := by decide +kernel
theorem dX11_quarrels_63 : decode cX11_quarrels 63 = .ok (.getfield 16, 3) := by decide +kernel
theorem dX11_quarrels_66 : decode cX11_quarrels 66 = .ok (.iload_n 1, 1) := by decide +kernel
theorem dX11_quarrels_67 : decode cX11_quarrels 67 = .ok (.iaload, 1) := by decide +kernel
theorem dX11_quarrels_68 : decode cX11_quarrels 68 = .ok (.if_icmp .ge 46, 3) := by decide +kernel
theorem dX11_quarrels_71 : decode cX11_quarrels 71 = .ok (.iload_n 3, 1) := by decide +kernel
theorem dX11_quarrels_72 : decode cX11_quarrels 72 = .ok (.ifCond .eq 42, 3) := by decide +kernel
theorem dX11_quarrels_75 : decode cX11_quarrels 75 = .ok (.aload_n 0, 1) := by decide +kernel
theorem dX11_quarrels_76 : decode cX11_quarrels 76 = .ok (.getfield 13, 3) := by decide +kernel
theorem dX11_quarrels_79 : decode cX11_quarrels 79 = .ok (.bipush 12, 2) := by decide +kernel
theorem dX11_quarrels_81 : decode cX11_quarrels 81 = .ok (.iload_n 1, 1) := by decide +kernel
theorem dX11_quarrels_82 : decode cX11_quarrels 82 = .ok (.imul, 1) := by decide +kernel
theorem dX11_quarrels_83 : decode cX11_quarrels 83 = .ok (.iload 4, 2) := by decide +kernel
theorem dX11_quarrels_85 : decode cX11_quarrels 85 = .ok (.iadd, 1) := by decide +kernel
theorem dX11_quarrels_86 : decode cX11_quarrels 86 = .ok (.iaload, 1) := by decide +kernel
theorem dX11_quarrels_87 : decode cX11_quarrels 87 = .ok (.aload_n 0, 1) := by decide +kernel
theorem dX11_quarrels_88 : decode cX11_quarrels 88 = .ok (.getfield 13, 3) := by decide +kernel
theorem dX11_quarrels_91 : decode cX11_quarrels 91 = .ok (.bipush 12, 2) := by decide +kernel
theorem dX11_quarrels_93 : decode cX11_quarrels 93 = .ok (.iload_n 2, 1) := by decide +kernel
theorem dX11_quarrels_94 : decode cX11_quarrels 94 = .ok (.imul, 1) := by decide +kernel
theorem dX11_quarrels_95 : decode cX11_quarrels 95 = .ok (.iload 4, 2) := by decide +kernel
theorem dX11_quarrels_97 : decode cX11_quarrels 97 = .ok (.iadd, 1) := by decide +kernel
theorem dX11_quarrels_98 : decode cX11_quarrels 98 = .ok (.iaload, 1) := by decide +kernel
theorem dX11_quarrels_99 : decode cX11_quarrels 99 = .ok (.if_icmp .ne 7, 3) := by decide +kernel
theorem dX11_quarrels_102 : decode cX11_quarrels 102 = .ok (.iconst 1, 1) := by decide +kernel
theorem dX11_quarrels_103 : decode cX11_quarrels 103 = .ok (.goto 4, 3) := by decide +kernel
theorem dX11_quarrels_106 : decode cX11_quarrels 106 = .ok (.iconst 0, 1) := by decide +kernel
theorem dX11_quarrels_107 : decode cX11_quarrels 107 = .ok (.istore_n 3, 1) := by decide +kernel
theorem dX11_quarrels_108 : decode cX11_quarrels 108 = .ok (.iinc 4 1, 3) := by decide +kernel
theorem dX11_quarrels_111 : decode cX11_quarrels 111 = .ok (.goto (-51), 3) := by decide +kernel
theorem dX11_quarrels_114 : decode cX11_quarrels 114 = .ok (.iload_n 3, 1) := by decide +kernel
theorem dX11_quarrels_115 : decode cX11_quarrels 115 = .ok (.ireturn, 1) := by decide +kernel
theorem dX11_cutOf_0 : decode cX11_cutOf 0 = .ok (.aload_n 0, 1) := by decide +kernel
theorem dX11_cutOf_1 : decode cX11_cutOf 1 = .ok (.getfield 16, 3) := by decide +kernel
theorem dX11_cutOf_4 : decode cX11_cutOf 4 = .ok (.iload_n 1, 1) := by decide +kernel
theorem dX11_cutOf_5 : decode cX11_cutOf 5 = .ok (.iaload, 1) := by decide +kernel
theorem dX11_cutOf_6 : decode cX11_cutOf 6 = .ok (.istore_n 2, 1) := by decide +kernel
theorem dX11_cutOf_7 : decode cX11_cutOf 7 = .ok (.iconst 0, 1) := by decide +kernel
theorem dX11_cutOf_8 : decode cX11_cutOf 8 = .ok (.istore_n 3, 1) := by decide +kernel
theorem dX11_cutOf_9 : decode cX11_cutOf 9 = .ok (.iload_n 3, 1) := by decide +kernel
theorem dX11_cutOf_10 : decode cX11_cutOf 10 = .ok (.aload_n 0, 1) := by decide +kernel
theorem dX11_cutOf_11 : decode cX11_cutOf 11 = .ok (.getfield 147, 3) := by decide +kernel
theorem dX11_cutOf_14 : decode cX11_cutOf 14 = .ok (.if_icmp .ge 39, 3) := by decide +kernel
theorem dX11_cutOf_17 : decode cX11_cutOf 17 = .ok (.aload_n 0, 1) := by decide +kernel
theorem dX11_cutOf_18 : decode cX11_cutOf 18 = .ok (.iload_n 3, 1) := by decide +kernel
theorem dX11_cutOf_19 : decode cX11_cutOf 19 = .ok (.iload_n 1, 1) := by decide +kernel
theorem dX11_cutOf_20 : decode cX11_cutOf 20 = .ok (.invokevirtual 153, 3) := by decide +kernel
theorem dX11_cutOf_23 : decode cX11_cutOf 23 = .ok (.ifCond .eq 24, 3) := by decide +kernel
theorem dX11_cutOf_26 : decode cX11_cutOf 26 = .ok (.aload_n 0, 1) := by decide +kernel
theorem dX11_cutOf_27 : decode cX11_cutOf 27 = .ok (.getfield 16, 3) := by decide +kernel
theorem dX11_cutOf_30 : decode cX11_cutOf 30 = .ok (.iload_n 3, 1) := by decide +kernel
theorem dX11_cutOf_31 : decode cX11_cutOf 31 = .ok (.iaload, 1) := by decide +kernel
theorem dX11_cutOf_32 : decode cX11_cutOf 32 = .ok (.iconst 1, 1) := by decide +kernel
theorem dX11_cutOf_33 : decode cX11_cutOf 33 = .ok (.isub, 1) := by decide +kernel
theorem dX11_cutOf_34 : decode cX11_cutOf 34 = .ok (.iload_n 2, 1) := by decide +kernel
theorem dX11_cutOf_35 : decode cX11_cutOf 35 = .ok (.if_icmp .ge 12, 3) := by decide +kernel
theorem dX11_cutOf_38 : decode cX11_cutOf 38 = .ok (.aload_n 0, 1) := by decide +kernel
theorem dX11_cutOf_39 : decode cX11_cutOf 39 = .ok (.getfield 16, 3) := by decide +kernel
theorem dX11_cutOf_42 : decode cX11_cutOf 42 = .ok (.iload_n 3, 1) := by decide +kernel
theorem dX11_cutOf_43 : decode cX11_cutOf 43 = .ok (.iaload, 1) := by decide +kernel
theorem dX11_cutOf_44 : decode cX11_cutOf 44 = .ok (.iconst 1, 1) := by decide +kernel
theorem dX11_cutOf_45 : decode cX11_cutOf 45 = .ok (.isub, 1) := by decide +kernel
theorem dX11_cutOf_46 : decode cX11_cutOf 46 = .ok (.istore_n 2, 1) := by decide +kernel
theorem dX11_cutOf_47 : decode cX11_cutOf 47 = .ok (.iinc 3 1, 3) := by decide +kernel
theorem dX11_cutOf_50 : decode cX11_cutOf 50 = .ok (.goto (-41), 3) := by decide +kernel
theorem dX11_cutOf_53 : decode cX11_cutOf 53 = .ok (.iload_n 2, 1) := by decide +kernel
theorem dX11_cutOf_54 : decode cX11_cutOf 54 = .ok (.ireturn, 1) := by decide +kernel
theorem dX11_isLeftOut_0 : decode cX11_isLeftOut 0 = .ok (.iconst 0, 1) := by decide +kernel
theorem dX11_isLeftOut_1 : decode cX11_isLeftOut 1 = .ok (.istore_n 2, 1) := by decide +kernel
theorem dX11_isLeftOut_2 : decode cX11_isLeftOut 2 = .ok (.iconst 0, 1) := by decide +kernel
theorem dX11_isLeftOut_3 : decode cX11_isLeftOut 3 = .ok (.istore_n 3, 1) := by decide +kernel
theorem dX11_isLeftOut_4 : decode cX11_isLeftOut 4 = .ok (.iload_n 3, 1) := by decide +kernel
theorem dX11_isLeftOut_5 : decode cX11_isLeftOut 5 = .ok (.aload_n 0, 1) := by decide +kernel
theorem dX11_isLeftOut_6 : decode cX11_isLeftOut 6 = .ok (.getfield 147, 3) := by decide +kernel
theorem dX11_isLeftOut_9 : decode cX11_isLeftOut 9 = .ok (.if_icmp .ge 28, 3) := by decide +kernel
theorem dX11_isLeftOut_12 : decode cX11_isLeftOut 12 = .ok (.iload_n 2, 1) := by decide +kernel
theorem dX11_isLeftOut_13 : decode cX11_isLeftOut 13 = .ok (.ifCond .ne 12, 3) := by decide +kernel
theorem dX11_isLeftOut_16 : decode cX11_isLeftOut 16 = .ok (.aload_n 0, 1) := by decide +kernel
theorem dX11_isLeftOut_17 : decode cX11_isLeftOut 17 = .ok (.iload_n 1, 1) := by decide +kernel
theorem dX11_isLeftOut_18 : decode cX11_isLeftOut 18 = .ok (.iload_n 3, 1) := by decide +kernel
theorem dX11_isLeftOut_19 : decode cX11_isLeftOut 19 = .ok (.invokevirtual 153, 3) := by decide +kernel
theorem dX11_isLeftOut_22 : decode cX11_isLeftOut 22 = .ok (.ifCond .eq 7, 3) := by decide +kernel
theorem dX11_isLeftOut_25 : decode cX11_isLeftOut 25 = .ok (.iconst 1, 1) := by decide +kernel
theorem dX11_isLeftOut_26 : decode cX11_isLeftOut 26 = .ok (.goto 4, 3) := by decide +kernel
theorem dX11_isLeftOut_29 : decode cX11_isLeftOut 29 = .ok (.iconst 0, 1) := by decide +kernel
theorem dX11_isLeftOut_30 : decode cX11_isLeftOut 30 = .ok (.istore_n 2, 1) := by decide +kernel
theorem dX11_isLeftOut_31 : decode cX11_isLeftOut 31 = .ok (.iinc 3 1, 3) := by decide +kernel
theorem dX11_isLeftOut_34 : decode cX11_isLeftOut 34 = .ok (.goto (-30), 3) := by decide +kernel
theorem dX11_isLeftOut_37 : decode cX11_isLeftOut 37 = .ok (.iload_n 2, 1) := by decide +kernel
theorem dX11_isLeftOut_38 : decode cX11_isLeftOut 38 = .ok (.ireturn, 1) := by decide +kernel
theorem dX11_told_0 : decode cX11_told 0 = .ok (.aload_n 0, 1) := by decide +kernel
theorem dX11_told_1 : decode cX11_told 1 = .ok (.iload_n 1, 1) := by decide +kernel
theorem dX11_told_2 : decode cX11_told 2 = .ok (.invokevirtual 150, 3) := by decide +kernel
theorem dX11_told_5 : decode cX11_told 5 = .ok (.ifCond .eq 25, 3) := by decide +kernel
theorem dX11_told_8 : decode cX11_told 8 = .ok (.aload_n 0, 1) := by decide +kernel
theorem dX11_told_9 : decode cX11_told 9 = .ok (.iload_n 2, 1) := by decide +kernel
theorem dX11_told_10 : decode cX11_told 10 = .ok (.ifCond .lt 8, 3) := by decide +kernel
theorem dX11_told_13 : decode cX11_told 13 = .ok (.iload_n 2, 1) := by decide +kernel
theorem dX11_told_14 : decode cX11_told 14 = .ok (.iconst 3, 1) := by decide +kernel
theorem dX11_told_15 : decode cX11_told 15 = .ok (.if_icmp .le 7, 3) := by decide +kernel
theorem dX11_told_18 : decode cX11_told 18 = .ok (.iconst 1, 1) := by decide +kernel
theorem dX11_told_19 : decode cX11_told 19 = .ok (.goto 4, 3) := by decide +kernel
theorem dX11_told_22 : decode cX11_told 22 = .ok (.iconst 0, 1) := by decide +kernel
theorem dX11_told_23 : decode cX11_told 23 = .ok (.iconst 2, 1) := by decide +kernel
theorem dX11_told_24 : decode cX11_told 24 = .ok (.invokevirtual 140, 3) := by decide +kernel
theorem dX11_told_27 : decode cX11_told 27 = .ok (.ifCond .eq 5, 3) := by decide +kernel
theorem dX11_told_30 : decode cX11_told 30 = .ok (.iconst 0, 1) := by decide +kernel
theorem dX11_told_31 : decode cX11_told 31 = .ok (.ireturn, 1) := by decide +kernel
theorem dX11_told_32 : decode cX11_told 32 = .ok (.iload_n 2, 1) := by decide +kernel
theorem dX11_told_33 : decode cX11_told 33 = .ok (.tableswitch 64 0 2 #[27, 42, 57], 27) := by decide +kernel
theorem dX11_told_60 : decode cX11_told 60 = .ok (.aload_n 0, 1) := by decide +kernel
theorem dX11_told_61 : decode cX11_told 61 = .ok (.getfield 23, 3) := by decide +kernel
theorem dX11_told_64 : decode cX11_told 64 = .ok (.iload_n 1, 1) := by decide +kernel
theorem dX11_told_65 : decode cX11_told 65 = .ok (.baload, 1) := by decide +kernel
theorem dX11_told_66 : decode cX11_told 66 = .ok (.ifCond .eq 7, 3) := by decide +kernel
theorem dX11_told_69 : decode cX11_told 69 = .ok (.iconst 1, 1) := by decide +kernel
theorem dX11_told_70 : decode cX11_told 70 = .ok (.goto 4, 3) := by decide +kernel
theorem dX11_told_73 : decode cX11_told 73 = .ok (.iconst 0, 1) := by decide +kernel
theorem dX11_told_74 : decode cX11_told 74 = .ok (.ireturn, 1) := by decide +kernel
theorem dX11_told_75 : decode cX11_told 75 = .ok (.aload_n 0, 1) := by decide +kernel
theorem dX11_told_76 : decode cX11_told 76 = .ok (.getfield 19, 3) := by decide +kernel
theorem dX11_told_79 : decode cX11_told 79 = .ok (.iload_n 1, 1) := by decide +kernel
theorem dX11_told_80 : decode cX11_told 80 = .ok (.baload, 1) := by decide +kernel
theorem dX11_told_81 : decode cX11_told 81 = .ok (.ifCond .eq 7, 3) := by decide +kernel
theorem dX11_told_84 : decode cX11_told 84 = .ok (.iconst 1, 1) := by decide +kernel
theorem dX11_told_85 : decode cX11_told 85 = .ok (.goto 4, 3) := by decide +kernel
theorem dX11_told_88 : decode cX11_told 88 = .ok (.iconst 0, 1) := by decide +kernel
theorem dX11_told_89 : decode cX11_told 89 = .ok (.ireturn, 1) := by decide +kernel
theorem dX11_told_90 : decode cX11_told 90 = .ok (.aload_n 0, 1) := by decide +kernel
theorem dX11_told_91 : decode cX11_told 91 = .ok (.getfield 16, 3) := by decide +kernel
theorem dX11_told_94 : decode cX11_told 94 = .ok (.iload_n 1, 1) := by decide +kernel
theorem dX11_told_95 : decode cX11_told 95 = .ok (.iaload, 1) := by decide +kernel
theorem dX11_told_96 : decode cX11_told 96 = .ok (.ireturn, 1) := by decide +kernel
theorem dX11_told_97 : decode cX11_told 97 = .ok (.aload_n 0, 1) := by decide +kernel
theorem dX11_told_98 : decode cX11_told 98 = .ok (.getfield 23, 3) := by decide +kernel
theorem dX11_told_101 : decode cX11_told 101 = .ok (.iload_n 1, 1) := by decide +kernel
theorem dX11_told_102 : decode cX11_told 102 = .ok (.baload, 1) := by decide +kernel
theorem dX11_told_103 : decode cX11_told 103 = .ok (.ifCond .ne 7, 3) := by decide +kernel
theorem dX11_told_106 : decode cX11_told 106 = .ok (.iconst 0, 1) := by decide +kernel
theorem dX11_told_107 : decode cX11_told 107 = .ok (.goto 33, 3) := by decide +kernel
theorem dX11_told_110 : decode cX11_told 110 = .ok (.aload_n 0, 1) := by decide +kernel
theorem dX11_told_111 : decode cX11_told 111 = .ok (.getfield 19, 3) := by decide +kernel
theorem dX11_told_114 : decode cX11_told 114 = .ok (.iload_n 1, 1) := by decide +kernel
theorem dX11_told_115 : decode cX11_told 115 = .ok (.baload, 1) := by decide +kernel
theorem dX11_told_116 : decode cX11_told 116 = .ok (.ifCond .eq 11, 3) := by decide +kernel
theorem dX11_told_119 : decode cX11_told 119 = .ok (.aload_n 0, 1) := by decide +kernel
theorem dX11_told_120 : decode cX11_told 120 = .ok (.iload_n 1, 1) := by decide +kernel
theorem dX11_told_121 : decode cX11_told 121 = .ok (.invokevirtual 157, 3) := by decide +kernel
theorem dX11_told_124 : decode cX11_told 124 = .ok (.goto 16, 3) := by decide +kernel
theorem dX11_told_127 : decode cX11_told 127 = .ok (.aload_n 0, 1) := by decide +kernel
theorem dX11_told_128 : decode cX11_told 128 = .ok (.iload_n 1, 1) := by decide +kernel
theorem dX11_told_129 : decode cX11_told 129 = .ok (.invokevirtual 161, 3) := by decide +kernel
theorem dX11_told_132 : decode cX11_told 132 = .ok (.ifCond .eq 7, 3) := by decide +kernel
theorem dX11_told_135 : decode cX11_told 135 = .ok (.iconst 1, 1) := by decide +kernel
theorem dX11_told_136 : decode cX11_told 136 = .ok (.goto 4, 3) := by decide +kernel
theorem dX11_told_139 : decode cX11_told 139 = .ok (.iconst 0, 1) := by decide +kernel
theorem dX11_told_140 : decode cX11_told 140 = .ok (.ireturn, 1) := by decide +kernel
theorem dX11_tree_0 : decode cX11_tree 0 = .ok (.iconst 1, 1) := by decide +kernel
theorem dX11_tree_1 : decode cX11_tree 1 = .ok (.istore_n 1, 1) := by decide +kernel
theorem dX11_tree_2 : decode cX11_tree 2 = .ok (.iconst 0, 1) := by decide +kernel
theorem dX11_tree_3 : decode cX11_tree 3 = .ok (.istore_n 2, 1) := by decide +kernel
theorem dX11_tree_4 : decode cX11_tree 4 = .ok (.iload_n 2, 1) := by decide +kernel
theorem dX11_tree_5 : decode cX11_tree 5 = .ok (.bipush 8, 2) := by decide +kernel
theorem dX11_tree_7 : decode cX11_tree 7 = .ok (.if_icmp .ge 16, 3) := by decide +kernel
theorem dX11_tree_10 : decode cX11_tree 10 = .ok (.aload_n 0, 1) := by decide +kernel
theorem dX11_tree_11 : decode cX11_tree 11 = .ok (.getfield 41, 3) := by decide +kernel
theorem dX11_tree_14 : decode cX11_tree 14 = .ok (.iload_n 2, 1) := by decide +kernel
theorem dX11_tree_15 : decode cX11_tree 15 = .ok (.iconst (-1), 1) := by decide +kernel
theorem dX11_tree_16 : decode cX11_tree 16 = .ok (.iastore, 1) := by decide +kernel
theorem dX11_tree_17 : decode cX11_tree 17 = .ok (.iinc 2 1, 3) := by decide +kernel
theorem dX11_tree_20 : decode cX11_tree 20 = .ok (.goto (-16), 3) := by decide +kernel
theorem dX11_tree_23 : decode cX11_tree 23 = .ok (.iconst 0, 1) := by decide +kernel
theorem dX11_tree_24 : decode cX11_tree 24 = .ok (.istore_n 2, 1) := by decide +kernel
theorem dX11_tree_25 : decode cX11_tree 25 = .ok (.iload_n 2, 1) := by decide +kernel
theorem dX11_tree_26 : decode cX11_tree 26 = .ok (.aload_n 0, 1) := by decide +kernel
theorem dX11_tree_27 : decode cX11_tree 27 = .ok (.getfield 147, 3) := by decide +kernel
theorem dX11_tree_30 : decode cX11_tree 30 = .ok (.if_icmp .ge 188, 3) := by decide +kernel
theorem dX11_tree_33 : decode cX11_tree 33 = .ok (.aload_n 0, 1) := by decide +kernel
theorem dX11_tree_34 : decode cX11_tree 34 = .ok (.getfield 29, 3) := by decide +kernel
theorem dX11_tree_37 : decode cX11_tree 37 = .ok (.iload_n 2, 1) := by decide +kernel
theorem dX11_tree_38 : decode cX11_tree 38 = .ok (.aload_n 0, 1) := by decide +kernel
theorem dX11_tree_39 : decode cX11_tree 39 = .ok (.getfield 23, 3) := by decide +kernel
theorem dX11_tree_42 : decode cX11_tree 42 = .ok (.iload_n 2, 1) := by decide +kernel
theorem dX11_tree_43 : decode cX11_tree 43 = .ok (.baload, 1) := by decide +kernel
theorem dX11_tree_44 : decode cX11_tree 44 = .ok (.ifCond .eq 24, 3) := by decide +kernel
theorem dX11_tree_47 : decode cX11_tree 47 = .ok (.aload_n 0, 1) := by decide +kernel
theorem dX11_tree_48 : decode cX11_tree 48 = .ok (.getfield 19, 3) := by decide +kernel
theorem dX11_tree_51 : decode cX11_tree 51 = .ok (.iload_n 2, 1) := by decide +kernel
theorem dX11_tree_52 : decode cX11_tree 52 = .ok (.baload, 1) := by decide +kernel
theorem dX11_tree_53 : decode cX11_tree 53 = .ok (.ifCond .ne 15, 3) := by decide +kernel
theorem dX11_tree_56 : decode cX11_tree 56 = .ok (.aload_n 0, 1) := by decide +kernel
theorem dX11_tree_57 : decode cX11_tree 57 = .ok (.iload_n 2, 1) := by decide +kernel
theorem dX11_tree_58 : decode cX11_tree 58 = .ok (.invokevirtual 161, 3) := by decide +kernel
theorem dX11_tree_61 : decode cX11_tree 61 = .ok (.ifCond .ne 7, 3) := by decide +kernel
theorem dX11_tree_64 : decode cX11_tree 64 = .ok (.iconst 1, 1) := by decide +kernel
theorem dX11_tree_65 : decode cX11_tree 65 = .ok (.goto 4, 3) := by decide +kernel
theorem dX11_tree_68 : decode cX11_tree 68 = .ok (.iconst 0, 1) := by decide +kernel
theorem dX11_tree_69 : decode cX11_tree 69 = .ok (.bastore, 1) := by decide +kernel
theorem dX11_tree_70 : decode cX11_tree 70 = .ok (.aload_n 0, 1) := by decide +kernel
theorem dX11_tree_71 : decode cX11_tree 71 = .ok (.getfield 26, 3) := by decide +kernel
theorem dX11_tree_74 : decode cX11_tree 74 = .ok (.iload_n 2, 1) := by decide +kernel
theorem dX11_tree_75 : decode cX11_tree 75 = .ok (.aload_n 0, 1) := by decide +kernel
theorem dX11_tree_76 : decode cX11_tree 76 = .ok (.getfield 23, 3) := by decide +kernel
theorem dX11_tree_79 : decode cX11_tree 79 = .ok (.iload_n 2, 1) := by decide +kernel
theorem dX11_tree_80 : decode cX11_tree 80 = .ok (.baload, 1) := by decide +kernel
theorem dX11_tree_81 : decode cX11_tree 81 = .ok (.ifCond .eq 20, 3) := by decide +kernel
theorem dX11_tree_84 : decode cX11_tree 84 = .ok (.aload_n 0, 1) := by decide +kernel
theorem dX11_tree_85 : decode cX11_tree 85 = .ok (.getfield 19, 3) := by decide +kernel
theorem dX11_tree_88 : decode cX11_tree 88 = .ok (.iload_n 2, 1) := by decide +kernel
theorem dX11_tree_89 : decode cX11_tree 89 = .ok (.baload, 1) := by decide +kernel
theorem dX11_tree_90 : decode cX11_tree 90 = .ok (.ifCond .eq 11, 3) := by decide +kernel
theorem dX11_tree_93 : decode cX11_tree 93 = .ok (.aload_n 0, 1) := by decide +kernel
theorem dX11_tree_94 : decode cX11_tree 94 = .ok (.iload_n 2, 1) := by decide +kernel
theorem dX11_tree_95 : decode cX11_tree 95 = .ok (.invokevirtual 157, 3) := by decide +kernel
theorem dX11_tree_98 : decode cX11_tree 98 = .ok (.goto 4, 3) := by decide +kernel
theorem dX11_tree_101 : decode cX11_tree 101 = .ok (.iconst (-1), 1) := by decide +kernel
theorem dX11_tree_102 : decode cX11_tree 102 = .ok (.iastore, 1) := by decide +kernel
theorem dX11_tree_103 : decode cX11_tree 103 = .ok (.iconst 0, 1) := by decide +kernel
theorem dX11_tree_104 : decode cX11_tree 104 = .ok (.istore_n 3, 1) := by decide +kernel
theorem dX11_tree_105 : decode cX11_tree 105 = .ok (.iconst 0, 1) := by decide +kernel
theorem dX11_tree_106 : decode cX11_tree 106 = .ok (.istore 4, 2) := by decide +kernel
theorem dX11_tree_108 : decode cX11_tree 108 = .ok (.iload 4, 2) := by decide +kernel
theorem dX11_tree_110 : decode cX11_tree 110 = .ok (.aload_n 0, 1) := by decide +kernel
theorem dX11_tree_111 : decode cX11_tree 111 = .ok (.getfield 26, 3) := by decide +kernel
theorem dX11_tree_114 : decode cX11_tree 114 = .ok (.iload_n 2, 1) := by decide +kernel
theorem dX11_tree_115 : decode cX11_tree 115 = .ok (.iaload, 1) := by decide +kernel
theorem dX11_tree_116 : decode cX11_tree 116 = .ok (.if_icmp .ge 96, 3) := by decide +kernel
theorem dX11_tree_119 : decode cX11_tree 119 = .ok (.aload_n 0, 1) := by decide +kernel
theorem dX11_tree_120 : decode cX11_tree 120 = .ok (.getfield 13, 3) := by decide +kernel
theorem dX11_tree_123 : decode cX11_tree 123 = .ok (.bipush 12, 2) := by decide +kernel
theorem dX11_tree_125 : decode cX11_tree 125 = .ok (.iload_n 2, 1) := by decide +kernel
theorem dX11_tree_126 : decode cX11_tree 126 = .ok (.imul, 1) := by decide +kernel
theorem dX11_tree_127 : decode cX11_tree 127 = .ok (.iload 4, 2) := by decide +kernel
theorem dX11_tree_129 : decode cX11_tree 129 = .ok (.iadd, 1) := by decide +kernel
theorem dX11_tree_130 : decode cX11_tree 130 = .ok (.iaload, 1) := by decide +kernel
theorem dX11_tree_131 : decode cX11_tree 131 = .ok (.istore 5, 2) := by decide +kernel
theorem dX11_tree_133 : decode cX11_tree 133 = .ok (.aload_n 0, 1) := by decide +kernel
theorem dX11_tree_134 : decode cX11_tree 134 = .ok (.getfield 41, 3) := by decide +kernel
theorem dX11_tree_137 : decode cX11_tree 137 = .ok (.bipush 8, 2) := by decide +kernel
theorem dX11_tree_139 : decode cX11_tree 139 = .ok (.iload_n 3, 1) := by decide +kernel
theorem dX11_tree_140 : decode cX11_tree 140 = .ok (.imul, 1) := by decide +kernel
theorem dX11_tree_141 : decode cX11_tree 141 = .ok (.iload 5, 2) := by decide +kernel
theorem dX11_tree_143 : decode cX11_tree 143 = .ok (.iadd, 1) := by decide +kernel
theorem dX11_tree_144 : decode cX11_tree 144 = .ok (.iaload, 1) := by decide +kernel
theorem dX11_tree_145 : decode cX11_tree 145 = .ok (.ifCond .ge 48, 3) := by decide +kernel
theorem dX11_tree_148 : decode cX11_tree 148 = .ok (.iconst 0, 1) := by decide +kernel
theorem dX11_tree_149 : decode cX11_tree 149 = .ok (.istore 6, 2) := by decide +kernel
theorem dX11_tree_151 : decode cX11_tree 151 = .ok (.iload 6, 2) := by decide +kernel
theorem dX11_tree_153 : decode cX11_tree 153 = .ok (.bipush 8, 2) := by decide +kernel
theorem dX11_tree_155 : decode cX11_tree 155 = .ok (.if_icmp .ge 22, 3) := by decide +kernel
theorem dX11_tree_158 : decode cX11_tree 158 = .ok (.aload_n 0, 1) := by decide +kernel
theorem dX11_tree_159 : decode cX11_tree 159 = .ok (.getfield 41, 3) := by decide +kernel
theorem dX11_tree_162 : decode cX11_tree 162 = .ok (.bipush 8, 2) := by decide +kernel
theorem dX11_tree_164 : decode cX11_tree 164 = .ok (.iload_n 1, 1) := by decide +kernel
theorem dX11_tree_165 : decode cX11_tree 165 = .ok (.imul, 1) := by decide +kernel
theorem dX11_tree_166 : decode cX11_tree 166 = .ok (.iload 6, 2) := by decide +kernel
theorem dX11_tree_168 : decode cX11_tree 168 = .ok (.iadd, 1) := by decide +kernel
theorem dX11_tree_169 : decode cX11_tree 169 = .ok (.iconst (-1), 1) := by decide +kernel
theorem dX11_tree_170 : decode cX11_tree 170 = .ok (.iastore, 1) := by decide +kernel
theorem dX11_tree_171 : decode cX11_tree 171 = .ok (.iinc 6 1, 3) := by decide +kernel
theorem dX11_tree_174 : decode cX11_tree 174 = .ok (.goto (-23), 3) := by decide +kernel
theorem dX11_tree_177 : decode cX11_tree 177 = .ok (.aload_n 0, 1) := by decide +kernel
theorem dX11_tree_178 : decode cX11_tree 178 = .ok (.getfield 41, 3) := by decide +kernel
theorem dX11_tree_181 : decode cX11_tree 181 = .ok (.bipush 8, 2) := by decide +kernel
theorem dX11_tree_183 : decode cX11_tree 183 = .ok (.iload_n 3, 1) := by decide +kernel
theorem dX11_tree_184 : decode cX11_tree 184 = .ok (.imul, 1) := by decide +kernel
theorem dX11_tree_185 : decode cX11_tree 185 = .ok (.iload 5, 2) := by decide +kernel
theorem dX11_tree_187 : decode cX11_tree 187 = .ok (.iadd, 1) := by decide +kernel
theorem dX11_tree_188 : decode cX11_tree 188 = .ok (.iload_n 1, 1) := by decide +kernel
theorem dX11_tree_189 : decode cX11_tree 189 = .ok (.iastore, 1) := by decide +kernel
theorem dX11_tree_190 : decode cX11_tree 190 = .ok (.iinc 1 1, 3) := by decide +kernel
theorem dX11_tree_193 : decode cX11_tree 193 = .ok (.aload_n 0, 1) := by decide +kernel
theorem dX11_tree_194 : decode cX11_tree 194 = .ok (.getfield 41, 3) := by decide +kernel
theorem dX11_tree_197 : decode cX11_tree 197 = .ok (.bipush 8, 2) := by decide +kernel
theorem dX11_tree_199 : decode cX11_tree 199 = .ok (.iload_n 3, 1) := by decide +kernel
theorem dX11_tree_200 : decode cX11_tree 200 = .ok (.imul, 1) := by decide +kernel
theorem dX11_tree_201 : decode cX11_tree 201 = .ok (.iload 5, 2) := by decide +kernel
theorem dX11_tree_203 : decode cX11_tree 203 = .ok (.iadd, 1) := by decide +kernel
theorem dX11_tree_204 : decode cX11_tree 204 = .ok (.iaload, 1) := by decide +kernel
theorem dX11_tree_205 : decode cX11_tree 205 = .ok (.istore_n 3, 1) := by decide +kernel
theorem dX11_tree_206 : decode cX11_tree 206 = .ok (.iinc 4 1, 3) := by decide +kernel
theorem dX11_tree_209 : decode cX11_tree 209 = .ok (.goto (-101), 3) := by decide +kernel
theorem dX11_tree_212 : decode cX11_tree 212 = .ok (.iinc 2 1, 3) := by decide +kernel
theorem dX11_tree_215 : decode cX11_tree 215 = .ok (.goto (-190), 3) := by decide +kernel
theorem dX11_tree_218 : decode cX11_tree 218 = .ok (.aload_n 0, 1) := by decide +kernel
theorem dX11_tree_219 : decode cX11_tree 219 = .ok (.iconst 1, 1) := by decide +kernel
theorem dX11_tree_220 : decode cX11_tree 220 = .ok (.putfield 164, 3) := by decide +kernel
theorem dX11_tree_223 : decode cX11_tree 223 = .ok (.aload_n 0, 1) := by decide +kernel
theorem dX11_tree_224 : decode cX11_tree 224 = .ok (.getfield 44, 3) := by decide +kernel
theorem dX11_tree_227 : decode cX11_tree 227 = .ok (.iconst 0, 1) := by decide +kernel
theorem dX11_tree_228 : decode cX11_tree 228 = .ok (.iconst 0, 1) := by decide +kernel
theorem dX11_tree_229 : decode cX11_tree 229 = .ok (.iastore, 1) := by decide +kernel
theorem dX11_tree_230 : decode cX11_tree 230 = .ok (.aload_n 0, 1) := by decide +kernel
theorem dX11_tree_231 : decode cX11_tree 231 = .ok (.getfield 35, 3) := by decide +kernel
theorem dX11_tree_234 : decode cX11_tree 234 = .ok (.iconst 0, 1) := by decide +kernel
theorem dX11_tree_235 : decode cX11_tree 235 = .ok (.iconst (-1), 1) := by decide +kernel
theorem dX11_tree_236 : decode cX11_tree 236 = .ok (.iastore, 1) := by decide +kernel
theorem dX11_tree_237 : decode cX11_tree 237 = .ok (.iconst 0, 1) := by decide +kernel
theorem dX11_tree_238 : decode cX11_tree 238 = .ok (.istore_n 2, 1) := by decide +kernel
theorem dX11_tree_239 : decode cX11_tree 239 = .ok (.iload_n 2, 1) := by decide +kernel
theorem dX11_tree_240 : decode cX11_tree 240 = .ok (.aload_n 0, 1) := by decide +kernel
theorem dX11_tree_241 : decode cX11_tree 241 = .ok (.getfield 164, 3) := by decide +kernel
theorem dX11_tree_244 : decode cX11_tree 244 = .ok (.if_icmp .ge 127, 3) := by decide +kernel
theorem dX11_tree_247 : decode cX11_tree 247 = .ok (.iconst 0, 1) := by decide +kernel
theorem dX11_tree_248 : decode cX11_tree 248 = .ok (.istore_n 3, 1) := by decide +kernel
theorem dX11_tree_249 : decode cX11_tree 249 = .ok (.iload_n 3, 1) := by decide +kernel
theorem dX11_tree_250 : decode cX11_tree 250 = .ok (.bipush 8, 2) := by decide +kernel
theorem dX11_tree_252 : decode cX11_tree 252 = .ok (.if_icmp .ge 113, 3) := by decide +kernel
theorem dX11_tree_255 : decode cX11_tree 255 = .ok (.aload_n 0, 1) := by decide +kernel
theorem dX11_tree_256 : decode cX11_tree 256 = .ok (.getfield 32, 3) := by decide +kernel
theorem dX11_tree_259 : decode cX11_tree 259 = .ok (.bipush 8, 2) := by decide +kernel
theorem dX11_tree_261 : decode cX11_tree 261 = .ok (.iload_n 2, 1) := by decide +kernel
theorem dX11_tree_262 : decode cX11_tree 262 = .ok (.imul, 1) := by decide +kernel
theorem dX11_tree_263 : decode cX11_tree 263 = .ok (.iload_n 3, 1) := by decide +kernel
theorem dX11_tree_264 : decode cX11_tree 264 = .ok (.iadd, 1) := by decide +kernel
theorem dX11_tree_265 : decode cX11_tree 265 = .ok (.iconst (-1), 1) := by decide +kernel
theorem dX11_tree_266 : decode cX11_tree 266 = .ok (.iastore, 1) := by decide +kernel
theorem dX11_tree_267 : decode cX11_tree 267 = .ok (.aload_n 0, 1) := by decide +kernel
theorem dX11_tree_268 : decode cX11_tree 268 = .ok (.getfield 41, 3) := by decide +kernel
theorem dX11_tree_271 : decode cX11_tree 271 = .ok (.bipush 8, 2) := by decide +kernel
theorem dX11_tree_273 : decode cX11_tree 273 = .ok (.aload_n 0, 1) := by decide +kernel
theorem dX11_tree_274 : decode cX11_tree 274 = .ok (.getfield 44, 3) := by decide +kernel
theorem dX11_tree_277 : decode cX11_tree 277 = .ok (.iload_n 2, 1) := by decide +kernel
theorem dX11_tree_278 : decode cX11_tree 278 = .ok (.iaload, 1) := by decide +kernel
theorem dX11_tree_279 : decode cX11_tree 279 = .ok (.imul, 1) := by decide +kernel
theorem dX11_tree_280 : decode cX11_tree 280 = .ok (.iload_n 3, 1) := by decide +kernel
theorem dX11_tree_281 : decode cX11_tree 281 = .ok (.iadd, 1) := by decide +kernel
theorem dX11_tree_282 : decode cX11_tree 282 = .ok (.iaload, 1) := by decide +kernel
theorem dX11_tree_283 : decode cX11_tree 283 = .ok (.ifCond .ge 6, 3) := by decide +kernel
theorem dX11_tree_286 : decode cX11_tree 286 = .ok (.goto 73, 3) := by decide +kernel
theorem dX11_tree_289 : decode cX11_tree 289 = .ok (.aload_n 0, 1) := by decide +kernel
theorem dX11_tree_290 : decode cX11_tree 290 = .ok (.getfield 32, 3) := by decide +kernel
theorem dX11_tree_293 : decode cX11_tree 293 = .ok (.bipush 8, 2) := by decide +kernel
theorem dX11_tree_295 : decode cX11_tree 295 = .ok (.iload_n 2, 1) := by decide +kernel
theorem dX11_tree_296 : decode cX11_tree 296 = .ok (.imul, 1) := by decide +kernel
theorem dX11_tree_297 : decode cX11_tree 297 = .ok (.iload_n 3, 1) := by decide +kernel
theorem dX11_tree_298 : decode cX11_tree 298 = .ok (.iadd, 1) := by decide +kernel
theorem dX11_tree_299 : decode cX11_tree 299 = .ok (.aload_n 0, 1) := by decide +kernel
theorem dX11_tree_300 : decode cX11_tree 300 = .ok (.getfield 164, 3) := by decide +kernel
theorem dX11_tree_303 : decode cX11_tree 303 = .ok (.iastore, 1) := by decide +kernel
theorem dX11_tree_304 : decode cX11_tree 304 = .ok (.aload_n 0, 1) := by decide +kernel
theorem dX11_tree_305 : decode cX11_tree 305 = .ok (.getfield 44, 3) := by decide +kernel
theorem dX11_tree_308 : decode cX11_tree 308 = .ok (.aload_n 0, 1) := by decide +kernel
theorem dX11_tree_309 : decode cX11_tree 309 = .ok (.getfield 164, 3) := by decide +kernel
theorem dX11_tree_312 : decode cX11_tree 312 = .ok (.aload_n 0, 1) := by decide +kernel
theorem dX11_tree_313 : decode cX11_tree 313 = .ok (.getfield 41, 3) := by decide +kernel
theorem dX11_tree_316 : decode cX11_tree 316 = .ok (.bipush 8, 2) := by decide +kernel
theorem dX11_tree_318 : decode cX11_tree 318 = .ok (.aload_n 0, 1) := by decide +kernel
theorem dX11_tree_319 : decode cX11_tree 319 = .ok (.getfield 44, 3) := by decide +kernel
theorem dX11_tree_322 : decode cX11_tree 322 = .ok (.iload_n 2, 1) := by decide +kernel
theorem dX11_tree_323 : decode cX11_tree 323 = .ok (.iaload, 1) := by decide +kernel
theorem dX11_tree_324 : decode cX11_tree 324 = .ok (.imul, 1) := by decide +kernel
theorem dX11_tree_325 : decode cX11_tree 325 = .ok (.iload_n 3, 1) := by decide +kernel
theorem dX11_tree_326 : decode cX11_tree 326 = .ok (.iadd, 1) := by decide +kernel
theorem dX11_tree_327 : decode cX11_tree 327 = .ok (.iaload, 1) := by decide +kernel
theorem dX11_tree_328 : decode cX11_tree 328 = .ok (.iastore, 1) := by decide +kernel
theorem dX11_tree_329 : decode cX11_tree 329 = .ok (.aload_n 0, 1) := by decide +kernel
theorem dX11_tree_330 : decode cX11_tree 330 = .ok (.getfield 35, 3) := by decide +kernel
theorem dX11_tree_333 : decode cX11_tree 333 = .ok (.aload_n 0, 1) := by decide +kernel
theorem dX11_tree_334 : decode cX11_tree 334 = .ok (.getfield 164, 3) := by decide +kernel
theorem dX11_tree_337 : decode cX11_tree 337 = .ok (.iload_n 2, 1) := by decide +kernel
theorem dX11_tree_338 : decode cX11_tree 338 = .ok (.iastore, 1) := by decide +kernel
theorem dX11_tree_339 : decode cX11_tree 339 = .ok (.aload_n 0, 1) := by decide +kernel
theorem dX11_tree_340 : decode cX11_tree 340 = .ok (.getfield 38, 3) := by decide +kernel
theorem dX11_tree_343 : decode cX11_tree 343 = .ok (.aload_n 0, 1) := by decide +kernel
theorem dX11_tree_344 : decode cX11_tree 344 = .ok (.getfield 164, 3) := by decide +kernel
theorem dX11_tree_347 : decode cX11_tree 347 = .ok (.iload_n 3, 1) := by decide +kernel
theorem dX11_tree_348 : decode cX11_tree 348 = .ok (.iastore, 1) := by decide +kernel
theorem dX11_tree_349 : decode cX11_tree 349 = .ok (.aload_n 0, 1) := by decide +kernel
theorem dX11_tree_350 : decode cX11_tree 350 = .ok (.dup, 1) := by decide +kernel
theorem dX11_tree_351 : decode cX11_tree 351 = .ok (.getfield 164, 3) := by decide +kernel
theorem dX11_tree_354 : decode cX11_tree 354 = .ok (.iconst 1, 1) := by decide +kernel
theorem dX11_tree_355 : decode cX11_tree 355 = .ok (.iadd, 1) := by decide +kernel
theorem dX11_tree_356 : decode cX11_tree 356 = .ok (.putfield 164, 3) := by decide +kernel
theorem dX11_tree_359 : decode cX11_tree 359 = .ok (.iinc 3 1, 3) := by decide +kernel
theorem dX11_tree_362 : decode cX11_tree 362 = .ok (.goto (-113), 3) := by decide +kernel
theorem dX11_tree_365 : decode cX11_tree 365 = .ok (.iinc 2 1, 3) := by decide +kernel
theorem dX11_tree_368 : decode cX11_tree 368 = .ok (.goto (-129), 3) := by decide +kernel
theorem dX11_tree_371 : decode cX11_tree 371 = .ok (.return_, 1) := by decide +kernel
theorem dX11_leastOf_0 : decode cX11_leastOf 0 = .ok (.iload_n 1, 1) := by decide +kernel
theorem dX11_leastOf_1 : decode cX11_leastOf 1 = .ok (.istore_n 2, 1) := by decide +kernel
theorem dX11_leastOf_2 : decode cX11_leastOf 2 = .ok (.aload_n 0, 1) := by decide +kernel
theorem dX11_leastOf_3 : decode cX11_leastOf 3 = .ok (.getfield 47, 3) := by decide +kernel
theorem dX11_leastOf_6 : decode cX11_leastOf 6 = .ok (.iload_n 2, 1) := by decide +kernel
theorem dX11_leastOf_7 : decode cX11_leastOf 7 = .ok (.iaload, 1) := by decide +kernel
theorem dX11_leastOf_8 : decode cX11_leastOf 8 = .ok (.iload_n 2, 1) := by decide +kernel
theorem dX11_leastOf_9 : decode cX11_leastOf 9 = .ok (.if_icmp .eq 13, 3) := by decide +kernel
theorem dX11_leastOf_12 : decode cX11_leastOf 12 = .ok (.aload_n 0, 1) := by decide +kernel
theorem dX11_leastOf_13 : decode cX11_leastOf 13 = .ok (.getfield 47, 3) := by decide +kernel
theorem dX11_leastOf_16 : decode cX11_leastOf 16 = .ok (.iload_n 2, 1) := by decide +kernel
theorem dX11_leastOf_17 : decode cX11_leastOf 17 = .ok (.iaload, 1) := by decide +kernel
theorem dX11_leastOf_18 : decode cX11_leastOf 18 = .ok (.istore_n 2, 1) := by decide +kernel
theorem dX11_leastOf_19 : decode cX11_leastOf 19 = .ok (.goto (-17), 3) := by decide +kernel
theorem dX11_leastOf_22 : decode cX11_leastOf 22 = .ok (.iload_n 2, 1) := by decide +kernel
theorem dX11_leastOf_23 : decode cX11_leastOf 23 = .ok (.ireturn, 1) := by decide +kernel
theorem dX11_sets_0 : decode cX11_sets 0 = .ok (.aload_n 0, 1) := by decide +kernel
theorem dX11_sets_1 : decode cX11_sets 1 = .ok (.getfield 53, 3) := by decide +kernel
theorem dX11_sets_4 : decode cX11_sets 4 = .ok (.aload_n 0, 1) := by decide +kernel
theorem dX11_sets_5 : decode cX11_sets 5 = .ok (.getfield 167, 3) := by decide +kernel
theorem dX11_sets_8 : decode cX11_sets 8 = .ok (.iload_n 1, 1) := by decide +kernel
theorem dX11_sets_9 : decode cX11_sets 9 = .ok (.iastore, 1) := by decide +kernel
theorem dX11_sets_10 : decode cX11_sets 10 = .ok (.aload_n 0, 1) := by decide +kernel
theorem dX11_sets_11 : decode cX11_sets 11 = .ok (.getfield 56, 3) := by decide +kernel
theorem dX11_sets_14 : decode cX11_sets 14 = .ok (.aload_n 0, 1) := by decide +kernel
theorem dX11_sets_15 : decode cX11_sets 15 = .ok (.getfield 167, 3) := by decide +kernel
theorem dX11_sets_18 : decode cX11_sets 18 = .ok (.iload_n 1, 1) := by decide +kernel
theorem dX11_sets_19 : decode cX11_sets 19 = .ok (.sipush 722, 3) := by decide +kernel
theorem dX11_sets_22 : decode cX11_sets 22 = .ok (.if_icmp .ge 12, 3) := by decide +kernel
theorem dX11_sets_25 : decode cX11_sets 25 = .ok (.aload_n 0, 1) := by decide +kernel
theorem dX11_sets_26 : decode cX11_sets 26 = .ok (.getfield 47, 3) := by decide +kernel
theorem dX11_sets_29 : decode cX11_sets 29 = .ok (.iload_n 1, 1) := by decide +kernel
theorem dX11_sets_30 : decode cX11_sets 30 = .ok (.iaload, 1) := by decide +kernel
theorem dX11_sets_31 : decode cX11_sets 31 = .ok (.goto 13, 3) := by decide +kernel
theorem dX11_sets_34 : decode cX11_sets 34 = .ok (.aload_n 0, 1) := by decide +kernel
theorem dX11_sets_35 : decode cX11_sets 35 = .ok (.getfield 50, 3) := by decide +kernel
theorem dX11_sets_38 : decode cX11_sets 38 = .ok (.iload_n 1, 1) := by decide +kernel
theorem dX11_sets_39 : decode cX11_sets 39 = .ok (.sipush 722, 3) := by decide +kernel
theorem dX11_sets_42 : decode cX11_sets 42 = .ok (.isub, 1) := by decide +kernel
theorem dX11_sets_43 : decode cX11_sets 43 = .ok (.iaload, 1) := by decide +kernel
theorem dX11_sets_44 : decode cX11_sets 44 = .ok (.iastore, 1) := by decide +kernel
theorem dX11_sets_45 : decode cX11_sets 45 = .ok (.aload_n 0, 1) := by decide +kernel
theorem dX11_sets_46 : decode cX11_sets 46 = .ok (.dup, 1) := by decide +kernel
theorem dX11_sets_47 : decode cX11_sets 47 = .ok (.getfield 167, 3) := by decide +kernel
theorem dX11_sets_50 : decode cX11_sets 50 = .ok (.iconst 1, 1) := by decide +kernel
theorem dX11_sets_51 : decode cX11_sets 51 = .ok (.iadd, 1) := by decide +kernel
theorem dX11_sets_52 : decode cX11_sets 52 = .ok (.putfield 167, 3) := by decide +kernel
theorem dX11_sets_55 : decode cX11_sets 55 = .ok (.iload_n 1, 1) := by decide +kernel
theorem dX11_sets_56 : decode cX11_sets 56 = .ok (.sipush 722, 3) := by decide +kernel
theorem dX11_sets_59 : decode cX11_sets 59 = .ok (.if_icmp .ge 13, 3) := by decide +kernel
theorem dX11_sets_62 : decode cX11_sets 62 = .ok (.aload_n 0, 1) := by decide +kernel
theorem dX11_sets_63 : decode cX11_sets 63 = .ok (.getfield 47, 3) := by decide +kernel
theorem dX11_sets_66 : decode cX11_sets 66 = .ok (.iload_n 1, 1) := by decide +kernel
theorem dX11_sets_67 : decode cX11_sets 67 = .ok (.iload_n 2, 1) := by decide +kernel
theorem dX11_sets_68 : decode cX11_sets 68 = .ok (.iastore, 1) := by decide +kernel
theorem dX11_sets_69 : decode cX11_sets 69 = .ok (.goto 14, 3) := by decide +kernel
theorem dX11_sets_72 : decode cX11_sets 72 = .ok (.aload_n 0, 1) := by decide +kernel
theorem dX11_sets_73 : decode cX11_sets 73 = .ok (.getfield 50, 3) := by decide +kernel
theorem dX11_sets_76 : decode cX11_sets 76 = .ok (.iload_n 1, 1) := by decide +kernel
theorem dX11_sets_77 : decode cX11_sets 77 = .ok (.sipush 722, 3) := by decide +kernel
theorem dX11_sets_80 : decode cX11_sets 80 = .ok (.isub, 1) := by decide +kernel
theorem dX11_sets_81 : decode cX11_sets 81 = .ok (.iload_n 2, 1) := by decide +kernel
theorem dX11_sets_82 : decode cX11_sets 82 = .ok (.iastore, 1) := by decide +kernel
theorem dX11_sets_83 : decode cX11_sets 83 = .ok (.return_, 1) := by decide +kernel
theorem dX11_takesBack_0 : decode cX11_takesBack 0 = .ok (.aload_n 0, 1) := by decide +kernel
theorem dX11_takesBack_1 : decode cX11_takesBack 1 = .ok (.getfield 167, 3) := by decide +kernel
theorem dX11_takesBack_4 : decode cX11_takesBack 4 = .ok (.ifCond .le 84, 3) := by decide +kernel
theorem dX11_takesBack_7 : decode cX11_takesBack 7 = .ok (.aload_n 0, 1) := by decide +kernel
theorem dX11_takesBack_8 : decode cX11_takesBack 8 = .ok (.dup, 1) := by decide +kernel
theorem dX11_takesBack_9 : decode cX11_takesBack 9 = .ok (.getfield 167, 3) := by decide +kernel
theorem dX11_takesBack_12 : decode cX11_takesBack 12 = .ok (.iconst 1, 1) := by decide +kernel
theorem dX11_takesBack_13 : decode cX11_takesBack 13 = .ok (.isub, 1) := by decide +kernel
theorem dX11_takesBack_14 : decode cX11_takesBack 14 = .ok (.putfield 167, 3) := by decide +kernel
theorem dX11_takesBack_17 : decode cX11_takesBack 17 = .ok (.aload_n 0, 1) := by decide +kernel
theorem dX11_takesBack_18 : decode cX11_takesBack 18 = .ok (.getfield 53, 3) := by decide +kernel
theorem dX11_takesBack_21 : decode cX11_takesBack 21 = .ok (.aload_n 0, 1) := by decide +kernel
theorem dX11_takesBack_22 : decode cX11_takesBack 22 = .ok (.getfield 167, 3) := by decide +kernel
theorem dX11_takesBack_25 : decode cX11_takesBack 25 = .ok (.iaload, 1) := by decide +kernel
theorem dX11_takesBack_26 : decode cX11_takesBack 26 = .ok (.sipush 722, 3) := by decide +kernel
theorem dX11_takesBack_29 : decode cX11_takesBack 29 = .ok (.if_icmp .ge 29, 3) := by decide +kernel
theorem dX11_takesBack_32 : decode cX11_takesBack 32 = .ok (.aload_n 0, 1) := by decide +kernel
theorem dX11_takesBack_33 : decode cX11_takesBack 33 = .ok (.getfield 47, 3) := by decide +kernel
theorem dX11_takesBack_36 : decode cX11_takesBack 36 = .ok (.aload_n 0, 1) := by decide +kernel
theorem dX11_takesBack_37 : decode cX11_takesBack 37 = .ok (.getfield 53, 3) := by decide +kernel
theorem dX11_takesBack_40 : decode cX11_takesBack 40 = .ok (.aload_n 0, 1) := by decide +kernel
theorem dX11_takesBack_41 : decode cX11_takesBack 41 = .ok (.getfield 167, 3) := by decide +kernel
theorem dX11_takesBack_44 : decode cX11_takesBack 44 = .ok (.iaload, 1) := by decide +kernel
theorem dX11_takesBack_45 : decode cX11_takesBack 45 = .ok (.aload_n 0, 1) := by decide +kernel
theorem dX11_takesBack_46 : decode cX11_takesBack 46 = .ok (.getfield 56, 3) := by decide +kernel
theorem dX11_takesBack_49 : decode cX11_takesBack 49 = .ok (.aload_n 0, 1) := by decide +kernel
theorem dX11_takesBack_50 : decode cX11_takesBack 50 = .ok (.getfield 167, 3) := by decide +kernel
theorem dX11_takesBack_53 : decode cX11_takesBack 53 = .ok (.iaload, 1) := by decide +kernel
theorem dX11_takesBack_54 : decode cX11_takesBack 54 = .ok (.iastore, 1) := by decide +kernel
theorem dX11_takesBack_55 : decode cX11_takesBack 55 = .ok (.goto (-55), 3) := by decide +kernel
theorem dX11_takesBack_58 : decode cX11_takesBack 58 = .ok (.aload_n 0, 1) := by decide +kernel
theorem dX11_takesBack_59 : decode cX11_takesBack 59 = .ok (.getfield 50, 3) := by decide +kernel
theorem dX11_takesBack_62 : decode cX11_takesBack 62 = .ok (.aload_n 0, 1) := by decide +kernel
theorem dX11_takesBack_63 : decode cX11_takesBack 63 = .ok (.getfield 53, 3) := by decide +kernel
theorem dX11_takesBack_66 : decode cX11_takesBack 66 = .ok (.aload_n 0, 1) := by decide +kernel
theorem dX11_takesBack_67 : decode cX11_takesBack 67 = .ok (.getfield 167, 3) := by decide +kernel
theorem dX11_takesBack_70 : decode cX11_takesBack 70 = .ok (.iaload, 1) := by decide +kernel
theorem dX11_takesBack_71 : decode cX11_takesBack 71 = .ok (.sipush 722, 3) := by decide +kernel
theorem dX11_takesBack_74 : decode cX11_takesBack 74 = .ok (.isub, 1) := by decide +kernel
theorem dX11_takesBack_75 : decode cX11_takesBack 75 = .ok (.aload_n 0, 1) := by decide +kernel
theorem dX11_takesBack_76 : decode cX11_takesBack 76 = .ok (.getfield 56, 3) := by decide +kernel
theorem dX11_takesBack_79 : decode cX11_takesBack 79 = .ok (.aload_n 0, 1) := by decide +kernel
theorem dX11_takesBack_80 : decode cX11_takesBack 80 = .ok (.getfield 167, 3) := by decide +kernel
theorem dX11_takesBack_83 : decode cX11_takesBack 83 = .ok (.iaload, 1) := by decide +kernel
theorem dX11_takesBack_84 : decode cX11_takesBack 84 = .ok (.iastore, 1) := by decide +kernel
theorem dX11_takesBack_85 : decode cX11_takesBack 85 = .ok (.goto (-85), 3) := by decide +kernel
theorem dX11_takesBack_88 : decode cX11_takesBack 88 = .ok (.return_, 1) := by decide +kernel
theorem dX11_melts_0 : decode cX11_melts 0 = .ok (.aload_n 0, 1) := by decide +kernel
theorem dX11_melts_1 : decode cX11_melts 1 = .ok (.iconst 0, 1) := by decide +kernel
theorem dX11_melts_2 : decode cX11_melts 2 = .ok (.putfield 167, 3) := by decide +kernel
theorem dX11_melts_5 : decode cX11_melts 5 = .ok (.aload_n 0, 1) := by decide +kernel
theorem dX11_melts_6 : decode cX11_melts 6 = .ok (.getfield 59, 3) := by decide +kernel
theorem dX11_melts_9 : decode cX11_melts 9 = .ok (.iconst 0, 1) := by decide +kernel
theorem dX11_melts_10 : decode cX11_melts 10 = .ok (.iload_n 1, 1) := by decide +kernel
theorem dX11_melts_11 : decode cX11_melts 11 = .ok (.iastore, 1) := by decide +kernel
theorem dX11_melts_12 : decode cX11_melts 12 = .ok (.aload_n 0, 1) := by decide +kernel
theorem dX11_melts_13 : decode cX11_melts 13 = .ok (.getfield 62, 3) := by decide +kernel
theorem dX11_melts_16 : decode cX11_melts 16 = .ok (.iconst 0, 1) := by decide +kernel
theorem dX11_melts_17 : decode cX11_melts 17 = .ok (.iload_n 2, 1) := by decide +kernel
theorem dX11_melts_18 : decode cX11_melts 18 = .ok (.iastore, 1) := by decide +kernel
theorem dX11_melts_19 : decode cX11_melts 19 = .ok (.iconst 1, 1) := by decide +kernel
theorem dX11_melts_20 : decode cX11_melts 20 = .ok (.istore_n 3, 1) := by decide +kernel
theorem dX11_melts_21 : decode cX11_melts 21 = .ok (.iload_n 3, 1) := by decide +kernel
theorem dX11_melts_22 : decode cX11_melts 22 = .ok (.ifCond .le 176, 3) := by decide +kernel
theorem dX11_melts_25 : decode cX11_melts 25 = .ok (.iinc 3 (-1), 3) := by decide +kernel
theorem dX11_melts_28 : decode cX11_melts 28 = .ok (.aload_n 0, 1) := by decide +kernel
theorem dX11_melts_29 : decode cX11_melts 29 = .ok (.aload_n 0, 1) := by decide +kernel
theorem dX11_melts_30 : decode cX11_melts 30 = .ok (.getfield 59, 3) := by decide +kernel
theorem dX11_melts_33 : decode cX11_melts 33 = .ok (.iload_n 3, 1) := by decide +kernel
theorem dX11_melts_34 : decode cX11_melts 34 = .ok (.iaload, 1) := by decide +kernel
theorem dX11_melts_35 : decode cX11_melts 35 = .ok (.invokevirtual 170, 3) := by decide +kernel
theorem dX11_melts_38 : decode cX11_melts 38 = .ok (.istore 4, 2) := by decide +kernel
theorem dX11_melts_40 : decode cX11_melts 40 = .ok (.aload_n 0, 1) := by decide +kernel
theorem dX11_melts_41 : decode cX11_melts 41 = .ok (.aload_n 0, 1) := by decide +kernel
theorem dX11_melts_42 : decode cX11_melts 42 = .ok (.getfield 62, 3) := by decide +kernel
theorem dX11_melts_45 : decode cX11_melts 45 = .ok (.iload_n 3, 1) := by decide +kernel
theorem dX11_melts_46 : decode cX11_melts 46 = .ok (.iaload, 1) := by decide +kernel
theorem dX11_melts_47 : decode cX11_melts 47 = .ok (.invokevirtual 170, 3) := by decide +kernel
theorem dX11_melts_50 : decode cX11_melts 50 = .ok (.istore 5, 2) := by decide +kernel
theorem dX11_melts_52 : decode cX11_melts 52 = .ok (.iload 4, 2) := by decide +kernel
theorem dX11_melts_54 : decode cX11_melts 54 = .ok (.iload 5, 2) := by decide +kernel
theorem dX11_melts_56 : decode cX11_melts 56 = .ok (.if_icmp .ne 6, 3) := by decide +kernel
theorem dX11_melts_59 : decode cX11_melts 59 = .ok (.goto (-38), 3) := by decide +kernel
theorem dX11_melts_62 : decode cX11_melts 62 = .ok (.iload 4, 2) := by decide +kernel
theorem dX11_melts_64 : decode cX11_melts 64 = .ok (.iload 5, 2) := by decide +kernel
theorem dX11_melts_66 : decode cX11_melts 66 = .ok (.if_icmp .le 15, 3) := by decide +kernel
theorem dX11_melts_69 : decode cX11_melts 69 = .ok (.iload 4, 2) := by decide +kernel
theorem dX11_melts_71 : decode cX11_melts 71 = .ok (.istore 6, 2) := by decide +kernel
theorem dX11_melts_73 : decode cX11_melts 73 = .ok (.iload 5, 2) := by decide +kernel
theorem dX11_melts_75 : decode cX11_melts 75 = .ok (.istore 4, 2) := by decide +kernel
theorem dX11_melts_77 : decode cX11_melts 77 = .ok (.iload 6, 2) := by decide +kernel
theorem dX11_melts_79 : decode cX11_melts 79 = .ok (.istore 5, 2) := by decide +kernel
theorem dX11_melts_81 : decode cX11_melts 81 = .ok (.aload_n 0, 1) := by decide +kernel
theorem dX11_melts_82 : decode cX11_melts 82 = .ok (.iload 5, 2) := by decide +kernel
theorem dX11_melts_84 : decode cX11_melts 84 = .ok (.iload 4, 2) := by decide +kernel
theorem dX11_melts_86 : decode cX11_melts 86 = .ok (.invokevirtual 173, 3) := by decide +kernel
theorem dX11_melts_89 : decode cX11_melts 89 = .ok (.iconst 0, 1) := by decide +kernel
theorem dX11_melts_90 : decode cX11_melts 90 = .ok (.istore 6, 2) := by decide +kernel
theorem dX11_melts_92 : decode cX11_melts 92 = .ok (.iload 6, 2) := by decide +kernel
theorem dX11_melts_94 : decode cX11_melts 94 = .ok (.bipush 8, 2) := by decide +kernel
theorem dX11_melts_96 : decode cX11_melts 96 = .ok (.if_icmp .ge 99, 3) := by decide +kernel
theorem dX11_melts_99 : decode cX11_melts 99 = .ok (.aload_n 0, 1) := by decide +kernel
theorem dX11_melts_100 : decode cX11_melts 100 = .ok (.getfield 50, 3) := by decide +kernel
theorem dX11_melts_103 : decode cX11_melts 103 = .ok (.bipush 8, 2) := by decide +kernel
theorem dX11_melts_105 : decode cX11_melts 105 = .ok (.iload 5, 2) := by decide +kernel
theorem dX11_melts_107 : decode cX11_melts 107 = .ok (.imul, 1) := by decide +kernel
theorem dX11_melts_108 : decode cX11_melts 108 = .ok (.iload 6, 2) := by decide +kernel
theorem dX11_melts_110 : decode cX11_melts 110 = .ok (.iadd, 1) := by decide +kernel
theorem dX11_melts_111 : decode cX11_melts 111 = .ok (.iaload, 1) := by decide +kernel
theorem dX11_melts_112 : decode cX11_melts 112 = .ok (.istore 7, 2) := by decide +kernel
theorem dX11_melts_114 : decode cX11_melts 114 = .ok (.iload 7, 2) := by decide +kernel
theorem dX11_melts_116 : decode cX11_melts 116 = .ok (.ifCond .ge 6, 3) := by decide +kernel
theorem dX11_melts_119 : decode cX11_melts 119 = .ok (.goto 70, 3) := by decide +kernel
theorem dX11_melts_122 : decode cX11_melts 122 = .ok (.aload_n 0, 1) := by decide +kernel
theorem dX11_melts_123 : decode cX11_melts 123 = .ok (.getfield 50, 3) := by decide +kernel
theorem dX11_melts_126 : decode cX11_melts 126 = .ok (.bipush 8, 2) := by decide +kernel
theorem dX11_melts_128 : decode cX11_melts 128 = .ok (.iload 4, 2) := by decide +kernel
theorem dX11_melts_130 : decode cX11_melts 130 = .ok (.imul, 1) := by decide +kernel
theorem dX11_melts_131 : decode cX11_melts 131 = .ok (.iload 6, 2) := by decide +kernel
theorem dX11_melts_133 : decode cX11_melts 133 = .ok (.iadd, 1) := by decide +kernel
theorem dX11_melts_134 : decode cX11_melts 134 = .ok (.iaload, 1) := by decide +kernel
theorem dX11_melts_135 : decode cX11_melts 135 = .ok (.ifCond .ge 24, 3) := by decide +kernel
theorem dX11_melts_138 : decode cX11_melts 138 = .ok (.aload_n 0, 1) := by decide +kernel
theorem dX11_melts_139 : decode cX11_melts 139 = .ok (.sipush 722, 3) := by decide +kernel
theorem dX11_melts_142 : decode cX11_melts 142 = .ok (.bipush 8, 2) := by decide +kernel
theorem dX11_melts_144 : decode cX11_melts 144 = .ok (.iload 4, 2) := by decide +kernel
theorem dX11_melts_146 : decode cX11_melts 146 = .ok (.imul, 1) := by decide +kernel
theorem dX11_melts_147 : decode cX11_melts 147 = .ok (.iadd, 1) := by decide +kernel
theorem dX11_melts_148 : decode cX11_melts 148 = .ok (.iload 6, 2) := by decide +kernel
theorem dX11_melts_150 : decode cX11_melts 150 = .ok (.iadd, 1) := by decide +kernel
theorem dX11_melts_151 : decode cX11_melts 151 = .ok (.iload 7, 2) := by decide +kernel
theorem dX11_melts_153 : decode cX11_melts 153 = .ok (.invokevirtual 173, 3) := by decide +kernel
theorem dX11_melts_156 : decode cX11_melts 156 = .ok (.goto 33, 3) := by decide +kernel
theorem dX11_melts_159 : decode cX11_melts 159 = .ok (.aload_n 0, 1) := by decide +kernel
theorem dX11_melts_160 : decode cX11_melts 160 = .ok (.getfield 59, 3) := by decide +kernel
theorem dX11_melts_163 : decode cX11_melts 163 = .ok (.iload_n 3, 1) := by decide +kernel
theorem dX11_melts_164 : decode cX11_melts 164 = .ok (.aload_n 0, 1) := by decide +kernel
theorem dX11_melts_165 : decode cX11_melts 165 = .ok (.getfield 50, 3) := by decide +kernel
theorem dX11_melts_168 : decode cX11_melts 168 = .ok (.bipush 8, 2) := by decide +kernel
theorem dX11_melts_170 : decode cX11_melts 170 = .ok (.iload 4, 2) := by decide +kernel
theorem dX11_melts_172 : decode cX11_melts 172 = .ok (.imul, 1) := by decide +kernel
theorem dX11_melts_173 : decode cX11_melts 173 = .ok (.iload 6, 2) := by decide +kernel
theorem dX11_melts_175 : decode cX11_melts 175 = .ok (.iadd, 1) := by decide +kernel
theorem dX11_melts_176 : decode cX11_melts 176 = .ok (.iaload, 1) := by decide +kernel
theorem dX11_melts_177 : decode cX11_melts 177 = .ok (.iastore, 1) := by decide +kernel
theorem dX11_melts_178 : decode cX11_melts 178 = .ok (.aload_n 0, 1) := by decide +kernel
theorem dX11_melts_179 : decode cX11_melts 179 = .ok (.getfield 62, 3) := by decide +kernel
theorem dX11_melts_182 : decode cX11_melts 182 = .ok (.iload_n 3, 1) := by decide +kernel
theorem dX11_melts_183 : decode cX11_melts 183 = .ok (.iload 7, 2) := by decide +kernel
theorem dX11_melts_185 : decode cX11_melts 185 = .ok (.iastore, 1) := by decide +kernel
theorem dX11_melts_186 : decode cX11_melts 186 = .ok (.iinc 3 1, 3) := by decide +kernel
theorem dX11_melts_189 : decode cX11_melts 189 = .ok (.iinc 6 1, 3) := by decide +kernel
theorem dX11_melts_192 : decode cX11_melts 192 = .ok (.goto (-100), 3) := by decide +kernel
theorem dX11_melts_195 : decode cX11_melts 195 = .ok (.goto (-174), 3) := by decide +kernel
theorem dX11_melts_198 : decode cX11_melts 198 = .ok (.return_, 1) := by decide +kernel
theorem dX11_takesWrong_0 : decode cX11_takesWrong 0 = .ok (.iconst 0, 1) := by decide +kernel
theorem dX11_takesWrong_1 : decode cX11_takesWrong 1 = .ok (.istore_n 1, 1) := by decide +kernel
theorem dX11_takesWrong_2 : decode cX11_takesWrong 2 = .ok (.iload_n 1, 1) := by decide +kernel
theorem dX11_takesWrong_3 : decode cX11_takesWrong 3 = .ok (.aload_n 0, 1) := by decide +kernel
theorem dX11_takesWrong_4 : decode cX11_takesWrong 4 = .ok (.getfield 147, 3) := by decide +kernel
theorem dX11_takesWrong_7 : decode cX11_takesWrong 7 = .ok (.if_icmp .ge 103, 3) := by decide +kernel
theorem dX11_takesWrong_10 : decode cX11_takesWrong 10 = .ok (.aload_n 0, 1) := by decide +kernel
theorem dX11_takesWrong_11 : decode cX11_takesWrong 11 = .ok (.getfield 29, 3) := by decide +kernel
theorem dX11_takesWrong_14 : decode cX11_takesWrong 14 = .ok (.iload_n 1, 1) := by decide +kernel
theorem dX11_takesWrong_15 : decode cX11_takesWrong 15 = .ok (.baload, 1) := by decide +kernel
theorem dX11_takesWrong_16 : decode cX11_takesWrong 16 = .ok (.ifCond .ne 6, 3) := by decide +kernel
theorem dX11_takesWrong_19 : decode cX11_takesWrong 19 = .ok (.goto 85, 3) := by decide +kernel
theorem dX11_takesWrong_22 : decode cX11_takesWrong 22 = .ok (.iconst 0, 1) := by decide +kernel
theorem dX11_takesWrong_23 : decode cX11_takesWrong 23 = .ok (.istore_n 2, 1) := by decide +kernel
theorem dX11_takesWrong_24 : decode cX11_takesWrong 24 = .ok (.iconst 0, 1) := by decide +kernel
theorem dX11_takesWrong_25 : decode cX11_takesWrong 25 = .ok (.istore_n 3, 1) := by decide +kernel
theorem dX11_takesWrong_26 : decode cX11_takesWrong 26 = .ok (.iload_n 3, 1) := by decide +kernel
theorem dX11_takesWrong_27 : decode cX11_takesWrong 27 = .ok (.aload_n 0, 1) := by decide +kernel
theorem dX11_takesWrong_28 : decode cX11_takesWrong 28 = .ok (.getfield 16, 3) := by decide +kernel
theorem dX11_takesWrong_31 : decode cX11_takesWrong 31 = .ok (.iload_n 1, 1) := by decide +kernel
theorem dX11_takesWrong_32 : decode cX11_takesWrong 32 = .ok (.iaload, 1) := by decide +kernel
theorem dX11_takesWrong_33 : decode cX11_takesWrong 33 = .ok (.if_icmp .ge 59, 3) := by decide +kernel
theorem dX11_takesWrong_36 : decode cX11_takesWrong 36 = .ok (.aload_n 0, 1) := by decide +kernel
theorem dX11_takesWrong_37 : decode cX11_takesWrong 37 = .ok (.getfield 50, 3) := by decide +kernel
theorem dX11_takesWrong_40 : decode cX11_takesWrong 40 = .ok (.bipush 8, 2) := by decide +kernel
theorem dX11_takesWrong_42 : decode cX11_takesWrong 42 = .ok (.iload_n 2, 1) := by decide +kernel
theorem dX11_takesWrong_43 : decode cX11_takesWrong 43 = .ok (.imul, 1) := by decide +kernel
theorem dX11_takesWrong_44 : decode cX11_takesWrong 44 = .ok (.aload_n 0, 1) := by decide +kernel
theorem dX11_takesWrong_45 : decode cX11_takesWrong 45 = .ok (.getfield 13, 3) := by decide +kernel
theorem dX11_takesWrong_48 : decode cX11_takesWrong 48 = .ok (.bipush 12, 2) := by decide +kernel
theorem dX11_takesWrong_50 : decode cX11_takesWrong 50 = .ok (.iload_n 1, 1) := by decide +kernel
theorem dX11_takesWrong_51 : decode cX11_takesWrong 51 = .ok (.imul, 1) := by decide +kernel
theorem dX11_takesWrong_52 : decode cX11_takesWrong 52 = .ok (.iload_n 3, 1) := by decide +kernel
theorem dX11_takesWrong_53 : decode cX11_takesWrong 53 = .ok (.iadd, 1) := by decide +kernel
theorem dX11_takesWrong_54 : decode cX11_takesWrong 54 = .ok (.iaload, 1) := by decide +kernel
theorem dX11_takesWrong_55 : decode cX11_takesWrong 55 = .ok (.iadd, 1) := by decide +kernel
theorem dX11_takesWrong_56 : decode cX11_takesWrong 56 = .ok (.iaload, 1) := by decide +kernel
theorem dX11_takesWrong_57 : decode cX11_takesWrong 57 = .ok (.ifCond .lt 35, 3) := by decide +kernel
theorem dX11_takesWrong_60 : decode cX11_takesWrong 60 = .ok (.aload_n 0, 1) := by decide +kernel
theorem dX11_takesWrong_61 : decode cX11_takesWrong 61 = .ok (.aload_n 0, 1) := by decide +kernel
theorem dX11_takesWrong_62 : decode cX11_takesWrong 62 = .ok (.getfield 50, 3) := by decide +kernel
theorem dX11_takesWrong_65 : decode cX11_takesWrong 65 = .ok (.bipush 8, 2) := by decide +kernel
theorem dX11_takesWrong_67 : decode cX11_takesWrong 67 = .ok (.iload_n 2, 1) := by decide +kernel
theorem dX11_takesWrong_68 : decode cX11_takesWrong 68 = .ok (.imul, 1) := by decide +kernel
theorem dX11_takesWrong_69 : decode cX11_takesWrong 69 = .ok (.aload_n 0, 1) := by decide +kernel
theorem dX11_takesWrong_70 : decode cX11_takesWrong 70 = .ok (.getfield 13, 3) := by decide +kernel
theorem dX11_takesWrong_73 : decode cX11_takesWrong 73 = .ok (.bipush 12, 2) := by decide +kernel
theorem dX11_takesWrong_75 : decode cX11_takesWrong 75 = .ok (.iload_n 1, 1) := by decide +kernel
theorem dX11_takesWrong_76 : decode cX11_takesWrong 76 = .ok (.imul, 1) := by decide +kernel
theorem dX11_takesWrong_77 : decode cX11_takesWrong 77 = .ok (.iload_n 3, 1) := by decide +kernel
theorem dX11_takesWrong_78 : decode cX11_takesWrong 78 = .ok (.iadd, 1) := by decide +kernel
theorem dX11_takesWrong_79 : decode cX11_takesWrong 79 = .ok (.iaload, 1) := by decide +kernel
theorem dX11_takesWrong_80 : decode cX11_takesWrong 80 = .ok (.iadd, 1) := by decide +kernel
theorem dX11_takesWrong_81 : decode cX11_takesWrong 81 = .ok (.iaload, 1) := by decide +kernel
theorem dX11_takesWrong_82 : decode cX11_takesWrong 82 = .ok (.invokevirtual 170, 3) := by decide +kernel
theorem dX11_takesWrong_85 : decode cX11_takesWrong 85 = .ok (.istore_n 2, 1) := by decide +kernel
theorem dX11_takesWrong_86 : decode cX11_takesWrong 86 = .ok (.iinc 3 1, 3) := by decide +kernel
theorem dX11_takesWrong_89 : decode cX11_takesWrong 89 = .ok (.goto (-63), 3) := by decide +kernel
theorem dX11_takesWrong_92 : decode cX11_takesWrong 92 = .ok (.iload_n 3, 1) := by decide +kernel
theorem dX11_takesWrong_93 : decode cX11_takesWrong 93 = .ok (.aload_n 0, 1) := by decide +kernel
theorem dX11_takesWrong_94 : decode cX11_takesWrong 94 = .ok (.getfield 16, 3) := by decide +kernel
theorem dX11_takesWrong_97 : decode cX11_takesWrong 97 = .ok (.iload_n 1, 1) := by decide +kernel
theorem dX11_takesWrong_98 : decode cX11_takesWrong 98 = .ok (.iaload, 1) := by decide +kernel
theorem dX11_takesWrong_99 : decode cX11_takesWrong 99 = .ok (.if_icmp .ne 5, 3) := by decide +kernel
theorem dX11_takesWrong_102 : decode cX11_takesWrong 102 = .ok (.iconst 1, 1) := by decide +kernel
theorem dX11_takesWrong_103 : decode cX11_takesWrong 103 = .ok (.ireturn, 1) := by decide +kernel
theorem dX11_takesWrong_104 : decode cX11_takesWrong 104 = .ok (.iinc 1 1, 3) := by decide +kernel
theorem dX11_takesWrong_107 : decode cX11_takesWrong 107 = .ok (.goto (-105), 3) := by decide +kernel
theorem dX11_takesWrong_110 : decode cX11_takesWrong 110 = .ok (.iconst 0, 1) := by decide +kernel
theorem dX11_takesWrong_111 : decode cX11_takesWrong 111 = .ok (.ireturn, 1) := by decide +kernel
theorem dX11_learn_0 : decode cX11_learn 0 = .ok (.aload_n 0, 1) := by decide +kernel
theorem dX11_learn_1 : decode cX11_learn 1 = .ok (.iconst 0, 1) := by decide +kernel
theorem dX11_learn_2 : decode cX11_learn 2 = .ok (.putfield 133, 3) := by decide +kernel
theorem dX11_learn_5 : decode cX11_learn 5 = .ok (.aload_n 0, 1) := by decide +kernel
theorem dX11_learn_6 : decode cX11_learn 6 = .ok (.invokevirtual 177, 3) := by decide +kernel
theorem dX11_learn_9 : decode cX11_learn 9 = .ok (.iconst 0, 1) := by decide +kernel
theorem dX11_learn_10 : decode cX11_learn 10 = .ok (.istore_n 1, 1) := by decide +kernel
theorem dX11_learn_11 : decode cX11_learn 11 = .ok (.iload_n 1, 1) := by decide +kernel
theorem dX11_learn_12 : decode cX11_learn 12 = .ok (.aload_n 0, 1) := by decide +kernel
theorem dX11_learn_13 : decode cX11_learn 13 = .ok (.getfield 164, 3) := by decide +kernel
theorem dX11_learn_16 : decode cX11_learn 16 = .ok (.if_icmp .ge 52, 3) := by decide +kernel
theorem dX11_learn_19 : decode cX11_learn 19 = .ok (.aload_n 0, 1) := by decide +kernel
theorem dX11_learn_20 : decode cX11_learn 20 = .ok (.getfield 47, 3) := by decide +kernel
theorem dX11_learn_23 : decode cX11_learn 23 = .ok (.iload_n 1, 1) := by decide +kernel
theorem dX11_learn_24 : decode cX11_learn 24 = .ok (.iload_n 1, 1) := by decide +kernel
theorem dX11_learn_25 : decode cX11_learn 25 = .ok (.iastore, 1) := by decide +kernel
theorem dX11_learn_26 : decode cX11_learn 26 = .ok (.iconst 0, 1) := by decide +kernel
theorem dX11_learn_27 : decode cX11_learn 27 = .ok (.istore_n 2, 1) := by decide +kernel
theorem dX11_learn_28 : decode cX11_learn 28 = .ok (.iload_n 2, 1) := by decide +kernel
theorem dX11_learn_29 : decode cX11_learn 29 = .ok (.bipush 8, 2) := by decide +kernel
theorem dX11_learn_31 : decode cX11_learn 31 = .ok (.if_icmp .ge 31, 3) := by decide +kernel
theorem dX11_learn_34 : decode cX11_learn 34 = .ok (.aload_n 0, 1) := by decide +kernel
theorem dX11_learn_35 : decode cX11_learn 35 = .ok (.getfield 50, 3) := by decide +kernel
theorem dX11_learn_38 : decode cX11_learn 38 = .ok (.bipush 8, 2) := by decide +kernel
theorem dX11_learn_40 : decode cX11_learn 40 = .ok (.iload_n 1, 1) := by decide +kernel
theorem dX11_learn_41 : decode cX11_learn 41 = .ok (.imul, 1) := by decide +kernel
theorem dX11_learn_42 : decode cX11_learn 42 = .ok (.iload_n 2, 1) := by decide +kernel
theorem dX11_learn_43 : decode cX11_learn 43 = .ok (.iadd, 1) := by decide +kernel
theorem dX11_learn_44 : decode cX11_learn 44 = .ok (.aload_n 0, 1) := by decide +kernel
theorem dX11_learn_45 : decode cX11_learn 45 = .ok (.getfield 32, 3) := by decide +kernel
theorem dX11_learn_48 : decode cX11_learn 48 = .ok (.bipush 8, 2) := by decide +kernel
theorem dX11_learn_50 : decode cX11_learn 50 = .ok (.iload_n 1, 1) := by decide +kernel
theorem dX11_learn_51 : decode cX11_learn 51 = .ok (.imul, 1) := by decide +kernel
theorem dX11_learn_52 : decode cX11_learn 52 = .ok (.iload_n 2, 1) := by decide +kernel
theorem dX11_learn_53 : decode cX11_learn 53 = .ok (.iadd, 1) := by decide +kernel
theorem dX11_learn_54 : decode cX11_learn 54 = .ok (.iaload, 1) := by decide +kernel
theorem dX11_learn_55 : decode cX11_learn 55 = .ok (.iastore, 1) := by decide +kernel
theorem dX11_learn_56 : decode cX11_learn 56 = .ok (.iinc 2 1, 3) := by decide +kernel
theorem dX11_learn_59 : decode cX11_learn 59 = .ok (.goto (-31), 3) := by decide +kernel
theorem dX11_learn_62 : decode cX11_learn 62 = .ok (.iinc 1 1, 3) := by decide +kernel
theorem dX11_learn_65 : decode cX11_learn 65 = .ok (.goto (-54), 3) := by decide +kernel
theorem dX11_learn_68 : decode cX11_learn 68 = .ok (.aload_n 0, 1) := by decide +kernel
theorem dX11_learn_69 : decode cX11_learn 69 = .ok (.getfield 71, 3) := by decide +kernel
theorem dX11_learn_72 : decode cX11_learn 72 = .ok (.iconst 0, 1) := by decide +kernel
theorem dX11_learn_73 : decode cX11_learn 73 = .ok (.iconst 0, 1) := by decide +kernel
theorem dX11_learn_74 : decode cX11_learn 74 = .ok (.iastore, 1) := by decide +kernel
theorem dX11_learn_75 : decode cX11_learn 75 = .ok (.iconst 1, 1) := by decide +kernel
theorem dX11_learn_76 : decode cX11_learn 76 = .ok (.istore_n 1, 1) := by decide +kernel
theorem dX11_learn_77 : decode cX11_learn 77 = .ok (.iconst 1, 1) := by decide +kernel
theorem dX11_learn_78 : decode cX11_learn 78 = .ok (.istore_n 2, 1) := by decide +kernel
theorem dX11_learn_79 : decode cX11_learn 79 = .ok (.iload_n 2, 1) := by decide +kernel
theorem dX11_learn_80 : decode cX11_learn 80 = .ok (.aload_n 0, 1) := by decide +kernel
theorem dX11_learn_81 : decode cX11_learn 81 = .ok (.getfield 164, 3) := by decide +kernel
theorem dX11_learn_84 : decode cX11_learn 84 = .ok (.if_icmp .ge 101, 3) := by decide +kernel
theorem dX11_learn_87 : decode cX11_learn 87 = .ok (.aload_n 0, 1) := by decide +kernel
theorem dX11_learn_88 : decode cX11_learn 88 = .ok (.getfield 47, 3) := by decide +kernel
theorem dX11_learn_91 : decode cX11_learn 91 = .ok (.iload_n 2, 1) := by decide +kernel
theorem dX11_learn_92 : decode cX11_learn 92 = .ok (.iaload, 1) := by decide +kernel
theorem dX11_learn_93 : decode cX11_learn 93 = .ok (.iload_n 2, 1) := by decide +kernel
theorem dX11_learn_94 : decode cX11_learn 94 = .ok (.if_icmp .eq 6, 3) := by decide +kernel
theorem dX11_learn_97 : decode cX11_learn 97 = .ok (.goto 82, 3) := by decide +kernel
theorem dX11_learn_100 : decode cX11_learn 100 = .ok (.iconst 0, 1) := by decide +kernel
theorem dX11_learn_101 : decode cX11_learn 101 = .ok (.istore_n 3, 1) := by decide +kernel
theorem dX11_learn_102 : decode cX11_learn 102 = .ok (.iconst 0, 1) := by decide +kernel
theorem dX11_learn_103 : decode cX11_learn 103 = .ok (.istore 4, 2) := by decide +kernel
theorem dX11_learn_105 : decode cX11_learn 105 = .ok (.iload 4, 2) := by decide +kernel
theorem dX11_learn_107 : decode cX11_learn 107 = .ok (.iload_n 1, 1) := by decide +kernel
theorem dX11_learn_108 : decode cX11_learn 108 = .ok (.if_icmp .ge 46, 3) := by decide +kernel
theorem dX11_learn_111 : decode cX11_learn 111 = .ok (.iload_n 3, 1) := by decide +kernel
theorem dX11_learn_112 : decode cX11_learn 112 = .ok (.ifCond .ne 42, 3) := by decide +kernel
theorem dX11_learn_115 : decode cX11_learn 115 = .ok (.aload_n 0, 1) := by decide +kernel
theorem dX11_learn_116 : decode cX11_learn 116 = .ok (.aload_n 0, 1) := by decide +kernel
theorem dX11_learn_117 : decode cX11_learn 117 = .ok (.getfield 71, 3) := by decide +kernel
theorem dX11_learn_120 : decode cX11_learn 120 = .ok (.iload 4, 2) := by decide +kernel
theorem dX11_learn_122 : decode cX11_learn 122 = .ok (.iaload, 1) := by decide +kernel
theorem dX11_learn_123 : decode cX11_learn 123 = .ok (.iload_n 2, 1) := by decide +kernel
theorem dX11_learn_124 : decode cX11_learn 124 = .ok (.invokevirtual 180, 3) := by decide +kernel
theorem dX11_learn_127 : decode cX11_learn 127 = .ok (.aload_n 0, 1) := by decide +kernel
theorem dX11_learn_128 : decode cX11_learn 128 = .ok (.invokevirtual 183, 3) := by decide +kernel
theorem dX11_learn_131 : decode cX11_learn 131 = .ok (.ifCond .ne 7, 3) := by decide +kernel
theorem dX11_learn_134 : decode cX11_learn 134 = .ok (.iconst 1, 1) := by decide +kernel
theorem dX11_learn_135 : decode cX11_learn 135 = .ok (.goto 4, 3) := by decide +kernel
theorem dX11_learn_138 : decode cX11_learn 138 = .ok (.iconst 0, 1) := by decide +kernel
theorem dX11_learn_139 : decode cX11_learn 139 = .ok (.istore_n 3, 1) := by decide +kernel
theorem dX11_learn_140 : decode cX11_learn 140 = .ok (.iload_n 3, 1) := by decide +kernel
theorem dX11_learn_141 : decode cX11_learn 141 = .ok (.ifCond .ne 7, 3) := by decide +kernel
theorem dX11_learn_144 : decode cX11_learn 144 = .ok (.aload_n 0, 1) := by decide +kernel
theorem dX11_learn_145 : decode cX11_learn 145 = .ok (.invokevirtual 187, 3) := by decide +kernel
theorem dX11_learn_148 : decode cX11_learn 148 = .ok (.iinc 4 1, 3) := by decide +kernel
theorem dX11_learn_151 : decode cX11_learn 151 = .ok (.goto (-46), 3) := by decide +kernel
theorem dX11_learn_154 : decode cX11_learn 154 = .ok (.iload_n 3, 1) := by decide +kernel
theorem dX11_learn_155 : decode cX11_learn 155 = .ok (.ifCond .eq 6, 3) := by decide +kernel
theorem dX11_learn_158 : decode cX11_learn 158 = .ok (.goto 21, 3) := by decide +kernel
theorem dX11_learn_161 : decode cX11_learn 161 = .ok (.iload_n 1, 1) := by decide +kernel
theorem dX11_learn_162 : decode cX11_learn 162 = .ok (.bipush 30, 2) := by decide +kernel
theorem dX11_learn_164 : decode cX11_learn 164 = .ok (.if_icmp .ne 5, 3) := by decide +kernel
theorem dX11_learn_167 : decode cX11_learn 167 = .ok (.iconst (-1), 1) := by decide +kernel
theorem dX11_learn_168 : decode cX11_learn 168 = .ok (.ireturn, 1) := by decide +kernel
theorem dX11_learn_169 : decode cX11_learn 169 = .ok (.aload_n 0, 1) := by decide +kernel
theorem dX11_learn_170 : decode cX11_learn 170 = .ok (.getfield 71, 3) := by decide +kernel
theorem dX11_learn_173 : decode cX11_learn 173 = .ok (.iload_n 1, 1) := by decide +kernel
theorem dX11_learn_174 : decode cX11_learn 174 = .ok (.iload_n 2, 1) := by decide +kernel
theorem dX11_learn_175 : decode cX11_learn 175 = .ok (.iastore, 1) := by decide +kernel
theorem dX11_learn_176 : decode cX11_learn 176 = .ok (.iinc 1 1, 3) := by decide +kernel
theorem dX11_learn_179 : decode cX11_learn 179 = .ok (.iinc 2 1, 3) := by decide +kernel
theorem dX11_learn_182 : decode cX11_learn 182 = .ok (.goto (-103), 3) := by decide +kernel
theorem dX11_learn_185 : decode cX11_learn 185 = .ok (.aload_n 0, 1) := by decide +kernel
theorem dX11_learn_186 : decode cX11_learn 186 = .ok (.iload_n 1, 1) := by decide +kernel
theorem dX11_learn_187 : decode cX11_learn 187 = .ok (.putfield 126, 3) := by decide +kernel
theorem dX11_learn_190 : decode cX11_learn 190 = .ok (.iconst 0, 1) := by decide +kernel
theorem dX11_learn_191 : decode cX11_learn 191 = .ok (.istore_n 2, 1) := by decide +kernel
theorem dX11_learn_192 : decode cX11_learn 192 = .ok (.iload_n 2, 1) := by decide +kernel
theorem dX11_learn_193 : decode cX11_learn 193 = .ok (.iload_n 1, 1) := by decide +kernel
theorem dX11_learn_194 : decode cX11_learn 194 = .ok (.if_icmp .ge 84, 3) := by decide +kernel
theorem dX11_learn_197 : decode cX11_learn 197 = .ok (.iconst 0, 1) := by decide +kernel
theorem dX11_learn_198 : decode cX11_learn 198 = .ok (.istore_n 3, 1) := by decide +kernel
theorem dX11_learn_199 : decode cX11_learn 199 = .ok (.iload_n 3, 1) := by decide +kernel
theorem dX11_learn_200 : decode cX11_learn 200 = .ok (.bipush 8, 2) := by decide +kernel
theorem dX11_learn_202 : decode cX11_learn 202 = .ok (.if_icmp .ge 70, 3) := by decide +kernel
theorem dX11_learn_205 : decode cX11_learn 205 = .ok (.aload_n 0, 1) := by decide +kernel
theorem dX11_learn_206 : decode cX11_learn 206 = .ok (.getfield 68, 3) := by decide +kernel
theorem dX11_learn_209 : decode cX11_learn 209 = .ok (.bipush 8, 2) := by decide +kernel
theorem dX11_learn_211 : decode cX11_learn 211 = .ok (.iload_n 2, 1) := by decide +kernel
theorem dX11_learn_212 : decode cX11_learn 212 = .ok (.imul, 1) := by decide +kernel
theorem dX11_learn_213 : decode cX11_learn 213 = .ok (.iload_n 3, 1) := by decide +kernel
theorem dX11_learn_214 : decode cX11_learn 214 = .ok (.iadd, 1) := by decide +kernel
theorem dX11_learn_215 : decode cX11_learn 215 = .ok (.iconst 0, 1) := by decide +kernel
theorem dX11_learn_216 : decode cX11_learn 216 = .ok (.iastore, 1) := by decide +kernel
theorem dX11_learn_217 : decode cX11_learn 217 = .ok (.aload_n 0, 1) := by decide +kernel
theorem dX11_learn_218 : decode cX11_learn 218 = .ok (.getfield 50, 3) := by decide +kernel
theorem dX11_learn_221 : decode cX11_learn 221 = .ok (.bipush 8, 2) := by decide +kernel
theorem dX11_learn_223 : decode cX11_learn 223 = .ok (.aload_n 0, 1) := by decide +kernel
theorem dX11_learn_224 : decode cX11_learn 224 = .ok (.getfield 71, 3) := by decide +kernel
theorem dX11_learn_227 : decode cX11_learn 227 = .ok (.iload_n 2, 1) := by decide +kernel
theorem dX11_learn_228 : decode cX11_learn 228 = .ok (.iaload, 1) := by decide +kernel
theorem dX11_learn_229 : decode cX11_learn 229 = .ok (.imul, 1) := by decide +kernel
theorem dX11_learn_230 : decode cX11_learn 230 = .ok (.iload_n 3, 1) := by decide +kernel
theorem dX11_learn_231 : decode cX11_learn 231 = .ok (.iadd, 1) := by decide +kernel
theorem dX11_learn_232 : decode cX11_learn 232 = .ok (.iaload, 1) := by decide +kernel
theorem dX11_learn_233 : decode cX11_learn 233 = .ok (.istore 4, 2) := by decide +kernel
theorem dX11_learn_235 : decode cX11_learn 235 = .ok (.aload_n 0, 1) := by decide +kernel
theorem dX11_learn_236 : decode cX11_learn 236 = .ok (.getfield 65, 3) := by decide +kernel
theorem dX11_learn_239 : decode cX11_learn 239 = .ok (.bipush 8, 2) := by decide +kernel
theorem dX11_learn_241 : decode cX11_learn 241 = .ok (.iload_n 2, 1) := by decide +kernel
theorem dX11_learn_242 : decode cX11_learn 242 = .ok (.imul, 1) := by decide +kernel
theorem dX11_learn_243 : decode cX11_learn 243 = .ok (.iload_n 3, 1) := by decide +kernel
theorem dX11_learn_244 : decode cX11_learn 244 = .ok (.iadd, 1) := by decide +kernel
theorem dX11_learn_245 : decode cX11_learn 245 = .ok (.iload 4, 2) := by decide +kernel
theorem dX11_learn_247 : decode cX11_learn 247 = .ok (.ifCond .ge 7, 3) := by decide +kernel
theorem dX11_learn_250 : decode cX11_learn 250 = .ok (.iconst (-1), 1) := by decide +kernel
theorem dX11_learn_251 : decode cX11_learn 251 = .ok (.goto 14, 3) := by decide +kernel
theorem dX11_learn_254 : decode cX11_learn 254 = .ok (.aload_n 0, 1) := by decide +kernel
theorem dX11_learn_255 : decode cX11_learn 255 = .ok (.aload_n 0, 1) := by decide +kernel
theorem dX11_learn_256 : decode cX11_learn 256 = .ok (.iload 4, 2) := by decide +kernel
theorem dX11_learn_258 : decode cX11_learn 258 = .ok (.invokevirtual 170, 3) := by decide +kernel
theorem dX11_learn_261 : decode cX11_learn 261 = .ok (.iload_n 1, 1) := by decide +kernel
theorem dX11_learn_262 : decode cX11_learn 262 = .ok (.invokevirtual 190, 3) := by decide +kernel
theorem dX11_learn_265 : decode cX11_learn 265 = .ok (.iastore, 1) := by decide +kernel
theorem dX11_learn_266 : decode cX11_learn 266 = .ok (.iinc 3 1, 3) := by decide +kernel
theorem dX11_learn_269 : decode cX11_learn 269 = .ok (.goto (-70), 3) := by decide +kernel
theorem dX11_learn_272 : decode cX11_learn 272 = .ok (.iinc 2 1, 3) := by decide +kernel
theorem dX11_learn_275 : decode cX11_learn 275 = .ok (.goto (-83), 3) := by decide +kernel
theorem dX11_learn_278 : decode cX11_learn 278 = .ok (.iconst 0, 1) := by decide +kernel
theorem dX11_learn_279 : decode cX11_learn 279 = .ok (.istore_n 2, 1) := by decide +kernel
theorem dX11_learn_280 : decode cX11_learn 280 = .ok (.iload_n 2, 1) := by decide +kernel
theorem dX11_learn_281 : decode cX11_learn 281 = .ok (.aload_n 0, 1) := by decide +kernel
theorem dX11_learn_282 : decode cX11_learn 282 = .ok (.getfield 147, 3) := by decide +kernel
theorem dX11_learn_285 : decode cX11_learn 285 = .ok (.if_icmp .ge 69, 3) := by decide +kernel
theorem dX11_learn_288 : decode cX11_learn 288 = .ok (.iconst 0, 1) := by decide +kernel
theorem dX11_learn_289 : decode cX11_learn 289 = .ok (.istore_n 3, 1) := by decide +kernel
theorem dX11_learn_290 : decode cX11_learn 290 = .ok (.iconst 0, 1) := by decide +kernel
theorem dX11_learn_291 : decode cX11_learn 291 = .ok (.istore 4, 2) := by decide +kernel
theorem dX11_learn_293 : decode cX11_learn 293 = .ok (.iload 4, 2) := by decide +kernel
theorem dX11_learn_295 : decode cX11_learn 295 = .ok (.aload_n 0, 1) := by decide +kernel
theorem dX11_learn_296 : decode cX11_learn 296 = .ok (.getfield 26, 3) := by decide +kernel
theorem dX11_learn_299 : decode cX11_learn 299 = .ok (.iload_n 2, 1) := by decide +kernel
theorem dX11_learn_300 : decode cX11_learn 300 = .ok (.iaload, 1) := by decide +kernel
theorem dX11_learn_301 : decode cX11_learn 301 = .ok (.if_icmp .ge 47, 3) := by decide +kernel
theorem dX11_learn_304 : decode cX11_learn 304 = .ok (.bipush 8, 2) := by decide +kernel
theorem dX11_learn_306 : decode cX11_learn 306 = .ok (.iload_n 3, 1) := by decide +kernel
theorem dX11_learn_307 : decode cX11_learn 307 = .ok (.imul, 1) := by decide +kernel
theorem dX11_learn_308 : decode cX11_learn 308 = .ok (.aload_n 0, 1) := by decide +kernel
theorem dX11_learn_309 : decode cX11_learn 309 = .ok (.getfield 13, 3) := by decide +kernel
theorem dX11_learn_312 : decode cX11_learn 312 = .ok (.bipush 12, 2) := by decide +kernel
theorem dX11_learn_314 : decode cX11_learn 314 = .ok (.iload_n 2, 1) := by decide +kernel
theorem dX11_learn_315 : decode cX11_learn 315 = .ok (.imul, 1) := by decide +kernel
theorem dX11_learn_316 : decode cX11_learn 316 = .ok (.iload 4, 2) := by decide +kernel
theorem dX11_learn_318 : decode cX11_learn 318 = .ok (.iadd, 1) := by decide +kernel
theorem dX11_learn_319 : decode cX11_learn 319 = .ok (.iaload, 1) := by decide +kernel
theorem dX11_learn_320 : decode cX11_learn 320 = .ok (.iadd, 1) := by decide +kernel
theorem dX11_learn_321 : decode cX11_learn 321 = .ok (.istore 5, 2) := by decide +kernel
theorem dX11_learn_323 : decode cX11_learn 323 = .ok (.aload_n 0, 1) := by decide +kernel
theorem dX11_learn_324 : decode cX11_learn 324 = .ok (.getfield 68, 3) := by decide +kernel
theorem dX11_learn_327 : decode cX11_learn 327 = .ok (.iload 5, 2) := by decide +kernel
theorem dX11_learn_329 : decode cX11_learn 329 = .ok (.dup2, 1) := by decide +kernel
theorem dX11_learn_330 : decode cX11_learn 330 = .ok (.iaload, 1) := by decide +kernel
theorem dX11_learn_331 : decode cX11_learn 331 = .ok (.iconst 1, 1) := by decide +kernel
theorem dX11_learn_332 : decode cX11_learn 332 = .ok (.iadd, 1) := by decide +kernel
theorem dX11_learn_333 : decode cX11_learn 333 = .ok (.iastore, 1) := by decide +kernel
theorem dX11_learn_334 : decode cX11_learn 334 = .ok (.aload_n 0, 1) := by decide +kernel
theorem dX11_learn_335 : decode cX11_learn 335 = .ok (.getfield 65, 3) := by decide +kernel
theorem dX11_learn_338 : decode cX11_learn 338 = .ok (.iload 5, 2) := by decide +kernel
theorem dX11_learn_340 : decode cX11_learn 340 = .ok (.iaload, 1) := by decide +kernel
theorem dX11_learn_341 : decode cX11_learn 341 = .ok (.istore_n 3, 1) := by decide +kernel
theorem dX11_learn_342 : decode cX11_learn 342 = .ok (.iinc 4 1, 3) := by decide +kernel
theorem dX11_learn_345 : decode cX11_learn 345 = .ok (.goto (-52), 3) := by decide +kernel
theorem dX11_learn_348 : decode cX11_learn 348 = .ok (.iinc 2 1, 3) := by decide +kernel
theorem dX11_learn_351 : decode cX11_learn 351 = .ok (.goto (-71), 3) := by decide +kernel
theorem dX11_learn_354 : decode cX11_learn 354 = .ok (.aload_n 0, 1) := by decide +kernel
theorem dX11_learn_355 : decode cX11_learn 355 = .ok (.getfield 126, 3) := by decide +kernel
theorem dX11_learn_358 : decode cX11_learn 358 = .ok (.ireturn, 1) := by decide +kernel
theorem dX11_placeOf_0 : decode cX11_placeOf 0 = .ok (.iconst 0, 1) := by decide +kernel
theorem dX11_placeOf_1 : decode cX11_placeOf 1 = .ok (.istore_n 3, 1) := by decide +kernel
theorem dX11_placeOf_2 : decode cX11_placeOf 2 = .ok (.iload_n 3, 1) := by decide +kernel
theorem dX11_placeOf_3 : decode cX11_placeOf 3 = .ok (.iload_n 2, 1) := by decide +kernel
theorem dX11_placeOf_4 : decode cX11_placeOf 4 = .ok (.if_icmp .ge 19, 3) := by decide +kernel
theorem dX11_placeOf_7 : decode cX11_placeOf 7 = .ok (.aload_n 0, 1) := by decide +kernel
theorem dX11_placeOf_8 : decode cX11_placeOf 8 = .ok (.getfield 71, 3) := by decide +kernel
theorem dX11_placeOf_11 : decode cX11_placeOf 11 = .ok (.iload_n 3, 1) := by decide +kernel
theorem dX11_placeOf_12 : decode cX11_placeOf 12 = .ok (.iaload, 1) := by decide +kernel
theorem dX11_placeOf_13 : decode cX11_placeOf 13 = .ok (.iload_n 1, 1) := by decide +kernel
theorem dX11_placeOf_14 : decode cX11_placeOf 14 = .ok (.if_icmp .eq 9, 3) := by decide +kernel
theorem dX11_placeOf_17 : decode cX11_placeOf 17 = .ok (.iinc 3 1, 3) := by decide +kernel
theorem dX11_placeOf_20 : decode cX11_placeOf 20 = .ok (.goto (-18), 3) := by decide +kernel
theorem dX11_placeOf_23 : decode cX11_placeOf 23 = .ok (.iload_n 3, 1) := by decide +kernel
theorem dX11_placeOf_24 : decode cX11_placeOf 24 = .ok (.ireturn, 1) := by decide +kernel
theorem dX11_isStep_0 : decode cX11_isStep 0 = .ok (.aload_n 0, 1) := by decide +kernel
theorem dX11_isStep_1 : decode cX11_isStep 1 = .ok (.iload_n 1, 1) := by decide +kernel
theorem dX11_isStep_2 : decode cX11_isStep 2 = .ok (.ifCond .lt 11, 3) := by decide +kernel
theorem dX11_isStep_5 : decode cX11_isStep 5 = .ok (.iload_n 1, 1) := by decide +kernel
theorem dX11_isStep_6 : decode cX11_isStep 6 = .ok (.aload_n 0, 1) := by decide +kernel
theorem dX11_isStep_7 : decode cX11_isStep 7 = .ok (.getfield 126, 3) := by decide +kernel
theorem dX11_isStep_10 : decode cX11_isStep 10 = .ok (.if_icmp .lt 7, 3) := by decide +kernel
theorem dX11_isStep_13 : decode cX11_isStep 13 = .ok (.iconst 1, 1) := by decide +kernel
theorem dX11_isStep_14 : decode cX11_isStep 14 = .ok (.goto 15, 3) := by decide +kernel
theorem dX11_isStep_17 : decode cX11_isStep 17 = .ok (.iload_n 2, 1) := by decide +kernel
theorem dX11_isStep_18 : decode cX11_isStep 18 = .ok (.invokestatic 136, 3) := by decide +kernel
theorem dX11_isStep_21 : decode cX11_isStep 21 = .ok (.ifCond .ne 7, 3) := by decide +kernel
theorem dX11_isStep_24 : decode cX11_isStep 24 = .ok (.iconst 2, 1) := by decide +kernel
theorem dX11_isStep_25 : decode cX11_isStep 25 = .ok (.goto 4, 3) := by decide +kernel
theorem dX11_isStep_28 : decode cX11_isStep 28 = .ok (.iconst 0, 1) := by decide +kernel
theorem dX11_isStep_29 : decode cX11_isStep 29 = .ok (.putfield 133, 3) := by decide +kernel
theorem dX11_isStep_32 : decode cX11_isStep 32 = .ok (.aload_n 0, 1) := by decide +kernel
theorem dX11_isStep_33 : decode cX11_isStep 33 = .ok (.getfield 133, 3) := by decide +kernel
theorem dX11_isStep_36 : decode cX11_isStep 36 = .ok (.ifCond .ne 7, 3) := by decide +kernel
theorem dX11_isStep_39 : decode cX11_isStep 39 = .ok (.iconst 1, 1) := by decide +kernel
theorem dX11_isStep_40 : decode cX11_isStep 40 = .ok (.goto 4, 3) := by decide +kernel
theorem dX11_isStep_43 : decode cX11_isStep 43 = .ok (.iconst 0, 1) := by decide +kernel
theorem dX11_isStep_44 : decode cX11_isStep 44 = .ok (.ireturn, 1) := by decide +kernel
theorem dX11_step_0 : decode cX11_step 0 = .ok (.aload_n 0, 1) := by decide +kernel
theorem dX11_step_1 : decode cX11_step 1 = .ok (.iload_n 1, 1) := by decide +kernel
theorem dX11_step_2 : decode cX11_step 2 = .ok (.iload_n 2, 1) := by decide +kernel
theorem dX11_step_3 : decode cX11_step 3 = .ok (.invokevirtual 194, 3) := by decide +kernel
theorem dX11_step_6 : decode cX11_step 6 = .ok (.ifCond .eq 17, 3) := by decide +kernel
theorem dX11_step_9 : decode cX11_step 9 = .ok (.aload_n 0, 1) := by decide +kernel
theorem dX11_step_10 : decode cX11_step 10 = .ok (.getfield 65, 3) := by decide +kernel
theorem dX11_step_13 : decode cX11_step 13 = .ok (.bipush 8, 2) := by decide +kernel
theorem dX11_step_15 : decode cX11_step 15 = .ok (.iload_n 1, 1) := by decide +kernel
theorem dX11_step_16 : decode cX11_step 16 = .ok (.imul, 1) := by decide +kernel
theorem dX11_step_17 : decode cX11_step 17 = .ok (.iload_n 2, 1) := by decide +kernel
theorem dX11_step_18 : decode cX11_step 18 = .ok (.iadd, 1) := by decide +kernel
theorem dX11_step_19 : decode cX11_step 19 = .ok (.iaload, 1) := by decide +kernel
theorem dX11_step_20 : decode cX11_step 20 = .ok (.goto 4, 3) := by decide +kernel
theorem dX11_step_23 : decode cX11_step 23 = .ok (.iconst 0, 1) := by decide +kernel
theorem dX11_step_24 : decode cX11_step 24 = .ok (.ireturn, 1) := by decide +kernel
theorem dX11_seen_0 : decode cX11_seen 0 = .ok (.aload_n 0, 1) := by decide +kernel
theorem dX11_seen_1 : decode cX11_seen 1 = .ok (.iload_n 1, 1) := by decide +kernel
theorem dX11_seen_2 : decode cX11_seen 2 = .ok (.iload_n 2, 1) := by decide +kernel
theorem dX11_seen_3 : decode cX11_seen 3 = .ok (.invokevirtual 194, 3) := by decide +kernel
theorem dX11_seen_6 : decode cX11_seen 6 = .ok (.ifCond .eq 31, 3) := by decide +kernel
theorem dX11_seen_9 : decode cX11_seen 9 = .ok (.aload_n 0, 1) := by decide +kernel
theorem dX11_seen_10 : decode cX11_seen 10 = .ok (.getfield 65, 3) := by decide +kernel
theorem dX11_seen_13 : decode cX11_seen 13 = .ok (.bipush 8, 2) := by decide +kernel
theorem dX11_seen_15 : decode cX11_seen 15 = .ok (.iload_n 1, 1) := by decide +kernel
theorem dX11_seen_16 : decode cX11_seen 16 = .ok (.imul, 1) := by decide +kernel
theorem dX11_seen_17 : decode cX11_seen 17 = .ok (.iload_n 2, 1) := by decide +kernel
theorem dX11_seen_18 : decode cX11_seen 18 = .ok (.iadd, 1) := by decide +kernel
theorem dX11_seen_19 : decode cX11_seen 19 = .ok (.iaload, 1) := by decide +kernel
theorem dX11_seen_20 : decode cX11_seen 20 = .ok (.ifCond .lt 17, 3) := by decide +kernel
theorem dX11_seen_23 : decode cX11_seen 23 = .ok (.aload_n 0, 1) := by decide +kernel
theorem dX11_seen_24 : decode cX11_seen 24 = .ok (.getfield 68, 3) := by decide +kernel
theorem dX11_seen_27 : decode cX11_seen 27 = .ok (.bipush 8, 2) := by decide +kernel
theorem dX11_seen_29 : decode cX11_seen 29 = .ok (.iload_n 1, 1) := by decide +kernel
theorem dX11_seen_30 : decode cX11_seen 30 = .ok (.imul, 1) := by decide +kernel
theorem dX11_seen_31 : decode cX11_seen 31 = .ok (.iload_n 2, 1) := by decide +kernel
theorem dX11_seen_32 : decode cX11_seen 32 = .ok (.iadd, 1) := by decide +kernel
theorem dX11_seen_33 : decode cX11_seen 33 = .ok (.iaload, 1) := by decide +kernel
theorem dX11_seen_34 : decode cX11_seen 34 = .ok (.goto 4, 3) := by decide +kernel
theorem dX11_seen_37 : decode cX11_seen 37 = .ok (.iconst 0, 1) := by decide +kernel
theorem dX11_seen_38 : decode cX11_seen 38 = .ok (.ireturn, 1) := by decide +kernel
theorem dX11_doubt_0 : decode cX11_doubt 0 = .ok (.aload_n 0, 1) := by decide +kernel
theorem dX11_doubt_1 : decode cX11_doubt 1 = .ok (.iconst 0, 1) := by decide +kernel
theorem dX11_doubt_2 : decode cX11_doubt 2 = .ok (.putfield 133, 3) := by decide +kernel
theorem dX11_doubt_5 : decode cX11_doubt 5 = .ok (.iconst 0, 1) := by decide +kernel
theorem dX11_doubt_6 : decode cX11_doubt 6 = .ok (.istore_n 2, 1) := by decide +kernel
theorem dX11_doubt_7 : decode cX11_doubt 7 = .ok (.iconst 0, 1) := by decide +kernel
theorem dX11_doubt_8 : decode cX11_doubt 8 = .ok (.istore_n 3, 1) := by decide +kernel
theorem dX11_doubt_9 : decode cX11_doubt 9 = .ok (.iload_n 3, 1) := by decide +kernel
theorem dX11_doubt_10 : decode cX11_doubt 10 = .ok (.bipush 8, 2) := by decide +kernel
theorem dX11_doubt_12 : decode cX11_doubt 12 = .ok (.aload_n 0, 1) := by decide +kernel
theorem dX11_doubt_13 : decode cX11_doubt 13 = .ok (.getfield 126, 3) := by decide +kernel
theorem dX11_doubt_16 : decode cX11_doubt 16 = .ok (.imul, 1) := by decide +kernel
theorem dX11_doubt_17 : decode cX11_doubt 17 = .ok (.if_icmp .ge 36, 3) := by decide +kernel
theorem dX11_doubt_20 : decode cX11_doubt 20 = .ok (.iload_n 2, 1) := by decide +kernel
theorem dX11_doubt_21 : decode cX11_doubt 21 = .ok (.aload_n 0, 1) := by decide +kernel
theorem dX11_doubt_22 : decode cX11_doubt 22 = .ok (.getfield 65, 3) := by decide +kernel
theorem dX11_doubt_25 : decode cX11_doubt 25 = .ok (.iload_n 3, 1) := by decide +kernel
theorem dX11_doubt_26 : decode cX11_doubt 26 = .ok (.iaload, 1) := by decide +kernel
theorem dX11_doubt_27 : decode cX11_doubt 27 = .ok (.ifCond .lt 17, 3) := by decide +kernel
theorem dX11_doubt_30 : decode cX11_doubt 30 = .ok (.aload_n 0, 1) := by decide +kernel
theorem dX11_doubt_31 : decode cX11_doubt 31 = .ok (.getfield 68, 3) := by decide +kernel
theorem dX11_doubt_34 : decode cX11_doubt 34 = .ok (.iload_n 3, 1) := by decide +kernel
theorem dX11_doubt_35 : decode cX11_doubt 35 = .ok (.iaload, 1) := by decide +kernel
theorem dX11_doubt_36 : decode cX11_doubt 36 = .ok (.iload_n 1, 1) := by decide +kernel
theorem dX11_doubt_37 : decode cX11_doubt 37 = .ok (.if_icmp .ge 7, 3) := by decide +kernel
theorem dX11_doubt_40 : decode cX11_doubt 40 = .ok (.iconst 1, 1) := by decide +kernel
theorem dX11_doubt_41 : decode cX11_doubt 41 = .ok (.goto 4, 3) := by decide +kernel
theorem dX11_doubt_44 : decode cX11_doubt 44 = .ok (.iconst 0, 1) := by decide +kernel
theorem dX11_doubt_45 : decode cX11_doubt 45 = .ok (.iadd, 1) := by decide +kernel
theorem dX11_doubt_46 : decode cX11_doubt 46 = .ok (.istore_n 2, 1) := by decide +kernel
theorem dX11_doubt_47 : decode cX11_doubt 47 = .ok (.iinc 3 1, 3) := by decide +kernel
theorem dX11_doubt_50 : decode cX11_doubt 50 = .ok (.goto (-41), 3) := by decide +kernel
theorem dX11_doubt_53 : decode cX11_doubt 53 = .ok (.iload_n 2, 1) := by decide +kernel
theorem dX11_doubt_54 : decode cX11_doubt 54 = .ok (.ireturn, 1) := by decide +kernel
theorem dX11_takes_0 : decode cX11_takes 0 = .ok (.aload_n 0, 1) := by decide +kernel
theorem dX11_takes_1 : decode cX11_takes 1 = .ok (.iconst 0, 1) := by decide +kernel
theorem dX11_takes_2 : decode cX11_takes 2 = .ok (.putfield 133, 3) := by decide +kernel
theorem dX11_takes_5 : decode cX11_takes 5 = .ok (.iconst 0, 1) := by decide +kernel
theorem dX11_takes_6 : decode cX11_takes 6 = .ok (.istore_n 1, 1) := by decide +kernel
theorem dX11_takes_7 : decode cX11_takes 7 = .ok (.iconst 0, 1) := by decide +kernel
theorem dX11_takes_8 : decode cX11_takes 8 = .ok (.istore_n 2, 1) := by decide +kernel
theorem dX11_takes_9 : decode cX11_takes 9 = .ok (.iload_n 2, 1) := by decide +kernel
theorem dX11_takes_10 : decode cX11_takes 10 = .ok (.aload_n 0, 1) := by decide +kernel
theorem dX11_takes_11 : decode cX11_takes 11 = .ok (.getfield 144, 3) := by decide +kernel
theorem dX11_takes_14 : decode cX11_takes 14 = .ok (.if_icmp .ge 45, 3) := by decide +kernel
theorem dX11_takes_17 : decode cX11_takes 17 = .ok (.aload_n 0, 1) := by decide +kernel
theorem dX11_takes_18 : decode cX11_takes 18 = .ok (.getfield 65, 3) := by decide +kernel
theorem dX11_takes_21 : decode cX11_takes 21 = .ok (.bipush 8, 2) := by decide +kernel
theorem dX11_takes_23 : decode cX11_takes 23 = .ok (.iload_n 1, 1) := by decide +kernel
theorem dX11_takes_24 : decode cX11_takes 24 = .ok (.imul, 1) := by decide +kernel
theorem dX11_takes_25 : decode cX11_takes 25 = .ok (.aload_n 0, 1) := by decide +kernel
theorem dX11_takes_26 : decode cX11_takes 26 = .ok (.getfield 9, 3) := by decide +kernel
theorem dX11_takes_29 : decode cX11_takes 29 = .ok (.iload_n 2, 1) := by decide +kernel
theorem dX11_takes_30 : decode cX11_takes 30 = .ok (.iaload, 1) := by decide +kernel
theorem dX11_takes_31 : decode cX11_takes 31 = .ok (.iadd, 1) := by decide +kernel
theorem dX11_takes_32 : decode cX11_takes 32 = .ok (.iaload, 1) := by decide +kernel
theorem dX11_takes_33 : decode cX11_takes 33 = .ok (.ifCond .lt 26, 3) := by decide +kernel
theorem dX11_takes_36 : decode cX11_takes 36 = .ok (.aload_n 0, 1) := by decide +kernel
theorem dX11_takes_37 : decode cX11_takes 37 = .ok (.getfield 65, 3) := by decide +kernel
theorem dX11_takes_40 : decode cX11_takes 40 = .ok (.bipush 8, 2) := by decide +kernel
theorem dX11_takes_42 : decode cX11_takes 42 = .ok (.iload_n 1, 1) := by decide +kernel
theorem dX11_takes_43 : decode cX11_takes 43 = .ok (.imul, 1) := by decide +kernel
theorem dX11_takes_44 : decode cX11_takes 44 = .ok (.aload_n 0, 1) := by decide +kernel
theorem dX11_takes_45 : decode cX11_takes 45 = .ok (.getfield 9, 3) := by decide +kernel
theorem dX11_takes_48 : decode cX11_takes 48 = .ok (.iload_n 2, 1) := by decide +kernel
theorem dX11_takes_49 : decode cX11_takes 49 = .ok (.iaload, 1) := by decide +kernel
theorem dX11_takes_50 : decode cX11_takes 50 = .ok (.iadd, 1) := by decide +kernel
theorem dX11_takes_51 : decode cX11_takes 51 = .ok (.iaload, 1) := by decide +kernel
theorem dX11_takes_52 : decode cX11_takes 52 = .ok (.istore_n 1, 1) := by decide +kernel
theorem dX11_takes_53 : decode cX11_takes 53 = .ok (.iinc 2 1, 3) := by decide +kernel
theorem dX11_takes_56 : decode cX11_takes 56 = .ok (.goto (-47), 3) := by decide +kernel
theorem dX11_takes_59 : decode cX11_takes 59 = .ok (.iload_n 2, 1) := by decide +kernel
theorem dX11_takes_60 : decode cX11_takes 60 = .ok (.ireturn, 1) := by decide +kernel
theorem dX11_least_0 : decode cX11_least 0 = .ok (.aload_n 0, 1) := by decide +kernel
theorem dX11_least_1 : decode cX11_least 1 = .ok (.iconst 0, 1) := by decide +kernel
theorem dX11_least_2 : decode cX11_least 2 = .ok (.putfield 133, 3) := by decide +kernel
theorem dX11_least_5 : decode cX11_least 5 = .ok (.aload_n 0, 1) := by decide +kernel
theorem dX11_least_6 : decode cX11_least 6 = .ok (.invokevirtual 177, 3) := by decide +kernel
theorem dX11_least_9 : decode cX11_least 9 = .ok (.aload_n 0, 1) := by decide +kernel
theorem dX11_least_10 : decode cX11_least 10 = .ok (.getfield 164, 3) := by decide +kernel
theorem dX11_least_13 : decode cX11_least 13 = .ok (.bipush 16, 2) := by decide +kernel
theorem dX11_least_15 : decode cX11_least 15 = .ok (.if_icmp .le 5, 3) := by decide +kernel
theorem dX11_least_18 : decode cX11_least 18 = .ok (.iconst (-1), 1) := by decide +kernel
theorem dX11_least_19 : decode cX11_least 19 = .ok (.ireturn, 1) := by decide +kernel
theorem dX11_least_20 : decode cX11_least 20 = .ok (.iconst 1, 1) := by decide +kernel
theorem dX11_least_21 : decode cX11_least 21 = .ok (.istore_n 1, 1) := by decide +kernel
theorem dX11_least_22 : decode cX11_least 22 = .ok (.iload_n 1, 1) := by decide +kernel
theorem dX11_least_23 : decode cX11_least 23 = .ok (.iconst 4, 1) := by decide +kernel
theorem dX11_least_24 : decode cX11_least 24 = .ok (.if_icmp .ge 56, 3) := by decide +kernel
theorem dX11_least_27 : decode cX11_least 27 = .ok (.iconst 0, 1) := by decide +kernel
theorem dX11_least_28 : decode cX11_least 28 = .ok (.istore_n 2, 1) := by decide +kernel
theorem dX11_least_29 : decode cX11_least 29 = .ok (.iload_n 2, 1) := by decide +kernel
theorem dX11_least_30 : decode cX11_least 30 = .ok (.bipush 24, 2) := by decide +kernel
theorem dX11_least_32 : decode cX11_least 32 = .ok (.if_icmp .ge 16, 3) := by decide +kernel
theorem dX11_least_35 : decode cX11_least 35 = .ok (.aload_n 0, 1) := by decide +kernel
theorem dX11_least_36 : decode cX11_least 36 = .ok (.getfield 77, 3) := by decide +kernel
theorem dX11_least_39 : decode cX11_least 39 = .ok (.iload_n 2, 1) := by decide +kernel
theorem dX11_least_40 : decode cX11_least 40 = .ok (.iconst (-1), 1) := by decide +kernel
theorem dX11_least_41 : decode cX11_least 41 = .ok (.iastore, 1) := by decide +kernel
theorem dX11_least_42 : decode cX11_least 42 = .ok (.iinc 2 1, 3) := by decide +kernel
theorem dX11_least_45 : decode cX11_least 45 = .ok (.goto (-16), 3) := by decide +kernel
theorem dX11_least_48 : decode cX11_least 48 = .ok (.aload_n 0, 1) := by decide +kernel
theorem dX11_least_49 : decode cX11_least 49 = .ok (.getfield 74, 3) := by decide +kernel
theorem dX11_least_52 : decode cX11_least 52 = .ok (.iconst 0, 1) := by decide +kernel
theorem dX11_least_53 : decode cX11_least 53 = .ok (.iconst 0, 1) := by decide +kernel
theorem dX11_least_54 : decode cX11_least 54 = .ok (.iastore, 1) := by decide +kernel
theorem dX11_least_55 : decode cX11_least 55 = .ok (.aload_n 0, 1) := by decide +kernel
theorem dX11_least_56 : decode cX11_least 56 = .ok (.invokevirtual 197, 3) := by decide +kernel
theorem dX11_least_59 : decode cX11_least 59 = .ok (.ifCond .ne 15, 3) := by decide +kernel
theorem dX11_least_62 : decode cX11_least 62 = .ok (.aload_n 0, 1) := by decide +kernel
theorem dX11_least_63 : decode cX11_least 63 = .ok (.iconst 1, 1) := by decide +kernel
theorem dX11_least_64 : decode cX11_least 64 = .ok (.iload_n 1, 1) := by decide +kernel
theorem dX11_least_65 : decode cX11_least 65 = .ok (.iconst 1, 1) := by decide +kernel
theorem dX11_least_66 : decode cX11_least 66 = .ok (.invokevirtual 200, 3) := by decide +kernel
theorem dX11_least_69 : decode cX11_least 69 = .ok (.ifCond .eq 5, 3) := by decide +kernel
theorem dX11_least_72 : decode cX11_least 72 = .ok (.iload_n 1, 1) := by decide +kernel
theorem dX11_least_73 : decode cX11_least 73 = .ok (.ireturn, 1) := by decide +kernel
theorem dX11_least_74 : decode cX11_least 74 = .ok (.iinc 1 1, 3) := by decide +kernel
theorem dX11_least_77 : decode cX11_least 77 = .ok (.goto (-55), 3) := by decide +kernel
theorem dX11_least_80 : decode cX11_least 80 = .ok (.iconst 4, 1) := by decide +kernel
theorem dX11_least_81 : decode cX11_least 81 = .ok (.ireturn, 1) := by decide +kernel
theorem dX11_isWrongTaken_0 : decode cX11_isWrongTaken 0 = .ok (.iconst 0, 1) := by decide +kernel
theorem dX11_isWrongTaken_1 : decode cX11_isWrongTaken 1 = .ok (.istore_n 1, 1) := by decide +kernel
theorem dX11_isWrongTaken_2 : decode cX11_isWrongTaken 2 = .ok (.iload_n 1, 1) := by decide +kernel
theorem dX11_isWrongTaken_3 : decode cX11_isWrongTaken 3 = .ok (.aload_n 0, 1) := by decide +kernel
theorem dX11_isWrongTaken_4 : decode cX11_isWrongTaken 4 = .ok (.getfield 147, 3) := by decide +kernel
theorem dX11_isWrongTaken_7 : decode cX11_isWrongTaken 7 = .ok (.if_icmp .ge 99, 3) := by decide +kernel
theorem dX11_isWrongTaken_10 : decode cX11_isWrongTaken 10 = .ok (.aload_n 0, 1) := by decide +kernel
theorem dX11_isWrongTaken_11 : decode cX11_isWrongTaken 11 = .ok (.getfield 29, 3) := by decide +kernel
theorem dX11_isWrongTaken_14 : decode cX11_isWrongTaken 14 = .ok (.iload_n 1, 1) := by decide +kernel
theorem dX11_isWrongTaken_15 : decode cX11_isWrongTaken 15 = .ok (.baload, 1) := by decide +kernel
theorem dX11_isWrongTaken_16 : decode cX11_isWrongTaken 16 = .ok (.ifCond .ne 6, 3) := by decide +kernel
theorem dX11_isWrongTaken_19 : decode cX11_isWrongTaken 19 = .ok (.goto 81, 3) := by decide +kernel
theorem dX11_isWrongTaken_22 : decode cX11_isWrongTaken 22 = .ok (.iconst 0, 1) := by decide +kernel
theorem dX11_isWrongTaken_23 : decode cX11_isWrongTaken 23 = .ok (.istore_n 2, 1) := by decide +kernel
theorem dX11_isWrongTaken_24 : decode cX11_isWrongTaken 24 = .ok (.iconst 0, 1) := by decide +kernel
theorem dX11_isWrongTaken_25 : decode cX11_isWrongTaken 25 = .ok (.istore_n 3, 1) := by decide +kernel
theorem dX11_isWrongTaken_26 : decode cX11_isWrongTaken 26 = .ok (.iload_n 3, 1) := by decide +kernel
theorem dX11_isWrongTaken_27 : decode cX11_isWrongTaken 27 = .ok (.aload_n 0, 1) := by decide +kernel
theorem dX11_isWrongTaken_28 : decode cX11_isWrongTaken 28 = .ok (.getfield 16, 3) := by decide +kernel
theorem dX11_isWrongTaken_31 : decode cX11_isWrongTaken 31 = .ok (.iload_n 1, 1) := by decide +kernel
theorem dX11_isWrongTaken_32 : decode cX11_isWrongTaken 32 = .ok (.iaload, 1) := by decide +kernel
theorem dX11_isWrongTaken_33 : decode cX11_isWrongTaken 33 = .ok (.if_icmp .ge 55, 3) := by decide +kernel
theorem dX11_isWrongTaken_36 : decode cX11_isWrongTaken 36 = .ok (.aload_n 0, 1) := by decide +kernel
theorem dX11_isWrongTaken_37 : decode cX11_isWrongTaken 37 = .ok (.getfield 77, 3) := by decide +kernel
theorem dX11_isWrongTaken_40 : decode cX11_isWrongTaken 40 = .ok (.bipush 8, 2) := by decide +kernel
theorem dX11_isWrongTaken_42 : decode cX11_isWrongTaken 42 = .ok (.iload_n 2, 1) := by decide +kernel
theorem dX11_isWrongTaken_43 : decode cX11_isWrongTaken 43 = .ok (.imul, 1) := by decide +kernel
theorem dX11_isWrongTaken_44 : decode cX11_isWrongTaken 44 = .ok (.aload_n 0, 1) := by decide +kernel
theorem dX11_isWrongTaken_45 : decode cX11_isWrongTaken 45 = .ok (.getfield 13, 3) := by decide +kernel
theorem dX11_isWrongTaken_48 : decode cX11_isWrongTaken 48 = .ok (.bipush 12, 2) := by decide +kernel
theorem dX11_isWrongTaken_50 : decode cX11_isWrongTaken 50 = .ok (.iload_n 1, 1) := by decide +kernel
theorem dX11_isWrongTaken_51 : decode cX11_isWrongTaken 51 = .ok (.imul, 1) := by decide +kernel
theorem dX11_isWrongTaken_52 : decode cX11_isWrongTaken 52 = .ok (.iload_n 3, 1) := by decide +kernel
theorem dX11_isWrongTaken_53 : decode cX11_isWrongTaken 53 = .ok (.iadd, 1) := by decide +kernel
theorem dX11_isWrongTaken_54 : decode cX11_isWrongTaken 54 = .ok (.iaload, 1) := by decide +kernel
theorem dX11_isWrongTaken_55 : decode cX11_isWrongTaken 55 = .ok (.iadd, 1) := by decide +kernel
theorem dX11_isWrongTaken_56 : decode cX11_isWrongTaken 56 = .ok (.iaload, 1) := by decide +kernel
theorem dX11_isWrongTaken_57 : decode cX11_isWrongTaken 57 = .ok (.ifCond .lt 31, 3) := by decide +kernel
theorem dX11_isWrongTaken_60 : decode cX11_isWrongTaken 60 = .ok (.aload_n 0, 1) := by decide +kernel
theorem dX11_isWrongTaken_61 : decode cX11_isWrongTaken 61 = .ok (.getfield 77, 3) := by decide +kernel
theorem dX11_isWrongTaken_64 : decode cX11_isWrongTaken 64 = .ok (.bipush 8, 2) := by decide +kernel
theorem dX11_isWrongTaken_66 : decode cX11_isWrongTaken 66 = .ok (.iload_n 2, 1) := by decide +kernel
theorem dX11_isWrongTaken_67 : decode cX11_isWrongTaken 67 = .ok (.imul, 1) := by decide +kernel
theorem dX11_isWrongTaken_68 : decode cX11_isWrongTaken 68 = .ok (.aload_n 0, 1) := by decide +kernel
theorem dX11_isWrongTaken_69 : decode cX11_isWrongTaken 69 = .ok (.getfield 13, 3) := by decide +kernel
theorem dX11_isWrongTaken_72 : decode cX11_isWrongTaken 72 = .ok (.bipush 12, 2) := by decide +kernel
theorem dX11_isWrongTaken_74 : decode cX11_isWrongTaken 74 = .ok (.iload_n 1, 1) := by decide +kernel
theorem dX11_isWrongTaken_75 : decode cX11_isWrongTaken 75 = .ok (.imul, 1) := by decide +kernel
theorem dX11_isWrongTaken_76 : decode cX11_isWrongTaken 76 = .ok (.iload_n 3, 1) := by decide +kernel
theorem dX11_isWrongTaken_77 : decode cX11_isWrongTaken 77 = .ok (.iadd, 1) := by decide +kernel
theorem dX11_isWrongTaken_78 : decode cX11_isWrongTaken 78 = .ok (.iaload, 1) := by decide +kernel
theorem dX11_isWrongTaken_79 : decode cX11_isWrongTaken 79 = .ok (.iadd, 1) := by decide +kernel
theorem dX11_isWrongTaken_80 : decode cX11_isWrongTaken 80 = .ok (.iaload, 1) := by decide +kernel
theorem dX11_isWrongTaken_81 : decode cX11_isWrongTaken 81 = .ok (.istore_n 2, 1) := by decide +kernel
theorem dX11_isWrongTaken_82 : decode cX11_isWrongTaken 82 = .ok (.iinc 3 1, 3) := by decide +kernel
theorem dX11_isWrongTaken_85 : decode cX11_isWrongTaken 85 = .ok (.goto (-59), 3) := by decide +kernel
theorem dX11_isWrongTaken_88 : decode cX11_isWrongTaken 88 = .ok (.iload_n 3, 1) := by decide +kernel
theorem dX11_isWrongTaken_89 : decode cX11_isWrongTaken 89 = .ok (.aload_n 0, 1) := by decide +kernel
theorem dX11_isWrongTaken_90 : decode cX11_isWrongTaken 90 = .ok (.getfield 16, 3) := by decide +kernel
theorem dX11_isWrongTaken_93 : decode cX11_isWrongTaken 93 = .ok (.iload_n 1, 1) := by decide +kernel
theorem dX11_isWrongTaken_94 : decode cX11_isWrongTaken 94 = .ok (.iaload, 1) := by decide +kernel
theorem dX11_isWrongTaken_95 : decode cX11_isWrongTaken 95 = .ok (.if_icmp .ne 5, 3) := by decide +kernel
theorem dX11_isWrongTaken_98 : decode cX11_isWrongTaken 98 = .ok (.iconst 1, 1) := by decide +kernel
theorem dX11_isWrongTaken_99 : decode cX11_isWrongTaken 99 = .ok (.ireturn, 1) := by decide +kernel
theorem dX11_isWrongTaken_100 : decode cX11_isWrongTaken 100 = .ok (.iinc 1 1, 3) := by decide +kernel
theorem dX11_isWrongTaken_103 : decode cX11_isWrongTaken 103 = .ok (.goto (-101), 3) := by decide +kernel
theorem dX11_isWrongTaken_106 : decode cX11_isWrongTaken 106 = .ok (.iconst 0, 1) := by decide +kernel
theorem dX11_isWrongTaken_107 : decode cX11_isWrongTaken 107 = .ok (.ireturn, 1) := by decide +kernel
theorem dX11_can_0 : decode cX11_can 0 = .ok (.iload_n 1, 1) := by decide +kernel
theorem dX11_can_1 : decode cX11_can 1 = .ok (.aload_n 0, 1) := by decide +kernel
theorem dX11_can_2 : decode cX11_can 2 = .ok (.getfield 164, 3) := by decide +kernel
theorem dX11_can_5 : decode cX11_can 5 = .ok (.if_icmp .ne 5, 3) := by decide +kernel
theorem dX11_can_8 : decode cX11_can 8 = .ok (.iconst 1, 1) := by decide +kernel
theorem dX11_can_9 : decode cX11_can 9 = .ok (.ireturn, 1) := by decide +kernel
theorem dX11_can_10 : decode cX11_can 10 = .ok (.bipush 8, 2) := by decide +kernel
theorem dX11_can_12 : decode cX11_can 12 = .ok (.aload_n 0, 1) := by decide +kernel
theorem dX11_can_13 : decode cX11_can 13 = .ok (.getfield 74, 3) := by decide +kernel
theorem dX11_can_16 : decode cX11_can 16 = .ok (.aload_n 0, 1) := by decide +kernel
theorem dX11_can_17 : decode cX11_can 17 = .ok (.getfield 35, 3) := by decide +kernel
theorem dX11_can_20 : decode cX11_can 20 = .ok (.iload_n 1, 1) := by decide +kernel
theorem dX11_can_21 : decode cX11_can 21 = .ok (.iaload, 1) := by decide +kernel
theorem dX11_can_22 : decode cX11_can 22 = .ok (.iaload, 1) := by decide +kernel
theorem dX11_can_23 : decode cX11_can 23 = .ok (.imul, 1) := by decide +kernel
theorem dX11_can_24 : decode cX11_can 24 = .ok (.aload_n 0, 1) := by decide +kernel
theorem dX11_can_25 : decode cX11_can 25 = .ok (.getfield 38, 3) := by decide +kernel
theorem dX11_can_28 : decode cX11_can 28 = .ok (.iload_n 1, 1) := by decide +kernel
theorem dX11_can_29 : decode cX11_can 29 = .ok (.iaload, 1) := by decide +kernel
theorem dX11_can_30 : decode cX11_can 30 = .ok (.iadd, 1) := by decide +kernel
theorem dX11_can_31 : decode cX11_can 31 = .ok (.istore 4, 2) := by decide +kernel
theorem dX11_can_33 : decode cX11_can 33 = .ok (.aload_n 0, 1) := by decide +kernel
theorem dX11_can_34 : decode cX11_can 34 = .ok (.getfield 77, 3) := by decide +kernel
theorem dX11_can_37 : decode cX11_can 37 = .ok (.iload 4, 2) := by decide +kernel
theorem dX11_can_39 : decode cX11_can 39 = .ok (.iaload, 1) := by decide +kernel
theorem dX11_can_40 : decode cX11_can 40 = .ok (.ifCond .lt 26, 3) := by decide +kernel
theorem dX11_can_43 : decode cX11_can 43 = .ok (.aload_n 0, 1) := by decide +kernel
theorem dX11_can_44 : decode cX11_can 44 = .ok (.getfield 74, 3) := by decide +kernel
theorem dX11_can_47 : decode cX11_can 47 = .ok (.iload_n 1, 1) := by decide +kernel
theorem dX11_can_48 : decode cX11_can 48 = .ok (.aload_n 0, 1) := by decide +kernel
theorem dX11_can_49 : decode cX11_can 49 = .ok (.getfield 77, 3) := by decide +kernel
theorem dX11_can_52 : decode cX11_can 52 = .ok (.iload 4, 2) := by decide +kernel
theorem dX11_can_54 : decode cX11_can 54 = .ok (.iaload, 1) := by decide +kernel
theorem dX11_can_55 : decode cX11_can 55 = .ok (.iastore, 1) := by decide +kernel
theorem dX11_can_56 : decode cX11_can 56 = .ok (.aload_n 0, 1) := by decide +kernel
theorem dX11_can_57 : decode cX11_can 57 = .ok (.iload_n 1, 1) := by decide +kernel
theorem dX11_can_58 : decode cX11_can 58 = .ok (.iconst 1, 1) := by decide +kernel
theorem dX11_can_59 : decode cX11_can 59 = .ok (.iadd, 1) := by decide +kernel
theorem dX11_can_60 : decode cX11_can 60 = .ok (.iload_n 2, 1) := by decide +kernel
theorem dX11_can_61 : decode cX11_can 61 = .ok (.iload_n 3, 1) := by decide +kernel
theorem dX11_can_62 : decode cX11_can 62 = .ok (.invokevirtual 200, 3) := by decide +kernel
theorem dX11_can_65 : decode cX11_can 65 = .ok (.ireturn, 1) := by decide +kernel
theorem dX11_can_66 : decode cX11_can 66 = .ok (.iconst 0, 1) := by decide +kernel
theorem dX11_can_67 : decode cX11_can 67 = .ok (.istore 5, 2) := by decide +kernel
theorem dX11_can_69 : decode cX11_can 69 = .ok (.iload 5, 2) := by decide +kernel
theorem dX11_can_71 : decode cX11_can 71 = .ok (.iload_n 2, 1) := by decide +kernel
theorem dX11_can_72 : decode cX11_can 72 = .ok (.if_icmp .ge 65, 3) := by decide +kernel
theorem dX11_can_75 : decode cX11_can 75 = .ok (.iload 5, 2) := by decide +kernel
theorem dX11_can_77 : decode cX11_can 77 = .ok (.iload_n 3, 1) := by decide +kernel
theorem dX11_can_78 : decode cX11_can 78 = .ok (.if_icmp .gt 59, 3) := by decide +kernel
theorem dX11_can_81 : decode cX11_can 81 = .ok (.aload_n 0, 1) := by decide +kernel
theorem dX11_can_82 : decode cX11_can 82 = .ok (.getfield 77, 3) := by decide +kernel
theorem dX11_can_85 : decode cX11_can 85 = .ok (.iload 4, 2) := by decide +kernel
theorem dX11_can_87 : decode cX11_can 87 = .ok (.iload 5, 2) := by decide +kernel
theorem dX11_can_89 : decode cX11_can 89 = .ok (.iastore, 1) := by decide +kernel
theorem dX11_can_90 : decode cX11_can 90 = .ok (.aload_n 0, 1) := by decide +kernel
theorem dX11_can_91 : decode cX11_can 91 = .ok (.getfield 74, 3) := by decide +kernel
theorem dX11_can_94 : decode cX11_can 94 = .ok (.iload_n 1, 1) := by decide +kernel
theorem dX11_can_95 : decode cX11_can 95 = .ok (.iload 5, 2) := by decide +kernel
theorem dX11_can_97 : decode cX11_can 97 = .ok (.iastore, 1) := by decide +kernel
theorem dX11_can_98 : decode cX11_can 98 = .ok (.aload_n 0, 1) := by decide +kernel
theorem dX11_can_99 : decode cX11_can 99 = .ok (.invokevirtual 197, 3) := by decide +kernel
theorem dX11_can_102 : decode cX11_can 102 = .ok (.ifCond .ne 29, 3) := by decide +kernel
theorem dX11_can_105 : decode cX11_can 105 = .ok (.aload_n 0, 1) := by decide +kernel
theorem dX11_can_106 : decode cX11_can 106 = .ok (.iload_n 1, 1) := by decide +kernel
theorem dX11_can_107 : decode cX11_can 107 = .ok (.iconst 1, 1) := by decide +kernel
theorem dX11_can_108 : decode cX11_can 108 = .ok (.iadd, 1) := by decide +kernel
theorem dX11_can_109 : decode cX11_can 109 = .ok (.iload_n 2, 1) := by decide +kernel
theorem dX11_can_110 : decode cX11_can 110 = .ok (.iload 5, 2) := by decide +kernel
theorem dX11_can_112 : decode cX11_can 112 = .ok (.iload_n 3, 1) := by decide +kernel
theorem dX11_can_113 : decode cX11_can 113 = .ok (.if_icmp .ne 9, 3) := by decide +kernel
theorem dX11_can_116 : decode cX11_can 116 = .ok (.iload_n 3, 1) := by decide +kernel
theorem dX11_can_117 : decode cX11_can 117 = .ok (.iconst 1, 1) := by decide +kernel
theorem dX11_can_118 : decode cX11_can 118 = .ok (.iadd, 1) := by decide +kernel
theorem dX11_can_119 : decode cX11_can 119 = .ok (.goto 4, 3) := by decide +kernel
theorem dX11_can_122 : decode cX11_can 122 = .ok (.iload_n 3, 1) := by decide +kernel
theorem dX11_can_123 : decode cX11_can 123 = .ok (.invokevirtual 200, 3) := by decide +kernel
theorem dX11_can_126 : decode cX11_can 126 = .ok (.ifCond .eq 5, 3) := by decide +kernel
theorem dX11_can_129 : decode cX11_can 129 = .ok (.iconst 1, 1) := by decide +kernel
theorem dX11_can_130 : decode cX11_can 130 = .ok (.ireturn, 1) := by decide +kernel
theorem dX11_can_131 : decode cX11_can 131 = .ok (.iinc 5 1, 3) := by decide +kernel
theorem dX11_can_134 : decode cX11_can 134 = .ok (.goto (-65), 3) := by decide +kernel
theorem dX11_can_137 : decode cX11_can 137 = .ok (.aload_n 0, 1) := by decide +kernel
theorem dX11_can_138 : decode cX11_can 138 = .ok (.getfield 77, 3) := by decide +kernel
theorem dX11_can_141 : decode cX11_can 141 = .ok (.iload 4, 2) := by decide +kernel
theorem dX11_can_143 : decode cX11_can 143 = .ok (.iconst (-1), 1) := by decide +kernel
theorem dX11_can_144 : decode cX11_can 144 = .ok (.iastore, 1) := by decide +kernel
theorem dX11_can_145 : decode cX11_can 145 = .ok (.iconst 0, 1) := by decide +kernel
theorem dX11_can_146 : decode cX11_can 146 = .ok (.ireturn, 1) := by decide +kernel
theorem dX11_feed_0 : decode cX11_feed 0 = .ok (.aload_n 0, 1) := by decide +kernel
theorem dX11_feed_1 : decode cX11_feed 1 = .ok (.iconst 0, 1) := by decide +kernel
theorem dX11_feed_2 : decode cX11_feed 2 = .ok (.putfield 133, 3) := by decide +kernel
theorem dX11_feed_5 : decode cX11_feed 5 = .ok (.aload_n 0, 1) := by decide +kernel
theorem dX11_feed_6 : decode cX11_feed 6 = .ok (.getfield 204, 3) := by decide +kernel
theorem dX11_feed_9 : decode cX11_feed 9 = .ok (.bipush 20, 2) := by decide +kernel
theorem dX11_feed_11 : decode cX11_feed 11 = .ok (.iadd, 1) := by decide +kernel
theorem dX11_feed_12 : decode cX11_feed 12 = .ok (.sipush 200, 3) := by decide +kernel
theorem dX11_feed_15 : decode cX11_feed 15 = .ok (.if_icmp .le 5, 3) := by decide +kernel
theorem dX11_feed_18 : decode cX11_feed 18 = .ok (.iconst (-1), 1) := by decide +kernel
theorem dX11_feed_19 : decode cX11_feed 19 = .ok (.ireturn, 1) := by decide +kernel
theorem dX11_feed_20 : decode cX11_feed 20 = .ok (.iconst 0, 1) := by decide +kernel
theorem dX11_feed_21 : decode cX11_feed 21 = .ok (.istore 6, 2) := by decide +kernel
theorem dX11_feed_23 : decode cX11_feed 23 = .ok (.iload 6, 2) := by decide +kernel
theorem dX11_feed_25 : decode cX11_feed 25 = .ok (.iconst 5, 1) := by decide +kernel
theorem dX11_feed_26 : decode cX11_feed 26 = .ok (.if_icmp .ge 93, 3) := by decide +kernel
theorem dX11_feed_29 : decode cX11_feed 29 = .ok (.iload 6, 2) := by decide +kernel
theorem dX11_feed_31 : decode cX11_feed 31 = .ok (.ifCond .ne 7, 3) := by decide +kernel
theorem dX11_feed_34 : decode cX11_feed 34 = .ok (.iload_n 1, 1) := by decide +kernel
theorem dX11_feed_35 : decode cX11_feed 35 = .ok (.goto 36, 3) := by decide +kernel
theorem dX11_feed_38 : decode cX11_feed 38 = .ok (.iload 6, 2) := by decide +kernel
theorem dX11_feed_40 : decode cX11_feed 40 = .ok (.iconst 1, 1) := by decide +kernel
theorem dX11_feed_41 : decode cX11_feed 41 = .ok (.if_icmp .ne 7, 3) := by decide +kernel
theorem dX11_feed_44 : decode cX11_feed 44 = .ok (.iload_n 2, 1) := by decide +kernel
theorem dX11_feed_45 : decode cX11_feed 45 = .ok (.goto 26, 3) := by decide +kernel
theorem dX11_feed_48 : decode cX11_feed 48 = .ok (.iload 6, 2) := by decide +kernel
theorem dX11_feed_50 : decode cX11_feed 50 = .ok (.iconst 2, 1) := by decide +kernel
theorem dX11_feed_51 : decode cX11_feed 51 = .ok (.if_icmp .ne 7, 3) := by decide +kernel
theorem dX11_feed_54 : decode cX11_feed 54 = .ok (.iload_n 3, 1) := by decide +kernel
theorem dX11_feed_55 : decode cX11_feed 55 = .ok (.goto 16, 3) := by decide +kernel
theorem dX11_feed_58 : decode cX11_feed 58 = .ok (.iload 6, 2) := by decide +kernel
theorem dX11_feed_60 : decode cX11_feed 60 = .ok (.iconst 3, 1) := by decide +kernel
theorem dX11_feed_61 : decode cX11_feed 61 = .ok (.if_icmp .ne 8, 3) := by decide +kernel
theorem dX11_feed_64 : decode cX11_feed 64 = .ok (.iload 4, 2) := by decide +kernel
theorem dX11_feed_66 : decode cX11_feed 66 = .ok (.goto 5, 3) := by decide +kernel
theorem dX11_feed_69 : decode cX11_feed 69 = .ok (.iload 5, 2) := by decide +kernel
theorem dX11_feed_71 : decode cX11_feed 71 = .ok (.istore 7, 2) := by decide +kernel
theorem dX11_feed_73 : decode cX11_feed 73 = .ok (.bipush 24, 2) := by decide +kernel
theorem dX11_feed_75 : decode cX11_feed 75 = .ok (.istore 8, 2) := by decide +kernel
theorem dX11_feed_77 : decode cX11_feed 77 = .ok (.iload 8, 2) := by decide +kernel
theorem dX11_feed_79 : decode cX11_feed 79 = .ok (.ifCond .lt 34, 3) := by decide +kernel
theorem dX11_feed_82 : decode cX11_feed 82 = .ok (.aload_n 0, 1) := by decide +kernel
theorem dX11_feed_83 : decode cX11_feed 83 = .ok (.getfield 80, 3) := by decide +kernel
theorem dX11_feed_86 : decode cX11_feed 86 = .ok (.aload_n 0, 1) := by decide +kernel
theorem dX11_feed_87 : decode cX11_feed 87 = .ok (.getfield 204, 3) := by decide +kernel
theorem dX11_feed_90 : decode cX11_feed 90 = .ok (.iload 7, 2) := by decide +kernel
theorem dX11_feed_92 : decode cX11_feed 92 = .ok (.iload 8, 2) := by decide +kernel
theorem dX11_feed_94 : decode cX11_feed 94 = .ok (.ishr, 1) := by decide +kernel
theorem dX11_feed_95 : decode cX11_feed 95 = .ok (.i2b, 1) := by decide +kernel
theorem dX11_feed_96 : decode cX11_feed 96 = .ok (.bastore, 1) := by decide +kernel
theorem dX11_feed_97 : decode cX11_feed 97 = .ok (.aload_n 0, 1) := by decide +kernel
theorem dX11_feed_98 : decode cX11_feed 98 = .ok (.dup, 1) := by decide +kernel
theorem dX11_feed_99 : decode cX11_feed 99 = .ok (.getfield 204, 3) := by decide +kernel
theorem dX11_feed_102 : decode cX11_feed 102 = .ok (.iconst 1, 1) := by decide +kernel
theorem dX11_feed_103 : decode cX11_feed 103 = .ok (.iadd, 1) := by decide +kernel
theorem dX11_feed_104 : decode cX11_feed 104 = .ok (.putfield 204, 3) := by decide +kernel
theorem dX11_feed_107 : decode cX11_feed 107 = .ok (.iinc 8 (-8), 3) := by decide +kernel
theorem dX11_feed_110 : decode cX11_feed 110 = .ok (.goto (-33), 3) := by decide +kernel
theorem dX11_feed_113 : decode cX11_feed 113 = .ok (.iinc 6 1, 3) := by decide +kernel
theorem dX11_feed_116 : decode cX11_feed 116 = .ok (.goto (-93), 3) := by decide +kernel
theorem dX11_feed_119 : decode cX11_feed 119 = .ok (.aload_n 0, 1) := by decide +kernel
theorem dX11_feed_120 : decode cX11_feed 120 = .ok (.getfield 204, 3) := by decide +kernel
theorem dX11_feed_123 : decode cX11_feed 123 = .ok (.ireturn, 1) := by decide +kernel
theorem dX11_now_0 : decode cX11_now 0 = .ok (.aload_n 0, 1) := by decide +kernel
theorem dX11_now_1 : decode cX11_now 1 = .ok (.getfield 207, 3) := by decide +kernel
theorem dX11_now_4 : decode cX11_now 4 = .ok (.aload_n 0, 1) := by decide +kernel
theorem dX11_now_5 : decode cX11_now 5 = .ok (.getfield 210, 3) := by decide +kernel
theorem dX11_now_8 : decode cX11_now 8 = .ok (.if_icmp .ge 30, 3) := by decide +kernel
theorem dX11_now_11 : decode cX11_now 11 = .ok (.aload_n 0, 1) := by decide +kernel
theorem dX11_now_12 : decode cX11_now 12 = .ok (.getfield 80, 3) := by decide +kernel
theorem dX11_now_15 : decode cX11_now 15 = .ok (.aload_n 0, 1) := by decide +kernel
theorem dX11_now_16 : decode cX11_now 16 = .ok (.getfield 207, 3) := by decide +kernel
theorem dX11_now_19 : decode cX11_now 19 = .ok (.baload, 1) := by decide +kernel
theorem dX11_now_20 : decode cX11_now 20 = .ok (.bipush 32, 2) := by decide +kernel
theorem dX11_now_22 : decode cX11_now 22 = .ok (.if_icmp .ne 16, 3) := by decide +kernel
theorem dX11_now_25 : decode cX11_now 25 = .ok (.aload_n 0, 1) := by decide +kernel
theorem dX11_now_26 : decode cX11_now 26 = .ok (.dup, 1) := by decide +kernel
theorem dX11_now_27 : decode cX11_now 27 = .ok (.getfield 207, 3) := by decide +kernel
theorem dX11_now_30 : decode cX11_now 30 = .ok (.iconst 1, 1) := by decide +kernel
theorem dX11_now_31 : decode cX11_now 31 = .ok (.iadd, 1) := by decide +kernel
theorem dX11_now_32 : decode cX11_now 32 = .ok (.putfield 207, 3) := by decide +kernel
theorem dX11_now_35 : decode cX11_now 35 = .ok (.goto (-35), 3) := by decide +kernel
theorem dX11_now_38 : decode cX11_now 38 = .ok (.aload_n 0, 1) := by decide +kernel
theorem dX11_now_39 : decode cX11_now 39 = .ok (.getfield 207, 3) := by decide +kernel
theorem dX11_now_42 : decode cX11_now 42 = .ok (.aload_n 0, 1) := by decide +kernel
theorem dX11_now_43 : decode cX11_now 43 = .ok (.getfield 210, 3) := by decide +kernel
theorem dX11_now_46 : decode cX11_now 46 = .ok (.if_icmp .ge 19, 3) := by decide +kernel
theorem dX11_now_49 : decode cX11_now 49 = .ok (.aload_n 0, 1) := by decide +kernel
theorem dX11_now_50 : decode cX11_now 50 = .ok (.getfield 80, 3) := by decide +kernel
theorem dX11_now_53 : decode cX11_now 53 = .ok (.aload_n 0, 1) := by decide +kernel
theorem dX11_now_54 : decode cX11_now 54 = .ok (.getfield 207, 3) := by decide +kernel
theorem dX11_now_57 : decode cX11_now 57 = .ok (.baload, 1) := by decide +kernel
theorem dX11_now_58 : decode cX11_now 58 = .ok (.sipush 255, 3) := by decide +kernel
theorem dX11_now_61 : decode cX11_now 61 = .ok (.iand, 1) := by decide +kernel
theorem dX11_now_62 : decode cX11_now 62 = .ok (.goto 4, 3) := by decide +kernel
theorem dX11_now_65 : decode cX11_now 65 = .ok (.iconst 0, 1) := by decide +kernel
theorem dX11_now_66 : decode cX11_now 66 = .ok (.ireturn, 1) := by decide +kernel
theorem dX11_adds_0 : decode cX11_adds 0 = .ok (.aload_n 0, 1) := by decide +kernel
theorem dX11_adds_1 : decode cX11_adds 1 = .ok (.getfield 93, 3) := by decide +kernel
theorem dX11_adds_4 : decode cX11_adds 4 = .ok (.aload_n 0, 1) := by decide +kernel
theorem dX11_adds_5 : decode cX11_adds 5 = .ok (.getfield 213, 3) := by decide +kernel
theorem dX11_adds_8 : decode cX11_adds 8 = .ok (.iload_n 1, 1) := by decide +kernel
theorem dX11_adds_9 : decode cX11_adds 9 = .ok (.iastore, 1) := by decide +kernel
theorem dX11_adds_10 : decode cX11_adds 10 = .ok (.aload_n 0, 1) := by decide +kernel
theorem dX11_adds_11 : decode cX11_adds 11 = .ok (.getfield 96, 3) := by decide +kernel
theorem dX11_adds_14 : decode cX11_adds 14 = .ok (.aload_n 0, 1) := by decide +kernel
theorem dX11_adds_15 : decode cX11_adds 15 = .ok (.getfield 213, 3) := by decide +kernel
theorem dX11_adds_18 : decode cX11_adds 18 = .ok (.iload_n 2, 1) := by decide +kernel
theorem dX11_adds_19 : decode cX11_adds 19 = .ok (.iastore, 1) := by decide +kernel
theorem dX11_adds_20 : decode cX11_adds 20 = .ok (.aload_n 0, 1) := by decide +kernel
theorem dX11_adds_21 : decode cX11_adds 21 = .ok (.getfield 99, 3) := by decide +kernel
theorem dX11_adds_24 : decode cX11_adds 24 = .ok (.aload_n 0, 1) := by decide +kernel
theorem dX11_adds_25 : decode cX11_adds 25 = .ok (.getfield 213, 3) := by decide +kernel
theorem dX11_adds_28 : decode cX11_adds 28 = .ok (.iload_n 3, 1) := by decide +kernel
theorem dX11_adds_29 : decode cX11_adds 29 = .ok (.iastore, 1) := by decide +kernel
theorem dX11_adds_30 : decode cX11_adds 30 = .ok (.aload_n 0, 1) := by decide +kernel
theorem dX11_adds_31 : decode cX11_adds 31 = .ok (.dup, 1) := by decide +kernel
theorem dX11_adds_32 : decode cX11_adds 32 = .ok (.getfield 213, 3) := by decide +kernel
theorem dX11_adds_35 : decode cX11_adds 35 = .ok (.iconst 1, 1) := by decide +kernel
theorem dX11_adds_36 : decode cX11_adds 36 = .ok (.iadd, 1) := by decide +kernel
theorem dX11_adds_37 : decode cX11_adds 37 = .ok (.putfield 213, 3) := by decide +kernel
theorem dX11_adds_40 : decode cX11_adds 40 = .ok (.return_, 1) := by decide +kernel
theorem dX11_state_0 : decode cX11_state 0 = .ok (.aload_n 0, 1) := by decide +kernel
theorem dX11_state_1 : decode cX11_state 1 = .ok (.dup, 1) := by decide +kernel
theorem dX11_state_2 : decode cX11_state 2 = .ok (.getfield 216, 3) := by decide +kernel
theorem dX11_state_5 : decode cX11_state 5 = .ok (.iconst 1, 1) := by decide +kernel
theorem dX11_state_6 : decode cX11_state 6 = .ok (.iadd, 1) := by decide +kernel
theorem dX11_state_7 : decode cX11_state 7 = .ok (.putfield 216, 3) := by decide +kernel
theorem dX11_state_10 : decode cX11_state 10 = .ok (.aload_n 0, 1) := by decide +kernel
theorem dX11_state_11 : decode cX11_state 11 = .ok (.getfield 216, 3) := by decide +kernel
theorem dX11_state_14 : decode cX11_state 14 = .ok (.iconst 1, 1) := by decide +kernel
theorem dX11_state_15 : decode cX11_state 15 = .ok (.isub, 1) := by decide +kernel
theorem dX11_state_16 : decode cX11_state 16 = .ok (.ireturn, 1) := by decide +kernel
theorem dX11_reads_0 : decode cX11_reads 0 = .ok (.iload_n 1, 1) := by decide +kernel
theorem dX11_reads_1 : decode cX11_reads 1 = .ok (.istore_n 2, 1) := by decide +kernel
theorem dX11_reads_2 : decode cX11_reads 2 = .ok (.aload_n 0, 1) := by decide +kernel
theorem dX11_reads_3 : decode cX11_reads 3 = .ok (.getfield 219, 3) := by decide +kernel
theorem dX11_reads_6 : decode cX11_reads 6 = .ok (.ifCond .ne 73, 3) := by decide +kernel
theorem dX11_reads_9 : decode cX11_reads 9 = .ok (.aload_n 0, 1) := by decide +kernel
theorem dX11_reads_10 : decode cX11_reads 10 = .ok (.invokevirtual 223, 3) := by decide +kernel
theorem dX11_reads_13 : decode cX11_reads 13 = .ok (.istore_n 3, 1) := by decide +kernel
theorem dX11_reads_14 : decode cX11_reads 14 = .ok (.iload_n 3, 1) := by decide +kernel
theorem dX11_reads_15 : decode cX11_reads 15 = .ok (.bipush 97, 2) := by decide +kernel
theorem dX11_reads_17 : decode cX11_reads 17 = .ok (.if_icmp .lt 42, 3) := by decide +kernel
theorem dX11_reads_20 : decode cX11_reads 20 = .ok (.iload_n 3, 1) := by decide +kernel
theorem dX11_reads_21 : decode cX11_reads 21 = .ok (.bipush 104, 2) := by decide +kernel
theorem dX11_reads_23 : decode cX11_reads 23 = .ok (.if_icmp .gt 36, 3) := by decide +kernel
theorem dX11_reads_26 : decode cX11_reads 26 = .ok (.aload_n 0, 1) := by decide +kernel
theorem dX11_reads_27 : decode cX11_reads 27 = .ok (.invokevirtual 227, 3) := by decide +kernel
theorem dX11_reads_30 : decode cX11_reads 30 = .ok (.istore 4, 2) := by decide +kernel
theorem dX11_reads_32 : decode cX11_reads 32 = .ok (.aload_n 0, 1) := by decide +kernel
theorem dX11_reads_33 : decode cX11_reads 33 = .ok (.iload_n 2, 1) := by decide +kernel
theorem dX11_reads_34 : decode cX11_reads 34 = .ok (.iload 4, 2) := by decide +kernel
theorem dX11_reads_36 : decode cX11_reads 36 = .ok (.iload_n 3, 1) := by decide +kernel
theorem dX11_reads_37 : decode cX11_reads 37 = .ok (.bipush 97, 2) := by decide +kernel
theorem dX11_reads_39 : decode cX11_reads 39 = .ok (.isub, 1) := by decide +kernel
theorem dX11_reads_40 : decode cX11_reads 40 = .ok (.invokevirtual 230, 3) := by decide +kernel
theorem dX11_reads_43 : decode cX11_reads 43 = .ok (.iload 4, 2) := by decide +kernel
theorem dX11_reads_45 : decode cX11_reads 45 = .ok (.istore_n 2, 1) := by decide +kernel
theorem dX11_reads_46 : decode cX11_reads 46 = .ok (.aload_n 0, 1) := by decide +kernel
theorem dX11_reads_47 : decode cX11_reads 47 = .ok (.dup, 1) := by decide +kernel
theorem dX11_reads_48 : decode cX11_reads 48 = .ok (.getfield 207, 3) := by decide +kernel
theorem dX11_reads_51 : decode cX11_reads 51 = .ok (.iconst 1, 1) := by decide +kernel
theorem dX11_reads_52 : decode cX11_reads 52 = .ok (.iadd, 1) := by decide +kernel
theorem dX11_reads_53 : decode cX11_reads 53 = .ok (.putfield 207, 3) := by decide +kernel
theorem dX11_reads_56 : decode cX11_reads 56 = .ok (.goto 20, 3) := by decide +kernel
theorem dX11_reads_59 : decode cX11_reads 59 = .ok (.iload_n 3, 1) := by decide +kernel
theorem dX11_reads_60 : decode cX11_reads 60 = .ok (.bipush 40, 2) := by decide +kernel
theorem dX11_reads_62 : decode cX11_reads 62 = .ok (.if_icmp .ne 12, 3) := by decide +kernel
theorem dX11_reads_65 : decode cX11_reads 65 = .ok (.aload_n 0, 1) := by decide +kernel
theorem dX11_reads_66 : decode cX11_reads 66 = .ok (.iload_n 2, 1) := by decide +kernel
theorem dX11_reads_67 : decode cX11_reads 67 = .ok (.invokevirtual 234, 3) := by decide +kernel
theorem dX11_reads_70 : decode cX11_reads 70 = .ok (.istore_n 2, 1) := by decide +kernel
theorem dX11_reads_71 : decode cX11_reads 71 = .ok (.goto 5, 3) := by decide +kernel
theorem dX11_reads_74 : decode cX11_reads 74 = .ok (.iload_n 2, 1) := by decide +kernel
theorem dX11_reads_75 : decode cX11_reads 75 = .ok (.ireturn, 1) := by decide +kernel
theorem dX11_reads_76 : decode cX11_reads 76 = .ok (.goto (-74), 3) := by decide +kernel
theorem dX11_reads_79 : decode cX11_reads 79 = .ok (.iload_n 2, 1) := by decide +kernel
theorem dX11_reads_80 : decode cX11_reads 80 = .ok (.ireturn, 1) := by decide +kernel
theorem dX11_bracket_0 : decode cX11_bracket 0 = .ok (.aload_n 0, 1) := by decide +kernel
theorem dX11_bracket_1 : decode cX11_bracket 1 = .ok (.getfield 237, 3) := by decide +kernel
theorem dX11_bracket_4 : decode cX11_bracket 4 = .ok (.bipush 10, 2) := by decide +kernel
theorem dX11_bracket_6 : decode cX11_bracket 6 = .ok (.if_icmp .ne 10, 3) := by decide +kernel
theorem dX11_bracket_9 : decode cX11_bracket 9 = .ok (.aload_n 0, 1) := by decide +kernel
theorem dX11_bracket_10 : decode cX11_bracket 10 = .ok (.iconst 1, 1) := by decide +kernel
theorem dX11_bracket_11 : decode cX11_bracket 11 = .ok (.putfield 219, 3) := by decide +kernel
theorem dX11_bracket_14 : decode cX11_bracket 14 = .ok (.iload_n 1, 1) := by decide +kernel
theorem dX11_bracket_15 : decode cX11_bracket 15 = .ok (.ireturn, 1) := by decide +kernel
theorem dX11_bracket_16 : decode cX11_bracket 16 = .ok (.aload_n 0, 1) := by decide +kernel
theorem dX11_bracket_17 : decode cX11_bracket 17 = .ok (.dup, 1) := by decide +kernel
theorem dX11_bracket_18 : decode cX11_bracket 18 = .ok (.getfield 237, 3) := by decide +kernel
theorem dX11_bracket_21 : decode cX11_bracket 21 = .ok (.iconst 1, 1) := by decide +kernel
theorem dX11_bracket_22 : decode cX11_bracket 22 = .ok (.iadd, 1) := by decide +kernel
theorem dX11_bracket_23 : decode cX11_bracket 23 = .ok (.putfield 237, 3) := by decide +kernel
theorem dX11_bracket_26 : decode cX11_bracket 26 = .ok (.aload_n 0, 1) := by decide +kernel
theorem dX11_bracket_27 : decode cX11_bracket 27 = .ok (.invokevirtual 227, 3) := by decide +kernel
theorem dX11_bracket_30 : decode cX11_bracket 30 = .ok (.istore_n 2, 1) := by decide +kernel
theorem dX11_bracket_31 : decode cX11_bracket 31 = .ok (.aload_n 0, 1) := by decide +kernel
theorem dX11_bracket_32 : decode cX11_bracket 32 = .ok (.invokevirtual 227, 3) := by decide +kernel
theorem dX11_bracket_35 : decode cX11_bracket 35 = .ok (.istore_n 3, 1) := by decide +kernel
theorem dX11_bracket_36 : decode cX11_bracket 36 = .ok (.aload_n 0, 1) := by decide +kernel
theorem dX11_bracket_37 : decode cX11_bracket 37 = .ok (.iload_n 1, 1) := by decide +kernel
theorem dX11_bracket_38 : decode cX11_bracket 38 = .ok (.iload_n 2, 1) := by decide +kernel
theorem dX11_bracket_39 : decode cX11_bracket 39 = .ok (.bipush 8, 2) := by decide +kernel
theorem dX11_bracket_41 : decode cX11_bracket 41 = .ok (.invokevirtual 230, 3) := by decide +kernel
theorem dX11_bracket_44 : decode cX11_bracket 44 = .ok (.aload_n 0, 1) := by decide +kernel
theorem dX11_bracket_45 : decode cX11_bracket 45 = .ok (.dup, 1) := by decide +kernel
theorem dX11_bracket_46 : decode cX11_bracket 46 = .ok (.getfield 207, 3) := by decide +kernel
theorem dX11_bracket_49 : decode cX11_bracket 49 = .ok (.iconst 1, 1) := by decide +kernel
theorem dX11_bracket_50 : decode cX11_bracket 50 = .ok (.iadd, 1) := by decide +kernel
theorem dX11_bracket_51 : decode cX11_bracket 51 = .ok (.putfield 207, 3) := by decide +kernel
theorem dX11_bracket_54 : decode cX11_bracket 54 = .ok (.aload_n 0, 1) := by decide +kernel
theorem dX11_bracket_55 : decode cX11_bracket 55 = .ok (.aload_n 0, 1) := by decide +kernel
theorem dX11_bracket_56 : decode cX11_bracket 56 = .ok (.iload_n 2, 1) := by decide +kernel
theorem dX11_bracket_57 : decode cX11_bracket 57 = .ok (.invokevirtual 240, 3) := by decide +kernel
theorem dX11_bracket_60 : decode cX11_bracket 60 = .ok (.iload_n 3, 1) := by decide +kernel
theorem dX11_bracket_61 : decode cX11_bracket 61 = .ok (.bipush 8, 2) := by decide +kernel
theorem dX11_bracket_63 : decode cX11_bracket 63 = .ok (.invokevirtual 230, 3) := by decide +kernel
theorem dX11_bracket_66 : decode cX11_bracket 66 = .ok (.aload_n 0, 1) := by decide +kernel
theorem dX11_bracket_67 : decode cX11_bracket 67 = .ok (.getfield 219, 3) := by decide +kernel
theorem dX11_bracket_70 : decode cX11_bracket 70 = .ok (.ifCond .ne 12, 3) := by decide +kernel
theorem dX11_bracket_73 : decode cX11_bracket 73 = .ok (.aload_n 0, 1) := by decide +kernel
theorem dX11_bracket_74 : decode cX11_bracket 74 = .ok (.invokevirtual 223, 3) := by decide +kernel
theorem dX11_bracket_77 : decode cX11_bracket 77 = .ok (.bipush 124, 2) := by decide +kernel
theorem dX11_bracket_79 : decode cX11_bracket 79 = .ok (.if_icmp .eq (-35), 3) := by decide +kernel
theorem dX11_bracket_82 : decode cX11_bracket 82 = .ok (.aload_n 0, 1) := by decide +kernel
theorem dX11_bracket_83 : decode cX11_bracket 83 = .ok (.getfield 219, 3) := by decide +kernel
theorem dX11_bracket_86 : decode cX11_bracket 86 = .ok (.ifCond .eq 5, 3) := by decide +kernel
theorem dX11_bracket_89 : decode cX11_bracket 89 = .ok (.iload_n 1, 1) := by decide +kernel
theorem dX11_bracket_90 : decode cX11_bracket 90 = .ok (.ireturn, 1) := by decide +kernel
theorem dX11_bracket_91 : decode cX11_bracket 91 = .ok (.aload_n 0, 1) := by decide +kernel
theorem dX11_bracket_92 : decode cX11_bracket 92 = .ok (.invokevirtual 223, 3) := by decide +kernel
theorem dX11_bracket_95 : decode cX11_bracket 95 = .ok (.bipush 41, 2) := by decide +kernel
theorem dX11_bracket_97 : decode cX11_bracket 97 = .ok (.if_icmp .eq 10, 3) := by decide +kernel
theorem dX11_bracket_100 : decode cX11_bracket 100 = .ok (.aload_n 0, 1) := by decide +kernel
theorem dX11_bracket_101 : decode cX11_bracket 101 = .ok (.iconst 1, 1) := by decide +kernel
theorem dX11_bracket_102 : decode cX11_bracket 102 = .ok (.putfield 219, 3) := by decide +kernel
theorem dX11_bracket_105 : decode cX11_bracket 105 = .ok (.iload_n 1, 1) := by decide +kernel
theorem dX11_bracket_106 : decode cX11_bracket 106 = .ok (.ireturn, 1) := by decide +kernel
theorem dX11_bracket_107 : decode cX11_bracket 107 = .ok (.aload_n 0, 1) := by decide +kernel
theorem dX11_bracket_108 : decode cX11_bracket 108 = .ok (.dup, 1) := by decide +kernel
theorem dX11_bracket_109 : decode cX11_bracket 109 = .ok (.getfield 207, 3) := by decide +kernel
theorem dX11_bracket_112 : decode cX11_bracket 112 = .ok (.iconst 1, 1) := by decide +kernel
theorem dX11_bracket_113 : decode cX11_bracket 113 = .ok (.iadd, 1) := by decide +kernel
theorem dX11_bracket_114 : decode cX11_bracket 114 = .ok (.putfield 207, 3) := by decide +kernel
theorem dX11_bracket_117 : decode cX11_bracket 117 = .ok (.aload_n 0, 1) := by decide +kernel
theorem dX11_bracket_118 : decode cX11_bracket 118 = .ok (.dup, 1) := by decide +kernel
theorem dX11_bracket_119 : decode cX11_bracket 119 = .ok (.getfield 237, 3) := by decide +kernel
theorem dX11_bracket_122 : decode cX11_bracket 122 = .ok (.iconst 1, 1) := by decide +kernel
theorem dX11_bracket_123 : decode cX11_bracket 123 = .ok (.isub, 1) := by decide +kernel
theorem dX11_bracket_124 : decode cX11_bracket 124 = .ok (.putfield 237, 3) := by decide +kernel
theorem dX11_bracket_127 : decode cX11_bracket 127 = .ok (.aload_n 0, 1) := by decide +kernel
theorem dX11_bracket_128 : decode cX11_bracket 128 = .ok (.invokevirtual 223, 3) := by decide +kernel
theorem dX11_bracket_131 : decode cX11_bracket 131 = .ok (.bipush 42, 2) := by decide +kernel
theorem dX11_bracket_133 : decode cX11_bracket 133 = .ok (.if_icmp .ne 29, 3) := by decide +kernel
theorem dX11_bracket_136 : decode cX11_bracket 136 = .ok (.aload_n 0, 1) := by decide +kernel
theorem dX11_bracket_137 : decode cX11_bracket 137 = .ok (.dup, 1) := by decide +kernel
theorem dX11_bracket_138 : decode cX11_bracket 138 = .ok (.getfield 207, 3) := by decide +kernel
theorem dX11_bracket_141 : decode cX11_bracket 141 = .ok (.iconst 1, 1) := by decide +kernel
theorem dX11_bracket_142 : decode cX11_bracket 142 = .ok (.iadd, 1) := by decide +kernel
theorem dX11_bracket_143 : decode cX11_bracket 143 = .ok (.putfield 207, 3) := by decide +kernel
theorem dX11_bracket_146 : decode cX11_bracket 146 = .ok (.aload_n 0, 1) := by decide +kernel
theorem dX11_bracket_147 : decode cX11_bracket 147 = .ok (.iload_n 2, 1) := by decide +kernel
theorem dX11_bracket_148 : decode cX11_bracket 148 = .ok (.iload_n 3, 1) := by decide +kernel
theorem dX11_bracket_149 : decode cX11_bracket 149 = .ok (.bipush 8, 2) := by decide +kernel
theorem dX11_bracket_151 : decode cX11_bracket 151 = .ok (.invokevirtual 230, 3) := by decide +kernel
theorem dX11_bracket_154 : decode cX11_bracket 154 = .ok (.aload_n 0, 1) := by decide +kernel
theorem dX11_bracket_155 : decode cX11_bracket 155 = .ok (.iload_n 3, 1) := by decide +kernel
theorem dX11_bracket_156 : decode cX11_bracket 156 = .ok (.iload_n 2, 1) := by decide +kernel
theorem dX11_bracket_157 : decode cX11_bracket 157 = .ok (.bipush 8, 2) := by decide +kernel
theorem dX11_bracket_159 : decode cX11_bracket 159 = .ok (.invokevirtual 230, 3) := by decide +kernel
theorem dX11_bracket_162 : decode cX11_bracket 162 = .ok (.iload_n 3, 1) := by decide +kernel
theorem dX11_bracket_163 : decode cX11_bracket 163 = .ok (.ireturn, 1) := by decide +kernel
theorem dX11_routine_0 : decode cX11_routine 0 = .ok (.aload_n 0, 1) := by decide +kernel
theorem dX11_routine_1 : decode cX11_routine 1 = .ok (.iconst 0, 1) := by decide +kernel
theorem dX11_routine_2 : decode cX11_routine 2 = .ok (.putfield 133, 3) := by decide +kernel
theorem dX11_routine_5 : decode cX11_routine 5 = .ok (.aload_n 0, 1) := by decide +kernel
theorem dX11_routine_6 : decode cX11_routine 6 = .ok (.iload_n 1, 1) := by decide +kernel
theorem dX11_routine_7 : decode cX11_routine 7 = .ok (.ifCond .lt 11, 3) := by decide +kernel
theorem dX11_routine_10 : decode cX11_routine 10 = .ok (.iload_n 1, 1) := by decide +kernel
theorem dX11_routine_11 : decode cX11_routine 11 = .ok (.aload_n 0, 1) := by decide +kernel
theorem dX11_routine_12 : decode cX11_routine 12 = .ok (.getfield 204, 3) := by decide +kernel
theorem dX11_routine_15 : decode cX11_routine 15 = .ok (.if_icmp .le 7, 3) := by decide +kernel
theorem dX11_routine_18 : decode cX11_routine 18 = .ok (.iconst 1, 1) := by decide +kernel
theorem dX11_routine_19 : decode cX11_routine 19 = .ok (.goto 4, 3) := by decide +kernel
theorem dX11_routine_22 : decode cX11_routine 22 = .ok (.iconst 0, 1) := by decide +kernel
theorem dX11_routine_23 : decode cX11_routine 23 = .ok (.iconst 1, 1) := by decide +kernel
theorem dX11_routine_24 : decode cX11_routine 24 = .ok (.invokevirtual 140, 3) := by decide +kernel
theorem dX11_routine_27 : decode cX11_routine 27 = .ok (.ifCond .eq 5, 3) := by decide +kernel
theorem dX11_routine_30 : decode cX11_routine 30 = .ok (.iconst 0, 1) := by decide +kernel
theorem dX11_routine_31 : decode cX11_routine 31 = .ok (.ireturn, 1) := by decide +kernel
theorem dX11_routine_32 : decode cX11_routine 32 = .ok (.aload_n 0, 1) := by decide +kernel
theorem dX11_routine_33 : decode cX11_routine 33 = .ok (.iload_n 1, 1) := by decide +kernel
theorem dX11_routine_34 : decode cX11_routine 34 = .ok (.putfield 210, 3) := by decide +kernel
theorem dX11_routine_37 : decode cX11_routine 37 = .ok (.aload_n 0, 1) := by decide +kernel
theorem dX11_routine_38 : decode cX11_routine 38 = .ok (.iconst 0, 1) := by decide +kernel
theorem dX11_routine_39 : decode cX11_routine 39 = .ok (.putfield 204, 3) := by decide +kernel
theorem dX11_routine_42 : decode cX11_routine 42 = .ok (.aload_n 0, 1) := by decide +kernel
theorem dX11_routine_43 : decode cX11_routine 43 = .ok (.iconst 0, 1) := by decide +kernel
theorem dX11_routine_44 : decode cX11_routine 44 = .ok (.putfield 207, 3) := by decide +kernel
theorem dX11_routine_47 : decode cX11_routine 47 = .ok (.aload_n 0, 1) := by decide +kernel
theorem dX11_routine_48 : decode cX11_routine 48 = .ok (.iconst 0, 1) := by decide +kernel
theorem dX11_routine_49 : decode cX11_routine 49 = .ok (.putfield 237, 3) := by decide +kernel
theorem dX11_routine_52 : decode cX11_routine 52 = .ok (.aload_n 0, 1) := by decide +kernel
theorem dX11_routine_53 : decode cX11_routine 53 = .ok (.iconst 0, 1) := by decide +kernel
theorem dX11_routine_54 : decode cX11_routine 54 = .ok (.putfield 213, 3) := by decide +kernel
theorem dX11_routine_57 : decode cX11_routine 57 = .ok (.aload_n 0, 1) := by decide +kernel
theorem dX11_routine_58 : decode cX11_routine 58 = .ok (.iconst 1, 1) := by decide +kernel
theorem dX11_routine_59 : decode cX11_routine 59 = .ok (.putfield 216, 3) := by decide +kernel
theorem dX11_routine_62 : decode cX11_routine 62 = .ok (.aload_n 0, 1) := by decide +kernel
theorem dX11_routine_63 : decode cX11_routine 63 = .ok (.iconst 0, 1) := by decide +kernel
theorem dX11_routine_64 : decode cX11_routine 64 = .ok (.putfield 219, 3) := by decide +kernel
theorem dX11_routine_67 : decode cX11_routine 67 = .ok (.aload_n 0, 1) := by decide +kernel
theorem dX11_routine_68 : decode cX11_routine 68 = .ok (.iconst 0, 1) := by decide +kernel
theorem dX11_routine_69 : decode cX11_routine 69 = .ok (.invokevirtual 240, 3) := by decide +kernel
theorem dX11_routine_72 : decode cX11_routine 72 = .ok (.istore_n 2, 1) := by decide +kernel
theorem dX11_routine_73 : decode cX11_routine 73 = .ok (.aload_n 0, 1) := by decide +kernel
theorem dX11_routine_74 : decode cX11_routine 74 = .ok (.getfield 219, 3) := by decide +kernel
theorem dX11_routine_77 : decode cX11_routine 77 = .ok (.ifCond .ne 96, 3) := by decide +kernel
theorem dX11_routine_80 : decode cX11_routine 80 = .ok (.aload_n 0, 1) := by decide +kernel
theorem dX11_routine_81 : decode cX11_routine 81 = .ok (.invokevirtual 223, 3) := by decide +kernel
theorem dX11_routine_84 : decode cX11_routine 84 = .ok (.ifCond .ne 89, 3) := by decide +kernel
theorem dX11_routine_87 : decode cX11_routine 87 = .ok (.aload_n 0, 1) := by decide +kernel
theorem dX11_routine_88 : decode cX11_routine 88 = .ok (.getfield 207, 3) := by decide +kernel
theorem dX11_routine_91 : decode cX11_routine 91 = .ok (.aload_n 0, 1) := by decide +kernel
theorem dX11_routine_92 : decode cX11_routine 92 = .ok (.getfield 210, 3) := by decide +kernel
theorem dX11_routine_95 : decode cX11_routine 95 = .ok (.if_icmp .lt 78, 3) := by decide +kernel
theorem dX11_routine_98 : decode cX11_routine 98 = .ok (.aload_n 0, 1) := by decide +kernel
theorem dX11_routine_99 : decode cX11_routine 99 = .ok (.aload_n 0, 1) := by decide +kernel
theorem dX11_routine_100 : decode cX11_routine 100 = .ok (.getfield 213, 3) := by decide +kernel
theorem dX11_routine_103 : decode cX11_routine 103 = .ok (.putfield 243, 3) := by decide +kernel
theorem dX11_routine_106 : decode cX11_routine 106 = .ok (.aload_n 0, 1) := by decide +kernel
theorem dX11_routine_107 : decode cX11_routine 107 = .ok (.aload_n 0, 1) := by decide +kernel
theorem dX11_routine_108 : decode cX11_routine 108 = .ok (.getfield 216, 3) := by decide +kernel
theorem dX11_routine_111 : decode cX11_routine 111 = .ok (.putfield 246, 3) := by decide +kernel
theorem dX11_routine_114 : decode cX11_routine 114 = .ok (.aload_n 0, 1) := by decide +kernel
theorem dX11_routine_115 : decode cX11_routine 115 = .ok (.iload_n 2, 1) := by decide +kernel
theorem dX11_routine_116 : decode cX11_routine 116 = .ok (.putfield 249, 3) := by decide +kernel
theorem dX11_routine_119 : decode cX11_routine 119 = .ok (.iconst 0, 1) := by decide +kernel
theorem dX11_routine_120 : decode cX11_routine 120 = .ok (.istore_n 3, 1) := by decide +kernel
theorem dX11_routine_121 : decode cX11_routine 121 = .ok (.iload_n 3, 1) := by decide +kernel
theorem dX11_routine_122 : decode cX11_routine 122 = .ok (.aload_n 0, 1) := by decide +kernel
theorem dX11_routine_123 : decode cX11_routine 123 = .ok (.getfield 243, 3) := by decide +kernel
theorem dX11_routine_126 : decode cX11_routine 126 = .ok (.if_icmp .ge 45, 3) := by decide +kernel
theorem dX11_routine_129 : decode cX11_routine 129 = .ok (.aload_n 0, 1) := by decide +kernel
theorem dX11_routine_130 : decode cX11_routine 130 = .ok (.getfield 84, 3) := by decide +kernel
theorem dX11_routine_133 : decode cX11_routine 133 = .ok (.iload_n 3, 1) := by decide +kernel
theorem dX11_routine_134 : decode cX11_routine 134 = .ok (.aload_n 0, 1) := by decide +kernel
theorem dX11_routine_135 : decode cX11_routine 135 = .ok (.getfield 93, 3) := by decide +kernel
theorem dX11_routine_138 : decode cX11_routine 138 = .ok (.iload_n 3, 1) := by decide +kernel
theorem dX11_routine_139 : decode cX11_routine 139 = .ok (.iaload, 1) := by decide +kernel
theorem dX11_routine_140 : decode cX11_routine 140 = .ok (.iastore, 1) := by decide +kernel
theorem dX11_routine_141 : decode cX11_routine 141 = .ok (.aload_n 0, 1) := by decide +kernel
theorem dX11_routine_142 : decode cX11_routine 142 = .ok (.getfield 87, 3) := by decide +kernel
theorem dX11_routine_145 : decode cX11_routine 145 = .ok (.iload_n 3, 1) := by decide +kernel
theorem dX11_routine_146 : decode cX11_routine 146 = .ok (.aload_n 0, 1) := by decide +kernel
theorem dX11_routine_147 : decode cX11_routine 147 = .ok (.getfield 96, 3) := by decide +kernel
theorem dX11_routine_150 : decode cX11_routine 150 = .ok (.iload_n 3, 1) := by decide +kernel
theorem dX11_routine_151 : decode cX11_routine 151 = .ok (.iaload, 1) := by decide +kernel
theorem dX11_routine_152 : decode cX11_routine 152 = .ok (.iastore, 1) := by decide +kernel
theorem dX11_routine_153 : decode cX11_routine 153 = .ok (.aload_n 0, 1) := by decide +kernel
theorem dX11_routine_154 : decode cX11_routine 154 = .ok (.getfield 90, 3) := by decide +kernel
theorem dX11_routine_157 : decode cX11_routine 157 = .ok (.iload_n 3, 1) := by decide +kernel
theorem dX11_routine_158 : decode cX11_routine 158 = .ok (.aload_n 0, 1) := by decide +kernel
theorem dX11_routine_159 : decode cX11_routine 159 = .ok (.getfield 99, 3) := by decide +kernel
theorem dX11_routine_162 : decode cX11_routine 162 = .ok (.iload_n 3, 1) := by decide +kernel
theorem dX11_routine_163 : decode cX11_routine 163 = .ok (.iaload, 1) := by decide +kernel
theorem dX11_routine_164 : decode cX11_routine 164 = .ok (.iastore, 1) := by decide +kernel
theorem dX11_routine_165 : decode cX11_routine 165 = .ok (.iinc 3 1, 3) := by decide +kernel
theorem dX11_routine_168 : decode cX11_routine 168 = .ok (.goto (-47), 3) := by decide +kernel
theorem dX11_routine_171 : decode cX11_routine 171 = .ok (.iconst 0, 1) := by decide +kernel
theorem dX11_routine_172 : decode cX11_routine 172 = .ok (.ireturn, 1) := by decide +kernel
theorem dX11_routine_173 : decode cX11_routine 173 = .ok (.bipush (-2), 2) := by decide +kernel
theorem dX11_routine_175 : decode cX11_routine 175 = .ok (.aload_n 0, 1) := by decide +kernel
theorem dX11_routine_176 : decode cX11_routine 176 = .ok (.getfield 207, 3) := by decide +kernel
theorem dX11_routine_179 : decode cX11_routine 179 = .ok (.isub, 1) := by decide +kernel
theorem dX11_routine_180 : decode cX11_routine 180 = .ok (.ireturn, 1) := by decide +kernel
theorem dX11_clearBreak_0 : decode cX11_clearBreak 0 = .ok (.aload_n 0, 1) := by decide +kernel
theorem dX11_clearBreak_1 : decode cX11_clearBreak 1 = .ok (.iconst 0, 1) := by decide +kernel
theorem dX11_clearBreak_2 : decode cX11_clearBreak 2 = .ok (.putfield 252, 3) := by decide +kernel
theorem dX11_clearBreak_5 : decode cX11_clearBreak 5 = .ok (.return_, 1) := by decide +kernel
theorem dX11_hold_0 : decode cX11_hold 0 = .ok (.aload_n 0, 1) := by decide +kernel
theorem dX11_hold_1 : decode cX11_hold 1 = .ok (.iconst 0, 1) := by decide +kernel
theorem dX11_hold_2 : decode cX11_hold 2 = .ok (.putfield 133, 3) := by decide +kernel
theorem dX11_hold_5 : decode cX11_hold 5 = .ok (.aload_n 0, 1) := by decide +kernel
theorem dX11_hold_6 : decode cX11_hold 6 = .ok (.invokevirtual 130, 3) := by decide +kernel
theorem dX11_hold_9 : decode cX11_hold 9 = .ok (.aload_n 0, 1) := by decide +kernel
theorem dX11_hold_10 : decode cX11_hold 10 = .ok (.getfield 246, 3) := by decide +kernel
theorem dX11_hold_13 : decode cX11_hold 13 = .ok (.ifCond .ne 5, 3) := by decide +kernel
theorem dX11_hold_16 : decode cX11_hold 16 = .ok (.iconst 0, 1) := by decide +kernel
theorem dX11_hold_17 : decode cX11_hold 17 = .ok (.ireturn, 1) := by decide +kernel
theorem dX11_hold_18 : decode cX11_hold 18 = .ok (.iconst 0, 1) := by decide +kernel
theorem dX11_hold_19 : decode cX11_hold 19 = .ok (.istore_n 1, 1) := by decide +kernel
theorem dX11_hold_20 : decode cX11_hold 20 = .ok (.iload_n 1, 1) := by decide +kernel
theorem dX11_hold_21 : decode cX11_hold 21 = .ok (.aload_n 0, 1) := by decide +kernel
theorem dX11_hold_22 : decode cX11_hold 22 = .ok (.getfield 246, 3) := by decide +kernel
theorem dX11_hold_25 : decode cX11_hold 25 = .ok (.bipush 30, 2) := by decide +kernel
theorem dX11_hold_27 : decode cX11_hold 27 = .ok (.imul, 1) := by decide +kernel
theorem dX11_hold_28 : decode cX11_hold 28 = .ok (.if_icmp .ge 17, 3) := by decide +kernel
theorem dX11_hold_31 : decode cX11_hold 31 = .ok (.aload_n 0, 1) := by decide +kernel
theorem dX11_hold_32 : decode cX11_hold 32 = .ok (.getfield 102, 3) := by decide +kernel
theorem dX11_hold_35 : decode cX11_hold 35 = .ok (.iload_n 1, 1) := by decide +kernel
theorem dX11_hold_36 : decode cX11_hold 36 = .ok (.ldc 255, 2) := by decide +kernel
theorem dX11_hold_38 : decode cX11_hold 38 = .ok (.iastore, 1) := by decide +kernel
theorem dX11_hold_39 : decode cX11_hold 39 = .ok (.iinc 1 1, 3) := by decide +kernel
theorem dX11_hold_42 : decode cX11_hold 42 = .ok (.goto (-22), 3) := by decide +kernel
theorem dX11_hold_45 : decode cX11_hold 45 = .ok (.iconst 1, 1) := by decide +kernel
theorem dX11_hold_46 : decode cX11_hold 46 = .ok (.istore_n 1, 1) := by decide +kernel
theorem dX11_hold_47 : decode cX11_hold 47 = .ok (.iconst 0, 1) := by decide +kernel
theorem dX11_hold_48 : decode cX11_hold 48 = .ok (.istore_n 2, 1) := by decide +kernel
theorem dX11_hold_49 : decode cX11_hold 49 = .ok (.iload_n 2, 1) := by decide +kernel
theorem dX11_hold_50 : decode cX11_hold 50 = .ok (.aload_n 0, 1) := by decide +kernel
theorem dX11_hold_51 : decode cX11_hold 51 = .ok (.getfield 246, 3) := by decide +kernel
theorem dX11_hold_54 : decode cX11_hold 54 = .ok (.aload_n 0, 1) := by decide +kernel
theorem dX11_hold_55 : decode cX11_hold 55 = .ok (.getfield 126, 3) := by decide +kernel
theorem dX11_hold_58 : decode cX11_hold 58 = .ok (.imul, 1) := by decide +kernel
theorem dX11_hold_59 : decode cX11_hold 59 = .ok (.iconst 2, 1) := by decide +kernel
theorem dX11_hold_60 : decode cX11_hold 60 = .ok (.iadd, 1) := by decide +kernel
theorem dX11_hold_61 : decode cX11_hold 61 = .ok (.if_icmp .ge 70, 3) := by decide +kernel
theorem dX11_hold_64 : decode cX11_hold 64 = .ok (.iload_n 1, 1) := by decide +kernel
theorem dX11_hold_65 : decode cX11_hold 65 = .ok (.ifCond .eq 66, 3) := by decide +kernel
theorem dX11_hold_68 : decode cX11_hold 68 = .ok (.iconst 0, 1) := by decide +kernel
theorem dX11_hold_69 : decode cX11_hold 69 = .ok (.istore_n 1, 1) := by decide +kernel
theorem dX11_hold_70 : decode cX11_hold 70 = .ok (.aload_n 0, 1) := by decide +kernel
theorem dX11_hold_71 : decode cX11_hold 71 = .ok (.getfield 243, 3) := by decide +kernel
theorem dX11_hold_74 : decode cX11_hold 74 = .ok (.iconst 1, 1) := by decide +kernel
theorem dX11_hold_75 : decode cX11_hold 75 = .ok (.isub, 1) := by decide +kernel
theorem dX11_hold_76 : decode cX11_hold 76 = .ok (.istore_n 3, 1) := by decide +kernel
theorem dX11_hold_77 : decode cX11_hold 77 = .ok (.iload_n 3, 1) := by decide +kernel
theorem dX11_hold_78 : decode cX11_hold 78 = .ok (.ifCond .lt 47, 3) := by decide +kernel
theorem dX11_hold_81 : decode cX11_hold 81 = .ok (.iconst 0, 1) := by decide +kernel
theorem dX11_hold_82 : decode cX11_hold 82 = .ok (.istore 4, 2) := by decide +kernel
theorem dX11_hold_84 : decode cX11_hold 84 = .ok (.iload 4, 2) := by decide +kernel
theorem dX11_hold_86 : decode cX11_hold 86 = .ok (.aload_n 0, 1) := by decide +kernel
theorem dX11_hold_87 : decode cX11_hold 87 = .ok (.getfield 126, 3) := by decide +kernel
theorem dX11_hold_90 : decode cX11_hold 90 = .ok (.if_icmp .ge 29, 3) := by decide +kernel
theorem dX11_hold_93 : decode cX11_hold 93 = .ok (.aload_n 0, 1) := by decide +kernel
theorem dX11_hold_94 : decode cX11_hold 94 = .ok (.iload_n 3, 1) := by decide +kernel
theorem dX11_hold_95 : decode cX11_hold 95 = .ok (.iload 4, 2) := by decide +kernel
theorem dX11_hold_97 : decode cX11_hold 97 = .ok (.invokevirtual 256, 3) := by decide +kernel
theorem dX11_hold_100 : decode cX11_hold 100 = .ok (.ifCond .ne 7, 3) := by decide +kernel
theorem dX11_hold_103 : decode cX11_hold 103 = .ok (.iload_n 1, 1) := by decide +kernel
theorem dX11_hold_104 : decode cX11_hold 104 = .ok (.ifCond .eq 7, 3) := by decide +kernel
theorem dX11_hold_107 : decode cX11_hold 107 = .ok (.iconst 1, 1) := by decide +kernel
theorem dX11_hold_108 : decode cX11_hold 108 = .ok (.goto 4, 3) := by decide +kernel
theorem dX11_hold_111 : decode cX11_hold 111 = .ok (.iconst 0, 1) := by decide +kernel
theorem dX11_hold_112 : decode cX11_hold 112 = .ok (.istore_n 1, 1) := by decide +kernel
theorem dX11_hold_113 : decode cX11_hold 113 = .ok (.iinc 4 1, 3) := by decide +kernel
theorem dX11_hold_116 : decode cX11_hold 116 = .ok (.goto (-32), 3) := by decide +kernel
theorem dX11_hold_119 : decode cX11_hold 119 = .ok (.iinc 3 (-1), 3) := by decide +kernel
theorem dX11_hold_122 : decode cX11_hold 122 = .ok (.goto (-45), 3) := by decide +kernel
theorem dX11_hold_125 : decode cX11_hold 125 = .ok (.iinc 2 1, 3) := by decide +kernel
theorem dX11_hold_128 : decode cX11_hold 128 = .ok (.goto (-79), 3) := by decide +kernel
theorem dX11_hold_131 : decode cX11_hold 131 = .ok (.aload_n 0, 1) := by decide +kernel
theorem dX11_hold_132 : decode cX11_hold 132 = .ok (.getfield 102, 3) := by decide +kernel
theorem dX11_hold_135 : decode cX11_hold 135 = .ok (.iconst 0, 1) := by decide +kernel
theorem dX11_hold_136 : decode cX11_hold 136 = .ok (.iaload, 1) := by decide +kernel
theorem dX11_hold_137 : decode cX11_hold 137 = .ok (.ldc 255, 2) := by decide +kernel
theorem dX11_hold_139 : decode cX11_hold 139 = .ok (.if_icmp .ne 5, 3) := by decide +kernel
theorem dX11_hold_142 : decode cX11_hold 142 = .ok (.iconst 0, 1) := by decide +kernel
theorem dX11_hold_143 : decode cX11_hold 143 = .ok (.ireturn, 1) := by decide +kernel
theorem dX11_hold_144 : decode cX11_hold 144 = .ok (.iconst 0, 1) := by decide +kernel
theorem dX11_hold_145 : decode cX11_hold 145 = .ok (.istore_n 2, 1) := by decide +kernel
theorem dX11_hold_146 : decode cX11_hold 146 = .ok (.iload_n 2, 1) := by decide +kernel
theorem dX11_hold_147 : decode cX11_hold 147 = .ok (.aload_n 0, 1) := by decide +kernel
theorem dX11_hold_148 : decode cX11_hold 148 = .ok (.getfield 246, 3) := by decide +kernel
theorem dX11_hold_151 : decode cX11_hold 151 = .ok (.if_icmp .ge 24, 3) := by decide +kernel
theorem dX11_hold_154 : decode cX11_hold 154 = .ok (.aload_n 0, 1) := by decide +kernel
theorem dX11_hold_155 : decode cX11_hold 155 = .ok (.getfield 105, 3) := by decide +kernel
theorem dX11_hold_158 : decode cX11_hold 158 = .ok (.iload_n 2, 1) := by decide +kernel
theorem dX11_hold_159 : decode cX11_hold 159 = .ok (.iload_n 2, 1) := by decide +kernel
theorem dX11_hold_160 : decode cX11_hold 160 = .ok (.ifCond .ne 7, 3) := by decide +kernel
theorem dX11_hold_163 : decode cX11_hold 163 = .ok (.iconst 1, 1) := by decide +kernel
theorem dX11_hold_164 : decode cX11_hold 164 = .ok (.goto 4, 3) := by decide +kernel
theorem dX11_hold_167 : decode cX11_hold 167 = .ok (.iconst 0, 1) := by decide +kernel
theorem dX11_hold_168 : decode cX11_hold 168 = .ok (.bastore, 1) := by decide +kernel
theorem dX11_hold_169 : decode cX11_hold 169 = .ok (.iinc 2 1, 3) := by decide +kernel
theorem dX11_hold_172 : decode cX11_hold 172 = .ok (.goto (-26), 3) := by decide +kernel
theorem dX11_hold_175 : decode cX11_hold 175 = .ok (.iconst 0, 1) := by decide +kernel
theorem dX11_hold_176 : decode cX11_hold 176 = .ok (.istore_n 2, 1) := by decide +kernel
theorem dX11_hold_177 : decode cX11_hold 177 = .ok (.aload_n 0, 1) := by decide +kernel
theorem dX11_hold_178 : decode cX11_hold 178 = .ok (.getfield 102, 3) := by decide +kernel
theorem dX11_hold_181 : decode cX11_hold 181 = .ok (.iconst 0, 1) := by decide +kernel
theorem dX11_hold_182 : decode cX11_hold 182 = .ok (.iaload, 1) := by decide +kernel
theorem dX11_hold_183 : decode cX11_hold 183 = .ok (.istore_n 3, 1) := by decide +kernel
theorem dX11_hold_184 : decode cX11_hold 184 = .ok (.iload_n 3, 1) := by decide +kernel
theorem dX11_hold_185 : decode cX11_hold 185 = .ok (.ifCond .le 52, 3) := by decide +kernel
theorem dX11_hold_188 : decode cX11_hold 188 = .ok (.aload_n 0, 1) := by decide +kernel
theorem dX11_hold_189 : decode cX11_hold 189 = .ok (.invokevirtual 259, 3) := by decide +kernel
theorem dX11_hold_192 : decode cX11_hold 192 = .ok (.iconst 0, 1) := by decide +kernel
theorem dX11_hold_193 : decode cX11_hold 193 = .ok (.istore 4, 2) := by decide +kernel
theorem dX11_hold_195 : decode cX11_hold 195 = .ok (.aload_n 0, 1) := by decide +kernel
theorem dX11_hold_196 : decode cX11_hold 196 = .ok (.iload 4, 2) := by decide +kernel
theorem dX11_hold_198 : decode cX11_hold 198 = .ok (.iload_n 2, 1) := by decide +kernel
theorem dX11_hold_199 : decode cX11_hold 199 = .ok (.iload_n 3, 1) := by decide +kernel
theorem dX11_hold_200 : decode cX11_hold 200 = .ok (.invokevirtual 262, 3) := by decide +kernel
theorem dX11_hold_203 : decode cX11_hold 203 = .ok (.ifCond .ne 9, 3) := by decide +kernel
theorem dX11_hold_206 : decode cX11_hold 206 = .ok (.iinc 4 1, 3) := by decide +kernel
theorem dX11_hold_209 : decode cX11_hold 209 = .ok (.goto (-14), 3) := by decide +kernel
theorem dX11_hold_212 : decode cX11_hold 212 = .ok (.aload_n 0, 1) := by decide +kernel
theorem dX11_hold_213 : decode cX11_hold 213 = .ok (.iload 4, 2) := by decide +kernel
theorem dX11_hold_215 : decode cX11_hold 215 = .ok (.invokevirtual 265, 3) := by decide +kernel
theorem dX11_hold_218 : decode cX11_hold 218 = .ok (.iload_n 3, 1) := by decide +kernel
theorem dX11_hold_219 : decode cX11_hold 219 = .ok (.iconst 1, 1) := by decide +kernel
theorem dX11_hold_220 : decode cX11_hold 220 = .ok (.if_icmp .le 11, 3) := by decide +kernel
theorem dX11_hold_223 : decode cX11_hold 223 = .ok (.aload_n 0, 1) := by decide +kernel
theorem dX11_hold_224 : decode cX11_hold 224 = .ok (.iload 4, 2) := by decide +kernel
theorem dX11_hold_226 : decode cX11_hold 226 = .ok (.iload_n 2, 1) := by decide +kernel
theorem dX11_hold_227 : decode cX11_hold 227 = .ok (.invokevirtual 269, 3) := by decide +kernel
theorem dX11_hold_230 : decode cX11_hold 230 = .ok (.istore_n 2, 1) := by decide +kernel
theorem dX11_hold_231 : decode cX11_hold 231 = .ok (.iinc 3 (-1), 3) := by decide +kernel
theorem dX11_hold_234 : decode cX11_hold 234 = .ok (.goto (-50), 3) := by decide +kernel
theorem dX11_hold_237 : decode cX11_hold 237 = .ok (.aload_n 0, 1) := by decide +kernel
theorem dX11_hold_238 : decode cX11_hold 238 = .ok (.getfield 252, 3) := by decide +kernel
theorem dX11_hold_241 : decode cX11_hold 241 = .ok (.ireturn, 1) := by decide +kernel
theorem dX11_isNearer_0 : decode cX11_isNearer 0 = .ok (.aload_n 0, 1) := by decide +kernel
theorem dX11_isNearer_1 : decode cX11_isNearer 1 = .ok (.getfield 84, 3) := by decide +kernel
theorem dX11_isNearer_4 : decode cX11_isNearer 4 = .ok (.iload_n 1, 1) := by decide +kernel
theorem dX11_isNearer_5 : decode cX11_isNearer 5 = .ok (.iaload, 1) := by decide +kernel
theorem dX11_isNearer_6 : decode cX11_isNearer 6 = .ok (.bipush 30, 2) := by decide +kernel
theorem dX11_isNearer_8 : decode cX11_isNearer 8 = .ok (.imul, 1) := by decide +kernel
theorem dX11_isNearer_9 : decode cX11_isNearer 9 = .ok (.iload_n 2, 1) := by decide +kernel
theorem dX11_isNearer_10 : decode cX11_isNearer 10 = .ok (.iadd, 1) := by decide +kernel
theorem dX11_isNearer_11 : decode cX11_isNearer 11 = .ok (.istore_n 3, 1) := by decide +kernel
theorem dX11_isNearer_12 : decode cX11_isNearer 12 = .ok (.aload_n 0, 1) := by decide +kernel
theorem dX11_isNearer_13 : decode cX11_isNearer 13 = .ok (.getfield 90, 3) := by decide +kernel
theorem dX11_isNearer_16 : decode cX11_isNearer 16 = .ok (.iload_n 1, 1) := by decide +kernel
theorem dX11_isNearer_17 : decode cX11_isNearer 17 = .ok (.iaload, 1) := by decide +kernel
theorem dX11_isNearer_18 : decode cX11_isNearer 18 = .ok (.istore 4, 2) := by decide +kernel
theorem dX11_isNearer_20 : decode cX11_isNearer 20 = .ok (.iload 4, 2) := by decide +kernel
theorem dX11_isNearer_22 : decode cX11_isNearer 22 = .ok (.bipush 8, 2) := by decide +kernel
theorem dX11_isNearer_24 : decode cX11_isNearer 24 = .ok (.if_icmp .ne 24, 3) := by decide +kernel
theorem dX11_isNearer_27 : decode cX11_isNearer 27 = .ok (.aload_n 0, 1) := by decide +kernel
theorem dX11_isNearer_28 : decode cX11_isNearer 28 = .ok (.getfield 102, 3) := by decide +kernel
theorem dX11_isNearer_31 : decode cX11_isNearer 31 = .ok (.aload_n 0, 1) := by decide +kernel
theorem dX11_isNearer_32 : decode cX11_isNearer 32 = .ok (.getfield 87, 3) := by decide +kernel
theorem dX11_isNearer_35 : decode cX11_isNearer 35 = .ok (.iload_n 1, 1) := by decide +kernel
theorem dX11_isNearer_36 : decode cX11_isNearer 36 = .ok (.iaload, 1) := by decide +kernel
theorem dX11_isNearer_37 : decode cX11_isNearer 37 = .ok (.bipush 30, 2) := by decide +kernel
theorem dX11_isNearer_39 : decode cX11_isNearer 39 = .ok (.imul, 1) := by decide +kernel
theorem dX11_isNearer_40 : decode cX11_isNearer 40 = .ok (.iload_n 2, 1) := by decide +kernel
theorem dX11_isNearer_41 : decode cX11_isNearer 41 = .ok (.iadd, 1) := by decide +kernel
theorem dX11_isNearer_42 : decode cX11_isNearer 42 = .ok (.iaload, 1) := by decide +kernel
theorem dX11_isNearer_43 : decode cX11_isNearer 43 = .ok (.istore 5, 2) := by decide +kernel
theorem dX11_isNearer_45 : decode cX11_isNearer 45 = .ok (.goto 53, 3) := by decide +kernel
theorem dX11_isNearer_48 : decode cX11_isNearer 48 = .ok (.aload_n 0, 1) := by decide +kernel
theorem dX11_isNearer_49 : decode cX11_isNearer 49 = .ok (.getfield 65, 3) := by decide +kernel
theorem dX11_isNearer_52 : decode cX11_isNearer 52 = .ok (.bipush 8, 2) := by decide +kernel
theorem dX11_isNearer_54 : decode cX11_isNearer 54 = .ok (.iload_n 2, 1) := by decide +kernel
theorem dX11_isNearer_55 : decode cX11_isNearer 55 = .ok (.imul, 1) := by decide +kernel
theorem dX11_isNearer_56 : decode cX11_isNearer 56 = .ok (.iload 4, 2) := by decide +kernel
theorem dX11_isNearer_58 : decode cX11_isNearer 58 = .ok (.iadd, 1) := by decide +kernel
theorem dX11_isNearer_59 : decode cX11_isNearer 59 = .ok (.iaload, 1) := by decide +kernel
theorem dX11_isNearer_60 : decode cX11_isNearer 60 = .ok (.ifCond .ge 7, 3) := by decide +kernel
theorem dX11_isNearer_63 : decode cX11_isNearer 63 = .ok (.iconst 1, 1) := by decide +kernel
theorem dX11_isNearer_64 : decode cX11_isNearer 64 = .ok (.goto 32, 3) := by decide +kernel
theorem dX11_isNearer_67 : decode cX11_isNearer 67 = .ok (.iconst 1, 1) := by decide +kernel
theorem dX11_isNearer_68 : decode cX11_isNearer 68 = .ok (.aload_n 0, 1) := by decide +kernel
theorem dX11_isNearer_69 : decode cX11_isNearer 69 = .ok (.getfield 102, 3) := by decide +kernel
theorem dX11_isNearer_72 : decode cX11_isNearer 72 = .ok (.aload_n 0, 1) := by decide +kernel
theorem dX11_isNearer_73 : decode cX11_isNearer 73 = .ok (.getfield 87, 3) := by decide +kernel
theorem dX11_isNearer_76 : decode cX11_isNearer 76 = .ok (.iload_n 1, 1) := by decide +kernel
theorem dX11_isNearer_77 : decode cX11_isNearer 77 = .ok (.iaload, 1) := by decide +kernel
theorem dX11_isNearer_78 : decode cX11_isNearer 78 = .ok (.bipush 30, 2) := by decide +kernel
theorem dX11_isNearer_80 : decode cX11_isNearer 80 = .ok (.imul, 1) := by decide +kernel
theorem dX11_isNearer_81 : decode cX11_isNearer 81 = .ok (.aload_n 0, 1) := by decide +kernel
theorem dX11_isNearer_82 : decode cX11_isNearer 82 = .ok (.getfield 65, 3) := by decide +kernel
theorem dX11_isNearer_85 : decode cX11_isNearer 85 = .ok (.bipush 8, 2) := by decide +kernel
theorem dX11_isNearer_87 : decode cX11_isNearer 87 = .ok (.iload_n 2, 1) := by decide +kernel
theorem dX11_isNearer_88 : decode cX11_isNearer 88 = .ok (.imul, 1) := by decide +kernel
theorem dX11_isNearer_89 : decode cX11_isNearer 89 = .ok (.iload 4, 2) := by decide +kernel
theorem dX11_isNearer_91 : decode cX11_isNearer 91 = .ok (.iadd, 1) := by decide +kernel
theorem dX11_isNearer_92 : decode cX11_isNearer 92 = .ok (.iaload, 1) := by decide +kernel
theorem dX11_isNearer_93 : decode cX11_isNearer 93 = .ok (.iadd, 1) := by decide +kernel
theorem dX11_isNearer_94 : decode cX11_isNearer 94 = .ok (.iaload, 1) := by decide +kernel
theorem dX11_isNearer_95 : decode cX11_isNearer 95 = .ok (.iadd, 1) := by decide +kernel
theorem dX11_isNearer_96 : decode cX11_isNearer 96 = .ok (.istore 5, 2) := by decide +kernel
theorem dX11_isNearer_98 : decode cX11_isNearer 98 = .ok (.iload 5, 2) := by decide +kernel
theorem dX11_isNearer_100 : decode cX11_isNearer 100 = .ok (.aload_n 0, 1) := by decide +kernel
theorem dX11_isNearer_101 : decode cX11_isNearer 101 = .ok (.getfield 102, 3) := by decide +kernel
theorem dX11_isNearer_104 : decode cX11_isNearer 104 = .ok (.iload_n 3, 1) := by decide +kernel
theorem dX11_isNearer_105 : decode cX11_isNearer 105 = .ok (.iaload, 1) := by decide +kernel
theorem dX11_isNearer_106 : decode cX11_isNearer 106 = .ok (.if_icmp .lt 5, 3) := by decide +kernel
theorem dX11_isNearer_109 : decode cX11_isNearer 109 = .ok (.iconst 0, 1) := by decide +kernel
theorem dX11_isNearer_110 : decode cX11_isNearer 110 = .ok (.ireturn, 1) := by decide +kernel
theorem dX11_isNearer_111 : decode cX11_isNearer 111 = .ok (.aload_n 0, 1) := by decide +kernel
theorem dX11_isNearer_112 : decode cX11_isNearer 112 = .ok (.getfield 102, 3) := by decide +kernel
theorem dX11_isNearer_115 : decode cX11_isNearer 115 = .ok (.iload_n 3, 1) := by decide +kernel
theorem dX11_isNearer_116 : decode cX11_isNearer 116 = .ok (.iload 5, 2) := by decide +kernel
theorem dX11_isNearer_118 : decode cX11_isNearer 118 = .ok (.iastore, 1) := by decide +kernel
theorem dX11_isNearer_119 : decode cX11_isNearer 119 = .ok (.iconst 1, 1) := by decide +kernel
theorem dX11_isNearer_120 : decode cX11_isNearer 120 = .ok (.ireturn, 1) := by decide +kernel
theorem dX11_closes_0 : decode cX11_closes 0 = .ok (.iconst 1, 1) := by decide +kernel
theorem dX11_closes_1 : decode cX11_closes 1 = .ok (.istore_n 1, 1) := by decide +kernel
theorem dX11_closes_2 : decode cX11_closes 2 = .ok (.iload_n 1, 1) := by decide +kernel
theorem dX11_closes_3 : decode cX11_closes 3 = .ok (.ifCond .eq 80, 3) := by decide +kernel
theorem dX11_closes_6 : decode cX11_closes 6 = .ok (.iconst 0, 1) := by decide +kernel
theorem dX11_closes_7 : decode cX11_closes 7 = .ok (.istore_n 1, 1) := by decide +kernel
theorem dX11_closes_8 : decode cX11_closes 8 = .ok (.iconst 0, 1) := by decide +kernel
theorem dX11_closes_9 : decode cX11_closes 9 = .ok (.istore_n 2, 1) := by decide +kernel
theorem dX11_closes_10 : decode cX11_closes 10 = .ok (.iload_n 2, 1) := by decide +kernel
theorem dX11_closes_11 : decode cX11_closes 11 = .ok (.aload_n 0, 1) := by decide +kernel
theorem dX11_closes_12 : decode cX11_closes 12 = .ok (.getfield 243, 3) := by decide +kernel
theorem dX11_closes_15 : decode cX11_closes 15 = .ok (.if_icmp .ge 65, 3) := by decide +kernel
theorem dX11_closes_18 : decode cX11_closes 18 = .ok (.aload_n 0, 1) := by decide +kernel
theorem dX11_closes_19 : decode cX11_closes 19 = .ok (.getfield 90, 3) := by decide +kernel
theorem dX11_closes_22 : decode cX11_closes 22 = .ok (.iload_n 2, 1) := by decide +kernel
theorem dX11_closes_23 : decode cX11_closes 23 = .ok (.iaload, 1) := by decide +kernel
theorem dX11_closes_24 : decode cX11_closes 24 = .ok (.bipush 8, 2) := by decide +kernel
theorem dX11_closes_26 : decode cX11_closes 26 = .ok (.if_icmp .ne 48, 3) := by decide +kernel
theorem dX11_closes_29 : decode cX11_closes 29 = .ok (.aload_n 0, 1) := by decide +kernel
theorem dX11_closes_30 : decode cX11_closes 30 = .ok (.getfield 105, 3) := by decide +kernel
theorem dX11_closes_33 : decode cX11_closes 33 = .ok (.aload_n 0, 1) := by decide +kernel
theorem dX11_closes_34 : decode cX11_closes 34 = .ok (.getfield 84, 3) := by decide +kernel
theorem dX11_closes_37 : decode cX11_closes 37 = .ok (.iload_n 2, 1) := by decide +kernel
theorem dX11_closes_38 : decode cX11_closes 38 = .ok (.iaload, 1) := by decide +kernel
theorem dX11_closes_39 : decode cX11_closes 39 = .ok (.baload, 1) := by decide +kernel
theorem dX11_closes_40 : decode cX11_closes 40 = .ok (.ifCond .eq 34, 3) := by decide +kernel
theorem dX11_closes_43 : decode cX11_closes 43 = .ok (.aload_n 0, 1) := by decide +kernel
theorem dX11_closes_44 : decode cX11_closes 44 = .ok (.getfield 105, 3) := by decide +kernel
theorem dX11_closes_47 : decode cX11_closes 47 = .ok (.aload_n 0, 1) := by decide +kernel
theorem dX11_closes_48 : decode cX11_closes 48 = .ok (.getfield 87, 3) := by decide +kernel
theorem dX11_closes_51 : decode cX11_closes 51 = .ok (.iload_n 2, 1) := by decide +kernel
theorem dX11_closes_52 : decode cX11_closes 52 = .ok (.iaload, 1) := by decide +kernel
theorem dX11_closes_53 : decode cX11_closes 53 = .ok (.baload, 1) := by decide +kernel
theorem dX11_closes_54 : decode cX11_closes 54 = .ok (.ifCond .eq 6, 3) := by decide +kernel
theorem dX11_closes_57 : decode cX11_closes 57 = .ok (.goto 17, 3) := by decide +kernel
theorem dX11_closes_60 : decode cX11_closes 60 = .ok (.aload_n 0, 1) := by decide +kernel
theorem dX11_closes_61 : decode cX11_closes 61 = .ok (.getfield 105, 3) := by decide +kernel
theorem dX11_closes_64 : decode cX11_closes 64 = .ok (.aload_n 0, 1) := by decide +kernel
theorem dX11_closes_65 : decode cX11_closes 65 = .ok (.getfield 87, 3) := by decide +kernel
theorem dX11_closes_68 : decode cX11_closes 68 = .ok (.iload_n 2, 1) := by decide +kernel
theorem dX11_closes_69 : decode cX11_closes 69 = .ok (.iaload, 1) := by decide +kernel
theorem dX11_closes_70 : decode cX11_closes 70 = .ok (.iconst 1, 1) := by decide +kernel
theorem dX11_closes_71 : decode cX11_closes 71 = .ok (.bastore, 1) := by decide +kernel
theorem dX11_closes_72 : decode cX11_closes 72 = .ok (.iconst 1, 1) := by decide +kernel
theorem dX11_closes_73 : decode cX11_closes 73 = .ok (.istore_n 1, 1) := by decide +kernel
theorem dX11_closes_74 : decode cX11_closes 74 = .ok (.iinc 2 1, 3) := by decide +kernel
theorem dX11_closes_77 : decode cX11_closes 77 = .ok (.goto (-67), 3) := by decide +kernel
theorem dX11_closes_80 : decode cX11_closes 80 = .ok (.goto (-78), 3) := by decide +kernel
theorem dX11_closes_83 : decode cX11_closes 83 = .ok (.return_, 1) := by decide +kernel
theorem dX11_leads_0 : decode cX11_leads 0 = .ok (.iconst 0, 1) := by decide +kernel
theorem dX11_leads_1 : decode cX11_leads 1 = .ok (.istore 4, 2) := by decide +kernel
theorem dX11_leads_3 : decode cX11_leads 3 = .ok (.iload 4, 2) := by decide +kernel
theorem dX11_leads_5 : decode cX11_leads 5 = .ok (.aload_n 0, 1) := by decide +kernel
theorem dX11_leads_6 : decode cX11_leads 6 = .ok (.getfield 243, 3) := by decide +kernel
theorem dX11_leads_9 : decode cX11_leads 9 = .ok (.if_icmp .ge 90, 3) := by decide +kernel
theorem dX11_leads_12 : decode cX11_leads 12 = .ok (.aload_n 0, 1) := by decide +kernel
theorem dX11_leads_13 : decode cX11_leads 13 = .ok (.getfield 90, 3) := by decide +kernel
theorem dX11_leads_16 : decode cX11_leads 16 = .ok (.iload 4, 2) := by decide +kernel
theorem dX11_leads_18 : decode cX11_leads 18 = .ok (.iaload, 1) := by decide +kernel
theorem dX11_leads_19 : decode cX11_leads 19 = .ok (.iload_n 1, 1) := by decide +kernel
theorem dX11_leads_20 : decode cX11_leads 20 = .ok (.if_icmp .ne 73, 3) := by decide +kernel
theorem dX11_leads_23 : decode cX11_leads 23 = .ok (.aload_n 0, 1) := by decide +kernel
theorem dX11_leads_24 : decode cX11_leads 24 = .ok (.getfield 105, 3) := by decide +kernel
theorem dX11_leads_27 : decode cX11_leads 27 = .ok (.aload_n 0, 1) := by decide +kernel
theorem dX11_leads_28 : decode cX11_leads 28 = .ok (.getfield 84, 3) := by decide +kernel
theorem dX11_leads_31 : decode cX11_leads 31 = .ok (.iload 4, 2) := by decide +kernel
theorem dX11_leads_33 : decode cX11_leads 33 = .ok (.iaload, 1) := by decide +kernel
theorem dX11_leads_34 : decode cX11_leads 34 = .ok (.baload, 1) := by decide +kernel
theorem dX11_leads_35 : decode cX11_leads 35 = .ok (.ifCond .ne 6, 3) := by decide +kernel
theorem dX11_leads_38 : decode cX11_leads 38 = .ok (.goto 55, 3) := by decide +kernel
theorem dX11_leads_41 : decode cX11_leads 41 = .ok (.aload_n 0, 1) := by decide +kernel
theorem dX11_leads_42 : decode cX11_leads 42 = .ok (.getfield 65, 3) := by decide +kernel
theorem dX11_leads_45 : decode cX11_leads 45 = .ok (.bipush 8, 2) := by decide +kernel
theorem dX11_leads_47 : decode cX11_leads 47 = .ok (.iload_n 2, 1) := by decide +kernel
theorem dX11_leads_48 : decode cX11_leads 48 = .ok (.imul, 1) := by decide +kernel
theorem dX11_leads_49 : decode cX11_leads 49 = .ok (.iload_n 1, 1) := by decide +kernel
theorem dX11_leads_50 : decode cX11_leads 50 = .ok (.iadd, 1) := by decide +kernel
theorem dX11_leads_51 : decode cX11_leads 51 = .ok (.iaload, 1) := by decide +kernel
theorem dX11_leads_52 : decode cX11_leads 52 = .ok (.istore 5, 2) := by decide +kernel
theorem dX11_leads_54 : decode cX11_leads 54 = .ok (.iload 5, 2) := by decide +kernel
theorem dX11_leads_56 : decode cX11_leads 56 = .ok (.ifCond .ge 11, 3) := by decide +kernel
theorem dX11_leads_59 : decode cX11_leads 59 = .ok (.iload_n 3, 1) := by decide +kernel
theorem dX11_leads_60 : decode cX11_leads 60 = .ok (.iconst 1, 1) := by decide +kernel
theorem dX11_leads_61 : decode cX11_leads 61 = .ok (.if_icmp .ne 32, 3) := by decide +kernel
theorem dX11_leads_64 : decode cX11_leads 64 = .ok (.goto 27, 3) := by decide +kernel
theorem dX11_leads_67 : decode cX11_leads 67 = .ok (.iconst 1, 1) := by decide +kernel
theorem dX11_leads_68 : decode cX11_leads 68 = .ok (.aload_n 0, 1) := by decide +kernel
theorem dX11_leads_69 : decode cX11_leads 69 = .ok (.getfield 102, 3) := by decide +kernel
theorem dX11_leads_72 : decode cX11_leads 72 = .ok (.aload_n 0, 1) := by decide +kernel
theorem dX11_leads_73 : decode cX11_leads 73 = .ok (.getfield 87, 3) := by decide +kernel
theorem dX11_leads_76 : decode cX11_leads 76 = .ok (.iload 4, 2) := by decide +kernel
theorem dX11_leads_78 : decode cX11_leads 78 = .ok (.iaload, 1) := by decide +kernel
theorem dX11_leads_79 : decode cX11_leads 79 = .ok (.bipush 30, 2) := by decide +kernel
theorem dX11_leads_81 : decode cX11_leads 81 = .ok (.imul, 1) := by decide +kernel
theorem dX11_leads_82 : decode cX11_leads 82 = .ok (.iload 5, 2) := by decide +kernel
theorem dX11_leads_84 : decode cX11_leads 84 = .ok (.iadd, 1) := by decide +kernel
theorem dX11_leads_85 : decode cX11_leads 85 = .ok (.iaload, 1) := by decide +kernel
theorem dX11_leads_86 : decode cX11_leads 86 = .ok (.iadd, 1) := by decide +kernel
theorem dX11_leads_87 : decode cX11_leads 87 = .ok (.iload_n 3, 1) := by decide +kernel
theorem dX11_leads_88 : decode cX11_leads 88 = .ok (.if_icmp .ne 5, 3) := by decide +kernel
theorem dX11_leads_91 : decode cX11_leads 91 = .ok (.iconst 1, 1) := by decide +kernel
theorem dX11_leads_92 : decode cX11_leads 92 = .ok (.ireturn, 1) := by decide +kernel
theorem dX11_leads_93 : decode cX11_leads 93 = .ok (.iinc 4 1, 3) := by decide +kernel
theorem dX11_leads_96 : decode cX11_leads 96 = .ok (.goto (-93), 3) := by decide +kernel
theorem dX11_leads_99 : decode cX11_leads 99 = .ok (.iconst 0, 1) := by decide +kernel
theorem dX11_leads_100 : decode cX11_leads 100 = .ok (.ireturn, 1) := by decide +kernel
theorem dX11_goesOn_0 : decode cX11_goesOn 0 = .ok (.iconst 0, 1) := by decide +kernel
theorem dX11_goesOn_1 : decode cX11_goesOn 1 = .ok (.istore_n 3, 1) := by decide +kernel
theorem dX11_goesOn_2 : decode cX11_goesOn 2 = .ok (.iload_n 3, 1) := by decide +kernel
theorem dX11_goesOn_3 : decode cX11_goesOn 3 = .ok (.aload_n 0, 1) := by decide +kernel
theorem dX11_goesOn_4 : decode cX11_goesOn 4 = .ok (.getfield 246, 3) := by decide +kernel
theorem dX11_goesOn_7 : decode cX11_goesOn 7 = .ok (.if_icmp .ge 16, 3) := by decide +kernel
theorem dX11_goesOn_10 : decode cX11_goesOn 10 = .ok (.aload_n 0, 1) := by decide +kernel
theorem dX11_goesOn_11 : decode cX11_goesOn 11 = .ok (.getfield 108, 3) := by decide +kernel
theorem dX11_goesOn_14 : decode cX11_goesOn 14 = .ok (.iload_n 3, 1) := by decide +kernel
theorem dX11_goesOn_15 : decode cX11_goesOn 15 = .ok (.iconst 0, 1) := by decide +kernel
theorem dX11_goesOn_16 : decode cX11_goesOn 16 = .ok (.bastore, 1) := by decide +kernel
theorem dX11_goesOn_17 : decode cX11_goesOn 17 = .ok (.iinc 3 1, 3) := by decide +kernel
theorem dX11_goesOn_20 : decode cX11_goesOn 20 = .ok (.goto (-18), 3) := by decide +kernel
theorem dX11_goesOn_23 : decode cX11_goesOn 23 = .ok (.iconst 0, 1) := by decide +kernel
theorem dX11_goesOn_24 : decode cX11_goesOn 24 = .ok (.istore_n 3, 1) := by decide +kernel
theorem dX11_goesOn_25 : decode cX11_goesOn 25 = .ok (.iload_n 3, 1) := by decide +kernel
theorem dX11_goesOn_26 : decode cX11_goesOn 26 = .ok (.aload_n 0, 1) := by decide +kernel
theorem dX11_goesOn_27 : decode cX11_goesOn 27 = .ok (.getfield 243, 3) := by decide +kernel
theorem dX11_goesOn_30 : decode cX11_goesOn 30 = .ok (.if_icmp .ge 45, 3) := by decide +kernel
theorem dX11_goesOn_33 : decode cX11_goesOn 33 = .ok (.aload_n 0, 1) := by decide +kernel
theorem dX11_goesOn_34 : decode cX11_goesOn 34 = .ok (.getfield 90, 3) := by decide +kernel
theorem dX11_goesOn_37 : decode cX11_goesOn 37 = .ok (.iload_n 3, 1) := by decide +kernel
theorem dX11_goesOn_38 : decode cX11_goesOn 38 = .ok (.iaload, 1) := by decide +kernel
theorem dX11_goesOn_39 : decode cX11_goesOn 39 = .ok (.iload_n 1, 1) := by decide +kernel
theorem dX11_goesOn_40 : decode cX11_goesOn 40 = .ok (.if_icmp .ne 29, 3) := by decide +kernel
theorem dX11_goesOn_43 : decode cX11_goesOn 43 = .ok (.aload_n 0, 1) := by decide +kernel
theorem dX11_goesOn_44 : decode cX11_goesOn 44 = .ok (.getfield 105, 3) := by decide +kernel
theorem dX11_goesOn_47 : decode cX11_goesOn 47 = .ok (.aload_n 0, 1) := by decide +kernel
theorem dX11_goesOn_48 : decode cX11_goesOn 48 = .ok (.getfield 84, 3) := by decide +kernel
theorem dX11_goesOn_51 : decode cX11_goesOn 51 = .ok (.iload_n 3, 1) := by decide +kernel
theorem dX11_goesOn_52 : decode cX11_goesOn 52 = .ok (.iaload, 1) := by decide +kernel
theorem dX11_goesOn_53 : decode cX11_goesOn 53 = .ok (.baload, 1) := by decide +kernel
theorem dX11_goesOn_54 : decode cX11_goesOn 54 = .ok (.ifCond .eq 15, 3) := by decide +kernel
theorem dX11_goesOn_57 : decode cX11_goesOn 57 = .ok (.aload_n 0, 1) := by decide +kernel
theorem dX11_goesOn_58 : decode cX11_goesOn 58 = .ok (.getfield 108, 3) := by decide +kernel
theorem dX11_goesOn_61 : decode cX11_goesOn 61 = .ok (.aload_n 0, 1) := by decide +kernel
theorem dX11_goesOn_62 : decode cX11_goesOn 62 = .ok (.getfield 87, 3) := by decide +kernel
theorem dX11_goesOn_65 : decode cX11_goesOn 65 = .ok (.iload_n 3, 1) := by decide +kernel
theorem dX11_goesOn_66 : decode cX11_goesOn 66 = .ok (.iaload, 1) := by decide +kernel
theorem dX11_goesOn_67 : decode cX11_goesOn 67 = .ok (.iconst 1, 1) := by decide +kernel
theorem dX11_goesOn_68 : decode cX11_goesOn 68 = .ok (.bastore, 1) := by decide +kernel
theorem dX11_goesOn_69 : decode cX11_goesOn 69 = .ok (.iinc 3 1, 3) := by decide +kernel
theorem dX11_goesOn_72 : decode cX11_goesOn 72 = .ok (.goto (-47), 3) := by decide +kernel
theorem dX11_goesOn_75 : decode cX11_goesOn 75 = .ok (.iconst 0, 1) := by decide +kernel
theorem dX11_goesOn_76 : decode cX11_goesOn 76 = .ok (.istore_n 3, 1) := by decide +kernel
theorem dX11_goesOn_77 : decode cX11_goesOn 77 = .ok (.iload_n 3, 1) := by decide +kernel
theorem dX11_goesOn_78 : decode cX11_goesOn 78 = .ok (.aload_n 0, 1) := by decide +kernel
theorem dX11_goesOn_79 : decode cX11_goesOn 79 = .ok (.getfield 246, 3) := by decide +kernel
theorem dX11_goesOn_82 : decode cX11_goesOn 82 = .ok (.if_icmp .ge 21, 3) := by decide +kernel
theorem dX11_goesOn_85 : decode cX11_goesOn 85 = .ok (.aload_n 0, 1) := by decide +kernel
theorem dX11_goesOn_86 : decode cX11_goesOn 86 = .ok (.getfield 105, 3) := by decide +kernel
theorem dX11_goesOn_89 : decode cX11_goesOn 89 = .ok (.iload_n 3, 1) := by decide +kernel
theorem dX11_goesOn_90 : decode cX11_goesOn 90 = .ok (.aload_n 0, 1) := by decide +kernel
theorem dX11_goesOn_91 : decode cX11_goesOn 91 = .ok (.getfield 108, 3) := by decide +kernel
theorem dX11_goesOn_94 : decode cX11_goesOn 94 = .ok (.iload_n 3, 1) := by decide +kernel
theorem dX11_goesOn_95 : decode cX11_goesOn 95 = .ok (.baload, 1) := by decide +kernel
theorem dX11_goesOn_96 : decode cX11_goesOn 96 = .ok (.bastore, 1) := by decide +kernel
theorem dX11_goesOn_97 : decode cX11_goesOn 97 = .ok (.iinc 3 1, 3) := by decide +kernel
theorem dX11_goesOn_100 : decode cX11_goesOn 100 = .ok (.goto (-23), 3) := by decide +kernel
theorem dX11_goesOn_103 : decode cX11_goesOn 103 = .ok (.aload_n 0, 1) := by decide +kernel
theorem dX11_goesOn_104 : decode cX11_goesOn 104 = .ok (.getfield 65, 3) := by decide +kernel
theorem dX11_goesOn_107 : decode cX11_goesOn 107 = .ok (.bipush 8, 2) := by decide +kernel
theorem dX11_goesOn_109 : decode cX11_goesOn 109 = .ok (.iload_n 2, 1) := by decide +kernel
theorem dX11_goesOn_110 : decode cX11_goesOn 110 = .ok (.imul, 1) := by decide +kernel
theorem dX11_goesOn_111 : decode cX11_goesOn 111 = .ok (.iload_n 1, 1) := by decide +kernel
theorem dX11_goesOn_112 : decode cX11_goesOn 112 = .ok (.iadd, 1) := by decide +kernel
theorem dX11_goesOn_113 : decode cX11_goesOn 113 = .ok (.iaload, 1) := by decide +kernel
theorem dX11_goesOn_114 : decode cX11_goesOn 114 = .ok (.ireturn, 1) := by decide +kernel
theorem dX11_breaksOn_0 : decode cX11_breaksOn 0 = .ok (.aload_n 0, 1) := by decide +kernel
theorem dX11_breaksOn_1 : decode cX11_breaksOn 1 = .ok (.getfield 252, 3) := by decide +kernel
theorem dX11_breaksOn_4 : decode cX11_breaksOn 4 = .ok (.aload_n 0, 1) := by decide +kernel
theorem dX11_breaksOn_5 : decode cX11_breaksOn 5 = .ok (.getfield 111, 3) := by decide +kernel
theorem dX11_breaksOn_8 : decode cX11_breaksOn 8 = .ok (.arraylength, 1) := by decide +kernel
theorem dX11_breaksOn_9 : decode cX11_breaksOn 9 = .ok (.if_icmp .ne 43, 3) := by decide +kernel
theorem dX11_breaksOn_12 : decode cX11_breaksOn 12 = .ok (.iconst 2, 1) := by decide +kernel
theorem dX11_breaksOn_13 : decode cX11_breaksOn 13 = .ok (.aload_n 0, 1) := by decide +kernel
theorem dX11_breaksOn_14 : decode cX11_breaksOn 14 = .ok (.getfield 111, 3) := by decide +kernel
theorem dX11_breaksOn_17 : decode cX11_breaksOn 17 = .ok (.arraylength, 1) := by decide +kernel
theorem dX11_breaksOn_18 : decode cX11_breaksOn 18 = .ok (.imul, 1) := by decide +kernel
theorem dX11_breaksOn_19 : decode cX11_breaksOn 19 = .ok (.newarray .int, 2) := by decide +kernel
theorem dX11_breaksOn_21 : decode cX11_breaksOn 21 = .ok (.astore_n 2, 1) := by decide +kernel
theorem dX11_breaksOn_22 : decode cX11_breaksOn 22 = .ok (.iconst 0, 1) := by decide +kernel
theorem dX11_breaksOn_23 : decode cX11_breaksOn 23 = .ok (.istore_n 3, 1) := by decide +kernel
theorem dX11_breaksOn_24 : decode cX11_breaksOn 24 = .ok (.iload_n 3, 1) := by decide +kernel
theorem dX11_breaksOn_25 : decode cX11_breaksOn 25 = .ok (.aload_n 0, 1) := by decide +kernel
theorem dX11_breaksOn_26 : decode cX11_breaksOn 26 = .ok (.getfield 252, 3) := by decide +kernel
theorem dX11_breaksOn_29 : decode cX11_breaksOn 29 = .ok (.if_icmp .ge 18, 3) := by decide +kernel
theorem dX11_breaksOn_32 : decode cX11_breaksOn 32 = .ok (.aload_n 2, 1) := by decide +kernel
theorem dX11_breaksOn_33 : decode cX11_breaksOn 33 = .ok (.iload_n 3, 1) := by decide +kernel
theorem dX11_breaksOn_34 : decode cX11_breaksOn 34 = .ok (.aload_n 0, 1) := by decide +kernel
theorem dX11_breaksOn_35 : decode cX11_breaksOn 35 = .ok (.getfield 111, 3) := by decide +kernel
theorem dX11_breaksOn_38 : decode cX11_breaksOn 38 = .ok (.iload_n 3, 1) := by decide +kernel
theorem dX11_breaksOn_39 : decode cX11_breaksOn 39 = .ok (.iaload, 1) := by decide +kernel
theorem dX11_breaksOn_40 : decode cX11_breaksOn 40 = .ok (.iastore, 1) := by decide +kernel
theorem dX11_breaksOn_41 : decode cX11_breaksOn 41 = .ok (.iinc 3 1, 3) := by decide +kernel
theorem dX11_breaksOn_44 : decode cX11_breaksOn 44 = .ok (.goto (-20), 3) := by decide +kernel
theorem dX11_breaksOn_47 : decode cX11_breaksOn 47 = .ok (.aload_n 0, 1) := by decide +kernel
theorem dX11_breaksOn_48 : decode cX11_breaksOn 48 = .ok (.aload_n 2, 1) := by decide +kernel
theorem dX11_breaksOn_49 : decode cX11_breaksOn 49 = .ok (.putfield 111, 3) := by decide +kernel
theorem dX11_breaksOn_52 : decode cX11_breaksOn 52 = .ok (.aload_n 0, 1) := by decide +kernel
theorem dX11_breaksOn_53 : decode cX11_breaksOn 53 = .ok (.getfield 111, 3) := by decide +kernel
theorem dX11_breaksOn_56 : decode cX11_breaksOn 56 = .ok (.aload_n 0, 1) := by decide +kernel
theorem dX11_breaksOn_57 : decode cX11_breaksOn 57 = .ok (.getfield 252, 3) := by decide +kernel
theorem dX11_breaksOn_60 : decode cX11_breaksOn 60 = .ok (.iload_n 1, 1) := by decide +kernel
theorem dX11_breaksOn_61 : decode cX11_breaksOn 61 = .ok (.iastore, 1) := by decide +kernel
theorem dX11_breaksOn_62 : decode cX11_breaksOn 62 = .ok (.aload_n 0, 1) := by decide +kernel
theorem dX11_breaksOn_63 : decode cX11_breaksOn 63 = .ok (.dup, 1) := by decide +kernel
theorem dX11_breaksOn_64 : decode cX11_breaksOn 64 = .ok (.getfield 252, 3) := by decide +kernel
theorem dX11_breaksOn_67 : decode cX11_breaksOn 67 = .ok (.iconst 1, 1) := by decide +kernel
theorem dX11_breaksOn_68 : decode cX11_breaksOn 68 = .ok (.iadd, 1) := by decide +kernel
theorem dX11_breaksOn_69 : decode cX11_breaksOn 69 = .ok (.putfield 252, 3) := by decide +kernel
theorem dX11_breaksOn_72 : decode cX11_breaksOn 72 = .ok (.return_, 1) := by decide +kernel
theorem dX11_broken_0 : decode cX11_broken 0 = .ok (.aload_n 0, 1) := by decide +kernel
theorem dX11_broken_1 : decode cX11_broken 1 = .ok (.iconst 0, 1) := by decide +kernel
theorem dX11_broken_2 : decode cX11_broken 2 = .ok (.putfield 133, 3) := by decide +kernel
theorem dX11_broken_5 : decode cX11_broken 5 = .ok (.iload_n 1, 1) := by decide +kernel
theorem dX11_broken_6 : decode cX11_broken 6 = .ok (.ifCond .lt 20, 3) := by decide +kernel
theorem dX11_broken_9 : decode cX11_broken 9 = .ok (.iload_n 1, 1) := by decide +kernel
theorem dX11_broken_10 : decode cX11_broken 10 = .ok (.aload_n 0, 1) := by decide +kernel
theorem dX11_broken_11 : decode cX11_broken 11 = .ok (.getfield 252, 3) := by decide +kernel
theorem dX11_broken_14 : decode cX11_broken 14 = .ok (.if_icmp .ge 12, 3) := by decide +kernel
theorem dX11_broken_17 : decode cX11_broken 17 = .ok (.aload_n 0, 1) := by decide +kernel
theorem dX11_broken_18 : decode cX11_broken 18 = .ok (.getfield 111, 3) := by decide +kernel
theorem dX11_broken_21 : decode cX11_broken 21 = .ok (.iload_n 1, 1) := by decide +kernel
theorem dX11_broken_22 : decode cX11_broken 22 = .ok (.iaload, 1) := by decide +kernel
theorem dX11_broken_23 : decode cX11_broken 23 = .ok (.goto 4, 3) := by decide +kernel
theorem dX11_broken_26 : decode cX11_broken 26 = .ok (.iconst (-1), 1) := by decide +kernel
theorem dX11_broken_27 : decode cX11_broken 27 = .ok (.ireturn, 1) := by decide +kernel
theorem dX11_mend_0 : decode cX11_mend 0 = .ok (.aload_n 0, 1) := by decide +kernel
theorem dX11_mend_1 : decode cX11_mend 1 = .ok (.iconst 0, 1) := by decide +kernel
theorem dX11_mend_2 : decode cX11_mend 2 = .ok (.putfield 133, 3) := by decide +kernel
theorem dX11_mend_5 : decode cX11_mend 5 = .ok (.aload_n 0, 1) := by decide +kernel
theorem dX11_mend_6 : decode cX11_mend 6 = .ok (.getfield 144, 3) := by decide +kernel
theorem dX11_mend_9 : decode cX11_mend 9 = .ok (.istore_n 1, 1) := by decide +kernel
theorem dX11_mend_10 : decode cX11_mend 10 = .ok (.iconst 0, 1) := by decide +kernel
theorem dX11_mend_11 : decode cX11_mend 11 = .ok (.istore_n 2, 1) := by decide +kernel
theorem dX11_mend_12 : decode cX11_mend 12 = .ok (.iload_n 2, 1) := by decide +kernel
theorem dX11_mend_13 : decode cX11_mend 13 = .ok (.aload_n 0, 1) := by decide +kernel
theorem dX11_mend_14 : decode cX11_mend 14 = .ok (.getfield 126, 3) := by decide +kernel
theorem dX11_mend_17 : decode cX11_mend 17 = .ok (.if_icmp .ge 21, 3) := by decide +kernel
theorem dX11_mend_20 : decode cX11_mend 20 = .ok (.aload_n 0, 1) := by decide +kernel
theorem dX11_mend_21 : decode cX11_mend 21 = .ok (.getfield 114, 3) := by decide +kernel
theorem dX11_mend_24 : decode cX11_mend 24 = .ok (.bipush 30, 2) := by decide +kernel
theorem dX11_mend_26 : decode cX11_mend 26 = .ok (.iload_n 1, 1) := by decide +kernel
theorem dX11_mend_27 : decode cX11_mend 27 = .ok (.imul, 1) := by decide +kernel
theorem dX11_mend_28 : decode cX11_mend 28 = .ok (.iload_n 2, 1) := by decide +kernel
theorem dX11_mend_29 : decode cX11_mend 29 = .ok (.iadd, 1) := by decide +kernel
theorem dX11_mend_30 : decode cX11_mend 30 = .ok (.iconst 0, 1) := by decide +kernel
theorem dX11_mend_31 : decode cX11_mend 31 = .ok (.iastore, 1) := by decide +kernel
theorem dX11_mend_32 : decode cX11_mend 32 = .ok (.iinc 2 1, 3) := by decide +kernel
theorem dX11_mend_35 : decode cX11_mend 35 = .ok (.goto (-23), 3) := by decide +kernel
theorem dX11_mend_38 : decode cX11_mend 38 = .ok (.iload_n 1, 1) := by decide +kernel
theorem dX11_mend_39 : decode cX11_mend 39 = .ok (.iconst 1, 1) := by decide +kernel
theorem dX11_mend_40 : decode cX11_mend 40 = .ok (.isub, 1) := by decide +kernel
theorem dX11_mend_41 : decode cX11_mend 41 = .ok (.istore_n 2, 1) := by decide +kernel
theorem dX11_mend_42 : decode cX11_mend 42 = .ok (.iload_n 2, 1) := by decide +kernel
theorem dX11_mend_43 : decode cX11_mend 43 = .ok (.ifCond .lt 239, 3) := by decide +kernel
theorem dX11_mend_46 : decode cX11_mend 46 = .ok (.iconst 0, 1) := by decide +kernel
theorem dX11_mend_47 : decode cX11_mend 47 = .ok (.istore_n 3, 1) := by decide +kernel
theorem dX11_mend_48 : decode cX11_mend 48 = .ok (.iload_n 3, 1) := by decide +kernel
theorem dX11_mend_49 : decode cX11_mend 49 = .ok (.aload_n 0, 1) := by decide +kernel
theorem dX11_mend_50 : decode cX11_mend 50 = .ok (.getfield 126, 3) := by decide +kernel
theorem dX11_mend_53 : decode cX11_mend 53 = .ok (.if_icmp .ge 98, 3) := by decide +kernel
theorem dX11_mend_56 : decode cX11_mend 56 = .ok (.aload_n 0, 1) := by decide +kernel
theorem dX11_mend_57 : decode cX11_mend 57 = .ok (.getfield 65, 3) := by decide +kernel
theorem dX11_mend_60 : decode cX11_mend 60 = .ok (.bipush 8, 2) := by decide +kernel
theorem dX11_mend_62 : decode cX11_mend 62 = .ok (.iload_n 3, 1) := by decide +kernel
theorem dX11_mend_63 : decode cX11_mend 63 = .ok (.imul, 1) := by decide +kernel
theorem dX11_mend_64 : decode cX11_mend 64 = .ok (.aload_n 0, 1) := by decide +kernel
theorem dX11_mend_65 : decode cX11_mend 65 = .ok (.getfield 9, 3) := by decide +kernel
theorem dX11_mend_68 : decode cX11_mend 68 = .ok (.iload_n 2, 1) := by decide +kernel
theorem dX11_mend_69 : decode cX11_mend 69 = .ok (.iaload, 1) := by decide +kernel
theorem dX11_mend_70 : decode cX11_mend 70 = .ok (.iadd, 1) := by decide +kernel
theorem dX11_mend_71 : decode cX11_mend 71 = .ok (.iaload, 1) := by decide +kernel
theorem dX11_mend_72 : decode cX11_mend 72 = .ok (.istore 4, 2) := by decide +kernel
theorem dX11_mend_74 : decode cX11_mend 74 = .ok (.iconst 1, 1) := by decide +kernel
theorem dX11_mend_75 : decode cX11_mend 75 = .ok (.aload_n 0, 1) := by decide +kernel
theorem dX11_mend_76 : decode cX11_mend 76 = .ok (.getfield 114, 3) := by decide +kernel
theorem dX11_mend_79 : decode cX11_mend 79 = .ok (.bipush 30, 2) := by decide +kernel
theorem dX11_mend_81 : decode cX11_mend 81 = .ok (.iload_n 2, 1) := by decide +kernel
theorem dX11_mend_82 : decode cX11_mend 82 = .ok (.iconst 1, 1) := by decide +kernel
theorem dX11_mend_83 : decode cX11_mend 83 = .ok (.iadd, 1) := by decide +kernel
theorem dX11_mend_84 : decode cX11_mend 84 = .ok (.imul, 1) := by decide +kernel
theorem dX11_mend_85 : decode cX11_mend 85 = .ok (.iload_n 3, 1) := by decide +kernel
theorem dX11_mend_86 : decode cX11_mend 86 = .ok (.iadd, 1) := by decide +kernel
theorem dX11_mend_87 : decode cX11_mend 87 = .ok (.iaload, 1) := by decide +kernel
theorem dX11_mend_88 : decode cX11_mend 88 = .ok (.iadd, 1) := by decide +kernel
theorem dX11_mend_89 : decode cX11_mend 89 = .ok (.istore 5, 2) := by decide +kernel
theorem dX11_mend_91 : decode cX11_mend 91 = .ok (.aload_n 0, 1) := by decide +kernel
theorem dX11_mend_92 : decode cX11_mend 92 = .ok (.getfield 114, 3) := by decide +kernel
theorem dX11_mend_95 : decode cX11_mend 95 = .ok (.bipush 30, 2) := by decide +kernel
theorem dX11_mend_97 : decode cX11_mend 97 = .ok (.iload_n 2, 1) := by decide +kernel
theorem dX11_mend_98 : decode cX11_mend 98 = .ok (.imul, 1) := by decide +kernel
theorem dX11_mend_99 : decode cX11_mend 99 = .ok (.iload_n 3, 1) := by decide +kernel
theorem dX11_mend_100 : decode cX11_mend 100 = .ok (.iadd, 1) := by decide +kernel
theorem dX11_mend_101 : decode cX11_mend 101 = .ok (.iload 4, 2) := by decide +kernel
theorem dX11_mend_103 : decode cX11_mend 103 = .ok (.ifCond .lt 39, 3) := by decide +kernel
theorem dX11_mend_106 : decode cX11_mend 106 = .ok (.aload_n 0, 1) := by decide +kernel
theorem dX11_mend_107 : decode cX11_mend 107 = .ok (.getfield 114, 3) := by decide +kernel
theorem dX11_mend_110 : decode cX11_mend 110 = .ok (.bipush 30, 2) := by decide +kernel
theorem dX11_mend_112 : decode cX11_mend 112 = .ok (.iload_n 2, 1) := by decide +kernel
theorem dX11_mend_113 : decode cX11_mend 113 = .ok (.iconst 1, 1) := by decide +kernel
theorem dX11_mend_114 : decode cX11_mend 114 = .ok (.iadd, 1) := by decide +kernel
theorem dX11_mend_115 : decode cX11_mend 115 = .ok (.imul, 1) := by decide +kernel
theorem dX11_mend_116 : decode cX11_mend 116 = .ok (.iload 4, 2) := by decide +kernel
theorem dX11_mend_118 : decode cX11_mend 118 = .ok (.iadd, 1) := by decide +kernel
theorem dX11_mend_119 : decode cX11_mend 119 = .ok (.iaload, 1) := by decide +kernel
theorem dX11_mend_120 : decode cX11_mend 120 = .ok (.iload 5, 2) := by decide +kernel
theorem dX11_mend_122 : decode cX11_mend 122 = .ok (.if_icmp .ge 20, 3) := by decide +kernel
theorem dX11_mend_125 : decode cX11_mend 125 = .ok (.aload_n 0, 1) := by decide +kernel
theorem dX11_mend_126 : decode cX11_mend 126 = .ok (.getfield 114, 3) := by decide +kernel
theorem dX11_mend_129 : decode cX11_mend 129 = .ok (.bipush 30, 2) := by decide +kernel
theorem dX11_mend_131 : decode cX11_mend 131 = .ok (.iload_n 2, 1) := by decide +kernel
theorem dX11_mend_132 : decode cX11_mend 132 = .ok (.iconst 1, 1) := by decide +kernel
theorem dX11_mend_133 : decode cX11_mend 133 = .ok (.iadd, 1) := by decide +kernel
theorem dX11_mend_134 : decode cX11_mend 134 = .ok (.imul, 1) := by decide +kernel
theorem dX11_mend_135 : decode cX11_mend 135 = .ok (.iload 4, 2) := by decide +kernel
theorem dX11_mend_137 : decode cX11_mend 137 = .ok (.iadd, 1) := by decide +kernel
theorem dX11_mend_138 : decode cX11_mend 138 = .ok (.iaload, 1) := by decide +kernel
theorem dX11_mend_139 : decode cX11_mend 139 = .ok (.goto 5, 3) := by decide +kernel
theorem dX11_mend_142 : decode cX11_mend 142 = .ok (.iload 5, 2) := by decide +kernel
theorem dX11_mend_144 : decode cX11_mend 144 = .ok (.iastore, 1) := by decide +kernel
theorem dX11_mend_145 : decode cX11_mend 145 = .ok (.iinc 3 1, 3) := by decide +kernel
theorem dX11_mend_148 : decode cX11_mend 148 = .ok (.goto (-100), 3) := by decide +kernel
theorem dX11_mend_151 : decode cX11_mend 151 = .ok (.iconst 1, 1) := by decide +kernel
theorem dX11_mend_152 : decode cX11_mend 152 = .ok (.istore_n 3, 1) := by decide +kernel
theorem dX11_mend_153 : decode cX11_mend 153 = .ok (.iload_n 3, 1) := by decide +kernel
theorem dX11_mend_154 : decode cX11_mend 154 = .ok (.ifCond .eq 122, 3) := by decide +kernel
theorem dX11_mend_157 : decode cX11_mend 157 = .ok (.iconst 0, 1) := by decide +kernel
theorem dX11_mend_158 : decode cX11_mend 158 = .ok (.istore_n 3, 1) := by decide +kernel
theorem dX11_mend_159 : decode cX11_mend 159 = .ok (.iconst 0, 1) := by decide +kernel
theorem dX11_mend_160 : decode cX11_mend 160 = .ok (.istore 4, 2) := by decide +kernel
theorem dX11_mend_162 : decode cX11_mend 162 = .ok (.iload 4, 2) := by decide +kernel
theorem dX11_mend_164 : decode cX11_mend 164 = .ok (.aload_n 0, 1) := by decide +kernel
theorem dX11_mend_165 : decode cX11_mend 165 = .ok (.getfield 126, 3) := by decide +kernel
theorem dX11_mend_168 : decode cX11_mend 168 = .ok (.if_icmp .ge 105, 3) := by decide +kernel
theorem dX11_mend_171 : decode cX11_mend 171 = .ok (.iconst 0, 1) := by decide +kernel
theorem dX11_mend_172 : decode cX11_mend 172 = .ok (.istore 5, 2) := by decide +kernel
theorem dX11_mend_174 : decode cX11_mend 174 = .ok (.iload 5, 2) := by decide +kernel
theorem dX11_mend_176 : decode cX11_mend 176 = .ok (.bipush 8, 2) := by decide +kernel
theorem dX11_mend_178 : decode cX11_mend 178 = .ok (.if_icmp .ge 89, 3) := by decide +kernel
theorem dX11_mend_181 : decode cX11_mend 181 = .ok (.aload_n 0, 1) := by decide +kernel
theorem dX11_mend_182 : decode cX11_mend 182 = .ok (.getfield 65, 3) := by decide +kernel
theorem dX11_mend_185 : decode cX11_mend 185 = .ok (.bipush 8, 2) := by decide +kernel
theorem dX11_mend_187 : decode cX11_mend 187 = .ok (.iload 4, 2) := by decide +kernel
theorem dX11_mend_189 : decode cX11_mend 189 = .ok (.imul, 1) := by decide +kernel
theorem dX11_mend_190 : decode cX11_mend 190 = .ok (.iload 5, 2) := by decide +kernel
theorem dX11_mend_192 : decode cX11_mend 192 = .ok (.iadd, 1) := by decide +kernel
theorem dX11_mend_193 : decode cX11_mend 193 = .ok (.iaload, 1) := by decide +kernel
theorem dX11_mend_194 : decode cX11_mend 194 = .ok (.istore 6, 2) := by decide +kernel
theorem dX11_mend_196 : decode cX11_mend 196 = .ok (.iload 6, 2) := by decide +kernel
theorem dX11_mend_198 : decode cX11_mend 198 = .ok (.ifCond .lt 63, 3) := by decide +kernel
theorem dX11_mend_201 : decode cX11_mend 201 = .ok (.iconst 1, 1) := by decide +kernel
theorem dX11_mend_202 : decode cX11_mend 202 = .ok (.aload_n 0, 1) := by decide +kernel
theorem dX11_mend_203 : decode cX11_mend 203 = .ok (.getfield 114, 3) := by decide +kernel
theorem dX11_mend_206 : decode cX11_mend 206 = .ok (.bipush 30, 2) := by decide +kernel
theorem dX11_mend_208 : decode cX11_mend 208 = .ok (.iload_n 2, 1) := by decide +kernel
theorem dX11_mend_209 : decode cX11_mend 209 = .ok (.imul, 1) := by decide +kernel
theorem dX11_mend_210 : decode cX11_mend 210 = .ok (.iload 6, 2) := by decide +kernel
theorem dX11_mend_212 : decode cX11_mend 212 = .ok (.iadd, 1) := by decide +kernel
theorem dX11_mend_213 : decode cX11_mend 213 = .ok (.iaload, 1) := by decide +kernel
theorem dX11_mend_214 : decode cX11_mend 214 = .ok (.iadd, 1) := by decide +kernel
theorem dX11_mend_215 : decode cX11_mend 215 = .ok (.aload_n 0, 1) := by decide +kernel
theorem dX11_mend_216 : decode cX11_mend 216 = .ok (.getfield 114, 3) := by decide +kernel
theorem dX11_mend_219 : decode cX11_mend 219 = .ok (.bipush 30, 2) := by decide +kernel
theorem dX11_mend_221 : decode cX11_mend 221 = .ok (.iload_n 2, 1) := by decide +kernel
theorem dX11_mend_222 : decode cX11_mend 222 = .ok (.imul, 1) := by decide +kernel
theorem dX11_mend_223 : decode cX11_mend 223 = .ok (.iload 4, 2) := by decide +kernel
theorem dX11_mend_225 : decode cX11_mend 225 = .ok (.iadd, 1) := by decide +kernel
theorem dX11_mend_226 : decode cX11_mend 226 = .ok (.iaload, 1) := by decide +kernel
theorem dX11_mend_227 : decode cX11_mend 227 = .ok (.if_icmp .lt 6, 3) := by decide +kernel
theorem dX11_mend_230 : decode cX11_mend 230 = .ok (.goto 31, 3) := by decide +kernel
theorem dX11_mend_233 : decode cX11_mend 233 = .ok (.aload_n 0, 1) := by decide +kernel
theorem dX11_mend_234 : decode cX11_mend 234 = .ok (.getfield 114, 3) := by decide +kernel
theorem dX11_mend_237 : decode cX11_mend 237 = .ok (.bipush 30, 2) := by decide +kernel
theorem dX11_mend_239 : decode cX11_mend 239 = .ok (.iload_n 2, 1) := by decide +kernel
theorem dX11_mend_240 : decode cX11_mend 240 = .ok (.imul, 1) := by decide +kernel
theorem dX11_mend_241 : decode cX11_mend 241 = .ok (.iload 4, 2) := by decide +kernel
theorem dX11_mend_243 : decode cX11_mend 243 = .ok (.iadd, 1) := by decide +kernel
theorem dX11_mend_244 : decode cX11_mend 244 = .ok (.iconst 1, 1) := by decide +kernel
theorem dX11_mend_245 : decode cX11_mend 245 = .ok (.aload_n 0, 1) := by decide +kernel
theorem dX11_mend_246 : decode cX11_mend 246 = .ok (.getfield 114, 3) := by decide +kernel
theorem dX11_mend_249 : decode cX11_mend 249 = .ok (.bipush 30, 2) := by decide +kernel
theorem dX11_mend_251 : decode cX11_mend 251 = .ok (.iload_n 2, 1) := by decide +kernel
theorem dX11_mend_252 : decode cX11_mend 252 = .ok (.imul, 1) := by decide +kernel
theorem dX11_mend_253 : decode cX11_mend 253 = .ok (.iload 6, 2) := by decide +kernel
theorem dX11_mend_255 : decode cX11_mend 255 = .ok (.iadd, 1) := by decide +kernel
theorem dX11_mend_256 : decode cX11_mend 256 = .ok (.iaload, 1) := by decide +kernel
theorem dX11_mend_257 : decode cX11_mend 257 = .ok (.iadd, 1) := by decide +kernel
theorem dX11_mend_258 : decode cX11_mend 258 = .ok (.iastore, 1) := by decide +kernel
theorem dX11_mend_259 : decode cX11_mend 259 = .ok (.iconst 1, 1) := by decide +kernel
theorem dX11_mend_260 : decode cX11_mend 260 = .ok (.istore_n 3, 1) := by decide +kernel
theorem dX11_mend_261 : decode cX11_mend 261 = .ok (.iinc 5 1, 3) := by decide +kernel
theorem dX11_mend_264 : decode cX11_mend 264 = .ok (.goto (-90), 3) := by decide +kernel
theorem dX11_mend_267 : decode cX11_mend 267 = .ok (.iinc 4 1, 3) := by decide +kernel
theorem dX11_mend_270 : decode cX11_mend 270 = .ok (.goto (-108), 3) := by decide +kernel
theorem dX11_mend_273 : decode cX11_mend 273 = .ok (.goto (-120), 3) := by decide +kernel
theorem dX11_mend_276 : decode cX11_mend 276 = .ok (.iinc 2 (-1), 3) := by decide +kernel
theorem dX11_mend_279 : decode cX11_mend 279 = .ok (.goto (-237), 3) := by decide +kernel
theorem dX11_mend_282 : decode cX11_mend 282 = .ok (.iconst 0, 1) := by decide +kernel
theorem dX11_mend_283 : decode cX11_mend 283 = .ok (.istore_n 2, 1) := by decide +kernel
theorem dX11_mend_284 : decode cX11_mend 284 = .ok (.iconst 0, 1) := by decide +kernel
theorem dX11_mend_285 : decode cX11_mend 285 = .ok (.istore_n 3, 1) := by decide +kernel
theorem dX11_mend_286 : decode cX11_mend 286 = .ok (.iconst 0, 1) := by decide +kernel
theorem dX11_mend_287 : decode cX11_mend 287 = .ok (.istore 4, 2) := by decide +kernel
theorem dX11_mend_289 : decode cX11_mend 289 = .ok (.iload 4, 2) := by decide +kernel
theorem dX11_mend_291 : decode cX11_mend 291 = .ok (.iload_n 1, 1) := by decide +kernel
theorem dX11_mend_292 : decode cX11_mend 292 = .ok (.if_icmp .ge 194, 3) := by decide +kernel
theorem dX11_mend_295 : decode cX11_mend 295 = .ok (.aload_n 0, 1) := by decide +kernel
theorem dX11_mend_296 : decode cX11_mend 296 = .ok (.getfield 114, 3) := by decide +kernel
theorem dX11_mend_299 : decode cX11_mend 299 = .ok (.bipush 30, 2) := by decide +kernel
theorem dX11_mend_301 : decode cX11_mend 301 = .ok (.iload 4, 2) := by decide +kernel
theorem dX11_mend_303 : decode cX11_mend 303 = .ok (.imul, 1) := by decide +kernel
theorem dX11_mend_304 : decode cX11_mend 304 = .ok (.iload_n 3, 1) := by decide +kernel
theorem dX11_mend_305 : decode cX11_mend 305 = .ok (.iadd, 1) := by decide +kernel
theorem dX11_mend_306 : decode cX11_mend 306 = .ok (.iaload, 1) := by decide +kernel
theorem dX11_mend_307 : decode cX11_mend 307 = .ok (.istore 5, 2) := by decide +kernel
theorem dX11_mend_309 : decode cX11_mend 309 = .ok (.aload_n 0, 1) := by decide +kernel
theorem dX11_mend_310 : decode cX11_mend 310 = .ok (.getfield 65, 3) := by decide +kernel
theorem dX11_mend_313 : decode cX11_mend 313 = .ok (.bipush 8, 2) := by decide +kernel
theorem dX11_mend_315 : decode cX11_mend 315 = .ok (.iload_n 3, 1) := by decide +kernel
theorem dX11_mend_316 : decode cX11_mend 316 = .ok (.imul, 1) := by decide +kernel
theorem dX11_mend_317 : decode cX11_mend 317 = .ok (.aload_n 0, 1) := by decide +kernel
theorem dX11_mend_318 : decode cX11_mend 318 = .ok (.getfield 9, 3) := by decide +kernel
theorem dX11_mend_321 : decode cX11_mend 321 = .ok (.iload 4, 2) := by decide +kernel
theorem dX11_mend_323 : decode cX11_mend 323 = .ok (.iaload, 1) := by decide +kernel
theorem dX11_mend_324 : decode cX11_mend 324 = .ok (.iadd, 1) := by decide +kernel
theorem dX11_mend_325 : decode cX11_mend 325 = .ok (.iaload, 1) := by decide +kernel
theorem dX11_mend_326 : decode cX11_mend 326 = .ok (.istore 6, 2) := by decide +kernel
theorem dX11_mend_328 : decode cX11_mend 328 = .ok (.iload 6, 2) := by decide +kernel
theorem dX11_mend_330 : decode cX11_mend 330 = .ok (.ifCond .lt 48, 3) := by decide +kernel
theorem dX11_mend_333 : decode cX11_mend 333 = .ok (.aload_n 0, 1) := by decide +kernel
theorem dX11_mend_334 : decode cX11_mend 334 = .ok (.getfield 114, 3) := by decide +kernel
theorem dX11_mend_337 : decode cX11_mend 337 = .ok (.bipush 30, 2) := by decide +kernel
theorem dX11_mend_339 : decode cX11_mend 339 = .ok (.iload 4, 2) := by decide +kernel
theorem dX11_mend_341 : decode cX11_mend 341 = .ok (.iconst 1, 1) := by decide +kernel
theorem dX11_mend_342 : decode cX11_mend 342 = .ok (.iadd, 1) := by decide +kernel
theorem dX11_mend_343 : decode cX11_mend 343 = .ok (.imul, 1) := by decide +kernel
theorem dX11_mend_344 : decode cX11_mend 344 = .ok (.iload 6, 2) := by decide +kernel
theorem dX11_mend_346 : decode cX11_mend 346 = .ok (.iadd, 1) := by decide +kernel
theorem dX11_mend_347 : decode cX11_mend 347 = .ok (.iaload, 1) := by decide +kernel
theorem dX11_mend_348 : decode cX11_mend 348 = .ok (.iload 5, 2) := by decide +kernel
theorem dX11_mend_350 : decode cX11_mend 350 = .ok (.if_icmp .ne 28, 3) := by decide +kernel
theorem dX11_mend_353 : decode cX11_mend 353 = .ok (.aload_n 0, 1) := by decide +kernel
theorem dX11_mend_354 : decode cX11_mend 354 = .ok (.getfield 117, 3) := by decide +kernel
theorem dX11_mend_357 : decode cX11_mend 357 = .ok (.iload_n 2, 1) := by decide +kernel
theorem dX11_mend_358 : decode cX11_mend 358 = .ok (.aload_n 0, 1) := by decide +kernel
theorem dX11_mend_359 : decode cX11_mend 359 = .ok (.getfield 9, 3) := by decide +kernel
theorem dX11_mend_362 : decode cX11_mend 362 = .ok (.iload 4, 2) := by decide +kernel
theorem dX11_mend_364 : decode cX11_mend 364 = .ok (.iaload, 1) := by decide +kernel
theorem dX11_mend_365 : decode cX11_mend 365 = .ok (.iastore, 1) := by decide +kernel
theorem dX11_mend_366 : decode cX11_mend 366 = .ok (.iinc 2 1, 3) := by decide +kernel
theorem dX11_mend_369 : decode cX11_mend 369 = .ok (.iload 6, 2) := by decide +kernel
theorem dX11_mend_371 : decode cX11_mend 371 = .ok (.istore_n 3, 1) := by decide +kernel
theorem dX11_mend_372 : decode cX11_mend 372 = .ok (.iinc 4 1, 3) := by decide +kernel
theorem dX11_mend_375 : decode cX11_mend 375 = .ok (.goto (-86), 3) := by decide +kernel
theorem dX11_mend_378 : decode cX11_mend 378 = .ok (.iconst 1, 1) := by decide +kernel
theorem dX11_mend_379 : decode cX11_mend 379 = .ok (.aload_n 0, 1) := by decide +kernel
theorem dX11_mend_380 : decode cX11_mend 380 = .ok (.getfield 114, 3) := by decide +kernel
theorem dX11_mend_383 : decode cX11_mend 383 = .ok (.bipush 30, 2) := by decide +kernel
theorem dX11_mend_385 : decode cX11_mend 385 = .ok (.iload 4, 2) := by decide +kernel
theorem dX11_mend_387 : decode cX11_mend 387 = .ok (.iconst 1, 1) := by decide +kernel
theorem dX11_mend_388 : decode cX11_mend 388 = .ok (.iadd, 1) := by decide +kernel
theorem dX11_mend_389 : decode cX11_mend 389 = .ok (.imul, 1) := by decide +kernel
theorem dX11_mend_390 : decode cX11_mend 390 = .ok (.iload_n 3, 1) := by decide +kernel
theorem dX11_mend_391 : decode cX11_mend 391 = .ok (.iadd, 1) := by decide +kernel
theorem dX11_mend_392 : decode cX11_mend 392 = .ok (.iaload, 1) := by decide +kernel
theorem dX11_mend_393 : decode cX11_mend 393 = .ok (.iadd, 1) := by decide +kernel
theorem dX11_mend_394 : decode cX11_mend 394 = .ok (.iload 5, 2) := by decide +kernel
theorem dX11_mend_396 : decode cX11_mend 396 = .ok (.if_icmp .ne 9, 3) := by decide +kernel
theorem dX11_mend_399 : decode cX11_mend 399 = .ok (.iinc 4 1, 3) := by decide +kernel
theorem dX11_mend_402 : decode cX11_mend 402 = .ok (.goto (-113), 3) := by decide +kernel
theorem dX11_mend_405 : decode cX11_mend 405 = .ok (.iconst 0, 1) := by decide +kernel
theorem dX11_mend_406 : decode cX11_mend 406 = .ok (.istore 7, 2) := by decide +kernel
theorem dX11_mend_408 : decode cX11_mend 408 = .ok (.aload_n 0, 1) := by decide +kernel
theorem dX11_mend_409 : decode cX11_mend 409 = .ok (.getfield 65, 3) := by decide +kernel
theorem dX11_mend_412 : decode cX11_mend 412 = .ok (.bipush 8, 2) := by decide +kernel
theorem dX11_mend_414 : decode cX11_mend 414 = .ok (.iload_n 3, 1) := by decide +kernel
theorem dX11_mend_415 : decode cX11_mend 415 = .ok (.imul, 1) := by decide +kernel
theorem dX11_mend_416 : decode cX11_mend 416 = .ok (.iload 7, 2) := by decide +kernel
theorem dX11_mend_418 : decode cX11_mend 418 = .ok (.iadd, 1) := by decide +kernel
theorem dX11_mend_419 : decode cX11_mend 419 = .ok (.iaload, 1) := by decide +kernel
theorem dX11_mend_420 : decode cX11_mend 420 = .ok (.ifCond .lt 33, 3) := by decide +kernel
theorem dX11_mend_423 : decode cX11_mend 423 = .ok (.iconst 1, 1) := by decide +kernel
theorem dX11_mend_424 : decode cX11_mend 424 = .ok (.aload_n 0, 1) := by decide +kernel
theorem dX11_mend_425 : decode cX11_mend 425 = .ok (.getfield 114, 3) := by decide +kernel
theorem dX11_mend_428 : decode cX11_mend 428 = .ok (.bipush 30, 2) := by decide +kernel
theorem dX11_mend_430 : decode cX11_mend 430 = .ok (.iload 4, 2) := by decide +kernel
theorem dX11_mend_432 : decode cX11_mend 432 = .ok (.imul, 1) := by decide +kernel
theorem dX11_mend_433 : decode cX11_mend 433 = .ok (.aload_n 0, 1) := by decide +kernel
theorem dX11_mend_434 : decode cX11_mend 434 = .ok (.getfield 65, 3) := by decide +kernel
theorem dX11_mend_437 : decode cX11_mend 437 = .ok (.bipush 8, 2) := by decide +kernel
theorem dX11_mend_439 : decode cX11_mend 439 = .ok (.iload_n 3, 1) := by decide +kernel
theorem dX11_mend_440 : decode cX11_mend 440 = .ok (.imul, 1) := by decide +kernel
theorem dX11_mend_441 : decode cX11_mend 441 = .ok (.iload 7, 2) := by decide +kernel
theorem dX11_mend_443 : decode cX11_mend 443 = .ok (.iadd, 1) := by decide +kernel
theorem dX11_mend_444 : decode cX11_mend 444 = .ok (.iaload, 1) := by decide +kernel
theorem dX11_mend_445 : decode cX11_mend 445 = .ok (.iadd, 1) := by decide +kernel
theorem dX11_mend_446 : decode cX11_mend 446 = .ok (.iaload, 1) := by decide +kernel
theorem dX11_mend_447 : decode cX11_mend 447 = .ok (.iadd, 1) := by decide +kernel
theorem dX11_mend_448 : decode cX11_mend 448 = .ok (.iload 5, 2) := by decide +kernel
theorem dX11_mend_450 : decode cX11_mend 450 = .ok (.if_icmp .eq 9, 3) := by decide +kernel
theorem dX11_mend_453 : decode cX11_mend 453 = .ok (.iinc 7 1, 3) := by decide +kernel
theorem dX11_mend_456 : decode cX11_mend 456 = .ok (.goto (-48), 3) := by decide +kernel
theorem dX11_mend_459 : decode cX11_mend 459 = .ok (.aload_n 0, 1) := by decide +kernel
theorem dX11_mend_460 : decode cX11_mend 460 = .ok (.getfield 117, 3) := by decide +kernel
theorem dX11_mend_463 : decode cX11_mend 463 = .ok (.iload_n 2, 1) := by decide +kernel
theorem dX11_mend_464 : decode cX11_mend 464 = .ok (.iload 7, 2) := by decide +kernel
theorem dX11_mend_466 : decode cX11_mend 466 = .ok (.iastore, 1) := by decide +kernel
theorem dX11_mend_467 : decode cX11_mend 467 = .ok (.iinc 2 1, 3) := by decide +kernel
theorem dX11_mend_470 : decode cX11_mend 470 = .ok (.aload_n 0, 1) := by decide +kernel
theorem dX11_mend_471 : decode cX11_mend 471 = .ok (.getfield 65, 3) := by decide +kernel
theorem dX11_mend_474 : decode cX11_mend 474 = .ok (.bipush 8, 2) := by decide +kernel
theorem dX11_mend_476 : decode cX11_mend 476 = .ok (.iload_n 3, 1) := by decide +kernel
theorem dX11_mend_477 : decode cX11_mend 477 = .ok (.imul, 1) := by decide +kernel
theorem dX11_mend_478 : decode cX11_mend 478 = .ok (.iload 7, 2) := by decide +kernel
theorem dX11_mend_480 : decode cX11_mend 480 = .ok (.iadd, 1) := by decide +kernel
theorem dX11_mend_481 : decode cX11_mend 481 = .ok (.iaload, 1) := by decide +kernel
theorem dX11_mend_482 : decode cX11_mend 482 = .ok (.istore_n 3, 1) := by decide +kernel
theorem dX11_mend_483 : decode cX11_mend 483 = .ok (.goto (-194), 3) := by decide +kernel
theorem dX11_mend_486 : decode cX11_mend 486 = .ok (.iload_n 2, 1) := by decide +kernel
theorem dX11_mend_487 : decode cX11_mend 487 = .ok (.bipush 12, 2) := by decide +kernel
theorem dX11_mend_489 : decode cX11_mend 489 = .ok (.if_icmp .le 5, 3) := by decide +kernel
theorem dX11_mend_492 : decode cX11_mend 492 = .ok (.iconst (-1), 1) := by decide +kernel
theorem dX11_mend_493 : decode cX11_mend 493 = .ok (.ireturn, 1) := by decide +kernel
theorem dX11_mend_494 : decode cX11_mend 494 = .ok (.aload_n 0, 1) := by decide +kernel
theorem dX11_mend_495 : decode cX11_mend 495 = .ok (.getfield 114, 3) := by decide +kernel
theorem dX11_mend_498 : decode cX11_mend 498 = .ok (.iconst 0, 1) := by decide +kernel
theorem dX11_mend_499 : decode cX11_mend 499 = .ok (.iaload, 1) := by decide +kernel
theorem dX11_mend_500 : decode cX11_mend 500 = .ok (.istore 5, 2) := by decide +kernel
theorem dX11_mend_502 : decode cX11_mend 502 = .ok (.iconst 0, 1) := by decide +kernel
theorem dX11_mend_503 : decode cX11_mend 503 = .ok (.istore 6, 2) := by decide +kernel
theorem dX11_mend_505 : decode cX11_mend 505 = .ok (.iload 6, 2) := by decide +kernel
theorem dX11_mend_507 : decode cX11_mend 507 = .ok (.iload_n 2, 1) := by decide +kernel
theorem dX11_mend_508 : decode cX11_mend 508 = .ok (.if_icmp .ge 23, 3) := by decide +kernel
theorem dX11_mend_511 : decode cX11_mend 511 = .ok (.aload_n 0, 1) := by decide +kernel
theorem dX11_mend_512 : decode cX11_mend 512 = .ok (.getfield 9, 3) := by decide +kernel
theorem dX11_mend_515 : decode cX11_mend 515 = .ok (.iload 6, 2) := by decide +kernel
theorem dX11_mend_517 : decode cX11_mend 517 = .ok (.aload_n 0, 1) := by decide +kernel
theorem dX11_mend_518 : decode cX11_mend 518 = .ok (.getfield 117, 3) := by decide +kernel
theorem dX11_mend_521 : decode cX11_mend 521 = .ok (.iload 6, 2) := by decide +kernel
theorem dX11_mend_523 : decode cX11_mend 523 = .ok (.iaload, 1) := by decide +kernel
theorem dX11_mend_524 : decode cX11_mend 524 = .ok (.iastore, 1) := by decide +kernel
theorem dX11_mend_525 : decode cX11_mend 525 = .ok (.iinc 6 1, 3) := by decide +kernel
theorem dX11_mend_528 : decode cX11_mend 528 = .ok (.goto (-23), 3) := by decide +kernel
theorem dX11_mend_531 : decode cX11_mend 531 = .ok (.aload_n 0, 1) := by decide +kernel
theorem dX11_mend_532 : decode cX11_mend 532 = .ok (.iload_n 2, 1) := by decide +kernel
theorem dX11_mend_533 : decode cX11_mend 533 = .ok (.putfield 144, 3) := by decide +kernel
theorem dX11_mend_536 : decode cX11_mend 536 = .ok (.iload_n 1, 1) := by decide +kernel
theorem dX11_mend_537 : decode cX11_mend 537 = .ok (.ifCond .ne 7, 3) := by decide +kernel
theorem dX11_mend_540 : decode cX11_mend 540 = .ok (.iconst 0, 1) := by decide +kernel
theorem dX11_mend_541 : decode cX11_mend 541 = .ok (.goto 5, 3) := by decide +kernel
theorem dX11_mend_544 : decode cX11_mend 544 = .ok (.iload 5, 2) := by decide +kernel
theorem dX11_mend_546 : decode cX11_mend 546 = .ok (.ireturn, 1) := by decide +kernel
theorem dX11_habits_0 : decode cX11_habits 0 = .ok (.iconst 0, 1) := by decide +kernel
theorem dX11_habits_1 : decode cX11_habits 1 = .ok (.istore_n 1, 1) := by decide +kernel
theorem dX11_habits_2 : decode cX11_habits 2 = .ok (.iload_n 1, 1) := by decide +kernel
theorem dX11_habits_3 : decode cX11_habits 3 = .ok (.bipush 64, 2) := by decide +kernel
theorem dX11_habits_5 : decode cX11_habits 5 = .ok (.if_icmp .ge 201, 3) := by decide +kernel
theorem dX11_habits_8 : decode cX11_habits 8 = .ok (.aload_n 0, 1) := by decide +kernel
theorem dX11_habits_9 : decode cX11_habits 9 = .ok (.getfield 120, 3) := by decide +kernel
theorem dX11_habits_12 : decode cX11_habits 12 = .ok (.iload_n 1, 1) := by decide +kernel
theorem dX11_habits_13 : decode cX11_habits 13 = .ok (.iconst 0, 1) := by decide +kernel
theorem dX11_habits_14 : decode cX11_habits 14 = .ok (.iastore, 1) := by decide +kernel
theorem dX11_habits_15 : decode cX11_habits 15 = .ok (.aload_n 0, 1) := by decide +kernel
theorem dX11_habits_16 : decode cX11_habits 16 = .ok (.getfield 123, 3) := by decide +kernel
theorem dX11_habits_19 : decode cX11_habits 19 = .ok (.iload_n 1, 1) := by decide +kernel
theorem dX11_habits_20 : decode cX11_habits 20 = .ok (.iconst 0, 1) := by decide +kernel
theorem dX11_habits_21 : decode cX11_habits 21 = .ok (.iastore, 1) := by decide +kernel
theorem dX11_habits_22 : decode cX11_habits 22 = .ok (.iconst 0, 1) := by decide +kernel
theorem dX11_habits_23 : decode cX11_habits 23 = .ok (.istore_n 2, 1) := by decide +kernel
theorem dX11_habits_24 : decode cX11_habits 24 = .ok (.iload_n 2, 1) := by decide +kernel
theorem dX11_habits_25 : decode cX11_habits 25 = .ok (.aload_n 0, 1) := by decide +kernel
theorem dX11_habits_26 : decode cX11_habits 26 = .ok (.getfield 147, 3) := by decide +kernel
theorem dX11_habits_29 : decode cX11_habits 29 = .ok (.if_icmp .ge 171, 3) := by decide +kernel
theorem dX11_habits_32 : decode cX11_habits 32 = .ok (.aload_n 0, 1) := by decide +kernel
theorem dX11_habits_33 : decode cX11_habits 33 = .ok (.getfield 23, 3) := by decide +kernel
theorem dX11_habits_36 : decode cX11_habits 36 = .ok (.iload_n 2, 1) := by decide +kernel
theorem dX11_habits_37 : decode cX11_habits 37 = .ok (.baload, 1) := by decide +kernel
theorem dX11_habits_38 : decode cX11_habits 38 = .ok (.ifCond .eq 156, 3) := by decide +kernel
theorem dX11_habits_41 : decode cX11_habits 41 = .ok (.aload_n 0, 1) := by decide +kernel
theorem dX11_habits_42 : decode cX11_habits 42 = .ok (.getfield 19, 3) := by decide +kernel
theorem dX11_habits_45 : decode cX11_habits 45 = .ok (.iload_n 2, 1) := by decide +kernel
theorem dX11_habits_46 : decode cX11_habits 46 = .ok (.baload, 1) := by decide +kernel
theorem dX11_habits_47 : decode cX11_habits 47 = .ok (.ifCond .ne 6, 3) := by decide +kernel
theorem dX11_habits_50 : decode cX11_habits 50 = .ok (.goto 144, 3) := by decide +kernel
theorem dX11_habits_53 : decode cX11_habits 53 = .ok (.iconst 0, 1) := by decide +kernel
theorem dX11_habits_54 : decode cX11_habits 54 = .ok (.istore_n 3, 1) := by decide +kernel
theorem dX11_habits_55 : decode cX11_habits 55 = .ok (.iconst 0, 1) := by decide +kernel
theorem dX11_habits_56 : decode cX11_habits 56 = .ok (.istore 4, 2) := by decide +kernel
theorem dX11_habits_58 : decode cX11_habits 58 = .ok (.iconst 0, 1) := by decide +kernel
theorem dX11_habits_59 : decode cX11_habits 59 = .ok (.istore 5, 2) := by decide +kernel
theorem dX11_habits_61 : decode cX11_habits 61 = .ok (.iload 5, 2) := by decide +kernel
theorem dX11_habits_63 : decode cX11_habits 63 = .ok (.aload_n 0, 1) := by decide +kernel
theorem dX11_habits_64 : decode cX11_habits 64 = .ok (.getfield 16, 3) := by decide +kernel
theorem dX11_habits_67 : decode cX11_habits 67 = .ok (.iload_n 2, 1) := by decide +kernel
theorem dX11_habits_68 : decode cX11_habits 68 = .ok (.iaload, 1) := by decide +kernel
theorem dX11_habits_69 : decode cX11_habits 69 = .ok (.if_icmp .ge 84, 3) := by decide +kernel
theorem dX11_habits_72 : decode cX11_habits 72 = .ok (.aload_n 0, 1) := by decide +kernel
theorem dX11_habits_73 : decode cX11_habits 73 = .ok (.getfield 13, 3) := by decide +kernel
theorem dX11_habits_76 : decode cX11_habits 76 = .ok (.bipush 12, 2) := by decide +kernel
theorem dX11_habits_78 : decode cX11_habits 78 = .ok (.iload_n 2, 1) := by decide +kernel
theorem dX11_habits_79 : decode cX11_habits 79 = .ok (.imul, 1) := by decide +kernel
theorem dX11_habits_80 : decode cX11_habits 80 = .ok (.iload 5, 2) := by decide +kernel
theorem dX11_habits_82 : decode cX11_habits 82 = .ok (.iadd, 1) := by decide +kernel
theorem dX11_habits_83 : decode cX11_habits 83 = .ok (.iaload, 1) := by decide +kernel
theorem dX11_habits_84 : decode cX11_habits 84 = .ok (.istore 6, 2) := by decide +kernel
theorem dX11_habits_86 : decode cX11_habits 86 = .ok (.iload 4, 2) := by decide +kernel
theorem dX11_habits_88 : decode cX11_habits 88 = .ok (.ifCond .eq 16, 3) := by decide +kernel
theorem dX11_habits_91 : decode cX11_habits 91 = .ok (.iload 6, 2) := by decide +kernel
theorem dX11_habits_93 : decode cX11_habits 93 = .ok (.iload_n 1, 1) := by decide +kernel
theorem dX11_habits_94 : decode cX11_habits 94 = .ok (.bipush 8, 2) := by decide +kernel
theorem dX11_habits_96 : decode cX11_habits 96 = .ok (.irem, 1) := by decide +kernel
theorem dX11_habits_97 : decode cX11_habits 97 = .ok (.if_icmp .eq 7, 3) := by decide +kernel
theorem dX11_habits_100 : decode cX11_habits 100 = .ok (.iconst 1, 1) := by decide +kernel
theorem dX11_habits_101 : decode cX11_habits 101 = .ok (.goto 4, 3) := by decide +kernel
theorem dX11_habits_104 : decode cX11_habits 104 = .ok (.iconst 0, 1) := by decide +kernel
theorem dX11_habits_105 : decode cX11_habits 105 = .ok (.istore 4, 2) := by decide +kernel
theorem dX11_habits_107 : decode cX11_habits 107 = .ok (.iload_n 3, 1) := by decide +kernel
theorem dX11_habits_108 : decode cX11_habits 108 = .ok (.ifCond .ne 12, 3) := by decide +kernel
theorem dX11_habits_111 : decode cX11_habits 111 = .ok (.iload 6, 2) := by decide +kernel
theorem dX11_habits_113 : decode cX11_habits 113 = .ok (.iload_n 1, 1) := by decide +kernel
theorem dX11_habits_114 : decode cX11_habits 114 = .ok (.bipush 8, 2) := by decide +kernel
theorem dX11_habits_116 : decode cX11_habits 116 = .ok (.idiv, 1) := by decide +kernel
theorem dX11_habits_117 : decode cX11_habits 117 = .ok (.if_icmp .ne 7, 3) := by decide +kernel
theorem dX11_habits_120 : decode cX11_habits 120 = .ok (.iconst 1, 1) := by decide +kernel
theorem dX11_habits_121 : decode cX11_habits 121 = .ok (.goto 4, 3) := by decide +kernel
theorem dX11_habits_124 : decode cX11_habits 124 = .ok (.iconst 0, 1) := by decide +kernel
theorem dX11_habits_125 : decode cX11_habits 125 = .ok (.istore_n 3, 1) := by decide +kernel
theorem dX11_habits_126 : decode cX11_habits 126 = .ok (.iload 4, 2) := by decide +kernel
theorem dX11_habits_128 : decode cX11_habits 128 = .ok (.ifCond .ne 12, 3) := by decide +kernel
theorem dX11_habits_131 : decode cX11_habits 131 = .ok (.iload 6, 2) := by decide +kernel
theorem dX11_habits_133 : decode cX11_habits 133 = .ok (.iload_n 1, 1) := by decide +kernel
theorem dX11_habits_134 : decode cX11_habits 134 = .ok (.bipush 8, 2) := by decide +kernel
theorem dX11_habits_136 : decode cX11_habits 136 = .ok (.idiv, 1) := by decide +kernel
theorem dX11_habits_137 : decode cX11_habits 137 = .ok (.if_icmp .ne 7, 3) := by decide +kernel
theorem dX11_habits_140 : decode cX11_habits 140 = .ok (.iconst 1, 1) := by decide +kernel
theorem dX11_habits_141 : decode cX11_habits 141 = .ok (.goto 4, 3) := by decide +kernel
theorem dX11_habits_144 : decode cX11_habits 144 = .ok (.iconst 0, 1) := by decide +kernel
theorem dX11_habits_145 : decode cX11_habits 145 = .ok (.istore 4, 2) := by decide +kernel
theorem dX11_habits_147 : decode cX11_habits 147 = .ok (.iinc 5 1, 3) := by decide +kernel
theorem dX11_habits_150 : decode cX11_habits 150 = .ok (.goto (-89), 3) := by decide +kernel
theorem dX11_habits_153 : decode cX11_habits 153 = .ok (.aload_n 0, 1) := by decide +kernel
theorem dX11_habits_154 : decode cX11_habits 154 = .ok (.getfield 120, 3) := by decide +kernel
theorem dX11_habits_157 : decode cX11_habits 157 = .ok (.iload_n 1, 1) := by decide +kernel
theorem dX11_habits_158 : decode cX11_habits 158 = .ok (.dup2, 1) := by decide +kernel
theorem dX11_habits_159 : decode cX11_habits 159 = .ok (.iaload, 1) := by decide +kernel
theorem dX11_habits_160 : decode cX11_habits 160 = .ok (.iload_n 3, 1) := by decide +kernel
theorem dX11_habits_161 : decode cX11_habits 161 = .ok (.ifCond .eq 7, 3) := by decide +kernel
theorem dX11_habits_164 : decode cX11_habits 164 = .ok (.iconst 1, 1) := by decide +kernel
theorem dX11_habits_165 : decode cX11_habits 165 = .ok (.goto 4, 3) := by decide +kernel
theorem dX11_habits_168 : decode cX11_habits 168 = .ok (.iconst 0, 1) := by decide +kernel
theorem dX11_habits_169 : decode cX11_habits 169 = .ok (.iadd, 1) := by decide +kernel
theorem dX11_habits_170 : decode cX11_habits 170 = .ok (.iastore, 1) := by decide +kernel
theorem dX11_habits_171 : decode cX11_habits 171 = .ok (.aload_n 0, 1) := by decide +kernel
theorem dX11_habits_172 : decode cX11_habits 172 = .ok (.getfield 123, 3) := by decide +kernel
theorem dX11_habits_175 : decode cX11_habits 175 = .ok (.iload_n 1, 1) := by decide +kernel
theorem dX11_habits_176 : decode cX11_habits 176 = .ok (.dup2, 1) := by decide +kernel
theorem dX11_habits_177 : decode cX11_habits 177 = .ok (.iaload, 1) := by decide +kernel
theorem dX11_habits_178 : decode cX11_habits 178 = .ok (.iload_n 3, 1) := by decide +kernel
theorem dX11_habits_179 : decode cX11_habits 179 = .ok (.ifCond .eq 12, 3) := by decide +kernel
theorem dX11_habits_182 : decode cX11_habits 182 = .ok (.iload 4, 2) := by decide +kernel
theorem dX11_habits_184 : decode cX11_habits 184 = .ok (.ifCond .ne 7, 3) := by decide +kernel
theorem dX11_habits_187 : decode cX11_habits 187 = .ok (.iconst 1, 1) := by decide +kernel
theorem dX11_habits_188 : decode cX11_habits 188 = .ok (.goto 4, 3) := by decide +kernel
theorem dX11_habits_191 : decode cX11_habits 191 = .ok (.iconst 0, 1) := by decide +kernel
theorem dX11_habits_192 : decode cX11_habits 192 = .ok (.iadd, 1) := by decide +kernel
theorem dX11_habits_193 : decode cX11_habits 193 = .ok (.iastore, 1) := by decide +kernel
theorem dX11_habits_194 : decode cX11_habits 194 = .ok (.iinc 2 1, 3) := by decide +kernel
theorem dX11_habits_197 : decode cX11_habits 197 = .ok (.goto (-173), 3) := by decide +kernel
theorem dX11_habits_200 : decode cX11_habits 200 = .ok (.iinc 1 1, 3) := by decide +kernel
theorem dX11_habits_203 : decode cX11_habits 203 = .ok (.goto (-201), 3) := by decide +kernel
theorem dX11_habits_206 : decode cX11_habits 206 = .ok (.return_, 1) := by decide +kernel
theorem dX11_habit_0 : decode cX11_habit 0 = .ok (.aload_n 0, 1) := by decide +kernel
theorem dX11_habit_1 : decode cX11_habit 1 = .ok (.iconst 0, 1) := by decide +kernel
theorem dX11_habit_2 : decode cX11_habit 2 = .ok (.putfield 133, 3) := by decide +kernel
theorem dX11_habit_5 : decode cX11_habit 5 = .ok (.aload_n 0, 1) := by decide +kernel
theorem dX11_habit_6 : decode cX11_habit 6 = .ok (.iload_n 1, 1) := by decide +kernel
theorem dX11_habit_7 : decode cX11_habit 7 = .ok (.invokestatic 136, 3) := by decide +kernel
theorem dX11_habit_10 : decode cX11_habit 10 = .ok (.ifCond .eq 19, 3) := by decide +kernel
theorem dX11_habit_13 : decode cX11_habit 13 = .ok (.iload_n 2, 1) := by decide +kernel
theorem dX11_habit_14 : decode cX11_habit 14 = .ok (.invokestatic 136, 3) := by decide +kernel
theorem dX11_habit_17 : decode cX11_habit 17 = .ok (.ifCond .eq 12, 3) := by decide +kernel
theorem dX11_habit_20 : decode cX11_habit 20 = .ok (.iload_n 3, 1) := by decide +kernel
theorem dX11_habit_21 : decode cX11_habit 21 = .ok (.ifCond .lt 8, 3) := by decide +kernel
theorem dX11_habit_24 : decode cX11_habit 24 = .ok (.iload_n 3, 1) := by decide +kernel
theorem dX11_habit_25 : decode cX11_habit 25 = .ok (.iconst 1, 1) := by decide +kernel
theorem dX11_habit_26 : decode cX11_habit 26 = .ok (.if_icmp .le 7, 3) := by decide +kernel
theorem dX11_habit_29 : decode cX11_habit 29 = .ok (.iconst 1, 1) := by decide +kernel
theorem dX11_habit_30 : decode cX11_habit 30 = .ok (.goto 4, 3) := by decide +kernel
theorem dX11_habit_33 : decode cX11_habit 33 = .ok (.iconst 0, 1) := by decide +kernel
theorem dX11_habit_34 : decode cX11_habit 34 = .ok (.iconst 1, 1) := by decide +kernel
theorem dX11_habit_35 : decode cX11_habit 35 = .ok (.invokevirtual 140, 3) := by decide +kernel
theorem dX11_habit_38 : decode cX11_habit 38 = .ok (.ifCond .eq 5, 3) := by decide +kernel
theorem dX11_habit_41 : decode cX11_habit 41 = .ok (.iconst 0, 1) := by decide +kernel
theorem dX11_habit_42 : decode cX11_habit 42 = .ok (.ireturn, 1) := by decide +kernel
theorem dX11_habit_43 : decode cX11_habit 43 = .ok (.aload_n 0, 1) := by decide +kernel
theorem dX11_habit_44 : decode cX11_habit 44 = .ok (.invokevirtual 272, 3) := by decide +kernel
theorem dX11_habit_47 : decode cX11_habit 47 = .ok (.iload_n 3, 1) := by decide +kernel
theorem dX11_habit_48 : decode cX11_habit 48 = .ok (.ifCond .ne 17, 3) := by decide +kernel
theorem dX11_habit_51 : decode cX11_habit 51 = .ok (.aload_n 0, 1) := by decide +kernel
theorem dX11_habit_52 : decode cX11_habit 52 = .ok (.getfield 120, 3) := by decide +kernel
theorem dX11_habit_55 : decode cX11_habit 55 = .ok (.bipush 8, 2) := by decide +kernel
theorem dX11_habit_57 : decode cX11_habit 57 = .ok (.iload_n 1, 1) := by decide +kernel
theorem dX11_habit_58 : decode cX11_habit 58 = .ok (.imul, 1) := by decide +kernel
theorem dX11_habit_59 : decode cX11_habit 59 = .ok (.iload_n 2, 1) := by decide +kernel
theorem dX11_habit_60 : decode cX11_habit 60 = .ok (.iadd, 1) := by decide +kernel
theorem dX11_habit_61 : decode cX11_habit 61 = .ok (.iaload, 1) := by decide +kernel
theorem dX11_habit_62 : decode cX11_habit 62 = .ok (.goto 14, 3) := by decide +kernel
theorem dX11_habit_65 : decode cX11_habit 65 = .ok (.aload_n 0, 1) := by decide +kernel
theorem dX11_habit_66 : decode cX11_habit 66 = .ok (.getfield 123, 3) := by decide +kernel
theorem dX11_habit_69 : decode cX11_habit 69 = .ok (.bipush 8, 2) := by decide +kernel
theorem dX11_habit_71 : decode cX11_habit 71 = .ok (.iload_n 1, 1) := by decide +kernel
theorem dX11_habit_72 : decode cX11_habit 72 = .ok (.imul, 1) := by decide +kernel
theorem dX11_habit_73 : decode cX11_habit 73 = .ok (.iload_n 2, 1) := by decide +kernel
theorem dX11_habit_74 : decode cX11_habit 74 = .ok (.iadd, 1) := by decide +kernel
theorem dX11_habit_75 : decode cX11_habit 75 = .ok (.iaload, 1) := by decide +kernel
theorem dX11_habit_76 : decode cX11_habit 76 = .ok (.ireturn, 1) := by decide +kernel
theorem dX11_isAhead_0 : decode cX11_isAhead 0 = .ok (.aload_n 0, 1) := by decide +kernel
theorem dX11_isAhead_1 : decode cX11_isAhead 1 = .ok (.getfield 123, 3) := by decide +kernel
theorem dX11_isAhead_4 : decode cX11_isAhead 4 = .ok (.iload_n 1, 1) := by decide +kernel
theorem dX11_isAhead_5 : decode cX11_isAhead 5 = .ok (.iaload, 1) := by decide +kernel
theorem dX11_isAhead_6 : decode cX11_isAhead 6 = .ok (.aload_n 0, 1) := by decide +kernel
theorem dX11_isAhead_7 : decode cX11_isAhead 7 = .ok (.getfield 120, 3) := by decide +kernel
theorem dX11_isAhead_10 : decode cX11_isAhead 10 = .ok (.iload_n 2, 1) := by decide +kernel
theorem dX11_isAhead_11 : decode cX11_isAhead 11 = .ok (.iaload, 1) := by decide +kernel
theorem dX11_isAhead_12 : decode cX11_isAhead 12 = .ok (.imul, 1) := by decide +kernel
theorem dX11_isAhead_13 : decode cX11_isAhead 13 = .ok (.istore_n 3, 1) := by decide +kernel
theorem dX11_isAhead_14 : decode cX11_isAhead 14 = .ok (.aload_n 0, 1) := by decide +kernel
theorem dX11_isAhead_15 : decode cX11_isAhead 15 = .ok (.getfield 123, 3) := by decide +kernel
theorem dX11_isAhead_18 : decode cX11_isAhead 18 = .ok (.iload_n 2, 1) := by decide +kernel
theorem dX11_isAhead_19 : decode cX11_isAhead 19 = .ok (.iaload, 1) := by decide +kernel
theorem dX11_isAhead_20 : decode cX11_isAhead 20 = .ok (.aload_n 0, 1) := by decide +kernel
theorem dX11_isAhead_21 : decode cX11_isAhead 21 = .ok (.getfield 120, 3) := by decide +kernel
theorem dX11_isAhead_24 : decode cX11_isAhead 24 = .ok (.iload_n 1, 1) := by decide +kernel
theorem dX11_isAhead_25 : decode cX11_isAhead 25 = .ok (.iaload, 1) := by decide +kernel
theorem dX11_isAhead_26 : decode cX11_isAhead 26 = .ok (.imul, 1) := by decide +kernel
theorem dX11_isAhead_27 : decode cX11_isAhead 27 = .ok (.istore 4, 2) := by decide +kernel
theorem dX11_isAhead_29 : decode cX11_isAhead 29 = .ok (.iload_n 3, 1) := by decide +kernel
theorem dX11_isAhead_30 : decode cX11_isAhead 30 = .ok (.iload 4, 2) := by decide +kernel
theorem dX11_isAhead_32 : decode cX11_isAhead 32 = .ok (.if_icmp .eq 15, 3) := by decide +kernel
theorem dX11_isAhead_35 : decode cX11_isAhead 35 = .ok (.iload_n 3, 1) := by decide +kernel
theorem dX11_isAhead_36 : decode cX11_isAhead 36 = .ok (.iload 4, 2) := by decide +kernel
theorem dX11_isAhead_38 : decode cX11_isAhead 38 = .ok (.if_icmp .le 7, 3) := by decide +kernel
theorem dX11_isAhead_41 : decode cX11_isAhead 41 = .ok (.iconst 1, 1) := by decide +kernel
theorem dX11_isAhead_42 : decode cX11_isAhead 42 = .ok (.goto 4, 3) := by decide +kernel
theorem dX11_isAhead_45 : decode cX11_isAhead 45 = .ok (.iconst 0, 1) := by decide +kernel
theorem dX11_isAhead_46 : decode cX11_isAhead 46 = .ok (.ireturn, 1) := by decide +kernel
theorem dX11_isAhead_47 : decode cX11_isAhead 47 = .ok (.aload_n 0, 1) := by decide +kernel
theorem dX11_isAhead_48 : decode cX11_isAhead 48 = .ok (.getfield 120, 3) := by decide +kernel
theorem dX11_isAhead_51 : decode cX11_isAhead 51 = .ok (.iload_n 1, 1) := by decide +kernel
theorem dX11_isAhead_52 : decode cX11_isAhead 52 = .ok (.iaload, 1) := by decide +kernel
theorem dX11_isAhead_53 : decode cX11_isAhead 53 = .ok (.aload_n 0, 1) := by decide +kernel
theorem dX11_isAhead_54 : decode cX11_isAhead 54 = .ok (.getfield 120, 3) := by decide +kernel
theorem dX11_isAhead_57 : decode cX11_isAhead 57 = .ok (.iload_n 2, 1) := by decide +kernel
theorem dX11_isAhead_58 : decode cX11_isAhead 58 = .ok (.iaload, 1) := by decide +kernel
theorem dX11_isAhead_59 : decode cX11_isAhead 59 = .ok (.if_icmp .eq 26, 3) := by decide +kernel
theorem dX11_isAhead_62 : decode cX11_isAhead 62 = .ok (.aload_n 0, 1) := by decide +kernel
theorem dX11_isAhead_63 : decode cX11_isAhead 63 = .ok (.getfield 120, 3) := by decide +kernel
theorem dX11_isAhead_66 : decode cX11_isAhead 66 = .ok (.iload_n 1, 1) := by decide +kernel
theorem dX11_isAhead_67 : decode cX11_isAhead 67 = .ok (.iaload, 1) := by decide +kernel
theorem dX11_isAhead_68 : decode cX11_isAhead 68 = .ok (.aload_n 0, 1) := by decide +kernel
theorem dX11_isAhead_69 : decode cX11_isAhead 69 = .ok (.getfield 120, 3) := by decide +kernel
theorem dX11_isAhead_72 : decode cX11_isAhead 72 = .ok (.iload_n 2, 1) := by decide +kernel
theorem dX11_isAhead_73 : decode cX11_isAhead 73 = .ok (.iaload, 1) := by decide +kernel
theorem dX11_isAhead_74 : decode cX11_isAhead 74 = .ok (.if_icmp .le 7, 3) := by decide +kernel
theorem dX11_isAhead_77 : decode cX11_isAhead 77 = .ok (.iconst 1, 1) := by decide +kernel
theorem dX11_isAhead_78 : decode cX11_isAhead 78 = .ok (.goto 17, 3) := by decide +kernel
theorem dX11_isAhead_81 : decode cX11_isAhead 81 = .ok (.iconst 0, 1) := by decide +kernel
theorem dX11_isAhead_82 : decode cX11_isAhead 82 = .ok (.goto 13, 3) := by decide +kernel
theorem dX11_isAhead_85 : decode cX11_isAhead 85 = .ok (.iload_n 1, 1) := by decide +kernel
theorem dX11_isAhead_86 : decode cX11_isAhead 86 = .ok (.iload_n 2, 1) := by decide +kernel
theorem dX11_isAhead_87 : decode cX11_isAhead 87 = .ok (.if_icmp .ge 7, 3) := by decide +kernel
theorem dX11_isAhead_90 : decode cX11_isAhead 90 = .ok (.iconst 1, 1) := by decide +kernel
theorem dX11_isAhead_91 : decode cX11_isAhead 91 = .ok (.goto 4, 3) := by decide +kernel
theorem dX11_isAhead_94 : decode cX11_isAhead 94 = .ok (.iconst 0, 1) := by decide +kernel
theorem dX11_isAhead_95 : decode cX11_isAhead 95 = .ok (.ireturn, 1) := by decide +kernel
theorem dX11_rank_0 : decode cX11_rank 0 = .ok (.aload_n 0, 1) := by decide +kernel
theorem dX11_rank_1 : decode cX11_rank 1 = .ok (.iconst 0, 1) := by decide +kernel
theorem dX11_rank_2 : decode cX11_rank 2 = .ok (.putfield 133, 3) := by decide +kernel
theorem dX11_rank_5 : decode cX11_rank 5 = .ok (.aload_n 0, 1) := by decide +kernel
theorem dX11_rank_6 : decode cX11_rank 6 = .ok (.iload_n 2, 1) := by decide +kernel
theorem dX11_rank_7 : decode cX11_rank 7 = .ok (.ifCond .lt 8, 3) := by decide +kernel
theorem dX11_rank_10 : decode cX11_rank 10 = .ok (.iload_n 2, 1) := by decide +kernel
theorem dX11_rank_11 : decode cX11_rank 11 = .ok (.iconst 1, 1) := by decide +kernel
theorem dX11_rank_12 : decode cX11_rank 12 = .ok (.if_icmp .le 7, 3) := by decide +kernel
theorem dX11_rank_15 : decode cX11_rank 15 = .ok (.iconst 1, 1) := by decide +kernel
theorem dX11_rank_16 : decode cX11_rank 16 = .ok (.goto 4, 3) := by decide +kernel
theorem dX11_rank_19 : decode cX11_rank 19 = .ok (.iconst 0, 1) := by decide +kernel
theorem dX11_rank_20 : decode cX11_rank 20 = .ok (.iconst 1, 1) := by decide +kernel
theorem dX11_rank_21 : decode cX11_rank 21 = .ok (.invokevirtual 140, 3) := by decide +kernel
theorem dX11_rank_24 : decode cX11_rank 24 = .ok (.ifCond .eq 5, 3) := by decide +kernel
theorem dX11_rank_27 : decode cX11_rank 27 = .ok (.iconst 0, 1) := by decide +kernel
theorem dX11_rank_28 : decode cX11_rank 28 = .ok (.ireturn, 1) := by decide +kernel
theorem dX11_rank_29 : decode cX11_rank 29 = .ok (.aload_n 0, 1) := by decide +kernel
theorem dX11_rank_30 : decode cX11_rank 30 = .ok (.invokevirtual 272, 3) := by decide +kernel
theorem dX11_rank_33 : decode cX11_rank 33 = .ok (.iconst 0, 1) := by decide +kernel
theorem dX11_rank_34 : decode cX11_rank 34 = .ok (.istore_n 3, 1) := by decide +kernel
theorem dX11_rank_35 : decode cX11_rank 35 = .ok (.iload_n 3, 1) := by decide +kernel
theorem dX11_rank_36 : decode cX11_rank 36 = .ok (.bipush 64, 2) := by decide +kernel
theorem dX11_rank_38 : decode cX11_rank 38 = .ok (.if_icmp .ge 126, 3) := by decide +kernel
theorem dX11_rank_41 : decode cX11_rank 41 = .ok (.iload_n 1, 1) := by decide +kernel
theorem dX11_rank_42 : decode cX11_rank 42 = .ok (.ifCond .lt 122, 3) := by decide +kernel
theorem dX11_rank_45 : decode cX11_rank 45 = .ok (.iload_n 3, 1) := by decide +kernel
theorem dX11_rank_46 : decode cX11_rank 46 = .ok (.bipush 8, 2) := by decide +kernel
theorem dX11_rank_48 : decode cX11_rank 48 = .ok (.idiv, 1) := by decide +kernel
theorem dX11_rank_49 : decode cX11_rank 49 = .ok (.iload_n 3, 1) := by decide +kernel
theorem dX11_rank_50 : decode cX11_rank 50 = .ok (.bipush 8, 2) := by decide +kernel
theorem dX11_rank_52 : decode cX11_rank 52 = .ok (.irem, 1) := by decide +kernel
theorem dX11_rank_53 : decode cX11_rank 53 = .ok (.if_icmp .eq 105, 3) := by decide +kernel
theorem dX11_rank_56 : decode cX11_rank 56 = .ok (.aload_n 0, 1) := by decide +kernel
theorem dX11_rank_57 : decode cX11_rank 57 = .ok (.getfield 120, 3) := by decide +kernel
theorem dX11_rank_60 : decode cX11_rank 60 = .ok (.iload_n 3, 1) := by decide +kernel
theorem dX11_rank_61 : decode cX11_rank 61 = .ok (.iaload, 1) := by decide +kernel
theorem dX11_rank_62 : decode cX11_rank 62 = .ok (.ifCond .ne 6, 3) := by decide +kernel
theorem dX11_rank_65 : decode cX11_rank 65 = .ok (.goto 93, 3) := by decide +kernel
theorem dX11_rank_68 : decode cX11_rank 68 = .ok (.iconst 0, 1) := by decide +kernel
theorem dX11_rank_69 : decode cX11_rank 69 = .ok (.istore 4, 2) := by decide +kernel
theorem dX11_rank_71 : decode cX11_rank 71 = .ok (.iconst 0, 1) := by decide +kernel
theorem dX11_rank_72 : decode cX11_rank 72 = .ok (.istore 5, 2) := by decide +kernel
theorem dX11_rank_74 : decode cX11_rank 74 = .ok (.iload 5, 2) := by decide +kernel
theorem dX11_rank_76 : decode cX11_rank 76 = .ok (.bipush 64, 2) := by decide +kernel
theorem dX11_rank_78 : decode cX11_rank 78 = .ok (.if_icmp .ge 58, 3) := by decide +kernel
theorem dX11_rank_81 : decode cX11_rank 81 = .ok (.iload 4, 2) := by decide +kernel
theorem dX11_rank_83 : decode cX11_rank 83 = .ok (.iload 5, 2) := by decide +kernel
theorem dX11_rank_85 : decode cX11_rank 85 = .ok (.iload_n 3, 1) := by decide +kernel
theorem dX11_rank_86 : decode cX11_rank 86 = .ok (.if_icmp .eq 40, 3) := by decide +kernel
theorem dX11_rank_89 : decode cX11_rank 89 = .ok (.iload 5, 2) := by decide +kernel
theorem dX11_rank_91 : decode cX11_rank 91 = .ok (.bipush 8, 2) := by decide +kernel
theorem dX11_rank_93 : decode cX11_rank 93 = .ok (.idiv, 1) := by decide +kernel
theorem dX11_rank_94 : decode cX11_rank 94 = .ok (.iload 5, 2) := by decide +kernel
theorem dX11_rank_96 : decode cX11_rank 96 = .ok (.bipush 8, 2) := by decide +kernel
theorem dX11_rank_98 : decode cX11_rank 98 = .ok (.irem, 1) := by decide +kernel
theorem dX11_rank_99 : decode cX11_rank 99 = .ok (.if_icmp .eq 27, 3) := by decide +kernel
theorem dX11_rank_102 : decode cX11_rank 102 = .ok (.aload_n 0, 1) := by decide +kernel
theorem dX11_rank_103 : decode cX11_rank 103 = .ok (.getfield 120, 3) := by decide +kernel
theorem dX11_rank_106 : decode cX11_rank 106 = .ok (.iload 5, 2) := by decide +kernel
theorem dX11_rank_108 : decode cX11_rank 108 = .ok (.iaload, 1) := by decide +kernel
theorem dX11_rank_109 : decode cX11_rank 109 = .ok (.ifCond .le 17, 3) := by decide +kernel
theorem dX11_rank_112 : decode cX11_rank 112 = .ok (.aload_n 0, 1) := by decide +kernel
theorem dX11_rank_113 : decode cX11_rank 113 = .ok (.iload 5, 2) := by decide +kernel
theorem dX11_rank_115 : decode cX11_rank 115 = .ok (.iload_n 3, 1) := by decide +kernel
theorem dX11_rank_116 : decode cX11_rank 116 = .ok (.invokevirtual 275, 3) := by decide +kernel
theorem dX11_rank_119 : decode cX11_rank 119 = .ok (.ifCond .eq 7, 3) := by decide +kernel
theorem dX11_rank_122 : decode cX11_rank 122 = .ok (.iconst 1, 1) := by decide +kernel
theorem dX11_rank_123 : decode cX11_rank 123 = .ok (.goto 4, 3) := by decide +kernel
theorem dX11_rank_126 : decode cX11_rank 126 = .ok (.iconst 0, 1) := by decide +kernel
theorem dX11_rank_127 : decode cX11_rank 127 = .ok (.iadd, 1) := by decide +kernel
theorem dX11_rank_128 : decode cX11_rank 128 = .ok (.istore 4, 2) := by decide +kernel
theorem dX11_rank_130 : decode cX11_rank 130 = .ok (.iinc 5 1, 3) := by decide +kernel
theorem dX11_rank_133 : decode cX11_rank 133 = .ok (.goto (-59), 3) := by decide +kernel
theorem dX11_rank_136 : decode cX11_rank 136 = .ok (.iload 4, 2) := by decide +kernel
theorem dX11_rank_138 : decode cX11_rank 138 = .ok (.iload_n 1, 1) := by decide +kernel
theorem dX11_rank_139 : decode cX11_rank 139 = .ok (.if_icmp .ne 19, 3) := by decide +kernel
theorem dX11_rank_142 : decode cX11_rank 142 = .ok (.iload_n 2, 1) := by decide +kernel
theorem dX11_rank_143 : decode cX11_rank 143 = .ok (.ifCond .ne 10, 3) := by decide +kernel
theorem dX11_rank_146 : decode cX11_rank 146 = .ok (.iload_n 3, 1) := by decide +kernel
theorem dX11_rank_147 : decode cX11_rank 147 = .ok (.bipush 8, 2) := by decide +kernel
theorem dX11_rank_149 : decode cX11_rank 149 = .ok (.idiv, 1) := by decide +kernel
theorem dX11_rank_150 : decode cX11_rank 150 = .ok (.goto 7, 3) := by decide +kernel
theorem dX11_rank_153 : decode cX11_rank 153 = .ok (.iload_n 3, 1) := by decide +kernel
theorem dX11_rank_154 : decode cX11_rank 154 = .ok (.bipush 8, 2) := by decide +kernel
theorem dX11_rank_156 : decode cX11_rank 156 = .ok (.irem, 1) := by decide +kernel
theorem dX11_rank_157 : decode cX11_rank 157 = .ok (.ireturn, 1) := by decide +kernel
theorem dX11_rank_158 : decode cX11_rank 158 = .ok (.iinc 3 1, 3) := by decide +kernel
theorem dX11_rank_161 : decode cX11_rank 161 = .ok (.goto (-126), 3) := by decide +kernel
theorem dX11_rank_164 : decode cX11_rank 164 = .ok (.iconst (-1), 1) := by decide +kernel
theorem dX11_rank_165 : decode cX11_rank 165 = .ok (.ireturn, 1) := by decide +kernel
theorem dX11_count_0 : decode cX11_count 0 = .ok (.aload_n 0, 1) := by decide +kernel
theorem dX11_count_1 : decode cX11_count 1 = .ok (.iconst 0, 1) := by decide +kernel
theorem dX11_count_2 : decode cX11_count 2 = .ok (.putfield 133, 3) := by decide +kernel
theorem dX11_count_5 : decode cX11_count 5 = .ok (.iconst 0, 1) := by decide +kernel
theorem dX11_count_6 : decode cX11_count 6 = .ok (.istore_n 2, 1) := by decide +kernel
theorem dX11_count_7 : decode cX11_count 7 = .ok (.iload_n 1, 1) := by decide +kernel
theorem dX11_count_8 : decode cX11_count 8 = .ok (.tableswitch 146 0 6 #[44, 79, 84, 89, 127, 132, 137], 44) := by decide +kernel
theorem dX11_count_52 : decode cX11_count 52 = .ok (.iconst 0, 1) := by decide +kernel
theorem dX11_count_53 : decode cX11_count 53 = .ok (.istore_n 3, 1) := by decide +kernel
theorem dX11_count_54 : decode cX11_count 54 = .ok (.iload_n 3, 1) := by decide +kernel
theorem dX11_count_55 : decode cX11_count 55 = .ok (.aload_n 0, 1) := by decide +kernel
theorem dX11_count_56 : decode cX11_count 56 = .ok (.getfield 147, 3) := by decide +kernel
theorem dX11_count_59 : decode cX11_count 59 = .ok (.if_icmp .ge 26, 3) := by decide +kernel
theorem dX11_count_62 : decode cX11_count 62 = .ok (.iload_n 2, 1) := by decide +kernel
theorem dX11_count_63 : decode cX11_count 63 = .ok (.aload_n 0, 1) := by decide +kernel
theorem dX11_count_64 : decode cX11_count 64 = .ok (.getfield 23, 3) := by decide +kernel
theorem dX11_count_67 : decode cX11_count 67 = .ok (.iload_n 3, 1) := by decide +kernel
theorem dX11_count_68 : decode cX11_count 68 = .ok (.baload, 1) := by decide +kernel
theorem dX11_count_69 : decode cX11_count 69 = .ok (.ifCond .eq 7, 3) := by decide +kernel
theorem dX11_count_72 : decode cX11_count 72 = .ok (.iconst 1, 1) := by decide +kernel
theorem dX11_count_73 : decode cX11_count 73 = .ok (.goto 4, 3) := by decide +kernel
theorem dX11_count_76 : decode cX11_count 76 = .ok (.iconst 0, 1) := by decide +kernel
theorem dX11_count_77 : decode cX11_count 77 = .ok (.iadd, 1) := by decide +kernel
theorem dX11_count_78 : decode cX11_count 78 = .ok (.istore_n 2, 1) := by decide +kernel
theorem dX11_count_79 : decode cX11_count 79 = .ok (.iinc 3 1, 3) := by decide +kernel
theorem dX11_count_82 : decode cX11_count 82 = .ok (.goto (-28), 3) := by decide +kernel
theorem dX11_count_85 : decode cX11_count 85 = .ok (.iload_n 2, 1) := by decide +kernel
theorem dX11_count_86 : decode cX11_count 86 = .ok (.ireturn, 1) := by decide +kernel
theorem dX11_count_87 : decode cX11_count 87 = .ok (.aload_n 0, 1) := by decide +kernel
theorem dX11_count_88 : decode cX11_count 88 = .ok (.getfield 147, 3) := by decide +kernel
theorem dX11_count_91 : decode cX11_count 91 = .ok (.ireturn, 1) := by decide +kernel
theorem dX11_count_92 : decode cX11_count 92 = .ok (.aload_n 0, 1) := by decide +kernel
theorem dX11_count_93 : decode cX11_count 93 = .ok (.getfield 126, 3) := by decide +kernel
theorem dX11_count_96 : decode cX11_count 96 = .ok (.ireturn, 1) := by decide +kernel
theorem dX11_count_97 : decode cX11_count 97 = .ok (.iconst 0, 1) := by decide +kernel
theorem dX11_count_98 : decode cX11_count 98 = .ok (.istore_n 3, 1) := by decide +kernel
theorem dX11_count_99 : decode cX11_count 99 = .ok (.iload_n 3, 1) := by decide +kernel
theorem dX11_count_100 : decode cX11_count 100 = .ok (.bipush 8, 2) := by decide +kernel
theorem dX11_count_102 : decode cX11_count 102 = .ok (.aload_n 0, 1) := by decide +kernel
theorem dX11_count_103 : decode cX11_count 103 = .ok (.getfield 126, 3) := by decide +kernel
theorem dX11_count_106 : decode cX11_count 106 = .ok (.imul, 1) := by decide +kernel
theorem dX11_count_107 : decode cX11_count 107 = .ok (.if_icmp .ge 26, 3) := by decide +kernel
theorem dX11_count_110 : decode cX11_count 110 = .ok (.iload_n 2, 1) := by decide +kernel
theorem dX11_count_111 : decode cX11_count 111 = .ok (.aload_n 0, 1) := by decide +kernel
theorem dX11_count_112 : decode cX11_count 112 = .ok (.getfield 65, 3) := by decide +kernel
theorem dX11_count_115 : decode cX11_count 115 = .ok (.iload_n 3, 1) := by decide +kernel
theorem dX11_count_116 : decode cX11_count 116 = .ok (.iaload, 1) := by decide +kernel
theorem dX11_count_117 : decode cX11_count 117 = .ok (.ifCond .lt 7, 3) := by decide +kernel
theorem dX11_count_120 : decode cX11_count 120 = .ok (.iconst 1, 1) := by decide +kernel
theorem dX11_count_121 : decode cX11_count 121 = .ok (.goto 4, 3) := by decide +kernel
theorem dX11_count_124 : decode cX11_count 124 = .ok (.iconst 0, 1) := by decide +kernel
theorem dX11_count_125 : decode cX11_count 125 = .ok (.iadd, 1) := by decide +kernel
theorem dX11_count_126 : decode cX11_count 126 = .ok (.istore_n 2, 1) := by decide +kernel
theorem dX11_count_127 : decode cX11_count 127 = .ok (.iinc 3 1, 3) := by decide +kernel
theorem dX11_count_130 : decode cX11_count 130 = .ok (.goto (-31), 3) := by decide +kernel
theorem dX11_count_133 : decode cX11_count 133 = .ok (.iload_n 2, 1) := by decide +kernel
theorem dX11_count_134 : decode cX11_count 134 = .ok (.ireturn, 1) := by decide +kernel
theorem dX11_count_135 : decode cX11_count 135 = .ok (.aload_n 0, 1) := by decide +kernel
theorem dX11_count_136 : decode cX11_count 136 = .ok (.getfield 144, 3) := by decide +kernel
theorem dX11_count_139 : decode cX11_count 139 = .ok (.ireturn, 1) := by decide +kernel
theorem dX11_count_140 : decode cX11_count 140 = .ok (.aload_n 0, 1) := by decide +kernel
theorem dX11_count_141 : decode cX11_count 141 = .ok (.getfield 204, 3) := by decide +kernel
theorem dX11_count_144 : decode cX11_count 144 = .ok (.ireturn, 1) := by decide +kernel
theorem dX11_count_145 : decode cX11_count 145 = .ok (.aload_n 0, 1) := by decide +kernel
theorem dX11_count_146 : decode cX11_count 146 = .ok (.invokevirtual 177, 3) := by decide +kernel
theorem dX11_count_149 : decode cX11_count 149 = .ok (.aload_n 0, 1) := by decide +kernel
theorem dX11_count_150 : decode cX11_count 150 = .ok (.getfield 164, 3) := by decide +kernel
theorem dX11_count_153 : decode cX11_count 153 = .ok (.ireturn, 1) := by decide +kernel
theorem dX11_count_154 : decode cX11_count 154 = .ok (.iconst (-1), 1) := by decide +kernel
theorem dX11_count_155 : decode cX11_count 155 = .ok (.ireturn, 1) := by decide +kernel
