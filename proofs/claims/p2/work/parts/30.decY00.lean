theorem d_M_init_0 : decode b_M_init 0 = .ok (.aload_n 0, 1) := by decide +kernel
theorem d_M_init_1 : decode b_M_init 1 = .ok (.invokespecial 1, 3) := by decide +kernel
theorem d_M_init_4 : decode b_M_init 4 = .ok (.aload_n 0, 1) := by decide +kernel
theorem d_M_init_5 : decode b_M_init 5 = .ok (.bipush 40, 2) := by decide +kernel
theorem d_M_init_7 : decode b_M_init 7 = .ok (.newarray .int, 2) := by decide +kernel
theorem d_M_init_9 : decode b_M_init 9 = .ok (.putfield 7, 3) := by decide +kernel
theorem d_M_init_12 : decode b_M_init 12 = .ok (.aload_n 0, 1) := by decide +kernel
theorem d_M_init_13 : decode b_M_init 13 = .ok (.bipush 120, 2) := by decide +kernel
theorem d_M_init_15 : decode b_M_init 15 = .ok (.newarray .int, 2) := by decide +kernel
theorem d_M_init_17 : decode b_M_init 17 = .ok (.putfield 13, 3) := by decide +kernel
theorem d_M_init_20 : decode b_M_init 20 = .ok (.aload_n 0, 1) := by decide +kernel
theorem d_M_init_21 : decode b_M_init 21 = .ok (.bipush 40, 2) := by decide +kernel
theorem d_M_init_23 : decode b_M_init 23 = .ok (.newarray .int, 2) := by decide +kernel
theorem d_M_init_25 : decode b_M_init 25 = .ok (.putfield 16, 3) := by decide +kernel
theorem d_M_init_28 : decode b_M_init 28 = .ok (.aload_n 0, 1) := by decide +kernel
theorem d_M_init_29 : decode b_M_init 29 = .ok (.bipush 40, 2) := by decide +kernel
theorem d_M_init_31 : decode b_M_init 31 = .ok (.newarray .long, 2) := by decide +kernel
theorem d_M_init_33 : decode b_M_init 33 = .ok (.putfield 19, 3) := by decide +kernel
theorem d_M_init_36 : decode b_M_init 36 = .ok (.aload_n 0, 1) := by decide +kernel
theorem d_M_init_37 : decode b_M_init 37 = .ok (.bipush 9, 2) := by decide +kernel
theorem d_M_init_39 : decode b_M_init 39 = .ok (.putfield 23, 3) := by decide +kernel
theorem d_M_init_42 : decode b_M_init 42 = .ok (.aload_n 0, 1) := by decide +kernel
theorem d_M_init_43 : decode b_M_init 43 = .ok (.sipush 500, 3) := by decide +kernel
theorem d_M_init_46 : decode b_M_init 46 = .ok (.newarray .int, 2) := by decide +kernel
theorem d_M_init_48 : decode b_M_init 48 = .ok (.putfield 27, 3) := by decide +kernel
theorem d_M_init_51 : decode b_M_init 51 = .ok (.aload_n 0, 1) := by decide +kernel
theorem d_M_init_52 : decode b_M_init 52 = .ok (.sipush 500, 3) := by decide +kernel
theorem d_M_init_55 : decode b_M_init 55 = .ok (.newarray .int, 2) := by decide +kernel
theorem d_M_init_57 : decode b_M_init 57 = .ok (.putfield 30, 3) := by decide +kernel
theorem d_M_init_60 : decode b_M_init 60 = .ok (.aload_n 0, 1) := by decide +kernel
theorem d_M_init_61 : decode b_M_init 61 = .ok (.sipush 500, 3) := by decide +kernel
theorem d_M_init_64 : decode b_M_init 64 = .ok (.newarray .int, 2) := by decide +kernel
theorem d_M_init_66 : decode b_M_init 66 = .ok (.putfield 33, 3) := by decide +kernel
theorem d_M_init_69 : decode b_M_init 69 = .ok (.aload_n 0, 1) := by decide +kernel
theorem d_M_init_70 : decode b_M_init 70 = .ok (.sipush 500, 3) := by decide +kernel
theorem d_M_init_73 : decode b_M_init 73 = .ok (.newarray .int, 2) := by decide +kernel
theorem d_M_init_75 : decode b_M_init 75 = .ok (.putfield 36, 3) := by decide +kernel
theorem d_M_init_78 : decode b_M_init 78 = .ok (.aload_n 0, 1) := by decide +kernel
theorem d_M_init_79 : decode b_M_init 79 = .ok (.sipush 500, 3) := by decide +kernel
theorem d_M_init_82 : decode b_M_init 82 = .ok (.newarray .int, 2) := by decide +kernel
theorem d_M_init_84 : decode b_M_init 84 = .ok (.putfield 39, 3) := by decide +kernel
theorem d_M_init_87 : decode b_M_init 87 = .ok (.aload_n 0, 1) := by decide +kernel
theorem d_M_init_88 : decode b_M_init 88 = .ok (.sipush 500, 3) := by decide +kernel
theorem d_M_init_91 : decode b_M_init 91 = .ok (.newarray .boolean, 2) := by decide +kernel
theorem d_M_init_93 : decode b_M_init 93 = .ok (.putfield 42, 3) := by decide +kernel
theorem d_M_init_96 : decode b_M_init 96 = .ok (.aload_n 0, 1) := by decide +kernel
theorem d_M_init_97 : decode b_M_init 97 = .ok (.sipush 2000, 3) := by decide +kernel
theorem d_M_init_100 : decode b_M_init 100 = .ok (.newarray .int, 2) := by decide +kernel
theorem d_M_init_102 : decode b_M_init 102 = .ok (.putfield 46, 3) := by decide +kernel
theorem d_M_init_105 : decode b_M_init 105 = .ok (.aload_n 0, 1) := by decide +kernel
theorem d_M_init_106 : decode b_M_init 106 = .ok (.sipush 2000, 3) := by decide +kernel
theorem d_M_init_109 : decode b_M_init 109 = .ok (.newarray .int, 2) := by decide +kernel
theorem d_M_init_111 : decode b_M_init 111 = .ok (.putfield 49, 3) := by decide +kernel
theorem d_M_init_114 : decode b_M_init 114 = .ok (.aload_n 0, 1) := by decide +kernel
theorem d_M_init_115 : decode b_M_init 115 = .ok (.sipush 2000, 3) := by decide +kernel
theorem d_M_init_118 : decode b_M_init 118 = .ok (.newarray .int, 2) := by decide +kernel
theorem d_M_init_120 : decode b_M_init 120 = .ok (.putfield 52, 3) := by decide +kernel
theorem d_M_init_123 : decode b_M_init 123 = .ok (.aload_n 0, 1) := by decide +kernel
theorem d_M_init_124 : decode b_M_init 124 = .ok (.bipush 64, 2) := by decide +kernel
theorem d_M_init_126 : decode b_M_init 126 = .ok (.newarray .int, 2) := by decide +kernel
theorem d_M_init_128 : decode b_M_init 128 = .ok (.putfield 55, 3) := by decide +kernel
theorem d_M_init_131 : decode b_M_init 131 = .ok (.aload_n 0, 1) := by decide +kernel
theorem d_M_init_132 : decode b_M_init 132 = .ok (.bipush 64, 2) := by decide +kernel
theorem d_M_init_134 : decode b_M_init 134 = .ok (.newarray .int, 2) := by decide +kernel
theorem d_M_init_136 : decode b_M_init 136 = .ok (.putfield 58, 3) := by decide +kernel
theorem d_M_init_139 : decode b_M_init 139 = .ok (.aload_n 0, 1) := by decide +kernel
theorem d_M_init_140 : decode b_M_init 140 = .ok (.bipush 64, 2) := by decide +kernel
theorem d_M_init_142 : decode b_M_init 142 = .ok (.newarray .int, 2) := by decide +kernel
theorem d_M_init_144 : decode b_M_init 144 = .ok (.putfield 61, 3) := by decide +kernel
theorem d_M_init_147 : decode b_M_init 147 = .ok (.aload_n 0, 1) := by decide +kernel
theorem d_M_init_148 : decode b_M_init 148 = .ok (.bipush 12, 2) := by decide +kernel
theorem d_M_init_150 : decode b_M_init 150 = .ok (.newarray .int, 2) := by decide +kernel
theorem d_M_init_152 : decode b_M_init 152 = .ok (.putfield 64, 3) := by decide +kernel
theorem d_M_init_155 : decode b_M_init 155 = .ok (.aload_n 0, 1) := by decide +kernel
theorem d_M_init_156 : decode b_M_init 156 = .ok (.sipush 500, 3) := by decide +kernel
theorem d_M_init_159 : decode b_M_init 159 = .ok (.newarray .int, 2) := by decide +kernel
theorem d_M_init_161 : decode b_M_init 161 = .ok (.putfield 67, 3) := by decide +kernel
theorem d_M_init_164 : decode b_M_init 164 = .ok (.aload_n 0, 1) := by decide +kernel
theorem d_M_init_165 : decode b_M_init 165 = .ok (.sipush 500, 3) := by decide +kernel
theorem d_M_init_168 : decode b_M_init 168 = .ok (.newarray .int, 2) := by decide +kernel
theorem d_M_init_170 : decode b_M_init 170 = .ok (.putfield 70, 3) := by decide +kernel
theorem d_M_init_173 : decode b_M_init 173 = .ok (.aload_n 0, 1) := by decide +kernel
theorem d_M_init_174 : decode b_M_init 174 = .ok (.sipush 2000, 3) := by decide +kernel
theorem d_M_init_177 : decode b_M_init 177 = .ok (.newarray .int, 2) := by decide +kernel
theorem d_M_init_179 : decode b_M_init 179 = .ok (.putfield 73, 3) := by decide +kernel
theorem d_M_init_182 : decode b_M_init 182 = .ok (.aload_n 0, 1) := by decide +kernel
theorem d_M_init_183 : decode b_M_init 183 = .ok (.sipush 2000, 3) := by decide +kernel
theorem d_M_init_186 : decode b_M_init 186 = .ok (.newarray .int, 2) := by decide +kernel
theorem d_M_init_188 : decode b_M_init 188 = .ok (.putfield 76, 3) := by decide +kernel
theorem d_M_init_191 : decode b_M_init 191 = .ok (.aload_n 0, 1) := by decide +kernel
theorem d_M_init_192 : decode b_M_init 192 = .ok (.sipush 2000, 3) := by decide +kernel
theorem d_M_init_195 : decode b_M_init 195 = .ok (.newarray .int, 2) := by decide +kernel
theorem d_M_init_197 : decode b_M_init 197 = .ok (.putfield 79, 3) := by decide +kernel
theorem d_M_init_200 : decode b_M_init 200 = .ok (.aload_n 0, 1) := by decide +kernel
theorem d_M_init_201 : decode b_M_init 201 = .ok (.sipush 200, 3) := by decide +kernel
theorem d_M_init_204 : decode b_M_init 204 = .ok (.newarray .int, 2) := by decide +kernel
theorem d_M_init_206 : decode b_M_init 206 = .ok (.putfield 82, 3) := by decide +kernel
theorem d_M_init_209 : decode b_M_init 209 = .ok (.aload_n 0, 1) := by decide +kernel
theorem d_M_init_210 : decode b_M_init 210 = .ok (.sipush 200, 3) := by decide +kernel
theorem d_M_init_213 : decode b_M_init 213 = .ok (.newarray .int, 2) := by decide +kernel
theorem d_M_init_215 : decode b_M_init 215 = .ok (.putfield 85, 3) := by decide +kernel
theorem d_M_init_218 : decode b_M_init 218 = .ok (.aload_n 0, 1) := by decide +kernel
theorem d_M_init_219 : decode b_M_init 219 = .ok (.sipush 200, 3) := by decide +kernel
theorem d_M_init_222 : decode b_M_init 222 = .ok (.newarray .int, 2) := by decide +kernel
theorem d_M_init_224 : decode b_M_init 224 = .ok (.putfield 88, 3) := by decide +kernel
theorem d_M_init_227 : decode b_M_init 227 = .ok (.aload_n 0, 1) := by decide +kernel
theorem d_M_init_228 : decode b_M_init 228 = .ok (.sipush 200, 3) := by decide +kernel
theorem d_M_init_231 : decode b_M_init 231 = .ok (.newarray .int, 2) := by decide +kernel
theorem d_M_init_233 : decode b_M_init 233 = .ok (.putfield 91, 3) := by decide +kernel
theorem d_M_init_236 : decode b_M_init 236 = .ok (.aload_n 0, 1) := by decide +kernel
theorem d_M_init_237 : decode b_M_init 237 = .ok (.iconst 2, 1) := by decide +kernel
theorem d_M_init_238 : decode b_M_init 238 = .ok (.newarray .int, 2) := by decide +kernel
theorem d_M_init_240 : decode b_M_init 240 = .ok (.putfield 94, 3) := by decide +kernel
theorem d_M_init_243 : decode b_M_init 243 = .ok (.aload_n 0, 1) := by decide +kernel
theorem d_M_init_244 : decode b_M_init 244 = .ok (.iconst 2, 1) := by decide +kernel
theorem d_M_init_245 : decode b_M_init 245 = .ok (.newarray .int, 2) := by decide +kernel
theorem d_M_init_247 : decode b_M_init 247 = .ok (.putfield 97, 3) := by decide +kernel
theorem d_M_init_250 : decode b_M_init 250 = .ok (.aload_n 0, 1) := by decide +kernel
theorem d_M_init_251 : decode b_M_init 251 = .ok (.iconst 2, 1) := by decide +kernel
theorem d_M_init_252 : decode b_M_init 252 = .ok (.newarray .int, 2) := by decide +kernel
theorem d_M_init_254 : decode b_M_init 254 = .ok (.putfield 100, 3) := by decide +kernel
theorem d_M_init_257 : decode b_M_init 257 = .ok (.aload_n 0, 1) := by decide +kernel
theorem d_M_init_258 : decode b_M_init 258 = .ok (.sipush 200, 3) := by decide +kernel
theorem d_M_init_261 : decode b_M_init 261 = .ok (.newarray .int, 2) := by decide +kernel
theorem d_M_init_263 : decode b_M_init 263 = .ok (.putfield 103, 3) := by decide +kernel
theorem d_M_init_266 : decode b_M_init 266 = .ok (.aload_n 0, 1) := by decide +kernel
theorem d_M_init_267 : decode b_M_init 267 = .ok (.sipush 200, 3) := by decide +kernel
theorem d_M_init_270 : decode b_M_init 270 = .ok (.newarray .int, 2) := by decide +kernel
theorem d_M_init_272 : decode b_M_init 272 = .ok (.putfield 106, 3) := by decide +kernel
theorem d_M_init_275 : decode b_M_init 275 = .ok (.aload_n 0, 1) := by decide +kernel
theorem d_M_init_276 : decode b_M_init 276 = .ok (.sipush 200, 3) := by decide +kernel
theorem d_M_init_279 : decode b_M_init 279 = .ok (.newarray .int, 2) := by decide +kernel
theorem d_M_init_281 : decode b_M_init 281 = .ok (.putfield 109, 3) := by decide +kernel
theorem d_M_init_284 : decode b_M_init 284 = .ok (.aload_n 0, 1) := by decide +kernel
theorem d_M_init_285 : decode b_M_init 285 = .ok (.sipush 200, 3) := by decide +kernel
theorem d_M_init_288 : decode b_M_init 288 = .ok (.newarray .int, 2) := by decide +kernel
theorem d_M_init_290 : decode b_M_init 290 = .ok (.putfield 112, 3) := by decide +kernel
theorem d_M_init_293 : decode b_M_init 293 = .ok (.aload_n 0, 1) := by decide +kernel
theorem d_M_init_294 : decode b_M_init 294 = .ok (.bipush 60, 2) := by decide +kernel
theorem d_M_init_296 : decode b_M_init 296 = .ok (.newarray .int, 2) := by decide +kernel
theorem d_M_init_298 : decode b_M_init 298 = .ok (.putfield 115, 3) := by decide +kernel
theorem d_M_init_301 : decode b_M_init 301 = .ok (.aload_n 0, 1) := by decide +kernel
theorem d_M_init_302 : decode b_M_init 302 = .ok (.bipush 60, 2) := by decide +kernel
theorem d_M_init_304 : decode b_M_init 304 = .ok (.newarray .int, 2) := by decide +kernel
theorem d_M_init_306 : decode b_M_init 306 = .ok (.putfield 118, 3) := by decide +kernel
theorem d_M_init_309 : decode b_M_init 309 = .ok (.aload_n 0, 1) := by decide +kernel
theorem d_M_init_310 : decode b_M_init 310 = .ok (.bipush 60, 2) := by decide +kernel
theorem d_M_init_312 : decode b_M_init 312 = .ok (.newarray .int, 2) := by decide +kernel
theorem d_M_init_314 : decode b_M_init 314 = .ok (.putfield 121, 3) := by decide +kernel
theorem d_M_init_317 : decode b_M_init 317 = .ok (.aload_n 0, 1) := by decide +kernel
theorem d_M_init_318 : decode b_M_init 318 = .ok (.bipush 60, 2) := by decide +kernel
theorem d_M_init_320 : decode b_M_init 320 = .ok (.newarray .boolean, 2) := by decide +kernel
theorem d_M_init_322 : decode b_M_init 322 = .ok (.putfield 124, 3) := by decide +kernel
theorem d_M_init_325 : decode b_M_init 325 = .ok (.aload_n 0, 1) := by decide +kernel
theorem d_M_init_326 : decode b_M_init 326 = .ok (.iconst (-1), 1) := by decide +kernel
theorem d_M_init_327 : decode b_M_init 327 = .ok (.putfield 127, 3) := by decide +kernel
theorem d_M_init_330 : decode b_M_init 330 = .ok (.aload_n 0, 1) := by decide +kernel
theorem d_M_init_331 : decode b_M_init 331 = .ok (.bipush 12, 2) := by decide +kernel
theorem d_M_init_333 : decode b_M_init 333 = .ok (.newarray .boolean, 2) := by decide +kernel
theorem d_M_init_335 : decode b_M_init 335 = .ok (.putfield 130, 3) := by decide +kernel
theorem d_M_init_338 : decode b_M_init 338 = .ok (.aload_n 0, 1) := by decide +kernel
theorem d_M_init_339 : decode b_M_init 339 = .ok (.bipush 12, 2) := by decide +kernel
theorem d_M_init_341 : decode b_M_init 341 = .ok (.newarray .boolean, 2) := by decide +kernel
theorem d_M_init_343 : decode b_M_init 343 = .ok (.putfield 133, 3) := by decide +kernel
theorem d_M_init_346 : decode b_M_init 346 = .ok (.aload_n 0, 1) := by decide +kernel
theorem d_M_init_347 : decode b_M_init 347 = .ok (.bipush 12, 2) := by decide +kernel
theorem d_M_init_349 : decode b_M_init 349 = .ok (.newarray .int, 2) := by decide +kernel
theorem d_M_init_351 : decode b_M_init 351 = .ok (.putfield 136, 3) := by decide +kernel
theorem d_M_init_354 : decode b_M_init 354 = .ok (.aload_n 0, 1) := by decide +kernel
theorem d_M_init_355 : decode b_M_init 355 = .ok (.sipush 200, 3) := by decide +kernel
theorem d_M_init_358 : decode b_M_init 358 = .ok (.newarray .int, 2) := by decide +kernel
theorem d_M_init_360 : decode b_M_init 360 = .ok (.putfield 139, 3) := by decide +kernel
theorem d_M_init_363 : decode b_M_init 363 = .ok (.aload_n 0, 1) := by decide +kernel
theorem d_M_init_364 : decode b_M_init 364 = .ok (.bipush 40, 2) := by decide +kernel
theorem d_M_init_366 : decode b_M_init 366 = .ok (.newarray .boolean, 2) := by decide +kernel
theorem d_M_init_368 : decode b_M_init 368 = .ok (.putfield 142, 3) := by decide +kernel
theorem d_M_init_371 : decode b_M_init 371 = .ok (.aload_n 0, 1) := by decide +kernel
theorem d_M_init_372 : decode b_M_init 372 = .ok (.bipush 40, 2) := by decide +kernel
theorem d_M_init_374 : decode b_M_init 374 = .ok (.newarray .boolean, 2) := by decide +kernel
theorem d_M_init_376 : decode b_M_init 376 = .ok (.putfield 145, 3) := by decide +kernel
theorem d_M_init_379 : decode b_M_init 379 = .ok (.return_, 1) := by decide +kernel
theorem d_M_make_0 : decode b_M_make 0 = .ok (.aload_n 0, 1) := by decide +kernel
theorem d_M_make_1 : decode b_M_make 1 = .ok (.getfield 148, 3) := by decide +kernel
theorem d_M_make_4 : decode b_M_make 4 = .ok (.ifCond .eq 5, 3) := by decide +kernel
theorem d_M_make_7 : decode b_M_make 7 = .ok (.iconst (-1), 1) := by decide +kernel
theorem d_M_make_8 : decode b_M_make 8 = .ok (.ireturn, 1) := by decide +kernel
theorem d_M_make_9 : decode b_M_make 9 = .ok (.iconst 0, 1) := by decide +kernel
theorem d_M_make_10 : decode b_M_make 10 = .ok (.istore 5, 2) := by decide +kernel
theorem d_M_make_12 : decode b_M_make 12 = .ok (.iload 5, 2) := by decide +kernel
theorem d_M_make_14 : decode b_M_make 14 = .ok (.aload_n 0, 1) := by decide +kernel
theorem d_M_make_15 : decode b_M_make 15 = .ok (.getfield 152, 3) := by decide +kernel
theorem d_M_make_18 : decode b_M_make 18 = .ok (.if_icmp .ge 57, 3) := by decide +kernel
theorem d_M_make_21 : decode b_M_make 21 = .ok (.aload_n 0, 1) := by decide +kernel
theorem d_M_make_22 : decode b_M_make 22 = .ok (.getfield 27, 3) := by decide +kernel
theorem d_M_make_25 : decode b_M_make 25 = .ok (.iload 5, 2) := by decide +kernel
theorem d_M_make_27 : decode b_M_make 27 = .ok (.iaload, 1) := by decide +kernel
theorem d_M_make_28 : decode b_M_make 28 = .ok (.iload_n 1, 1) := by decide +kernel
theorem d_M_make_29 : decode b_M_make 29 = .ok (.if_icmp .ne 40, 3) := by decide +kernel
theorem d_M_make_32 : decode b_M_make 32 = .ok (.aload_n 0, 1) := by decide +kernel
theorem d_M_make_33 : decode b_M_make 33 = .ok (.getfield 30, 3) := by decide +kernel
theorem d_M_make_36 : decode b_M_make 36 = .ok (.iload 5, 2) := by decide +kernel
theorem d_M_make_38 : decode b_M_make 38 = .ok (.iaload, 1) := by decide +kernel
theorem d_M_make_39 : decode b_M_make 39 = .ok (.iload_n 2, 1) := by decide +kernel
theorem d_M_make_40 : decode b_M_make 40 = .ok (.if_icmp .ne 29, 3) := by decide +kernel
theorem d_M_make_43 : decode b_M_make 43 = .ok (.aload_n 0, 1) := by decide +kernel
theorem d_M_make_44 : decode b_M_make 44 = .ok (.getfield 33, 3) := by decide +kernel
theorem d_M_make_47 : decode b_M_make 47 = .ok (.iload 5, 2) := by decide +kernel
theorem d_M_make_49 : decode b_M_make 49 = .ok (.iaload, 1) := by decide +kernel
theorem d_M_make_50 : decode b_M_make 50 = .ok (.iload_n 3, 1) := by decide +kernel
theorem d_M_make_51 : decode b_M_make 51 = .ok (.if_icmp .ne 18, 3) := by decide +kernel
theorem d_M_make_54 : decode b_M_make 54 = .ok (.aload_n 0, 1) := by decide +kernel
theorem d_M_make_55 : decode b_M_make 55 = .ok (.getfield 36, 3) := by decide +kernel
theorem d_M_make_58 : decode b_M_make 58 = .ok (.iload 5, 2) := by decide +kernel
theorem d_M_make_60 : decode b_M_make 60 = .ok (.iaload, 1) := by decide +kernel
theorem d_M_make_61 : decode b_M_make 61 = .ok (.iload 4, 2) := by decide +kernel
theorem d_M_make_63 : decode b_M_make 63 = .ok (.if_icmp .ne 6, 3) := by decide +kernel
theorem d_M_make_66 : decode b_M_make 66 = .ok (.iload 5, 2) := by decide +kernel
theorem d_M_make_68 : decode b_M_make 68 = .ok (.ireturn, 1) := by decide +kernel
theorem d_M_make_69 : decode b_M_make 69 = .ok (.iinc 5 1, 3) := by decide +kernel
theorem d_M_make_72 : decode b_M_make 72 = .ok (.goto (-60), 3) := by decide +kernel
theorem d_M_make_75 : decode b_M_make 75 = .ok (.iconst 1, 1) := by decide +kernel
theorem d_M_make_76 : decode b_M_make 76 = .ok (.istore 5, 2) := by decide +kernel
theorem d_M_make_78 : decode b_M_make 78 = .ok (.iload_n 1, 1) := by decide +kernel
theorem d_M_make_79 : decode b_M_make 79 = .ok (.bipush 7, 2) := by decide +kernel
theorem d_M_make_81 : decode b_M_make 81 = .ok (.if_icmp .eq 7, 3) := by decide +kernel
theorem d_M_make_84 : decode b_M_make 84 = .ok (.iconst 1, 1) := by decide +kernel
theorem d_M_make_85 : decode b_M_make 85 = .ok (.goto 4, 3) := by decide +kernel
theorem d_M_make_88 : decode b_M_make 88 = .ok (.iconst 0, 1) := by decide +kernel
theorem d_M_make_89 : decode b_M_make 89 = .ok (.istore 6, 2) := by decide +kernel
theorem d_M_make_91 : decode b_M_make 91 = .ok (.iload_n 1, 1) := by decide +kernel
theorem d_M_make_92 : decode b_M_make 92 = .ok (.iconst 4, 1) := by decide +kernel
theorem d_M_make_93 : decode b_M_make 93 = .ok (.if_icmp .eq 9, 3) := by decide +kernel
theorem d_M_make_96 : decode b_M_make 96 = .ok (.iload_n 1, 1) := by decide +kernel
theorem d_M_make_97 : decode b_M_make 97 = .ok (.bipush 8, 2) := by decide +kernel
theorem d_M_make_99 : decode b_M_make 99 = .ok (.if_icmp .ne 21, 3) := by decide +kernel
theorem d_M_make_102 : decode b_M_make 102 = .ok (.aload_n 0, 1) := by decide +kernel
theorem d_M_make_103 : decode b_M_make 103 = .ok (.getfield 39, 3) := by decide +kernel
theorem d_M_make_106 : decode b_M_make 106 = .ok (.iload_n 2, 1) := by decide +kernel
theorem d_M_make_107 : decode b_M_make 107 = .ok (.iaload, 1) := by decide +kernel
theorem d_M_make_108 : decode b_M_make 108 = .ok (.iconst 1, 1) := by decide +kernel
theorem d_M_make_109 : decode b_M_make 109 = .ok (.iadd, 1) := by decide +kernel
theorem d_M_make_110 : decode b_M_make 110 = .ok (.istore 5, 2) := by decide +kernel
theorem d_M_make_112 : decode b_M_make 112 = .ok (.aload_n 0, 1) := by decide +kernel
theorem d_M_make_113 : decode b_M_make 113 = .ok (.getfield 42, 3) := by decide +kernel
theorem d_M_make_116 : decode b_M_make 116 = .ok (.iload_n 2, 1) := by decide +kernel
theorem d_M_make_117 : decode b_M_make 117 = .ok (.baload, 1) := by decide +kernel
theorem d_M_make_118 : decode b_M_make 118 = .ok (.istore 6, 2) := by decide +kernel
theorem d_M_make_120 : decode b_M_make 120 = .ok (.iload_n 1, 1) := by decide +kernel
theorem d_M_make_121 : decode b_M_make 121 = .ok (.iconst 1, 1) := by decide +kernel
theorem d_M_make_122 : decode b_M_make 122 = .ok (.if_icmp .eq 12, 3) := by decide +kernel
theorem d_M_make_125 : decode b_M_make 125 = .ok (.iload_n 1, 1) := by decide +kernel
theorem d_M_make_126 : decode b_M_make 126 = .ok (.iconst 2, 1) := by decide +kernel
theorem d_M_make_127 : decode b_M_make 127 = .ok (.if_icmp .ne 25, 3) := by decide +kernel
theorem d_M_make_130 : decode b_M_make 130 = .ok (.iload_n 2, 1) := by decide +kernel
theorem d_M_make_131 : decode b_M_make 131 = .ok (.ifCond .le 21, 3) := by decide +kernel
theorem d_M_make_134 : decode b_M_make 134 = .ok (.aload_n 0, 1) := by decide +kernel
theorem d_M_make_135 : decode b_M_make 135 = .ok (.getfield 39, 3) := by decide +kernel
theorem d_M_make_138 : decode b_M_make 138 = .ok (.iload_n 3, 1) := by decide +kernel
theorem d_M_make_139 : decode b_M_make 139 = .ok (.iaload, 1) := by decide +kernel
theorem d_M_make_140 : decode b_M_make 140 = .ok (.iconst 1, 1) := by decide +kernel
theorem d_M_make_141 : decode b_M_make 141 = .ok (.iadd, 1) := by decide +kernel
theorem d_M_make_142 : decode b_M_make 142 = .ok (.istore 5, 2) := by decide +kernel
theorem d_M_make_144 : decode b_M_make 144 = .ok (.aload_n 0, 1) := by decide +kernel
theorem d_M_make_145 : decode b_M_make 145 = .ok (.getfield 42, 3) := by decide +kernel
theorem d_M_make_148 : decode b_M_make 148 = .ok (.iload_n 3, 1) := by decide +kernel
theorem d_M_make_149 : decode b_M_make 149 = .ok (.baload, 1) := by decide +kernel
theorem d_M_make_150 : decode b_M_make 150 = .ok (.istore 6, 2) := by decide +kernel
theorem d_M_make_152 : decode b_M_make 152 = .ok (.iload_n 1, 1) := by decide +kernel
theorem d_M_make_153 : decode b_M_make 153 = .ok (.iconst 1, 1) := by decide +kernel
theorem d_M_make_154 : decode b_M_make 154 = .ok (.if_icmp .ne 61, 3) := by decide +kernel
theorem d_M_make_157 : decode b_M_make 157 = .ok (.iload 4, 2) := by decide +kernel
theorem d_M_make_159 : decode b_M_make 159 = .ok (.iconst (-1), 1) := by decide +kernel
theorem d_M_make_160 : decode b_M_make 160 = .ok (.if_icmp .eq 55, 3) := by decide +kernel
theorem d_M_make_163 : decode b_M_make 163 = .ok (.iload 5, 2) := by decide +kernel
theorem d_M_make_165 : decode b_M_make 165 = .ok (.aload_n 0, 1) := by decide +kernel
theorem d_M_make_166 : decode b_M_make 166 = .ok (.getfield 39, 3) := by decide +kernel
theorem d_M_make_169 : decode b_M_make 169 = .ok (.iload 4, 2) := by decide +kernel
theorem d_M_make_171 : decode b_M_make 171 = .ok (.iaload, 1) := by decide +kernel
theorem d_M_make_172 : decode b_M_make 172 = .ok (.iconst 1, 1) := by decide +kernel
theorem d_M_make_173 : decode b_M_make 173 = .ok (.iadd, 1) := by decide +kernel
theorem d_M_make_174 : decode b_M_make 174 = .ok (.if_icmp .le 8, 3) := by decide +kernel
theorem d_M_make_177 : decode b_M_make 177 = .ok (.iload 5, 2) := by decide +kernel
theorem d_M_make_179 : decode b_M_make 179 = .ok (.goto 12, 3) := by decide +kernel
theorem d_M_make_182 : decode b_M_make 182 = .ok (.aload_n 0, 1) := by decide +kernel
theorem d_M_make_183 : decode b_M_make 183 = .ok (.getfield 39, 3) := by decide +kernel
theorem d_M_make_186 : decode b_M_make 186 = .ok (.iload 4, 2) := by decide +kernel
theorem d_M_make_188 : decode b_M_make 188 = .ok (.iaload, 1) := by decide +kernel
theorem d_M_make_189 : decode b_M_make 189 = .ok (.iconst 1, 1) := by decide +kernel
theorem d_M_make_190 : decode b_M_make 190 = .ok (.iadd, 1) := by decide +kernel
theorem d_M_make_191 : decode b_M_make 191 = .ok (.istore 5, 2) := by decide +kernel
theorem d_M_make_193 : decode b_M_make 193 = .ok (.iload 6, 2) := by decide +kernel
theorem d_M_make_195 : decode b_M_make 195 = .ok (.ifCond .eq 17, 3) := by decide +kernel
theorem d_M_make_198 : decode b_M_make 198 = .ok (.aload_n 0, 1) := by decide +kernel
theorem d_M_make_199 : decode b_M_make 199 = .ok (.getfield 42, 3) := by decide +kernel
theorem d_M_make_202 : decode b_M_make 202 = .ok (.iload 4, 2) := by decide +kernel
theorem d_M_make_204 : decode b_M_make 204 = .ok (.baload, 1) := by decide +kernel
theorem d_M_make_205 : decode b_M_make 205 = .ok (.ifCond .eq 7, 3) := by decide +kernel
theorem d_M_make_208 : decode b_M_make 208 = .ok (.iconst 1, 1) := by decide +kernel
theorem d_M_make_209 : decode b_M_make 209 = .ok (.goto 4, 3) := by decide +kernel
theorem d_M_make_212 : decode b_M_make 212 = .ok (.iconst 0, 1) := by decide +kernel
theorem d_M_make_213 : decode b_M_make 213 = .ok (.istore 6, 2) := by decide +kernel
theorem d_M_make_215 : decode b_M_make 215 = .ok (.aload_n 0, 1) := by decide +kernel
theorem d_M_make_216 : decode b_M_make 216 = .ok (.getfield 152, 3) := by decide +kernel
theorem d_M_make_219 : decode b_M_make 219 = .ok (.sipush 500, 3) := by decide +kernel
theorem d_M_make_222 : decode b_M_make 222 = .ok (.if_icmp .eq 10, 3) := by decide +kernel
theorem d_M_make_225 : decode b_M_make 225 = .ok (.iload 5, 2) := by decide +kernel
theorem d_M_make_227 : decode b_M_make 227 = .ok (.bipush 20, 2) := by decide +kernel
theorem d_M_make_229 : decode b_M_make 229 = .ok (.if_icmp .le 10, 3) := by decide +kernel
theorem d_M_make_232 : decode b_M_make 232 = .ok (.aload_n 0, 1) := by decide +kernel
theorem d_M_make_233 : decode b_M_make 233 = .ok (.iconst 1, 1) := by decide +kernel
theorem d_M_make_234 : decode b_M_make 234 = .ok (.putfield 148, 3) := by decide +kernel
theorem d_M_make_237 : decode b_M_make 237 = .ok (.iconst (-1), 1) := by decide +kernel
theorem d_M_make_238 : decode b_M_make 238 = .ok (.ireturn, 1) := by decide +kernel
theorem d_M_make_239 : decode b_M_make 239 = .ok (.aload_n 0, 1) := by decide +kernel
theorem d_M_make_240 : decode b_M_make 240 = .ok (.getfield 27, 3) := by decide +kernel
theorem d_M_make_243 : decode b_M_make 243 = .ok (.aload_n 0, 1) := by decide +kernel
theorem d_M_make_244 : decode b_M_make 244 = .ok (.getfield 152, 3) := by decide +kernel
theorem d_M_make_247 : decode b_M_make 247 = .ok (.iload_n 1, 1) := by decide +kernel
theorem d_M_make_248 : decode b_M_make 248 = .ok (.iastore, 1) := by decide +kernel
theorem d_M_make_249 : decode b_M_make 249 = .ok (.aload_n 0, 1) := by decide +kernel
theorem d_M_make_250 : decode b_M_make 250 = .ok (.getfield 30, 3) := by decide +kernel
theorem d_M_make_253 : decode b_M_make 253 = .ok (.aload_n 0, 1) := by decide +kernel
theorem d_M_make_254 : decode b_M_make 254 = .ok (.getfield 152, 3) := by decide +kernel
theorem d_M_make_257 : decode b_M_make 257 = .ok (.iload_n 2, 1) := by decide +kernel
theorem d_M_make_258 : decode b_M_make 258 = .ok (.iastore, 1) := by decide +kernel
theorem d_M_make_259 : decode b_M_make 259 = .ok (.aload_n 0, 1) := by decide +kernel
theorem d_M_make_260 : decode b_M_make 260 = .ok (.getfield 33, 3) := by decide +kernel
theorem d_M_make_263 : decode b_M_make 263 = .ok (.aload_n 0, 1) := by decide +kernel
theorem d_M_make_264 : decode b_M_make 264 = .ok (.getfield 152, 3) := by decide +kernel
theorem d_M_make_267 : decode b_M_make 267 = .ok (.iload_n 3, 1) := by decide +kernel
theorem d_M_make_268 : decode b_M_make 268 = .ok (.iastore, 1) := by decide +kernel
theorem d_M_make_269 : decode b_M_make 269 = .ok (.aload_n 0, 1) := by decide +kernel
theorem d_M_make_270 : decode b_M_make 270 = .ok (.getfield 36, 3) := by decide +kernel
theorem d_M_make_273 : decode b_M_make 273 = .ok (.aload_n 0, 1) := by decide +kernel
theorem d_M_make_274 : decode b_M_make 274 = .ok (.getfield 152, 3) := by decide +kernel
theorem d_M_make_277 : decode b_M_make 277 = .ok (.iload 4, 2) := by decide +kernel
theorem d_M_make_279 : decode b_M_make 279 = .ok (.iastore, 1) := by decide +kernel
theorem d_M_make_280 : decode b_M_make 280 = .ok (.aload_n 0, 1) := by decide +kernel
theorem d_M_make_281 : decode b_M_make 281 = .ok (.getfield 39, 3) := by decide +kernel
theorem d_M_make_284 : decode b_M_make 284 = .ok (.aload_n 0, 1) := by decide +kernel
theorem d_M_make_285 : decode b_M_make 285 = .ok (.getfield 152, 3) := by decide +kernel
theorem d_M_make_288 : decode b_M_make 288 = .ok (.iload 5, 2) := by decide +kernel
theorem d_M_make_290 : decode b_M_make 290 = .ok (.iastore, 1) := by decide +kernel
theorem d_M_make_291 : decode b_M_make 291 = .ok (.aload_n 0, 1) := by decide +kernel
theorem d_M_make_292 : decode b_M_make 292 = .ok (.getfield 42, 3) := by decide +kernel
theorem d_M_make_295 : decode b_M_make 295 = .ok (.aload_n 0, 1) := by decide +kernel
theorem d_M_make_296 : decode b_M_make 296 = .ok (.getfield 152, 3) := by decide +kernel
theorem d_M_make_299 : decode b_M_make 299 = .ok (.iload 6, 2) := by decide +kernel
theorem d_M_make_301 : decode b_M_make 301 = .ok (.bastore, 1) := by decide +kernel
theorem d_M_make_302 : decode b_M_make 302 = .ok (.aload_n 0, 1) := by decide +kernel
theorem d_M_make_303 : decode b_M_make 303 = .ok (.dup, 1) := by decide +kernel
theorem d_M_make_304 : decode b_M_make 304 = .ok (.getfield 152, 3) := by decide +kernel
theorem d_M_make_307 : decode b_M_make 307 = .ok (.iconst 1, 1) := by decide +kernel
theorem d_M_make_308 : decode b_M_make 308 = .ok (.iadd, 1) := by decide +kernel
theorem d_M_make_309 : decode b_M_make 309 = .ok (.putfield 152, 3) := by decide +kernel
theorem d_M_make_312 : decode b_M_make 312 = .ok (.aload_n 0, 1) := by decide +kernel
theorem d_M_make_313 : decode b_M_make 313 = .ok (.getfield 152, 3) := by decide +kernel
theorem d_M_make_316 : decode b_M_make 316 = .ok (.iconst 1, 1) := by decide +kernel
theorem d_M_make_317 : decode b_M_make 317 = .ok (.isub, 1) := by decide +kernel
theorem d_M_make_318 : decode b_M_make 318 = .ok (.ireturn, 1) := by decide +kernel
theorem d_M_made_0 : decode b_M_made 0 = .ok (.aload_n 0, 1) := by decide +kernel
theorem d_M_made_1 : decode b_M_made 1 = .ok (.getfield 148, 3) := by decide +kernel
theorem d_M_made_4 : decode b_M_made 4 = .ok (.istore_n 2, 1) := by decide +kernel
theorem d_M_made_5 : decode b_M_made 5 = .ok (.aload_n 0, 1) := by decide +kernel
theorem d_M_made_6 : decode b_M_made 6 = .ok (.iconst 0, 1) := by decide +kernel
theorem d_M_made_7 : decode b_M_made 7 = .ok (.putfield 148, 3) := by decide +kernel
theorem d_M_made_10 : decode b_M_made 10 = .ok (.iload_n 2, 1) := by decide +kernel
theorem d_M_made_11 : decode b_M_made 11 = .ok (.ifCond .eq 8, 3) := by decide +kernel
theorem d_M_made_14 : decode b_M_made 14 = .ok (.bipush (-3), 2) := by decide +kernel
theorem d_M_made_16 : decode b_M_made 16 = .ok (.goto 4, 3) := by decide +kernel
theorem d_M_made_19 : decode b_M_made 19 = .ok (.iload_n 1, 1) := by decide +kernel
theorem d_M_made_20 : decode b_M_made 20 = .ok (.ireturn, 1) := by decide +kernel
theorem d_M_plainOf_0 : decode b_M_plainOf 0 = .ok (.aload_n 0, 1) := by decide +kernel
theorem d_M_plainOf_1 : decode b_M_plainOf 1 = .ok (.iconst 0, 1) := by decide +kernel
theorem d_M_plainOf_2 : decode b_M_plainOf 2 = .ok (.iload_n 1, 1) := by decide +kernel
theorem d_M_plainOf_3 : decode b_M_plainOf 3 = .ok (.iconst (-1), 1) := by decide +kernel
theorem d_M_plainOf_4 : decode b_M_plainOf 4 = .ok (.iconst (-1), 1) := by decide +kernel
theorem d_M_plainOf_5 : decode b_M_plainOf 5 = .ok (.invokevirtual 155, 3) := by decide +kernel
theorem d_M_plainOf_8 : decode b_M_plainOf 8 = .ok (.ireturn, 1) := by decide +kernel
theorem d_M_isType_0 : decode b_M_isType 0 = .ok (.iload_n 1, 1) := by decide +kernel
theorem d_M_isType_1 : decode b_M_isType 1 = .ok (.ifCond .lt 15, 3) := by decide +kernel
theorem d_M_isType_4 : decode b_M_isType 4 = .ok (.iload_n 1, 1) := by decide +kernel
theorem d_M_isType_5 : decode b_M_isType 5 = .ok (.aload_n 0, 1) := by decide +kernel
theorem d_M_isType_6 : decode b_M_isType 6 = .ok (.getfield 152, 3) := by decide +kernel
theorem d_M_isType_9 : decode b_M_isType 9 = .ok (.if_icmp .ge 7, 3) := by decide +kernel
theorem d_M_isType_12 : decode b_M_isType 12 = .ok (.iconst 1, 1) := by decide +kernel
theorem d_M_isType_13 : decode b_M_isType 13 = .ok (.goto 4, 3) := by decide +kernel
theorem d_M_isType_16 : decode b_M_isType 16 = .ok (.iconst 0, 1) := by decide +kernel
theorem d_M_isType_17 : decode b_M_isType 17 = .ok (.ireturn, 1) := by decide +kernel
theorem d_M_isClass_0 : decode b_M_isClass 0 = .ok (.iload_n 1, 1) := by decide +kernel
theorem d_M_isClass_1 : decode b_M_isClass 1 = .ok (.ifCond .lt 15, 3) := by decide +kernel
theorem d_M_isClass_4 : decode b_M_isClass 4 = .ok (.iload_n 1, 1) := by decide +kernel
theorem d_M_isClass_5 : decode b_M_isClass 5 = .ok (.aload_n 0, 1) := by decide +kernel
theorem d_M_isClass_6 : decode b_M_isClass 6 = .ok (.getfield 23, 3) := by decide +kernel
theorem d_M_isClass_9 : decode b_M_isClass 9 = .ok (.if_icmp .ge 7, 3) := by decide +kernel
theorem d_M_isClass_12 : decode b_M_isClass 12 = .ok (.iconst 1, 1) := by decide +kernel
theorem d_M_isClass_13 : decode b_M_isClass 13 = .ok (.goto 4, 3) := by decide +kernel
theorem d_M_isClass_16 : decode b_M_isClass 16 = .ok (.iconst 0, 1) := by decide +kernel
theorem d_M_isClass_17 : decode b_M_isClass 17 = .ok (.ireturn, 1) := by decide +kernel
theorem d_M_declare_0 : decode b_M_declare 0 = .ok (.iload_n 1, 1) := by decide +kernel
theorem d_M_declare_1 : decode b_M_declare 1 = .ok (.ifCond .lt 8, 3) := by decide +kernel
theorem d_M_declare_4 : decode b_M_declare 4 = .ok (.iload_n 1, 1) := by decide +kernel
theorem d_M_declare_5 : decode b_M_declare 5 = .ok (.iconst 2, 1) := by decide +kernel
theorem d_M_declare_6 : decode b_M_declare 6 = .ok (.if_icmp .le 6, 3) := by decide +kernel
theorem d_M_declare_9 : decode b_M_declare 9 = .ok (.bipush (-2), 2) := by decide +kernel
theorem d_M_declare_11 : decode b_M_declare 11 = .ok (.ireturn, 1) := by decide +kernel
theorem d_M_declare_12 : decode b_M_declare 12 = .ok (.aload_n 0, 1) := by decide +kernel
theorem d_M_declare_13 : decode b_M_declare 13 = .ok (.getfield 23, 3) := by decide +kernel
theorem d_M_declare_16 : decode b_M_declare 16 = .ok (.bipush 40, 2) := by decide +kernel
theorem d_M_declare_18 : decode b_M_declare 18 = .ok (.if_icmp .ne 6, 3) := by decide +kernel
theorem d_M_declare_21 : decode b_M_declare 21 = .ok (.bipush (-3), 2) := by decide +kernel
theorem d_M_declare_23 : decode b_M_declare 23 = .ok (.ireturn, 1) := by decide +kernel
theorem d_M_declare_24 : decode b_M_declare 24 = .ok (.aload_n 0, 1) := by decide +kernel
theorem d_M_declare_25 : decode b_M_declare 25 = .ok (.getfield 7, 3) := by decide +kernel
theorem d_M_declare_28 : decode b_M_declare 28 = .ok (.aload_n 0, 1) := by decide +kernel
theorem d_M_declare_29 : decode b_M_declare 29 = .ok (.getfield 23, 3) := by decide +kernel
theorem d_M_declare_32 : decode b_M_declare 32 = .ok (.iload_n 1, 1) := by decide +kernel
theorem d_M_declare_33 : decode b_M_declare 33 = .ok (.iastore, 1) := by decide +kernel
theorem d_M_declare_34 : decode b_M_declare 34 = .ok (.aload_n 0, 1) := by decide +kernel
theorem d_M_declare_35 : decode b_M_declare 35 = .ok (.dup, 1) := by decide +kernel
theorem d_M_declare_36 : decode b_M_declare 36 = .ok (.getfield 23, 3) := by decide +kernel
theorem d_M_declare_39 : decode b_M_declare 39 = .ok (.iconst 1, 1) := by decide +kernel
theorem d_M_declare_40 : decode b_M_declare 40 = .ok (.iadd, 1) := by decide +kernel
theorem d_M_declare_41 : decode b_M_declare 41 = .ok (.putfield 23, 3) := by decide +kernel
theorem d_M_declare_44 : decode b_M_declare 44 = .ok (.aload_n 0, 1) := by decide +kernel
theorem d_M_declare_45 : decode b_M_declare 45 = .ok (.getfield 23, 3) := by decide +kernel
theorem d_M_declare_48 : decode b_M_declare 48 = .ok (.iconst 1, 1) := by decide +kernel
theorem d_M_declare_49 : decode b_M_declare 49 = .ok (.isub, 1) := by decide +kernel
theorem d_M_declare_50 : decode b_M_declare 50 = .ok (.ireturn, 1) := by decide +kernel
theorem d_M_isParent_0 : decode b_M_isParent 0 = .ok (.aload_n 0, 1) := by decide +kernel
theorem d_M_isParent_1 : decode b_M_isParent 1 = .ok (.iload_n 2, 1) := by decide +kernel
theorem d_M_isParent_2 : decode b_M_isParent 2 = .ok (.invokevirtual 159, 3) := by decide +kernel
theorem d_M_isParent_5 : decode b_M_isParent 5 = .ok (.ifCond .eq 49, 3) := by decide +kernel
theorem d_M_isParent_8 : decode b_M_isParent 8 = .ok (.aload_n 0, 1) := by decide +kernel
theorem d_M_isParent_9 : decode b_M_isParent 9 = .ok (.getfield 27, 3) := by decide +kernel
theorem d_M_isParent_12 : decode b_M_isParent 12 = .ok (.iload_n 2, 1) := by decide +kernel
theorem d_M_isParent_13 : decode b_M_isParent 13 = .ok (.iaload, 1) := by decide +kernel
theorem d_M_isParent_14 : decode b_M_isParent 14 = .ok (.iconst 1, 1) := by decide +kernel
theorem d_M_isParent_15 : decode b_M_isParent 15 = .ok (.if_icmp .eq 35, 3) := by decide +kernel
theorem d_M_isParent_18 : decode b_M_isParent 18 = .ok (.aload_n 0, 1) := by decide +kernel
theorem d_M_isParent_19 : decode b_M_isParent 19 = .ok (.getfield 27, 3) := by decide +kernel
theorem d_M_isParent_22 : decode b_M_isParent 22 = .ok (.iload_n 2, 1) := by decide +kernel
theorem d_M_isParent_23 : decode b_M_isParent 23 = .ok (.iaload, 1) := by decide +kernel
theorem d_M_isParent_24 : decode b_M_isParent 24 = .ok (.ifCond .ne 30, 3) := by decide +kernel
theorem d_M_isParent_27 : decode b_M_isParent 27 = .ok (.aload_n 0, 1) := by decide +kernel
theorem d_M_isParent_28 : decode b_M_isParent 28 = .ok (.getfield 7, 3) := by decide +kernel
theorem d_M_isParent_31 : decode b_M_isParent 31 = .ok (.aload_n 0, 1) := by decide +kernel
theorem d_M_isParent_32 : decode b_M_isParent 32 = .ok (.getfield 30, 3) := by decide +kernel
theorem d_M_isParent_35 : decode b_M_isParent 35 = .ok (.iload_n 2, 1) := by decide +kernel
theorem d_M_isParent_36 : decode b_M_isParent 36 = .ok (.iaload, 1) := by decide +kernel
theorem d_M_isParent_37 : decode b_M_isParent 37 = .ok (.iaload, 1) := by decide +kernel
theorem d_M_isParent_38 : decode b_M_isParent 38 = .ok (.ifCond .ne 16, 3) := by decide +kernel
theorem d_M_isParent_41 : decode b_M_isParent 41 = .ok (.aload_n 0, 1) := by decide +kernel
theorem d_M_isParent_42 : decode b_M_isParent 42 = .ok (.getfield 30, 3) := by decide +kernel
theorem d_M_isParent_45 : decode b_M_isParent 45 = .ok (.iload_n 2, 1) := by decide +kernel
theorem d_M_isParent_46 : decode b_M_isParent 46 = .ok (.iaload, 1) := by decide +kernel
theorem d_M_isParent_47 : decode b_M_isParent 47 = .ok (.ifCond .eq 7, 3) := by decide +kernel
theorem d_M_isParent_50 : decode b_M_isParent 50 = .ok (.iconst 1, 1) := by decide +kernel
theorem d_M_isParent_51 : decode b_M_isParent 51 = .ok (.goto 4, 3) := by decide +kernel
theorem d_M_isParent_54 : decode b_M_isParent 54 = .ok (.iconst 0, 1) := by decide +kernel
theorem d_M_isParent_55 : decode b_M_isParent 55 = .ok (.istore_n 3, 1) := by decide +kernel
theorem d_M_isParent_56 : decode b_M_isParent 56 = .ok (.iload_n 3, 1) := by decide +kernel
theorem d_M_isParent_57 : decode b_M_isParent 57 = .ok (.ifCond .eq 13, 3) := by decide +kernel
theorem d_M_isParent_60 : decode b_M_isParent 60 = .ok (.aload_n 0, 1) := by decide +kernel
theorem d_M_isParent_61 : decode b_M_isParent 61 = .ok (.getfield 30, 3) := by decide +kernel
theorem d_M_isParent_64 : decode b_M_isParent 64 = .ok (.iload_n 2, 1) := by decide +kernel
theorem d_M_isParent_65 : decode b_M_isParent 65 = .ok (.iaload, 1) := by decide +kernel
theorem d_M_isParent_66 : decode b_M_isParent 66 = .ok (.iload_n 1, 1) := by decide +kernel
theorem d_M_isParent_67 : decode b_M_isParent 67 = .ok (.if_icmp .lt 5, 3) := by decide +kernel
theorem d_M_isParent_70 : decode b_M_isParent 70 = .ok (.iconst 0, 1) := by decide +kernel
theorem d_M_isParent_71 : decode b_M_isParent 71 = .ok (.ireturn, 1) := by decide +kernel
theorem d_M_isParent_72 : decode b_M_isParent 72 = .ok (.aload_n 0, 1) := by decide +kernel
theorem d_M_isParent_73 : decode b_M_isParent 73 = .ok (.getfield 27, 3) := by decide +kernel
theorem d_M_isParent_76 : decode b_M_isParent 76 = .ok (.iload_n 2, 1) := by decide +kernel
theorem d_M_isParent_77 : decode b_M_isParent 77 = .ok (.iaload, 1) := by decide +kernel
theorem d_M_isParent_78 : decode b_M_isParent 78 = .ok (.iconst 1, 1) := by decide +kernel
theorem d_M_isParent_79 : decode b_M_isParent 79 = .ok (.if_icmp .ne 45, 3) := by decide +kernel
theorem d_M_isParent_82 : decode b_M_isParent 82 = .ok (.aload_n 0, 1) := by decide +kernel
theorem d_M_isParent_83 : decode b_M_isParent 83 = .ok (.getfield 27, 3) := by decide +kernel
theorem d_M_isParent_86 : decode b_M_isParent 86 = .ok (.aload_n 0, 1) := by decide +kernel
theorem d_M_isParent_87 : decode b_M_isParent 87 = .ok (.getfield 33, 3) := by decide +kernel
theorem d_M_isParent_90 : decode b_M_isParent 90 = .ok (.iload_n 2, 1) := by decide +kernel
theorem d_M_isParent_91 : decode b_M_isParent 91 = .ok (.iaload, 1) := by decide +kernel
theorem d_M_isParent_92 : decode b_M_isParent 92 = .ok (.iaload, 1) := by decide +kernel
theorem d_M_isParent_93 : decode b_M_isParent 93 = .ok (.iconst 2, 1) := by decide +kernel
theorem d_M_isParent_94 : decode b_M_isParent 94 = .ok (.if_icmp .eq 28, 3) := by decide +kernel
theorem d_M_isParent_97 : decode b_M_isParent 97 = .ok (.aload_n 0, 1) := by decide +kernel
theorem d_M_isParent_98 : decode b_M_isParent 98 = .ok (.getfield 36, 3) := by decide +kernel
theorem d_M_isParent_101 : decode b_M_isParent 101 = .ok (.iload_n 2, 1) := by decide +kernel
theorem d_M_isParent_102 : decode b_M_isParent 102 = .ok (.iaload, 1) := by decide +kernel
theorem d_M_isParent_103 : decode b_M_isParent 103 = .ok (.iconst (-1), 1) := by decide +kernel
theorem d_M_isParent_104 : decode b_M_isParent 104 = .ok (.if_icmp .eq 20, 3) := by decide +kernel
theorem d_M_isParent_107 : decode b_M_isParent 107 = .ok (.aload_n 0, 1) := by decide +kernel
theorem d_M_isParent_108 : decode b_M_isParent 108 = .ok (.getfield 27, 3) := by decide +kernel
theorem d_M_isParent_111 : decode b_M_isParent 111 = .ok (.aload_n 0, 1) := by decide +kernel
theorem d_M_isParent_112 : decode b_M_isParent 112 = .ok (.getfield 36, 3) := by decide +kernel
theorem d_M_isParent_115 : decode b_M_isParent 115 = .ok (.iload_n 2, 1) := by decide +kernel
theorem d_M_isParent_116 : decode b_M_isParent 116 = .ok (.iaload, 1) := by decide +kernel
theorem d_M_isParent_117 : decode b_M_isParent 117 = .ok (.iaload, 1) := by decide +kernel
theorem d_M_isParent_118 : decode b_M_isParent 118 = .ok (.iconst 2, 1) := by decide +kernel
theorem d_M_isParent_119 : decode b_M_isParent 119 = .ok (.if_icmp .ne 5, 3) := by decide +kernel
theorem d_M_isParent_122 : decode b_M_isParent 122 = .ok (.iconst 0, 1) := by decide +kernel
theorem d_M_isParent_123 : decode b_M_isParent 123 = .ok (.ireturn, 1) := by decide +kernel
theorem d_M_isParent_124 : decode b_M_isParent 124 = .ok (.aload_n 0, 1) := by decide +kernel
theorem d_M_isParent_125 : decode b_M_isParent 125 = .ok (.iload_n 1, 1) := by decide +kernel
theorem d_M_isParent_126 : decode b_M_isParent 126 = .ok (.iload_n 2, 1) := by decide +kernel
theorem d_M_isParent_127 : decode b_M_isParent 127 = .ok (.invokevirtual 163, 3) := by decide +kernel
theorem d_M_isParent_130 : decode b_M_isParent 130 = .ok (.ireturn, 1) := by decide +kernel
theorem d_M_isOfBefore_0 : decode b_M_isOfBefore 0 = .ok (.iconst 1, 1) := by decide +kernel
theorem d_M_isOfBefore_1 : decode b_M_isOfBefore 1 = .ok (.istore_n 3, 1) := by decide +kernel
theorem d_M_isOfBefore_2 : decode b_M_isOfBefore 2 = .ok (.aload_n 0, 1) := by decide +kernel
theorem d_M_isOfBefore_3 : decode b_M_isOfBefore 3 = .ok (.dup, 1) := by decide +kernel
theorem d_M_isOfBefore_4 : decode b_M_isOfBefore 4 = .ok (.getfield 167, 3) := by decide +kernel
theorem d_M_isOfBefore_7 : decode b_M_isOfBefore 7 = .ok (.iconst 1, 1) := by decide +kernel
theorem d_M_isOfBefore_8 : decode b_M_isOfBefore 8 = .ok (.iadd, 1) := by decide +kernel
theorem d_M_isOfBefore_9 : decode b_M_isOfBefore 9 = .ok (.putfield 167, 3) := by decide +kernel
theorem d_M_isOfBefore_12 : decode b_M_isOfBefore 12 = .ok (.aload_n 0, 1) := by decide +kernel
theorem d_M_isOfBefore_13 : decode b_M_isOfBefore 13 = .ok (.iconst 0, 1) := by decide +kernel
theorem d_M_isOfBefore_14 : decode b_M_isOfBefore 14 = .ok (.putfield 170, 3) := by decide +kernel
theorem d_M_isOfBefore_17 : decode b_M_isOfBefore 17 = .ok (.aload_n 0, 1) := by decide +kernel
theorem d_M_isOfBefore_18 : decode b_M_isOfBefore 18 = .ok (.getfield 46, 3) := by decide +kernel
theorem d_M_isOfBefore_21 : decode b_M_isOfBefore 21 = .ok (.aload_n 0, 1) := by decide +kernel
theorem d_M_isOfBefore_22 : decode b_M_isOfBefore 22 = .ok (.dup, 1) := by decide +kernel
theorem d_M_isOfBefore_23 : decode b_M_isOfBefore 23 = .ok (.getfield 170, 3) := by decide +kernel
theorem d_M_isOfBefore_26 : decode b_M_isOfBefore 26 = .ok (.dup_x1, 1) := by decide +kernel
theorem d_M_isOfBefore_27 : decode b_M_isOfBefore 27 = .ok (.iconst 1, 1) := by decide +kernel
theorem d_M_isOfBefore_28 : decode b_M_isOfBefore 28 = .ok (.iadd, 1) := by decide +kernel
theorem d_M_isOfBefore_29 : decode b_M_isOfBefore 29 = .ok (.putfield 170, 3) := by decide +kernel
theorem d_M_isOfBefore_32 : decode b_M_isOfBefore 32 = .ok (.iload_n 2, 1) := by decide +kernel
theorem d_M_isOfBefore_33 : decode b_M_isOfBefore 33 = .ok (.iastore, 1) := by decide +kernel
theorem d_M_isOfBefore_34 : decode b_M_isOfBefore 34 = .ok (.aload_n 0, 1) := by decide +kernel
theorem d_M_isOfBefore_35 : decode b_M_isOfBefore 35 = .ok (.getfield 170, 3) := by decide +kernel
theorem d_M_isOfBefore_38 : decode b_M_isOfBefore 38 = .ok (.ifCond .le 242, 3) := by decide +kernel
theorem d_M_isOfBefore_41 : decode b_M_isOfBefore 41 = .ok (.iload_n 3, 1) := by decide +kernel
theorem d_M_isOfBefore_42 : decode b_M_isOfBefore 42 = .ok (.ifCond .eq 238, 3) := by decide +kernel
theorem d_M_isOfBefore_45 : decode b_M_isOfBefore 45 = .ok (.aload_n 0, 1) := by decide +kernel
theorem d_M_isOfBefore_46 : decode b_M_isOfBefore 46 = .ok (.getfield 46, 3) := by decide +kernel
theorem d_M_isOfBefore_49 : decode b_M_isOfBefore 49 = .ok (.aload_n 0, 1) := by decide +kernel
theorem d_M_isOfBefore_50 : decode b_M_isOfBefore 50 = .ok (.dup, 1) := by decide +kernel
theorem d_M_isOfBefore_51 : decode b_M_isOfBefore 51 = .ok (.getfield 170, 3) := by decide +kernel
theorem d_M_isOfBefore_54 : decode b_M_isOfBefore 54 = .ok (.iconst 1, 1) := by decide +kernel
theorem d_M_isOfBefore_55 : decode b_M_isOfBefore 55 = .ok (.isub, 1) := by decide +kernel
theorem d_M_isOfBefore_56 : decode b_M_isOfBefore 56 = .ok (.dup_x1, 1) := by decide +kernel
theorem d_M_isOfBefore_57 : decode b_M_isOfBefore 57 = .ok (.putfield 170, 3) := by decide +kernel
theorem d_M_isOfBefore_60 : decode b_M_isOfBefore 60 = .ok (.iaload, 1) := by decide +kernel
theorem d_M_isOfBefore_61 : decode b_M_isOfBefore 61 = .ok (.istore 4, 2) := by decide +kernel
theorem d_M_isOfBefore_63 : decode b_M_isOfBefore 63 = .ok (.aload_n 0, 1) := by decide +kernel
theorem d_M_isOfBefore_64 : decode b_M_isOfBefore 64 = .ok (.iload 4, 2) := by decide +kernel
theorem d_M_isOfBefore_66 : decode b_M_isOfBefore 66 = .ok (.invokevirtual 173, 3) := by decide +kernel
theorem d_M_isOfBefore_69 : decode b_M_isOfBefore 69 = .ok (.ifCond .eq 6, 3) := by decide +kernel
theorem d_M_isOfBefore_72 : decode b_M_isOfBefore 72 = .ok (.goto (-38), 3) := by decide +kernel
theorem d_M_isOfBefore_75 : decode b_M_isOfBefore 75 = .ok (.aload_n 0, 1) := by decide +kernel
theorem d_M_isOfBefore_76 : decode b_M_isOfBefore 76 = .ok (.getfield 27, 3) := by decide +kernel
theorem d_M_isOfBefore_79 : decode b_M_isOfBefore 79 = .ok (.iload 4, 2) := by decide +kernel
theorem d_M_isOfBefore_81 : decode b_M_isOfBefore 81 = .ok (.iaload, 1) := by decide +kernel
theorem d_M_isOfBefore_82 : decode b_M_isOfBefore 82 = .ok (.istore 5, 2) := by decide +kernel
theorem d_M_isOfBefore_84 : decode b_M_isOfBefore 84 = .ok (.iload 5, 2) := by decide +kernel
theorem d_M_isOfBefore_86 : decode b_M_isOfBefore 86 = .ok (.ifCond .eq 9, 3) := by decide +kernel
theorem d_M_isOfBefore_89 : decode b_M_isOfBefore 89 = .ok (.iload 5, 2) := by decide +kernel
theorem d_M_isOfBefore_91 : decode b_M_isOfBefore 91 = .ok (.iconst 1, 1) := by decide +kernel
theorem d_M_isOfBefore_92 : decode b_M_isOfBefore 92 = .ok (.if_icmp .ne 22, 3) := by decide +kernel
theorem d_M_isOfBefore_95 : decode b_M_isOfBefore 95 = .ok (.aload_n 0, 1) := by decide +kernel
theorem d_M_isOfBefore_96 : decode b_M_isOfBefore 96 = .ok (.getfield 30, 3) := by decide +kernel
theorem d_M_isOfBefore_99 : decode b_M_isOfBefore 99 = .ok (.iload 4, 2) := by decide +kernel
theorem d_M_isOfBefore_101 : decode b_M_isOfBefore 101 = .ok (.iaload, 1) := by decide +kernel
theorem d_M_isOfBefore_102 : decode b_M_isOfBefore 102 = .ok (.iload_n 1, 1) := by decide +kernel
theorem d_M_isOfBefore_103 : decode b_M_isOfBefore 103 = .ok (.if_icmp .ge 7, 3) := by decide +kernel
theorem d_M_isOfBefore_106 : decode b_M_isOfBefore 106 = .ok (.iconst 1, 1) := by decide +kernel
theorem d_M_isOfBefore_107 : decode b_M_isOfBefore 107 = .ok (.goto 55, 3) := by decide +kernel
theorem d_M_isOfBefore_110 : decode b_M_isOfBefore 110 = .ok (.iconst 0, 1) := by decide +kernel
theorem d_M_isOfBefore_111 : decode b_M_isOfBefore 111 = .ok (.goto 51, 3) := by decide +kernel
theorem d_M_isOfBefore_114 : decode b_M_isOfBefore 114 = .ok (.iload 5, 2) := by decide +kernel
theorem d_M_isOfBefore_116 : decode b_M_isOfBefore 116 = .ok (.iconst 3, 1) := by decide +kernel
theorem d_M_isOfBefore_117 : decode b_M_isOfBefore 117 = .ok (.if_icmp .ne 22, 3) := by decide +kernel
theorem d_M_isOfBefore_120 : decode b_M_isOfBefore 120 = .ok (.aload_n 0, 1) := by decide +kernel
theorem d_M_isOfBefore_121 : decode b_M_isOfBefore 121 = .ok (.getfield 30, 3) := by decide +kernel
theorem d_M_isOfBefore_124 : decode b_M_isOfBefore 124 = .ok (.iload 4, 2) := by decide +kernel
theorem d_M_isOfBefore_126 : decode b_M_isOfBefore 126 = .ok (.iaload, 1) := by decide +kernel
theorem d_M_isOfBefore_127 : decode b_M_isOfBefore 127 = .ok (.iload_n 1, 1) := by decide +kernel
theorem d_M_isOfBefore_128 : decode b_M_isOfBefore 128 = .ok (.if_icmp .ne 7, 3) := by decide +kernel
theorem d_M_isOfBefore_131 : decode b_M_isOfBefore 131 = .ok (.iconst 1, 1) := by decide +kernel
theorem d_M_isOfBefore_132 : decode b_M_isOfBefore 132 = .ok (.goto 30, 3) := by decide +kernel
theorem d_M_isOfBefore_135 : decode b_M_isOfBefore 135 = .ok (.iconst 0, 1) := by decide +kernel
theorem d_M_isOfBefore_136 : decode b_M_isOfBefore 136 = .ok (.goto 26, 3) := by decide +kernel
theorem d_M_isOfBefore_139 : decode b_M_isOfBefore 139 = .ok (.iload 5, 2) := by decide +kernel
theorem d_M_isOfBefore_141 : decode b_M_isOfBefore 141 = .ok (.iconst 2, 1) := by decide +kernel
theorem d_M_isOfBefore_142 : decode b_M_isOfBefore 142 = .ok (.if_icmp .eq 15, 3) := by decide +kernel
theorem d_M_isOfBefore_145 : decode b_M_isOfBefore 145 = .ok (.iload 5, 2) := by decide +kernel
theorem d_M_isOfBefore_147 : decode b_M_isOfBefore 147 = .ok (.iconst 4, 1) := by decide +kernel
theorem d_M_isOfBefore_148 : decode b_M_isOfBefore 148 = .ok (.if_icmp .eq 9, 3) := by decide +kernel
theorem d_M_isOfBefore_151 : decode b_M_isOfBefore 151 = .ok (.iload 5, 2) := by decide +kernel
theorem d_M_isOfBefore_153 : decode b_M_isOfBefore 153 = .ok (.iconst 5, 1) := by decide +kernel
theorem d_M_isOfBefore_154 : decode b_M_isOfBefore 154 = .ok (.if_icmp .ne 7, 3) := by decide +kernel
theorem d_M_isOfBefore_157 : decode b_M_isOfBefore 157 = .ok (.iconst 1, 1) := by decide +kernel
theorem d_M_isOfBefore_158 : decode b_M_isOfBefore 158 = .ok (.goto 4, 3) := by decide +kernel
theorem d_M_isOfBefore_161 : decode b_M_isOfBefore 161 = .ok (.iconst 0, 1) := by decide +kernel
theorem d_M_isOfBefore_162 : decode b_M_isOfBefore 162 = .ok (.istore_n 3, 1) := by decide +kernel
theorem d_M_isOfBefore_163 : decode b_M_isOfBefore 163 = .ok (.iload 5, 2) := by decide +kernel
theorem d_M_isOfBefore_165 : decode b_M_isOfBefore 165 = .ok (.iconst 4, 1) := by decide +kernel
theorem d_M_isOfBefore_166 : decode b_M_isOfBefore 166 = .ok (.if_icmp .ne 26, 3) := by decide +kernel
theorem d_M_isOfBefore_169 : decode b_M_isOfBefore 169 = .ok (.aload_n 0, 1) := by decide +kernel
theorem d_M_isOfBefore_170 : decode b_M_isOfBefore 170 = .ok (.getfield 46, 3) := by decide +kernel
theorem d_M_isOfBefore_173 : decode b_M_isOfBefore 173 = .ok (.aload_n 0, 1) := by decide +kernel
theorem d_M_isOfBefore_174 : decode b_M_isOfBefore 174 = .ok (.dup, 1) := by decide +kernel
theorem d_M_isOfBefore_175 : decode b_M_isOfBefore 175 = .ok (.getfield 170, 3) := by decide +kernel
theorem d_M_isOfBefore_178 : decode b_M_isOfBefore 178 = .ok (.dup_x1, 1) := by decide +kernel
theorem d_M_isOfBefore_179 : decode b_M_isOfBefore 179 = .ok (.iconst 1, 1) := by decide +kernel
theorem d_M_isOfBefore_180 : decode b_M_isOfBefore 180 = .ok (.iadd, 1) := by decide +kernel
theorem d_M_isOfBefore_181 : decode b_M_isOfBefore 181 = .ok (.putfield 170, 3) := by decide +kernel
theorem d_M_isOfBefore_184 : decode b_M_isOfBefore 184 = .ok (.aload_n 0, 1) := by decide +kernel
theorem d_M_isOfBefore_185 : decode b_M_isOfBefore 185 = .ok (.getfield 30, 3) := by decide +kernel
theorem d_M_isOfBefore_188 : decode b_M_isOfBefore 188 = .ok (.iload 4, 2) := by decide +kernel
theorem d_M_isOfBefore_190 : decode b_M_isOfBefore 190 = .ok (.iaload, 1) := by decide +kernel
theorem d_M_isOfBefore_191 : decode b_M_isOfBefore 191 = .ok (.iastore, 1) := by decide +kernel
theorem d_M_isOfBefore_192 : decode b_M_isOfBefore 192 = .ok (.iload 5, 2) := by decide +kernel
theorem d_M_isOfBefore_194 : decode b_M_isOfBefore 194 = .ok (.iconst 1, 1) := by decide +kernel
theorem d_M_isOfBefore_195 : decode b_M_isOfBefore 195 = .ok (.if_icmp .eq 19, 3) := by decide +kernel
theorem d_M_isOfBefore_198 : decode b_M_isOfBefore 198 = .ok (.iload 5, 2) := by decide +kernel
theorem d_M_isOfBefore_200 : decode b_M_isOfBefore 200 = .ok (.iconst 2, 1) := by decide +kernel
theorem d_M_isOfBefore_201 : decode b_M_isOfBefore 201 = .ok (.if_icmp .ne 36, 3) := by decide +kernel
theorem d_M_isOfBefore_204 : decode b_M_isOfBefore 204 = .ok (.aload_n 0, 1) := by decide +kernel
theorem d_M_isOfBefore_205 : decode b_M_isOfBefore 205 = .ok (.getfield 30, 3) := by decide +kernel
theorem d_M_isOfBefore_208 : decode b_M_isOfBefore 208 = .ok (.iload 4, 2) := by decide +kernel
theorem d_M_isOfBefore_210 : decode b_M_isOfBefore 210 = .ok (.iaload, 1) := by decide +kernel
theorem d_M_isOfBefore_211 : decode b_M_isOfBefore 211 = .ok (.ifCond .le 26, 3) := by decide +kernel
theorem d_M_isOfBefore_214 : decode b_M_isOfBefore 214 = .ok (.aload_n 0, 1) := by decide +kernel
theorem d_M_isOfBefore_215 : decode b_M_isOfBefore 215 = .ok (.getfield 46, 3) := by decide +kernel
theorem d_M_isOfBefore_218 : decode b_M_isOfBefore 218 = .ok (.aload_n 0, 1) := by decide +kernel
theorem d_M_isOfBefore_219 : decode b_M_isOfBefore 219 = .ok (.dup, 1) := by decide +kernel
theorem d_M_isOfBefore_220 : decode b_M_isOfBefore 220 = .ok (.getfield 170, 3) := by decide +kernel
theorem d_M_isOfBefore_223 : decode b_M_isOfBefore 223 = .ok (.dup_x1, 1) := by decide +kernel
theorem d_M_isOfBefore_224 : decode b_M_isOfBefore 224 = .ok (.iconst 1, 1) := by decide +kernel
theorem d_M_isOfBefore_225 : decode b_M_isOfBefore 225 = .ok (.iadd, 1) := by decide +kernel
theorem d_M_isOfBefore_226 : decode b_M_isOfBefore 226 = .ok (.putfield 170, 3) := by decide +kernel
theorem d_M_isOfBefore_229 : decode b_M_isOfBefore 229 = .ok (.aload_n 0, 1) := by decide +kernel
theorem d_M_isOfBefore_230 : decode b_M_isOfBefore 230 = .ok (.getfield 33, 3) := by decide +kernel
theorem d_M_isOfBefore_233 : decode b_M_isOfBefore 233 = .ok (.iload 4, 2) := by decide +kernel
theorem d_M_isOfBefore_235 : decode b_M_isOfBefore 235 = .ok (.iaload, 1) := by decide +kernel
theorem d_M_isOfBefore_236 : decode b_M_isOfBefore 236 = .ok (.iastore, 1) := by decide +kernel
theorem d_M_isOfBefore_237 : decode b_M_isOfBefore 237 = .ok (.iload 5, 2) := by decide +kernel
theorem d_M_isOfBefore_239 : decode b_M_isOfBefore 239 = .ok (.iconst 1, 1) := by decide +kernel
theorem d_M_isOfBefore_240 : decode b_M_isOfBefore 240 = .ok (.if_icmp .ne 37, 3) := by decide +kernel
theorem d_M_isOfBefore_243 : decode b_M_isOfBefore 243 = .ok (.aload_n 0, 1) := by decide +kernel
theorem d_M_isOfBefore_244 : decode b_M_isOfBefore 244 = .ok (.getfield 36, 3) := by decide +kernel
theorem d_M_isOfBefore_247 : decode b_M_isOfBefore 247 = .ok (.iload 4, 2) := by decide +kernel
theorem d_M_isOfBefore_249 : decode b_M_isOfBefore 249 = .ok (.iaload, 1) := by decide +kernel
theorem d_M_isOfBefore_250 : decode b_M_isOfBefore 250 = .ok (.iconst (-1), 1) := by decide +kernel
theorem d_M_isOfBefore_251 : decode b_M_isOfBefore 251 = .ok (.if_icmp .eq 26, 3) := by decide +kernel
theorem d_M_isOfBefore_254 : decode b_M_isOfBefore 254 = .ok (.aload_n 0, 1) := by decide +kernel
theorem d_M_isOfBefore_255 : decode b_M_isOfBefore 255 = .ok (.getfield 46, 3) := by decide +kernel
theorem d_M_isOfBefore_258 : decode b_M_isOfBefore 258 = .ok (.aload_n 0, 1) := by decide +kernel
theorem d_M_isOfBefore_259 : decode b_M_isOfBefore 259 = .ok (.dup, 1) := by decide +kernel
theorem d_M_isOfBefore_260 : decode b_M_isOfBefore 260 = .ok (.getfield 170, 3) := by decide +kernel
theorem d_M_isOfBefore_263 : decode b_M_isOfBefore 263 = .ok (.dup_x1, 1) := by decide +kernel
theorem d_M_isOfBefore_264 : decode b_M_isOfBefore 264 = .ok (.iconst 1, 1) := by decide +kernel
theorem d_M_isOfBefore_265 : decode b_M_isOfBefore 265 = .ok (.iadd, 1) := by decide +kernel
theorem d_M_isOfBefore_266 : decode b_M_isOfBefore 266 = .ok (.putfield 170, 3) := by decide +kernel
theorem d_M_isOfBefore_269 : decode b_M_isOfBefore 269 = .ok (.aload_n 0, 1) := by decide +kernel
theorem d_M_isOfBefore_270 : decode b_M_isOfBefore 270 = .ok (.getfield 36, 3) := by decide +kernel
theorem d_M_isOfBefore_273 : decode b_M_isOfBefore 273 = .ok (.iload 4, 2) := by decide +kernel
theorem d_M_isOfBefore_275 : decode b_M_isOfBefore 275 = .ok (.iaload, 1) := by decide +kernel
theorem d_M_isOfBefore_276 : decode b_M_isOfBefore 276 = .ok (.iastore, 1) := by decide +kernel
theorem d_M_isOfBefore_277 : decode b_M_isOfBefore 277 = .ok (.goto (-243), 3) := by decide +kernel
theorem d_M_isOfBefore_280 : decode b_M_isOfBefore 280 = .ok (.iload_n 3, 1) := by decide +kernel
theorem d_M_isOfBefore_281 : decode b_M_isOfBefore 281 = .ok (.ireturn, 1) := by decide +kernel
