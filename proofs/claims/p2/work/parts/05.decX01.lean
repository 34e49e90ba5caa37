theorem d_Exchange_put_0 : decode b_Exchange_put 0 = .ok (.iload_n 1, 1) := by decide +kernel
theorem d_Exchange_put_1 : decode b_Exchange_put 1 = .ok (.ifCond .lt 10, 3) := by decide +kernel
theorem d_Exchange_put_4 : decode b_Exchange_put 4 = .ok (.iload_n 1, 1) := by decide +kernel
theorem d_Exchange_put_5 : decode b_Exchange_put 5 = .ok (.sipush 500, 3) := by decide +kernel
theorem d_Exchange_put_8 : decode b_Exchange_put 8 = .ok (.if_icmp .lt 5, 3) := by decide +kernel
theorem d_Exchange_put_11 : decode b_Exchange_put 11 = .ok (.iload_n 1, 1) := by decide +kernel
theorem d_Exchange_put_12 : decode b_Exchange_put 12 = .ok (.ireturn, 1) := by decide +kernel
theorem d_Exchange_put_13 : decode b_Exchange_put 13 = .ok (.aload_n 0, 1) := by decide +kernel
theorem d_Exchange_put_14 : decode b_Exchange_put 14 = .ok (.getfield 25, 3) := by decide +kernel
theorem d_Exchange_put_17 : decode b_Exchange_put 17 = .ok (.ifCond .ge 27, 3) := by decide +kernel
theorem d_Exchange_put_20 : decode b_Exchange_put 20 = .ok (.aload_n 0, 1) := by decide +kernel
theorem d_Exchange_put_21 : decode b_Exchange_put 21 = .ok (.getfield 21, 3) := by decide +kernel
theorem d_Exchange_put_24 : decode b_Exchange_put 24 = .ok (.iload_n 1, 1) := by decide +kernel
theorem d_Exchange_put_25 : decode b_Exchange_put 25 = .ok (.invokevirtual 35, 3) := by decide +kernel
theorem d_Exchange_put_28 : decode b_Exchange_put 28 = .ok (.aload_n 0, 1) := by decide +kernel
theorem d_Exchange_put_29 : decode b_Exchange_put 29 = .ok (.getfield 32, 3) := by decide +kernel
theorem d_Exchange_put_32 : decode b_Exchange_put 32 = .ok (.iand, 1) := by decide +kernel
theorem d_Exchange_put_33 : decode b_Exchange_put 33 = .ok (.ifCond .eq 7, 3) := by decide +kernel
theorem d_Exchange_put_36 : decode b_Exchange_put 36 = .ok (.iconst 1, 1) := by decide +kernel
theorem d_Exchange_put_37 : decode b_Exchange_put 37 = .ok (.goto 26, 3) := by decide +kernel
theorem d_Exchange_put_40 : decode b_Exchange_put 40 = .ok (.iconst 0, 1) := by decide +kernel
theorem d_Exchange_put_41 : decode b_Exchange_put 41 = .ok (.goto 22, 3) := by decide +kernel
theorem d_Exchange_put_44 : decode b_Exchange_put 44 = .ok (.aload_n 0, 1) := by decide +kernel
theorem d_Exchange_put_45 : decode b_Exchange_put 45 = .ok (.getfield 21, 3) := by decide +kernel
theorem d_Exchange_put_48 : decode b_Exchange_put 48 = .ok (.iload_n 1, 1) := by decide +kernel
theorem d_Exchange_put_49 : decode b_Exchange_put 49 = .ok (.iconst (-1), 1) := by decide +kernel
theorem d_Exchange_put_50 : decode b_Exchange_put 50 = .ok (.invokevirtual 41, 3) := by decide +kernel
theorem d_Exchange_put_53 : decode b_Exchange_put 53 = .ok (.lconst 0, 1) := by decide +kernel
theorem d_Exchange_put_54 : decode b_Exchange_put 54 = .ok (.lcmp, 1) := by decide +kernel
theorem d_Exchange_put_55 : decode b_Exchange_put 55 = .ok (.ifCond .eq 7, 3) := by decide +kernel
theorem d_Exchange_put_58 : decode b_Exchange_put 58 = .ok (.iconst 1, 1) := by decide +kernel
theorem d_Exchange_put_59 : decode b_Exchange_put 59 = .ok (.goto 4, 3) := by decide +kernel
theorem d_Exchange_put_62 : decode b_Exchange_put 62 = .ok (.iconst 0, 1) := by decide +kernel
theorem d_Exchange_put_63 : decode b_Exchange_put 63 = .ok (.istore_n 3, 1) := by decide +kernel
theorem d_Exchange_put_64 : decode b_Exchange_put 64 = .ok (.iload_n 3, 1) := by decide +kernel
theorem d_Exchange_put_65 : decode b_Exchange_put 65 = .ok (.ifCond .ne 5, 3) := by decide +kernel
theorem d_Exchange_put_68 : decode b_Exchange_put 68 = .ok (.iload_n 1, 1) := by decide +kernel
theorem d_Exchange_put_69 : decode b_Exchange_put 69 = .ok (.ireturn, 1) := by decide +kernel
theorem d_Exchange_put_70 : decode b_Exchange_put 70 = .ok (.iload_n 2, 1) := by decide +kernel
theorem d_Exchange_put_71 : decode b_Exchange_put 71 = .ok (.bipush 20, 2) := by decide +kernel
theorem d_Exchange_put_73 : decode b_Exchange_put 73 = .ok (.if_icmp .le 6, 3) := by decide +kernel
theorem d_Exchange_put_76 : decode b_Exchange_put 76 = .ok (.bipush (-3), 2) := by decide +kernel
theorem d_Exchange_put_78 : decode b_Exchange_put 78 = .ok (.ireturn, 1) := by decide +kernel
theorem d_Exchange_put_79 : decode b_Exchange_put 79 = .ok (.aload_n 0, 1) := by decide +kernel
theorem d_Exchange_put_80 : decode b_Exchange_put 80 = .ok (.getfield 18, 3) := by decide +kernel
theorem d_Exchange_put_83 : decode b_Exchange_put 83 = .ok (.iload_n 1, 1) := by decide +kernel
theorem d_Exchange_put_84 : decode b_Exchange_put 84 = .ok (.iaload, 1) := by decide +kernel
theorem d_Exchange_put_85 : decode b_Exchange_put 85 = .ok (.aload_n 0, 1) := by decide +kernel
theorem d_Exchange_put_86 : decode b_Exchange_put 86 = .ok (.getfield 29, 3) := by decide +kernel
theorem d_Exchange_put_89 : decode b_Exchange_put 89 = .ok (.if_icmp .ne 10, 3) := by decide +kernel
theorem d_Exchange_put_92 : decode b_Exchange_put 92 = .ok (.aload_n 0, 1) := by decide +kernel
theorem d_Exchange_put_93 : decode b_Exchange_put 93 = .ok (.getfield 15, 3) := by decide +kernel
theorem d_Exchange_put_96 : decode b_Exchange_put 96 = .ok (.iload_n 1, 1) := by decide +kernel
theorem d_Exchange_put_97 : decode b_Exchange_put 97 = .ok (.iaload, 1) := by decide +kernel
theorem d_Exchange_put_98 : decode b_Exchange_put 98 = .ok (.ireturn, 1) := by decide +kernel
theorem d_Exchange_put_99 : decode b_Exchange_put 99 = .ok (.aload_n 0, 1) := by decide +kernel
theorem d_Exchange_put_100 : decode b_Exchange_put 100 = .ok (.getfield 21, 3) := by decide +kernel
theorem d_Exchange_put_103 : decode b_Exchange_put 103 = .ok (.iload_n 1, 1) := by decide +kernel
theorem d_Exchange_put_104 : decode b_Exchange_put 104 = .ok (.invokevirtual 45, 3) := by decide +kernel
theorem d_Exchange_put_107 : decode b_Exchange_put 107 = .ok (.istore 4, 2) := by decide +kernel
theorem d_Exchange_put_109 : decode b_Exchange_put 109 = .ok (.aload_n 0, 1) := by decide +kernel
theorem d_Exchange_put_110 : decode b_Exchange_put 110 = .ok (.getfield 21, 3) := by decide +kernel
theorem d_Exchange_put_113 : decode b_Exchange_put 113 = .ok (.iload_n 1, 1) := by decide +kernel
theorem d_Exchange_put_114 : decode b_Exchange_put 114 = .ok (.invokevirtual 48, 3) := by decide +kernel
theorem d_Exchange_put_117 : decode b_Exchange_put 117 = .ok (.istore 5, 2) := by decide +kernel
theorem d_Exchange_put_119 : decode b_Exchange_put 119 = .ok (.aload_n 0, 1) := by decide +kernel
theorem d_Exchange_put_120 : decode b_Exchange_put 120 = .ok (.getfield 21, 3) := by decide +kernel
theorem d_Exchange_put_123 : decode b_Exchange_put 123 = .ok (.iload_n 1, 1) := by decide +kernel
theorem d_Exchange_put_124 : decode b_Exchange_put 124 = .ok (.invokevirtual 51, 3) := by decide +kernel
theorem d_Exchange_put_127 : decode b_Exchange_put 127 = .ok (.istore 6, 2) := by decide +kernel
theorem d_Exchange_put_129 : decode b_Exchange_put 129 = .ok (.aload_n 0, 1) := by decide +kernel
theorem d_Exchange_put_130 : decode b_Exchange_put 130 = .ok (.getfield 21, 3) := by decide +kernel
theorem d_Exchange_put_133 : decode b_Exchange_put 133 = .ok (.iload_n 1, 1) := by decide +kernel
theorem d_Exchange_put_134 : decode b_Exchange_put 134 = .ok (.invokevirtual 54, 3) := by decide +kernel
theorem d_Exchange_put_137 : decode b_Exchange_put 137 = .ok (.istore 7, 2) := by decide +kernel
theorem d_Exchange_put_139 : decode b_Exchange_put 139 = .ok (.iload_n 1, 1) := by decide +kernel
theorem d_Exchange_put_140 : decode b_Exchange_put 140 = .ok (.istore 8, 2) := by decide +kernel
theorem d_Exchange_put_142 : decode b_Exchange_put 142 = .ok (.iload 4, 2) := by decide +kernel
theorem d_Exchange_put_144 : decode b_Exchange_put 144 = .ok (.bipush 7, 2) := by decide +kernel
theorem d_Exchange_put_146 : decode b_Exchange_put 146 = .ok (.if_icmp .ne 27, 3) := by decide +kernel
theorem d_Exchange_put_149 : decode b_Exchange_put 149 = .ok (.iload 5, 2) := by decide +kernel
theorem d_Exchange_put_151 : decode b_Exchange_put 151 = .ok (.ifCond .lt 22, 3) := by decide +kernel
theorem d_Exchange_put_154 : decode b_Exchange_put 154 = .ok (.iload 5, 2) := by decide +kernel
theorem d_Exchange_put_156 : decode b_Exchange_put 156 = .ok (.bipush 12, 2) := by decide +kernel
theorem d_Exchange_put_158 : decode b_Exchange_put 158 = .ok (.if_icmp .ge 15, 3) := by decide +kernel
theorem d_Exchange_put_161 : decode b_Exchange_put 161 = .ok (.aload_n 0, 1) := by decide +kernel
theorem d_Exchange_put_162 : decode b_Exchange_put 162 = .ok (.getfield 9, 3) := by decide +kernel
theorem d_Exchange_put_165 : decode b_Exchange_put 165 = .ok (.iload 5, 2) := by decide +kernel
theorem d_Exchange_put_167 : decode b_Exchange_put 167 = .ok (.iaload, 1) := by decide +kernel
theorem d_Exchange_put_168 : decode b_Exchange_put 168 = .ok (.istore 8, 2) := by decide +kernel
theorem d_Exchange_put_170 : decode b_Exchange_put 170 = .ok (.goto 204, 3) := by decide +kernel
theorem d_Exchange_put_173 : decode b_Exchange_put 173 = .ok (.iload 4, 2) := by decide +kernel
theorem d_Exchange_put_175 : decode b_Exchange_put 175 = .ok (.iconst 3, 1) := by decide +kernel
theorem d_Exchange_put_176 : decode b_Exchange_put 176 = .ok (.if_icmp .ne 68, 3) := by decide +kernel
theorem d_Exchange_put_179 : decode b_Exchange_put 179 = .ok (.iload 5, 2) := by decide +kernel
theorem d_Exchange_put_181 : decode b_Exchange_put 181 = .ok (.aload_n 0, 1) := by decide +kernel
theorem d_Exchange_put_182 : decode b_Exchange_put 182 = .ok (.getfield 21, 3) := by decide +kernel
theorem d_Exchange_put_185 : decode b_Exchange_put 185 = .ok (.aload_n 0, 1) := by decide +kernel
theorem d_Exchange_put_186 : decode b_Exchange_put 186 = .ok (.getfield 25, 3) := by decide +kernel
theorem d_Exchange_put_189 : decode b_Exchange_put 189 = .ok (.invokevirtual 48, 3) := by decide +kernel
theorem d_Exchange_put_192 : decode b_Exchange_put 192 = .ok (.if_icmp .ne 52, 3) := by decide +kernel
theorem d_Exchange_put_195 : decode b_Exchange_put 195 = .ok (.aload_n 0, 1) := by decide +kernel
theorem d_Exchange_put_196 : decode b_Exchange_put 196 = .ok (.getfield 21, 3) := by decide +kernel
theorem d_Exchange_put_199 : decode b_Exchange_put 199 = .ok (.aload_n 0, 1) := by decide +kernel
theorem d_Exchange_put_200 : decode b_Exchange_put 200 = .ok (.getfield 25, 3) := by decide +kernel
theorem d_Exchange_put_203 : decode b_Exchange_put 203 = .ok (.iload 6, 2) := by decide +kernel
theorem d_Exchange_put_205 : decode b_Exchange_put 205 = .ok (.invokevirtual 57, 3) := by decide +kernel
theorem d_Exchange_put_208 : decode b_Exchange_put 208 = .ok (.istore 8, 2) := by decide +kernel
theorem d_Exchange_put_210 : decode b_Exchange_put 210 = .ok (.aload_n 0, 1) := by decide +kernel
theorem d_Exchange_put_211 : decode b_Exchange_put 211 = .ok (.getfield 21, 3) := by decide +kernel
theorem d_Exchange_put_214 : decode b_Exchange_put 214 = .ok (.iload 8, 2) := by decide +kernel
theorem d_Exchange_put_216 : decode b_Exchange_put 216 = .ok (.invokevirtual 45, 3) := by decide +kernel
theorem d_Exchange_put_219 : decode b_Exchange_put 219 = .ok (.iconst 2, 1) := by decide +kernel
theorem d_Exchange_put_220 : decode b_Exchange_put 220 = .ok (.if_icmp .ne 154, 3) := by decide +kernel
theorem d_Exchange_put_223 : decode b_Exchange_put 223 = .ok (.aload_n 0, 1) := by decide +kernel
theorem d_Exchange_put_224 : decode b_Exchange_put 224 = .ok (.getfield 21, 3) := by decide +kernel
theorem d_Exchange_put_227 : decode b_Exchange_put 227 = .ok (.bipush 8, 2) := by decide +kernel
theorem d_Exchange_put_229 : decode b_Exchange_put 229 = .ok (.aload_n 0, 1) := by decide +kernel
theorem d_Exchange_put_230 : decode b_Exchange_put 230 = .ok (.getfield 25, 3) := by decide +kernel
theorem d_Exchange_put_233 : decode b_Exchange_put 233 = .ok (.iload 6, 2) := by decide +kernel
theorem d_Exchange_put_235 : decode b_Exchange_put 235 = .ok (.iconst (-1), 1) := by decide +kernel
theorem d_Exchange_put_236 : decode b_Exchange_put 236 = .ok (.invokevirtual 61, 3) := by decide +kernel
theorem d_Exchange_put_239 : decode b_Exchange_put 239 = .ok (.istore 8, 2) := by decide +kernel
theorem d_Exchange_put_241 : decode b_Exchange_put 241 = .ok (.goto 133, 3) := by decide +kernel
theorem d_Exchange_put_244 : decode b_Exchange_put 244 = .ok (.iload 4, 2) := by decide +kernel
theorem d_Exchange_put_246 : decode b_Exchange_put 246 = .ok (.iconst 4, 1) := by decide +kernel
theorem d_Exchange_put_247 : decode b_Exchange_put 247 = .ok (.if_icmp .eq 10, 3) := by decide +kernel
theorem d_Exchange_put_250 : decode b_Exchange_put 250 = .ok (.iload 4, 2) := by decide +kernel
theorem d_Exchange_put_252 : decode b_Exchange_put 252 = .ok (.bipush 8, 2) := by decide +kernel
theorem d_Exchange_put_254 : decode b_Exchange_put 254 = .ok (.if_icmp .ne 45, 3) := by decide +kernel
theorem d_Exchange_put_257 : decode b_Exchange_put 257 = .ok (.aload_n 0, 1) := by decide +kernel
theorem d_Exchange_put_258 : decode b_Exchange_put 258 = .ok (.iload 5, 2) := by decide +kernel
theorem d_Exchange_put_260 : decode b_Exchange_put 260 = .ok (.iload_n 2, 1) := by decide +kernel
theorem d_Exchange_put_261 : decode b_Exchange_put 261 = .ok (.iconst 1, 1) := by decide +kernel
theorem d_Exchange_put_262 : decode b_Exchange_put 262 = .ok (.iadd, 1) := by decide +kernel
theorem d_Exchange_put_263 : decode b_Exchange_put 263 = .ok (.invokevirtual 65, 3) := by decide +kernel
theorem d_Exchange_put_266 : decode b_Exchange_put 266 = .ok (.istore 9, 2) := by decide +kernel
theorem d_Exchange_put_268 : decode b_Exchange_put 268 = .ok (.iload 9, 2) := by decide +kernel
theorem d_Exchange_put_270 : decode b_Exchange_put 270 = .ok (.bipush (-3), 2) := by decide +kernel
theorem d_Exchange_put_272 : decode b_Exchange_put 272 = .ok (.if_icmp .ne 8, 3) := by decide +kernel
theorem d_Exchange_put_275 : decode b_Exchange_put 275 = .ok (.bipush (-3), 2) := by decide +kernel
theorem d_Exchange_put_277 : decode b_Exchange_put 277 = .ok (.goto 17, 3) := by decide +kernel
theorem d_Exchange_put_280 : decode b_Exchange_put 280 = .ok (.aload_n 0, 1) := by decide +kernel
theorem d_Exchange_put_281 : decode b_Exchange_put 281 = .ok (.getfield 21, 3) := by decide +kernel
theorem d_Exchange_put_284 : decode b_Exchange_put 284 = .ok (.iload 4, 2) := by decide +kernel
theorem d_Exchange_put_286 : decode b_Exchange_put 286 = .ok (.iload 9, 2) := by decide +kernel
theorem d_Exchange_put_288 : decode b_Exchange_put 288 = .ok (.iload 6, 2) := by decide +kernel
theorem d_Exchange_put_290 : decode b_Exchange_put 290 = .ok (.iconst (-1), 1) := by decide +kernel
theorem d_Exchange_put_291 : decode b_Exchange_put 291 = .ok (.invokevirtual 61, 3) := by decide +kernel
theorem d_Exchange_put_294 : decode b_Exchange_put 294 = .ok (.istore 8, 2) := by decide +kernel
theorem d_Exchange_put_296 : decode b_Exchange_put 296 = .ok (.goto 78, 3) := by decide +kernel
theorem d_Exchange_put_299 : decode b_Exchange_put 299 = .ok (.iload 4, 2) := by decide +kernel
theorem d_Exchange_put_301 : decode b_Exchange_put 301 = .ok (.iconst 2, 1) := by decide +kernel
theorem d_Exchange_put_302 : decode b_Exchange_put 302 = .ok (.if_icmp .eq 9, 3) := by decide +kernel
theorem d_Exchange_put_305 : decode b_Exchange_put 305 = .ok (.iload 4, 2) := by decide +kernel
theorem d_Exchange_put_307 : decode b_Exchange_put 307 = .ok (.iconst 1, 1) := by decide +kernel
theorem d_Exchange_put_308 : decode b_Exchange_put 308 = .ok (.if_icmp .ne 66, 3) := by decide +kernel
theorem d_Exchange_put_311 : decode b_Exchange_put 311 = .ok (.aload_n 0, 1) := by decide +kernel
theorem d_Exchange_put_312 : decode b_Exchange_put 312 = .ok (.iload 6, 2) := by decide +kernel
theorem d_Exchange_put_314 : decode b_Exchange_put 314 = .ok (.iload_n 2, 1) := by decide +kernel
theorem d_Exchange_put_315 : decode b_Exchange_put 315 = .ok (.iconst 1, 1) := by decide +kernel
theorem d_Exchange_put_316 : decode b_Exchange_put 316 = .ok (.iadd, 1) := by decide +kernel
theorem d_Exchange_put_317 : decode b_Exchange_put 317 = .ok (.invokevirtual 65, 3) := by decide +kernel
theorem d_Exchange_put_320 : decode b_Exchange_put 320 = .ok (.istore 9, 2) := by decide +kernel
theorem d_Exchange_put_322 : decode b_Exchange_put 322 = .ok (.iload 9, 2) := by decide +kernel
theorem d_Exchange_put_324 : decode b_Exchange_put 324 = .ok (.bipush (-3), 2) := by decide +kernel
theorem d_Exchange_put_326 : decode b_Exchange_put 326 = .ok (.if_icmp .ne 8, 3) := by decide +kernel
theorem d_Exchange_put_329 : decode b_Exchange_put 329 = .ok (.bipush (-3), 2) := by decide +kernel
theorem d_Exchange_put_331 : decode b_Exchange_put 331 = .ok (.goto 12, 3) := by decide +kernel
theorem d_Exchange_put_334 : decode b_Exchange_put 334 = .ok (.aload_n 0, 1) := by decide +kernel
theorem d_Exchange_put_335 : decode b_Exchange_put 335 = .ok (.iload 7, 2) := by decide +kernel
theorem d_Exchange_put_337 : decode b_Exchange_put 337 = .ok (.iload_n 2, 1) := by decide +kernel
theorem d_Exchange_put_338 : decode b_Exchange_put 338 = .ok (.iconst 1, 1) := by decide +kernel
theorem d_Exchange_put_339 : decode b_Exchange_put 339 = .ok (.iadd, 1) := by decide +kernel
theorem d_Exchange_put_340 : decode b_Exchange_put 340 = .ok (.invokevirtual 65, 3) := by decide +kernel
theorem d_Exchange_put_343 : decode b_Exchange_put 343 = .ok (.istore 10, 2) := by decide +kernel
theorem d_Exchange_put_345 : decode b_Exchange_put 345 = .ok (.iload 10, 2) := by decide +kernel
theorem d_Exchange_put_347 : decode b_Exchange_put 347 = .ok (.bipush (-3), 2) := by decide +kernel
theorem d_Exchange_put_349 : decode b_Exchange_put 349 = .ok (.if_icmp .ne 8, 3) := by decide +kernel
theorem d_Exchange_put_352 : decode b_Exchange_put 352 = .ok (.bipush (-3), 2) := by decide +kernel
theorem d_Exchange_put_354 : decode b_Exchange_put 354 = .ok (.goto 18, 3) := by decide +kernel
theorem d_Exchange_put_357 : decode b_Exchange_put 357 = .ok (.aload_n 0, 1) := by decide +kernel
theorem d_Exchange_put_358 : decode b_Exchange_put 358 = .ok (.getfield 21, 3) := by decide +kernel
theorem d_Exchange_put_361 : decode b_Exchange_put 361 = .ok (.iload 4, 2) := by decide +kernel
theorem d_Exchange_put_363 : decode b_Exchange_put 363 = .ok (.iload 5, 2) := by decide +kernel
theorem d_Exchange_put_365 : decode b_Exchange_put 365 = .ok (.iload 9, 2) := by decide +kernel
theorem d_Exchange_put_367 : decode b_Exchange_put 367 = .ok (.iload 10, 2) := by decide +kernel
theorem d_Exchange_put_369 : decode b_Exchange_put 369 = .ok (.invokevirtual 61, 3) := by decide +kernel
theorem d_Exchange_put_372 : decode b_Exchange_put 372 = .ok (.istore 8, 2) := by decide +kernel
theorem d_Exchange_put_374 : decode b_Exchange_put 374 = .ok (.aload_n 0, 1) := by decide +kernel
theorem d_Exchange_put_375 : decode b_Exchange_put 375 = .ok (.getfield 15, 3) := by decide +kernel
theorem d_Exchange_put_378 : decode b_Exchange_put 378 = .ok (.iload_n 1, 1) := by decide +kernel
theorem d_Exchange_put_379 : decode b_Exchange_put 379 = .ok (.iload 8, 2) := by decide +kernel
theorem d_Exchange_put_381 : decode b_Exchange_put 381 = .ok (.iastore, 1) := by decide +kernel
theorem d_Exchange_put_382 : decode b_Exchange_put 382 = .ok (.aload_n 0, 1) := by decide +kernel
theorem d_Exchange_put_383 : decode b_Exchange_put 383 = .ok (.getfield 18, 3) := by decide +kernel
theorem d_Exchange_put_386 : decode b_Exchange_put 386 = .ok (.iload_n 1, 1) := by decide +kernel
theorem d_Exchange_put_387 : decode b_Exchange_put 387 = .ok (.aload_n 0, 1) := by decide +kernel
theorem d_Exchange_put_388 : decode b_Exchange_put 388 = .ok (.getfield 29, 3) := by decide +kernel
theorem d_Exchange_put_391 : decode b_Exchange_put 391 = .ok (.iastore, 1) := by decide +kernel
theorem d_Exchange_put_392 : decode b_Exchange_put 392 = .ok (.iload 8, 2) := by decide +kernel
theorem d_Exchange_put_394 : decode b_Exchange_put 394 = .ok (.ireturn, 1) := by decide +kernel
theorem d_Holder_init_0 : decode b_Holder_init 0 = .ok (.aload_n 0, 1) := by decide +kernel
theorem d_Holder_init_1 : decode b_Holder_init 1 = .ok (.invokespecial 3, 3) := by decide +kernel
theorem d_Holder_init_4 : decode b_Holder_init 4 = .ok (.aload_n 0, 1) := by decide +kernel
theorem d_Holder_init_5 : decode b_Holder_init 5 = .ok (.aload_n 1, 1) := by decide +kernel
theorem d_Holder_init_6 : decode b_Holder_init 6 = .ok (.putfield 9, 3) := by decide +kernel
theorem d_Holder_init_9 : decode b_Holder_init 9 = .ok (.aload_n 0, 1) := by decide +kernel
theorem d_Holder_init_10 : decode b_Holder_init 10 = .ok (.aload_n 2, 1) := by decide +kernel
theorem d_Holder_init_11 : decode b_Holder_init 11 = .ok (.putfield 15, 3) := by decide +kernel
theorem d_Holder_init_14 : decode b_Holder_init 14 = .ok (.aload_n 0, 1) := by decide +kernel
theorem d_Holder_init_15 : decode b_Holder_init 15 = .ok (.aload_n 3, 1) := by decide +kernel
theorem d_Holder_init_16 : decode b_Holder_init 16 = .ok (.putfield 19, 3) := by decide +kernel
theorem d_Holder_init_19 : decode b_Holder_init 19 = .ok (.aload_n 0, 1) := by decide +kernel
theorem d_Holder_init_20 : decode b_Holder_init 20 = .ok (.aload 4, 2) := by decide +kernel
theorem d_Holder_init_22 : decode b_Holder_init 22 = .ok (.putfield 23, 3) := by decide +kernel
theorem d_Holder_init_25 : decode b_Holder_init 25 = .ok (.aload_n 0, 1) := by decide +kernel
theorem d_Holder_init_26 : decode b_Holder_init 26 = .ok (.aload 5, 2) := by decide +kernel
theorem d_Holder_init_28 : decode b_Holder_init 28 = .ok (.putfield 27, 3) := by decide +kernel
theorem d_Holder_init_31 : decode b_Holder_init 31 = .ok (.aload_n 0, 1) := by decide +kernel
theorem d_Holder_init_32 : decode b_Holder_init 32 = .ok (.aload 6, 2) := by decide +kernel
theorem d_Holder_init_34 : decode b_Holder_init 34 = .ok (.putfield 31, 3) := by decide +kernel
theorem d_Holder_init_37 : decode b_Holder_init 37 = .ok (.return_, 1) := by decide +kernel
theorem d_Holder_holdAll_0 : decode b_Holder_holdAll 0 = .ok (.aload_n 0, 1) := by decide +kernel
theorem d_Holder_holdAll_1 : decode b_Holder_holdAll 1 = .ok (.getfield 27, 3) := by decide +kernel
theorem d_Holder_holdAll_4 : decode b_Holder_holdAll 4 = .ok (.invokevirtual 35, 3) := by decide +kernel
theorem d_Holder_holdAll_7 : decode b_Holder_holdAll 7 = .ok (.istore_n 1, 1) := by decide +kernel
theorem d_Holder_holdAll_8 : decode b_Holder_holdAll 8 = .ok (.iload_n 1, 1) := by decide +kernel
theorem d_Holder_holdAll_9 : decode b_Holder_holdAll 9 = .ok (.iconst 1, 1) := by decide +kernel
theorem d_Holder_holdAll_10 : decode b_Holder_holdAll 10 = .ok (.if_icmp .ne 127, 3) := by decide +kernel
theorem d_Holder_holdAll_13 : decode b_Holder_holdAll 13 = .ok (.aload_n 0, 1) := by decide +kernel
theorem d_Holder_holdAll_14 : decode b_Holder_holdAll 14 = .ok (.getfield 41, 3) := by decide +kernel
theorem d_Holder_holdAll_17 : decode b_Holder_holdAll 17 = .ok (.aload_n 0, 1) := by decide +kernel
theorem d_Holder_holdAll_18 : decode b_Holder_holdAll 18 = .ok (.getfield 19, 3) := by decide +kernel
theorem d_Holder_holdAll_21 : decode b_Holder_holdAll 21 = .ok (.getfield 45, 3) := by decide +kernel
theorem d_Holder_holdAll_24 : decode b_Holder_holdAll 24 = .ok (.if_icmp .ge 113, 3) := by decide +kernel
theorem d_Holder_holdAll_27 : decode b_Holder_holdAll 27 = .ok (.aload_n 0, 1) := by decide +kernel
theorem d_Holder_holdAll_28 : decode b_Holder_holdAll 28 = .ok (.getfield 41, 3) := by decide +kernel
theorem d_Holder_holdAll_31 : decode b_Holder_holdAll 31 = .ok (.sipush 200, 3) := by decide +kernel
theorem d_Holder_holdAll_34 : decode b_Holder_holdAll 34 = .ok (.if_icmp .ge 103, 3) := by decide +kernel
theorem d_Holder_holdAll_37 : decode b_Holder_holdAll 37 = .ok (.iconst 0, 1) := by decide +kernel
theorem d_Holder_holdAll_38 : decode b_Holder_holdAll 38 = .ok (.istore_n 2, 1) := by decide +kernel
theorem d_Holder_holdAll_39 : decode b_Holder_holdAll 39 = .ok (.iload_n 2, 1) := by decide +kernel
theorem d_Holder_holdAll_40 : decode b_Holder_holdAll 40 = .ok (.aload_n 0, 1) := by decide +kernel
theorem d_Holder_holdAll_41 : decode b_Holder_holdAll 41 = .ok (.getfield 41, 3) := by decide +kernel
theorem d_Holder_holdAll_44 : decode b_Holder_holdAll 44 = .ok (.if_icmp .ge 80, 3) := by decide +kernel
theorem d_Holder_holdAll_47 : decode b_Holder_holdAll 47 = .ok (.iload_n 1, 1) := by decide +kernel
theorem d_Holder_holdAll_48 : decode b_Holder_holdAll 48 = .ok (.iconst 1, 1) := by decide +kernel
theorem d_Holder_holdAll_49 : decode b_Holder_holdAll 49 = .ok (.if_icmp .ne 75, 3) := by decide +kernel
theorem d_Holder_holdAll_52 : decode b_Holder_holdAll 52 = .ok (.aload_n 0, 1) := by decide +kernel
theorem d_Holder_holdAll_53 : decode b_Holder_holdAll 53 = .ok (.iload_n 2, 1) := by decide +kernel
theorem d_Holder_holdAll_54 : decode b_Holder_holdAll 54 = .ok (.aload_n 0, 1) := by decide +kernel
theorem d_Holder_holdAll_55 : decode b_Holder_holdAll 55 = .ok (.getfield 41, 3) := by decide +kernel
theorem d_Holder_holdAll_58 : decode b_Holder_holdAll 58 = .ok (.invokevirtual 50, 3) := by decide +kernel
theorem d_Holder_holdAll_61 : decode b_Holder_holdAll 61 = .ok (.istore_n 1, 1) := by decide +kernel
theorem d_Holder_holdAll_62 : decode b_Holder_holdAll 62 = .ok (.iload_n 1, 1) := by decide +kernel
theorem d_Holder_holdAll_63 : decode b_Holder_holdAll 63 = .ok (.iconst 1, 1) := by decide +kernel
theorem d_Holder_holdAll_64 : decode b_Holder_holdAll 64 = .ok (.if_icmp .ne 11, 3) := by decide +kernel
theorem d_Holder_holdAll_67 : decode b_Holder_holdAll 67 = .ok (.aload_n 0, 1) := by decide +kernel
theorem d_Holder_holdAll_68 : decode b_Holder_holdAll 68 = .ok (.getfield 27, 3) := by decide +kernel
theorem d_Holder_holdAll_71 : decode b_Holder_holdAll 71 = .ok (.invokevirtual 35, 3) := by decide +kernel
theorem d_Holder_holdAll_74 : decode b_Holder_holdAll 74 = .ok (.istore_n 1, 1) := by decide +kernel
theorem d_Holder_holdAll_75 : decode b_Holder_holdAll 75 = .ok (.iload_n 1, 1) := by decide +kernel
theorem d_Holder_holdAll_76 : decode b_Holder_holdAll 76 = .ok (.iconst 1, 1) := by decide +kernel
theorem d_Holder_holdAll_77 : decode b_Holder_holdAll 77 = .ok (.if_icmp .ne 13, 3) := by decide +kernel
theorem d_Holder_holdAll_80 : decode b_Holder_holdAll 80 = .ok (.aload_n 0, 1) := by decide +kernel
theorem d_Holder_holdAll_81 : decode b_Holder_holdAll 81 = .ok (.iload_n 2, 1) := by decide +kernel
theorem d_Holder_holdAll_82 : decode b_Holder_holdAll 82 = .ok (.aload_n 0, 1) := by decide +kernel
theorem d_Holder_holdAll_83 : decode b_Holder_holdAll 83 = .ok (.getfield 41, 3) := by decide +kernel
theorem d_Holder_holdAll_86 : decode b_Holder_holdAll 86 = .ok (.invokevirtual 54, 3) := by decide +kernel
theorem d_Holder_holdAll_89 : decode b_Holder_holdAll 89 = .ok (.istore_n 1, 1) := by decide +kernel
theorem d_Holder_holdAll_90 : decode b_Holder_holdAll 90 = .ok (.iload_n 1, 1) := by decide +kernel
theorem d_Holder_holdAll_91 : decode b_Holder_holdAll 91 = .ok (.iconst 1, 1) := by decide +kernel
theorem d_Holder_holdAll_92 : decode b_Holder_holdAll 92 = .ok (.if_icmp .ne 13, 3) := by decide +kernel
theorem d_Holder_holdAll_95 : decode b_Holder_holdAll 95 = .ok (.aload_n 0, 1) := by decide +kernel
theorem d_Holder_holdAll_96 : decode b_Holder_holdAll 96 = .ok (.aload_n 0, 1) := by decide +kernel
theorem d_Holder_holdAll_97 : decode b_Holder_holdAll 97 = .ok (.getfield 41, 3) := by decide +kernel
theorem d_Holder_holdAll_100 : decode b_Holder_holdAll 100 = .ok (.iload_n 2, 1) := by decide +kernel
theorem d_Holder_holdAll_101 : decode b_Holder_holdAll 101 = .ok (.invokevirtual 50, 3) := by decide +kernel
theorem d_Holder_holdAll_104 : decode b_Holder_holdAll 104 = .ok (.istore_n 1, 1) := by decide +kernel
theorem d_Holder_holdAll_105 : decode b_Holder_holdAll 105 = .ok (.iload_n 1, 1) := by decide +kernel
theorem d_Holder_holdAll_106 : decode b_Holder_holdAll 106 = .ok (.iconst 1, 1) := by decide +kernel
theorem d_Holder_holdAll_107 : decode b_Holder_holdAll 107 = .ok (.if_icmp .ne 11, 3) := by decide +kernel
theorem d_Holder_holdAll_110 : decode b_Holder_holdAll 110 = .ok (.aload_n 0, 1) := by decide +kernel
theorem d_Holder_holdAll_111 : decode b_Holder_holdAll 111 = .ok (.getfield 27, 3) := by decide +kernel
theorem d_Holder_holdAll_114 : decode b_Holder_holdAll 114 = .ok (.invokevirtual 35, 3) := by decide +kernel
theorem d_Holder_holdAll_117 : decode b_Holder_holdAll 117 = .ok (.istore_n 1, 1) := by decide +kernel
theorem d_Holder_holdAll_118 : decode b_Holder_holdAll 118 = .ok (.iinc 2 1, 3) := by decide +kernel
theorem d_Holder_holdAll_121 : decode b_Holder_holdAll 121 = .ok (.goto (-82), 3) := by decide +kernel
theorem d_Holder_holdAll_124 : decode b_Holder_holdAll 124 = .ok (.aload_n 0, 1) := by decide +kernel
theorem d_Holder_holdAll_125 : decode b_Holder_holdAll 125 = .ok (.dup, 1) := by decide +kernel
theorem d_Holder_holdAll_126 : decode b_Holder_holdAll 126 = .ok (.getfield 41, 3) := by decide +kernel
theorem d_Holder_holdAll_129 : decode b_Holder_holdAll 129 = .ok (.iconst 1, 1) := by decide +kernel
theorem d_Holder_holdAll_130 : decode b_Holder_holdAll 130 = .ok (.iadd, 1) := by decide +kernel
theorem d_Holder_holdAll_131 : decode b_Holder_holdAll 131 = .ok (.putfield 41, 3) := by decide +kernel
theorem d_Holder_holdAll_134 : decode b_Holder_holdAll 134 = .ok (.goto (-126), 3) := by decide +kernel
theorem d_Holder_holdAll_137 : decode b_Holder_holdAll 137 = .ok (.iload_n 1, 1) := by decide +kernel
theorem d_Holder_holdAll_138 : decode b_Holder_holdAll 138 = .ok (.ireturn, 1) := by decide +kernel
theorem d_Holder_comes_0 : decode b_Holder_comes 0 = .ok (.aload_n 0, 1) := by decide +kernel
theorem d_Holder_comes_1 : decode b_Holder_comes 1 = .ok (.getfield 19, 3) := by decide +kernel
theorem d_Holder_comes_4 : decode b_Holder_comes 4 = .ok (.iload_n 1, 1) := by decide +kernel
theorem d_Holder_comes_5 : decode b_Holder_comes 5 = .ok (.invokevirtual 57, 3) := by decide +kernel
theorem d_Holder_comes_8 : decode b_Holder_comes 8 = .ok (.aload_n 0, 1) := by decide +kernel
theorem d_Holder_comes_9 : decode b_Holder_comes 9 = .ok (.getfield 19, 3) := by decide +kernel
theorem d_Holder_comes_12 : decode b_Holder_comes 12 = .ok (.iload_n 2, 1) := by decide +kernel
theorem d_Holder_comes_13 : decode b_Holder_comes 13 = .ok (.invokevirtual 57, 3) := by decide +kernel
theorem d_Holder_comes_16 : decode b_Holder_comes 16 = .ok (.if_icmp .eq 10, 3) := by decide +kernel
theorem d_Holder_comes_19 : decode b_Holder_comes 19 = .ok (.aload_n 0, 1) := by decide +kernel
theorem d_Holder_comes_20 : decode b_Holder_comes 20 = .ok (.iload_n 1, 1) := by decide +kernel
theorem d_Holder_comes_21 : decode b_Holder_comes 21 = .ok (.iload_n 2, 1) := by decide +kernel
theorem d_Holder_comes_22 : decode b_Holder_comes 22 = .ok (.invokevirtual 61, 3) := by decide +kernel
theorem d_Holder_comes_25 : decode b_Holder_comes 25 = .ok (.ireturn, 1) := by decide +kernel
theorem d_Holder_comes_26 : decode b_Holder_comes 26 = .ok (.aload_n 0, 1) := by decide +kernel
theorem d_Holder_comes_27 : decode b_Holder_comes 27 = .ok (.getfield 19, 3) := by decide +kernel
theorem d_Holder_comes_30 : decode b_Holder_comes 30 = .ok (.iload_n 1, 1) := by decide +kernel
theorem d_Holder_comes_31 : decode b_Holder_comes 31 = .ok (.invokevirtual 64, 3) := by decide +kernel
theorem d_Holder_comes_34 : decode b_Holder_comes 34 = .ok (.istore_n 3, 1) := by decide +kernel
theorem d_Holder_comes_35 : decode b_Holder_comes 35 = .ok (.aload_n 0, 1) := by decide +kernel
theorem d_Holder_comes_36 : decode b_Holder_comes 36 = .ok (.getfield 19, 3) := by decide +kernel
theorem d_Holder_comes_39 : decode b_Holder_comes 39 = .ok (.iload_n 2, 1) := by decide +kernel
theorem d_Holder_comes_40 : decode b_Holder_comes 40 = .ok (.invokevirtual 64, 3) := by decide +kernel
theorem d_Holder_comes_43 : decode b_Holder_comes 43 = .ok (.istore 4, 2) := by decide +kernel
theorem d_Holder_comes_45 : decode b_Holder_comes 45 = .ok (.aload_n 0, 1) := by decide +kernel
theorem d_Holder_comes_46 : decode b_Holder_comes 46 = .ok (.getfield 19, 3) := by decide +kernel
theorem d_Holder_comes_49 : decode b_Holder_comes 49 = .ok (.iload_n 1, 1) := by decide +kernel
theorem d_Holder_comes_50 : decode b_Holder_comes 50 = .ok (.invokevirtual 67, 3) := by decide +kernel
theorem d_Holder_comes_53 : decode b_Holder_comes 53 = .ok (.istore 5, 2) := by decide +kernel
theorem d_Holder_comes_55 : decode b_Holder_comes 55 = .ok (.aload_n 0, 1) := by decide +kernel
theorem d_Holder_comes_56 : decode b_Holder_comes 56 = .ok (.getfield 19, 3) := by decide +kernel
theorem d_Holder_comes_59 : decode b_Holder_comes 59 = .ok (.iload_n 2, 1) := by decide +kernel
theorem d_Holder_comes_60 : decode b_Holder_comes 60 = .ok (.invokevirtual 67, 3) := by decide +kernel
theorem d_Holder_comes_63 : decode b_Holder_comes 63 = .ok (.istore 6, 2) := by decide +kernel
theorem d_Holder_comes_65 : decode b_Holder_comes 65 = .ok (.iload_n 3, 1) := by decide +kernel
theorem d_Holder_comes_66 : decode b_Holder_comes 66 = .ok (.ifCond .ne 30, 3) := by decide +kernel
theorem d_Holder_comes_69 : decode b_Holder_comes 69 = .ok (.iload 4, 2) := by decide +kernel
theorem d_Holder_comes_71 : decode b_Holder_comes 71 = .ok (.ifCond .ne 25, 3) := by decide +kernel
theorem d_Holder_comes_74 : decode b_Holder_comes 74 = .ok (.iload_n 1, 1) := by decide +kernel
theorem d_Holder_comes_75 : decode b_Holder_comes 75 = .ok (.iload_n 2, 1) := by decide +kernel
theorem d_Holder_comes_76 : decode b_Holder_comes 76 = .ok (.if_icmp .ge 18, 3) := by decide +kernel
theorem d_Holder_comes_79 : decode b_Holder_comes 79 = .ok (.aload_n 0, 1) := by decide +kernel
theorem d_Holder_comes_80 : decode b_Holder_comes 80 = .ok (.getfield 27, 3) := by decide +kernel
theorem d_Holder_comes_83 : decode b_Holder_comes 83 = .ok (.iconst 3, 1) := by decide +kernel
theorem d_Holder_comes_84 : decode b_Holder_comes 84 = .ok (.iload 5, 2) := by decide +kernel
theorem d_Holder_comes_86 : decode b_Holder_comes 86 = .ok (.iload 6, 2) := by decide +kernel
theorem d_Holder_comes_88 : decode b_Holder_comes 88 = .ok (.invokevirtual 70, 3) := by decide +kernel
theorem d_Holder_comes_91 : decode b_Holder_comes 91 = .ok (.goto 4, 3) := by decide +kernel
theorem d_Holder_comes_94 : decode b_Holder_comes 94 = .ok (.iconst 1, 1) := by decide +kernel
theorem d_Holder_comes_95 : decode b_Holder_comes 95 = .ok (.ireturn, 1) := by decide +kernel
theorem d_Holder_comes_96 : decode b_Holder_comes 96 = .ok (.iload_n 3, 1) := by decide +kernel
theorem d_Holder_comes_97 : decode b_Holder_comes 97 = .ok (.ifCond .ne 22, 3) := by decide +kernel
theorem d_Holder_comes_100 : decode b_Holder_comes 100 = .ok (.iload 4, 2) := by decide +kernel
theorem d_Holder_comes_102 : decode b_Holder_comes 102 = .ok (.iconst 2, 1) := by decide +kernel
theorem d_Holder_comes_103 : decode b_Holder_comes 103 = .ok (.if_icmp .ne 16, 3) := by decide +kernel
theorem d_Holder_comes_106 : decode b_Holder_comes 106 = .ok (.aload_n 0, 1) := by decide +kernel
theorem d_Holder_comes_107 : decode b_Holder_comes 107 = .ok (.getfield 27, 3) := by decide +kernel
theorem d_Holder_comes_110 : decode b_Holder_comes 110 = .ok (.iconst 1, 1) := by decide +kernel
theorem d_Holder_comes_111 : decode b_Holder_comes 111 = .ok (.iload 6, 2) := by decide +kernel
theorem d_Holder_comes_113 : decode b_Holder_comes 113 = .ok (.iload 5, 2) := by decide +kernel
theorem d_Holder_comes_115 : decode b_Holder_comes 115 = .ok (.invokevirtual 70, 3) := by decide +kernel
theorem d_Holder_comes_118 : decode b_Holder_comes 118 = .ok (.ireturn, 1) := by decide +kernel
theorem d_Holder_comes_119 : decode b_Holder_comes 119 = .ok (.iload_n 3, 1) := by decide +kernel
theorem d_Holder_comes_120 : decode b_Holder_comes 120 = .ok (.iconst 1, 1) := by decide +kernel
theorem d_Holder_comes_121 : decode b_Holder_comes 121 = .ok (.if_icmp .eq 22, 3) := by decide +kernel
theorem d_Holder_comes_124 : decode b_Holder_comes 124 = .ok (.iload 4, 2) := by decide +kernel
theorem d_Holder_comes_126 : decode b_Holder_comes 126 = .ok (.iconst 1, 1) := by decide +kernel
theorem d_Holder_comes_127 : decode b_Holder_comes 127 = .ok (.if_icmp .ne 16, 3) := by decide +kernel
theorem d_Holder_comes_130 : decode b_Holder_comes 130 = .ok (.aload_n 0, 1) := by decide +kernel
theorem d_Holder_comes_131 : decode b_Holder_comes 131 = .ok (.getfield 27, 3) := by decide +kernel
theorem d_Holder_comes_134 : decode b_Holder_comes 134 = .ok (.iconst 1, 1) := by decide +kernel
theorem d_Holder_comes_135 : decode b_Holder_comes 135 = .ok (.iload 5, 2) := by decide +kernel
theorem d_Holder_comes_137 : decode b_Holder_comes 137 = .ok (.iload 6, 2) := by decide +kernel
theorem d_Holder_comes_139 : decode b_Holder_comes 139 = .ok (.invokevirtual 70, 3) := by decide +kernel
theorem d_Holder_comes_142 : decode b_Holder_comes 142 = .ok (.ireturn, 1) := by decide +kernel
theorem d_Holder_comes_143 : decode b_Holder_comes 143 = .ok (.iconst 1, 1) := by decide +kernel
theorem d_Holder_comes_144 : decode b_Holder_comes 144 = .ok (.ireturn, 1) := by decide +kernel
theorem d_Holder_putsInto_0 : decode b_Holder_putsInto 0 = .ok (.aload_n 0, 1) := by decide +kernel
theorem d_Holder_putsInto_1 : decode b_Holder_putsInto 1 = .ok (.getfield 19, 3) := by decide +kernel
theorem d_Holder_putsInto_4 : decode b_Holder_putsInto 4 = .ok (.iload_n 1, 1) := by decide +kernel
theorem d_Holder_putsInto_5 : decode b_Holder_putsInto 5 = .ok (.invokevirtual 57, 3) := by decide +kernel
theorem d_Holder_putsInto_8 : decode b_Holder_putsInto 8 = .ok (.istore_n 3, 1) := by decide +kernel
theorem d_Holder_putsInto_9 : decode b_Holder_putsInto 9 = .ok (.aload_n 0, 1) := by decide +kernel
theorem d_Holder_putsInto_10 : decode b_Holder_putsInto 10 = .ok (.getfield 19, 3) := by decide +kernel
theorem d_Holder_putsInto_13 : decode b_Holder_putsInto 13 = .ok (.iload_n 2, 1) := by decide +kernel
theorem d_Holder_putsInto_14 : decode b_Holder_putsInto 14 = .ok (.invokevirtual 57, 3) := by decide +kernel
theorem d_Holder_putsInto_17 : decode b_Holder_putsInto 17 = .ok (.istore 4, 2) := by decide +kernel
theorem d_Holder_putsInto_19 : decode b_Holder_putsInto 19 = .ok (.aload_n 0, 1) := by decide +kernel
theorem d_Holder_putsInto_20 : decode b_Holder_putsInto 20 = .ok (.getfield 19, 3) := by decide +kernel
theorem d_Holder_putsInto_23 : decode b_Holder_putsInto 23 = .ok (.iload_n 1, 1) := by decide +kernel
theorem d_Holder_putsInto_24 : decode b_Holder_putsInto 24 = .ok (.invokevirtual 67, 3) := by decide +kernel
theorem d_Holder_putsInto_27 : decode b_Holder_putsInto 27 = .ok (.istore 5, 2) := by decide +kernel
theorem d_Holder_putsInto_29 : decode b_Holder_putsInto 29 = .ok (.aload_n 0, 1) := by decide +kernel
theorem d_Holder_putsInto_30 : decode b_Holder_putsInto 30 = .ok (.getfield 19, 3) := by decide +kernel
theorem d_Holder_putsInto_33 : decode b_Holder_putsInto 33 = .ok (.iload_n 2, 1) := by decide +kernel
theorem d_Holder_putsInto_34 : decode b_Holder_putsInto 34 = .ok (.invokevirtual 67, 3) := by decide +kernel
theorem d_Holder_putsInto_37 : decode b_Holder_putsInto 37 = .ok (.istore 6, 2) := by decide +kernel
theorem d_Holder_putsInto_39 : decode b_Holder_putsInto 39 = .ok (.aload_n 0, 1) := by decide +kernel
theorem d_Holder_putsInto_40 : decode b_Holder_putsInto 40 = .ok (.getfield 19, 3) := by decide +kernel
theorem d_Holder_putsInto_43 : decode b_Holder_putsInto 43 = .ok (.iload_n 1, 1) := by decide +kernel
theorem d_Holder_putsInto_44 : decode b_Holder_putsInto 44 = .ok (.invokevirtual 64, 3) := by decide +kernel
theorem d_Holder_putsInto_47 : decode b_Holder_putsInto 47 = .ok (.ifCond .ne 15, 3) := by decide +kernel
theorem d_Holder_putsInto_50 : decode b_Holder_putsInto 50 = .ok (.aload_n 0, 1) := by decide +kernel
theorem d_Holder_putsInto_51 : decode b_Holder_putsInto 51 = .ok (.getfield 15, 3) := by decide +kernel
theorem d_Holder_putsInto_54 : decode b_Holder_putsInto 54 = .ok (.iload 5, 2) := by decide +kernel
theorem d_Holder_putsInto_56 : decode b_Holder_putsInto 56 = .ok (.invokevirtual 74, 3) := by decide +kernel
theorem d_Holder_putsInto_59 : decode b_Holder_putsInto 59 = .ok (.ifCond .ne 5, 3) := by decide +kernel
theorem d_Holder_putsInto_62 : decode b_Holder_putsInto 62 = .ok (.iconst 1, 1) := by decide +kernel
theorem d_Holder_putsInto_63 : decode b_Holder_putsInto 63 = .ok (.ireturn, 1) := by decide +kernel
theorem d_Holder_putsInto_64 : decode b_Holder_putsInto 64 = .ok (.iload 4, 2) := by decide +kernel
theorem d_Holder_putsInto_66 : decode b_Holder_putsInto 66 = .ok (.ifCond .lt 26, 3) := by decide +kernel
theorem d_Holder_putsInto_69 : decode b_Holder_putsInto 69 = .ok (.iload 4, 2) := by decide +kernel
theorem d_Holder_putsInto_71 : decode b_Holder_putsInto 71 = .ok (.bipush 12, 2) := by decide +kernel
theorem d_Holder_putsInto_73 : decode b_Holder_putsInto 73 = .ok (.if_icmp .ge 19, 3) := by decide +kernel
theorem d_Holder_putsInto_76 : decode b_Holder_putsInto 76 = .ok (.aload_n 0, 1) := by decide +kernel
theorem d_Holder_putsInto_77 : decode b_Holder_putsInto 77 = .ok (.getfield 15, 3) := by decide +kernel
theorem d_Holder_putsInto_80 : decode b_Holder_putsInto 80 = .ok (.iload 6, 2) := by decide +kernel
theorem d_Holder_putsInto_82 : decode b_Holder_putsInto 82 = .ok (.invokevirtual 80, 3) := by decide +kernel
theorem d_Holder_putsInto_85 : decode b_Holder_putsInto 85 = .ok (.iload_n 3, 1) := by decide +kernel
theorem d_Holder_putsInto_86 : decode b_Holder_putsInto 86 = .ok (.ishr, 1) := by decide +kernel
theorem d_Holder_putsInto_87 : decode b_Holder_putsInto 87 = .ok (.iconst 1, 1) := by decide +kernel
theorem d_Holder_putsInto_88 : decode b_Holder_putsInto 88 = .ok (.iand, 1) := by decide +kernel
theorem d_Holder_putsInto_89 : decode b_Holder_putsInto 89 = .ok (.ifCond .ne 5, 3) := by decide +kernel
theorem d_Holder_putsInto_92 : decode b_Holder_putsInto 92 = .ok (.iconst 1, 1) := by decide +kernel
theorem d_Holder_putsInto_93 : decode b_Holder_putsInto 93 = .ok (.ireturn, 1) := by decide +kernel
theorem d_Holder_putsInto_94 : decode b_Holder_putsInto 94 = .ok (.aload_n 0, 1) := by decide +kernel
theorem d_Holder_putsInto_95 : decode b_Holder_putsInto 95 = .ok (.getfield 23, 3) := by decide +kernel
theorem d_Holder_putsInto_98 : decode b_Holder_putsInto 98 = .ok (.invokevirtual 83, 3) := by decide +kernel
theorem d_Holder_putsInto_101 : decode b_Holder_putsInto 101 = .ok (.aload_n 0, 1) := by decide +kernel
theorem d_Holder_putsInto_102 : decode b_Holder_putsInto 102 = .ok (.getfield 23, 3) := by decide +kernel
theorem d_Holder_putsInto_105 : decode b_Holder_putsInto 105 = .ok (.iload_n 3, 1) := by decide +kernel
theorem d_Holder_putsInto_106 : decode b_Holder_putsInto 106 = .ok (.iload 5, 2) := by decide +kernel
theorem d_Holder_putsInto_108 : decode b_Holder_putsInto 108 = .ok (.invokevirtual 88, 3) := by decide +kernel
theorem d_Holder_putsInto_111 : decode b_Holder_putsInto 111 = .ok (.aload_n 0, 1) := by decide +kernel
theorem d_Holder_putsInto_112 : decode b_Holder_putsInto 112 = .ok (.getfield 23, 3) := by decide +kernel
theorem d_Holder_putsInto_115 : decode b_Holder_putsInto 115 = .ok (.iload 6, 2) := by decide +kernel
theorem d_Holder_putsInto_117 : decode b_Holder_putsInto 117 = .ok (.iconst 1, 1) := by decide +kernel
theorem d_Holder_putsInto_118 : decode b_Holder_putsInto 118 = .ok (.invokevirtual 92, 3) := by decide +kernel
theorem d_Holder_putsInto_121 : decode b_Holder_putsInto 121 = .ok (.istore 7, 2) := by decide +kernel
theorem d_Holder_putsInto_123 : decode b_Holder_putsInto 123 = .ok (.aload_n 0, 1) := by decide +kernel
theorem d_Holder_putsInto_124 : decode b_Holder_putsInto 124 = .ok (.getfield 19, 3) := by decide +kernel
theorem d_Holder_putsInto_127 : decode b_Holder_putsInto 127 = .ok (.iload_n 2, 1) := by decide +kernel
theorem d_Holder_putsInto_128 : decode b_Holder_putsInto 128 = .ok (.invokevirtual 64, 3) := by decide +kernel
theorem d_Holder_putsInto_131 : decode b_Holder_putsInto 131 = .ok (.lookupswitch 61 #[(0, 25), (1, 43)], 25) := by decide +kernel
theorem d_Holder_putsInto_156 : decode b_Holder_putsInto 156 = .ok (.aload_n 0, 1) := by decide +kernel
theorem d_Holder_putsInto_157 : decode b_Holder_putsInto 157 = .ok (.getfield 27, 3) := by decide +kernel
theorem d_Holder_putsInto_160 : decode b_Holder_putsInto 160 = .ok (.iconst 3, 1) := by decide +kernel
theorem d_Holder_putsInto_161 : decode b_Holder_putsInto 161 = .ok (.aload_n 0, 1) := by decide +kernel
theorem d_Holder_putsInto_162 : decode b_Holder_putsInto 162 = .ok (.getfield 31, 3) := by decide +kernel
theorem d_Holder_putsInto_165 : decode b_Holder_putsInto 165 = .ok (.iload 4, 2) := by decide +kernel
theorem d_Holder_putsInto_167 : decode b_Holder_putsInto 167 = .ok (.iaload, 1) := by decide +kernel
theorem d_Holder_putsInto_168 : decode b_Holder_putsInto 168 = .ok (.iload 7, 2) := by decide +kernel
theorem d_Holder_putsInto_170 : decode b_Holder_putsInto 170 = .ok (.invokevirtual 70, 3) := by decide +kernel
theorem d_Holder_putsInto_173 : decode b_Holder_putsInto 173 = .ok (.ireturn, 1) := by decide +kernel
theorem d_Holder_putsInto_174 : decode b_Holder_putsInto 174 = .ok (.aload_n 0, 1) := by decide +kernel
theorem d_Holder_putsInto_175 : decode b_Holder_putsInto 175 = .ok (.getfield 27, 3) := by decide +kernel
theorem d_Holder_putsInto_178 : decode b_Holder_putsInto 178 = .ok (.iconst 1, 1) := by decide +kernel
theorem d_Holder_putsInto_179 : decode b_Holder_putsInto 179 = .ok (.aload_n 0, 1) := by decide +kernel
theorem d_Holder_putsInto_180 : decode b_Holder_putsInto 180 = .ok (.getfield 31, 3) := by decide +kernel
theorem d_Holder_putsInto_183 : decode b_Holder_putsInto 183 = .ok (.iload 4, 2) := by decide +kernel
theorem d_Holder_putsInto_185 : decode b_Holder_putsInto 185 = .ok (.iaload, 1) := by decide +kernel
theorem d_Holder_putsInto_186 : decode b_Holder_putsInto 186 = .ok (.iload 7, 2) := by decide +kernel
theorem d_Holder_putsInto_188 : decode b_Holder_putsInto 188 = .ok (.invokevirtual 70, 3) := by decide +kernel
theorem d_Holder_putsInto_191 : decode b_Holder_putsInto 191 = .ok (.ireturn, 1) := by decide +kernel
theorem d_Holder_putsInto_192 : decode b_Holder_putsInto 192 = .ok (.aload_n 0, 1) := by decide +kernel
theorem d_Holder_putsInto_193 : decode b_Holder_putsInto 193 = .ok (.getfield 27, 3) := by decide +kernel
theorem d_Holder_putsInto_196 : decode b_Holder_putsInto 196 = .ok (.iconst 1, 1) := by decide +kernel
theorem d_Holder_putsInto_197 : decode b_Holder_putsInto 197 = .ok (.iload 7, 2) := by decide +kernel
theorem d_Holder_putsInto_199 : decode b_Holder_putsInto 199 = .ok (.aload_n 0, 1) := by decide +kernel
theorem d_Holder_putsInto_200 : decode b_Holder_putsInto 200 = .ok (.getfield 31, 3) := by decide +kernel
theorem d_Holder_putsInto_203 : decode b_Holder_putsInto 203 = .ok (.iload 4, 2) := by decide +kernel
theorem d_Holder_putsInto_205 : decode b_Holder_putsInto 205 = .ok (.iaload, 1) := by decide +kernel
theorem d_Holder_putsInto_206 : decode b_Holder_putsInto 206 = .ok (.invokevirtual 70, 3) := by decide +kernel
theorem d_Holder_putsInto_209 : decode b_Holder_putsInto 209 = .ok (.ireturn, 1) := by decide +kernel
theorem d_Holder_shareArguments_0 : decode b_Holder_shareArguments 0 = .ok (.aload_n 0, 1) := by decide +kernel
theorem d_Holder_shareArguments_1 : decode b_Holder_shareArguments 1 = .ok (.getfield 19, 3) := by decide +kernel
theorem d_Holder_shareArguments_4 : decode b_Holder_shareArguments 4 = .ok (.iload_n 1, 1) := by decide +kernel
theorem d_Holder_shareArguments_5 : decode b_Holder_shareArguments 5 = .ok (.invokevirtual 57, 3) := by decide +kernel
theorem d_Holder_shareArguments_8 : decode b_Holder_shareArguments 8 = .ok (.aload_n 0, 1) := by decide +kernel
theorem d_Holder_shareArguments_9 : decode b_Holder_shareArguments 9 = .ok (.getfield 19, 3) := by decide +kernel
theorem d_Holder_shareArguments_12 : decode b_Holder_shareArguments 12 = .ok (.iload_n 2, 1) := by decide +kernel
theorem d_Holder_shareArguments_13 : decode b_Holder_shareArguments 13 = .ok (.invokevirtual 57, 3) := by decide +kernel
theorem d_Holder_shareArguments_16 : decode b_Holder_shareArguments 16 = .ok (.if_icmp .eq 5, 3) := by decide +kernel
theorem d_Holder_shareArguments_19 : decode b_Holder_shareArguments 19 = .ok (.iconst 1, 1) := by decide +kernel
theorem d_Holder_shareArguments_20 : decode b_Holder_shareArguments 20 = .ok (.ireturn, 1) := by decide +kernel
theorem d_Holder_shareArguments_21 : decode b_Holder_shareArguments 21 = .ok (.aload_n 0, 1) := by decide +kernel
theorem d_Holder_shareArguments_22 : decode b_Holder_shareArguments 22 = .ok (.getfield 19, 3) := by decide +kernel
theorem d_Holder_shareArguments_25 : decode b_Holder_shareArguments 25 = .ok (.iload_n 1, 1) := by decide +kernel
theorem d_Holder_shareArguments_26 : decode b_Holder_shareArguments 26 = .ok (.invokevirtual 64, 3) := by decide +kernel
theorem d_Holder_shareArguments_29 : decode b_Holder_shareArguments 29 = .ok (.iconst 1, 1) := by decide +kernel
theorem d_Holder_shareArguments_30 : decode b_Holder_shareArguments 30 = .ok (.if_icmp .ne 15, 3) := by decide +kernel
theorem d_Holder_shareArguments_33 : decode b_Holder_shareArguments 33 = .ok (.aload_n 0, 1) := by decide +kernel
theorem d_Holder_shareArguments_34 : decode b_Holder_shareArguments 34 = .ok (.getfield 19, 3) := by decide +kernel
theorem d_Holder_shareArguments_37 : decode b_Holder_shareArguments 37 = .ok (.iload_n 2, 1) := by decide +kernel
theorem d_Holder_shareArguments_38 : decode b_Holder_shareArguments 38 = .ok (.invokevirtual 64, 3) := by decide +kernel
theorem d_Holder_shareArguments_41 : decode b_Holder_shareArguments 41 = .ok (.iconst 1, 1) := by decide +kernel
theorem d_Holder_shareArguments_42 : decode b_Holder_shareArguments 42 = .ok (.if_icmp .eq 5, 3) := by decide +kernel
theorem d_Holder_shareArguments_45 : decode b_Holder_shareArguments 45 = .ok (.iconst 1, 1) := by decide +kernel
theorem d_Holder_shareArguments_46 : decode b_Holder_shareArguments 46 = .ok (.ireturn, 1) := by decide +kernel
theorem d_Holder_shareArguments_47 : decode b_Holder_shareArguments 47 = .ok (.iconst 1, 1) := by decide +kernel
theorem d_Holder_shareArguments_48 : decode b_Holder_shareArguments 48 = .ok (.istore_n 3, 1) := by decide +kernel
theorem d_Holder_shareArguments_49 : decode b_Holder_shareArguments 49 = .ok (.iconst 0, 1) := by decide +kernel
theorem d_Holder_shareArguments_50 : decode b_Holder_shareArguments 50 = .ok (.istore 4, 2) := by decide +kernel
theorem d_Holder_shareArguments_52 : decode b_Holder_shareArguments 52 = .ok (.iload 4, 2) := by decide +kernel
theorem d_Holder_shareArguments_54 : decode b_Holder_shareArguments 54 = .ok (.aload_n 0, 1) := by decide +kernel
theorem d_Holder_shareArguments_55 : decode b_Holder_shareArguments 55 = .ok (.getfield 9, 3) := by decide +kernel
theorem d_Holder_shareArguments_58 : decode b_Holder_shareArguments 58 = .ok (.getfield 95, 3) := by decide +kernel
theorem d_Holder_shareArguments_61 : decode b_Holder_shareArguments 61 = .ok (.if_icmp .ge 228, 3) := by decide +kernel
theorem d_Holder_shareArguments_64 : decode b_Holder_shareArguments 64 = .ok (.iload_n 3, 1) := by decide +kernel
theorem d_Holder_shareArguments_65 : decode b_Holder_shareArguments 65 = .ok (.iconst 1, 1) := by decide +kernel
theorem d_Holder_shareArguments_66 : decode b_Holder_shareArguments 66 = .ok (.if_icmp .ne 223, 3) := by decide +kernel
theorem d_Holder_shareArguments_69 : decode b_Holder_shareArguments 69 = .ok (.aload_n 0, 1) := by decide +kernel
theorem d_Holder_shareArguments_70 : decode b_Holder_shareArguments 70 = .ok (.getfield 9, 3) := by decide +kernel
theorem d_Holder_shareArguments_73 : decode b_Holder_shareArguments 73 = .ok (.iload 4, 2) := by decide +kernel
theorem d_Holder_shareArguments_75 : decode b_Holder_shareArguments 75 = .ok (.invokevirtual 98, 3) := by decide +kernel
theorem d_Holder_shareArguments_78 : decode b_Holder_shareArguments 78 = .ok (.ifCond .ne 6, 3) := by decide +kernel
theorem d_Holder_shareArguments_81 : decode b_Holder_shareArguments 81 = .ok (.goto 202, 3) := by decide +kernel
theorem d_Holder_shareArguments_84 : decode b_Holder_shareArguments 84 = .ok (.aload_n 0, 1) := by decide +kernel
theorem d_Holder_shareArguments_85 : decode b_Holder_shareArguments 85 = .ok (.getfield 27, 3) := by decide +kernel
theorem d_Holder_shareArguments_88 : decode b_Holder_shareArguments 88 = .ok (.aload_n 0, 1) := by decide +kernel
theorem d_Holder_shareArguments_89 : decode b_Holder_shareArguments 89 = .ok (.getfield 19, 3) := by decide +kernel
theorem d_Holder_shareArguments_92 : decode b_Holder_shareArguments 92 = .ok (.iload_n 1, 1) := by decide +kernel
theorem d_Holder_shareArguments_93 : decode b_Holder_shareArguments 93 = .ok (.invokevirtual 67, 3) := by decide +kernel
theorem d_Holder_shareArguments_96 : decode b_Holder_shareArguments 96 = .ok (.iload 4, 2) := by decide +kernel
theorem d_Holder_shareArguments_98 : decode b_Holder_shareArguments 98 = .ok (.invokevirtual 101, 3) := by decide +kernel
theorem d_Holder_shareArguments_101 : decode b_Holder_shareArguments 101 = .ok (.istore 5, 2) := by decide +kernel
theorem d_Holder_shareArguments_103 : decode b_Holder_shareArguments 103 = .ok (.iload 5, 2) := by decide +kernel
theorem d_Holder_shareArguments_105 : decode b_Holder_shareArguments 105 = .ok (.bipush (-3), 2) := by decide +kernel
theorem d_Holder_shareArguments_107 : decode b_Holder_shareArguments 107 = .ok (.if_icmp .ne 6, 3) := by decide +kernel
theorem d_Holder_shareArguments_110 : decode b_Holder_shareArguments 110 = .ok (.bipush (-3), 2) := by decide +kernel
theorem d_Holder_shareArguments_112 : decode b_Holder_shareArguments 112 = .ok (.ireturn, 1) := by decide +kernel
theorem d_Holder_shareArguments_113 : decode b_Holder_shareArguments 113 = .ok (.aload_n 0, 1) := by decide +kernel
theorem d_Holder_shareArguments_114 : decode b_Holder_shareArguments 114 = .ok (.getfield 15, 3) := by decide +kernel
theorem d_Holder_shareArguments_117 : decode b_Holder_shareArguments 117 = .ok (.iload 5, 2) := by decide +kernel
theorem d_Holder_shareArguments_119 : decode b_Holder_shareArguments 119 = .ok (.invokevirtual 104, 3) := by decide +kernel
theorem d_Holder_shareArguments_122 : decode b_Holder_shareArguments 122 = .ok (.iconst 1, 1) := by decide +kernel
theorem d_Holder_shareArguments_123 : decode b_Holder_shareArguments 123 = .ok (.if_icmp .eq 6, 3) := by decide +kernel
theorem d_Holder_shareArguments_126 : decode b_Holder_shareArguments 126 = .ok (.goto 157, 3) := by decide +kernel
theorem d_Holder_shareArguments_129 : decode b_Holder_shareArguments 129 = .ok (.aload_n 0, 1) := by decide +kernel
theorem d_Holder_shareArguments_130 : decode b_Holder_shareArguments 130 = .ok (.getfield 27, 3) := by decide +kernel
theorem d_Holder_shareArguments_133 : decode b_Holder_shareArguments 133 = .ok (.aload_n 0, 1) := by decide +kernel
theorem d_Holder_shareArguments_134 : decode b_Holder_shareArguments 134 = .ok (.getfield 19, 3) := by decide +kernel
theorem d_Holder_shareArguments_137 : decode b_Holder_shareArguments 137 = .ok (.iload_n 2, 1) := by decide +kernel
theorem d_Holder_shareArguments_138 : decode b_Holder_shareArguments 138 = .ok (.invokevirtual 67, 3) := by decide +kernel
theorem d_Holder_shareArguments_141 : decode b_Holder_shareArguments 141 = .ok (.iload 4, 2) := by decide +kernel
theorem d_Holder_shareArguments_143 : decode b_Holder_shareArguments 143 = .ok (.invokevirtual 101, 3) := by decide +kernel
theorem d_Holder_shareArguments_146 : decode b_Holder_shareArguments 146 = .ok (.istore 6, 2) := by decide +kernel
theorem d_Holder_shareArguments_148 : decode b_Holder_shareArguments 148 = .ok (.iload 6, 2) := by decide +kernel
theorem d_Holder_shareArguments_150 : decode b_Holder_shareArguments 150 = .ok (.bipush (-3), 2) := by decide +kernel
theorem d_Holder_shareArguments_152 : decode b_Holder_shareArguments 152 = .ok (.if_icmp .ne 6, 3) := by decide +kernel
theorem d_Holder_shareArguments_155 : decode b_Holder_shareArguments 155 = .ok (.bipush (-3), 2) := by decide +kernel
theorem d_Holder_shareArguments_157 : decode b_Holder_shareArguments 157 = .ok (.ireturn, 1) := by decide +kernel
theorem d_Holder_shareArguments_158 : decode b_Holder_shareArguments 158 = .ok (.aload_n 0, 1) := by decide +kernel
theorem d_Holder_shareArguments_159 : decode b_Holder_shareArguments 159 = .ok (.getfield 15, 3) := by decide +kernel
theorem d_Holder_shareArguments_162 : decode b_Holder_shareArguments 162 = .ok (.iload 6, 2) := by decide +kernel
theorem d_Holder_shareArguments_164 : decode b_Holder_shareArguments 164 = .ok (.invokevirtual 104, 3) := by decide +kernel
theorem d_Holder_shareArguments_167 : decode b_Holder_shareArguments 167 = .ok (.iconst 1, 1) := by decide +kernel
theorem d_Holder_shareArguments_168 : decode b_Holder_shareArguments 168 = .ok (.if_icmp .eq 6, 3) := by decide +kernel
theorem d_Holder_shareArguments_171 : decode b_Holder_shareArguments 171 = .ok (.goto 112, 3) := by decide +kernel
theorem d_Holder_shareArguments_174 : decode b_Holder_shareArguments 174 = .ok (.iconst 0, 1) := by decide +kernel
theorem d_Holder_shareArguments_175 : decode b_Holder_shareArguments 175 = .ok (.istore 7, 2) := by decide +kernel
theorem d_Holder_shareArguments_177 : decode b_Holder_shareArguments 177 = .ok (.iload 7, 2) := by decide +kernel
theorem d_Holder_shareArguments_179 : decode b_Holder_shareArguments 179 = .ok (.aload_n 0, 1) := by decide +kernel
theorem d_Holder_shareArguments_180 : decode b_Holder_shareArguments 180 = .ok (.getfield 9, 3) := by decide +kernel
theorem d_Holder_shareArguments_183 : decode b_Holder_shareArguments 183 = .ok (.iload 4, 2) := by decide +kernel
theorem d_Holder_shareArguments_185 : decode b_Holder_shareArguments 185 = .ok (.invokevirtual 98, 3) := by decide +kernel
theorem d_Holder_shareArguments_188 : decode b_Holder_shareArguments 188 = .ok (.if_icmp .ge 95, 3) := by decide +kernel
theorem d_Holder_shareArguments_191 : decode b_Holder_shareArguments 191 = .ok (.iload_n 3, 1) := by decide +kernel
theorem d_Holder_shareArguments_192 : decode b_Holder_shareArguments 192 = .ok (.iconst 1, 1) := by decide +kernel
theorem d_Holder_shareArguments_193 : decode b_Holder_shareArguments 193 = .ok (.if_icmp .ne 90, 3) := by decide +kernel
theorem d_Holder_shareArguments_196 : decode b_Holder_shareArguments 196 = .ok (.aload_n 0, 1) := by decide +kernel
theorem d_Holder_shareArguments_197 : decode b_Holder_shareArguments 197 = .ok (.getfield 15, 3) := by decide +kernel
theorem d_Holder_shareArguments_200 : decode b_Holder_shareArguments 200 = .ok (.iload 5, 2) := by decide +kernel
theorem d_Holder_shareArguments_202 : decode b_Holder_shareArguments 202 = .ok (.iload 7, 2) := by decide +kernel
theorem d_Holder_shareArguments_204 : decode b_Holder_shareArguments 204 = .ok (.invokevirtual 107, 3) := by decide +kernel
theorem d_Holder_shareArguments_207 : decode b_Holder_shareArguments 207 = .ok (.istore 8, 2) := by decide +kernel
theorem d_Holder_shareArguments_209 : decode b_Holder_shareArguments 209 = .ok (.aload_n 0, 1) := by decide +kernel
theorem d_Holder_shareArguments_210 : decode b_Holder_shareArguments 210 = .ok (.getfield 15, 3) := by decide +kernel
theorem d_Holder_shareArguments_213 : decode b_Holder_shareArguments 213 = .ok (.iload 6, 2) := by decide +kernel
theorem d_Holder_shareArguments_215 : decode b_Holder_shareArguments 215 = .ok (.iload 7, 2) := by decide +kernel
theorem d_Holder_shareArguments_217 : decode b_Holder_shareArguments 217 = .ok (.invokevirtual 107, 3) := by decide +kernel
theorem d_Holder_shareArguments_220 : decode b_Holder_shareArguments 220 = .ok (.istore 9, 2) := by decide +kernel
theorem d_Holder_shareArguments_222 : decode b_Holder_shareArguments 222 = .ok (.aload_n 0, 1) := by decide +kernel
theorem d_Holder_shareArguments_223 : decode b_Holder_shareArguments 223 = .ok (.getfield 15, 3) := by decide +kernel
theorem d_Holder_shareArguments_226 : decode b_Holder_shareArguments 226 = .ok (.iload 8, 2) := by decide +kernel
theorem d_Holder_shareArguments_228 : decode b_Holder_shareArguments 228 = .ok (.invokevirtual 104, 3) := by decide +kernel
theorem d_Holder_shareArguments_231 : decode b_Holder_shareArguments 231 = .ok (.iconst 2, 1) := by decide +kernel
theorem d_Holder_shareArguments_232 : decode b_Holder_shareArguments 232 = .ok (.if_icmp .eq 45, 3) := by decide +kernel
theorem d_Holder_shareArguments_235 : decode b_Holder_shareArguments 235 = .ok (.aload_n 0, 1) := by decide +kernel
theorem d_Holder_shareArguments_236 : decode b_Holder_shareArguments 236 = .ok (.getfield 15, 3) := by decide +kernel
theorem d_Holder_shareArguments_239 : decode b_Holder_shareArguments 239 = .ok (.iload 9, 2) := by decide +kernel
theorem d_Holder_shareArguments_241 : decode b_Holder_shareArguments 241 = .ok (.invokevirtual 104, 3) := by decide +kernel
theorem d_Holder_shareArguments_244 : decode b_Holder_shareArguments 244 = .ok (.iconst 2, 1) := by decide +kernel
theorem d_Holder_shareArguments_245 : decode b_Holder_shareArguments 245 = .ok (.if_icmp .ne 6, 3) := by decide +kernel
theorem d_Holder_shareArguments_248 : decode b_Holder_shareArguments 248 = .ok (.goto 29, 3) := by decide +kernel
theorem d_Holder_shareArguments_251 : decode b_Holder_shareArguments 251 = .ok (.aload_n 0, 1) := by decide +kernel
theorem d_Holder_shareArguments_252 : decode b_Holder_shareArguments 252 = .ok (.getfield 27, 3) := by decide +kernel
theorem d_Holder_shareArguments_255 : decode b_Holder_shareArguments 255 = .ok (.iconst 3, 1) := by decide +kernel
theorem d_Holder_shareArguments_256 : decode b_Holder_shareArguments 256 = .ok (.iload 8, 2) := by decide +kernel
theorem d_Holder_shareArguments_258 : decode b_Holder_shareArguments 258 = .ok (.iload 9, 2) := by decide +kernel
theorem d_Holder_shareArguments_260 : decode b_Holder_shareArguments 260 = .ok (.invokevirtual 70, 3) := by decide +kernel
theorem d_Holder_shareArguments_263 : decode b_Holder_shareArguments 263 = .ok (.istore_n 3, 1) := by decide +kernel
theorem d_Holder_shareArguments_264 : decode b_Holder_shareArguments 264 = .ok (.iload_n 3, 1) := by decide +kernel
theorem d_Holder_shareArguments_265 : decode b_Holder_shareArguments 265 = .ok (.iconst 1, 1) := by decide +kernel
theorem d_Holder_shareArguments_266 : decode b_Holder_shareArguments 266 = .ok (.if_icmp .ne 11, 3) := by decide +kernel
theorem d_Holder_shareArguments_269 : decode b_Holder_shareArguments 269 = .ok (.aload_n 0, 1) := by decide +kernel
theorem d_Holder_shareArguments_270 : decode b_Holder_shareArguments 270 = .ok (.getfield 27, 3) := by decide +kernel
theorem d_Holder_shareArguments_273 : decode b_Holder_shareArguments 273 = .ok (.invokevirtual 35, 3) := by decide +kernel
theorem d_Holder_shareArguments_276 : decode b_Holder_shareArguments 276 = .ok (.istore_n 3, 1) := by decide +kernel
theorem d_Holder_shareArguments_277 : decode b_Holder_shareArguments 277 = .ok (.iinc 7 1, 3) := by decide +kernel
theorem d_Holder_shareArguments_280 : decode b_Holder_shareArguments 280 = .ok (.goto (-103), 3) := by decide +kernel
theorem d_Holder_shareArguments_283 : decode b_Holder_shareArguments 283 = .ok (.iinc 4 1, 3) := by decide +kernel
theorem d_Holder_shareArguments_286 : decode b_Holder_shareArguments 286 = .ok (.goto (-234), 3) := by decide +kernel
theorem d_Holder_shareArguments_289 : decode b_Holder_shareArguments 289 = .ok (.iload_n 3, 1) := by decide +kernel
theorem d_Holder_shareArguments_290 : decode b_Holder_shareArguments 290 = .ok (.ireturn, 1) := by decide +kernel
theorem d_Reducer_init_0 : decode b_Reducer_init 0 = .ok (.aload_n 0, 1) := by decide +kernel
theorem d_Reducer_init_1 : decode b_Reducer_init 1 = .ok (.invokespecial 3, 3) := by decide +kernel
theorem d_Reducer_init_4 : decode b_Reducer_init 4 = .ok (.aload_n 0, 1) := by decide +kernel
theorem d_Reducer_init_5 : decode b_Reducer_init 5 = .ok (.new 9, 3) := by decide +kernel
theorem d_Reducer_init_8 : decode b_Reducer_init 8 = .ok (.dup, 1) := by decide +kernel
theorem d_Reducer_init_9 : decode b_Reducer_init 9 = .ok (.invokespecial 11, 3) := by decide +kernel
theorem d_Reducer_init_12 : decode b_Reducer_init 12 = .ok (.putfield 12, 3) := by decide +kernel
theorem d_Reducer_init_15 : decode b_Reducer_init 15 = .ok (.aload_n 0, 1) := by decide +kernel
theorem d_Reducer_init_16 : decode b_Reducer_init 16 = .ok (.aload_n 1, 1) := by decide +kernel
theorem d_Reducer_init_17 : decode b_Reducer_init 17 = .ok (.putfield 18, 3) := by decide +kernel
theorem d_Reducer_init_20 : decode b_Reducer_init 20 = .ok (.aload_n 0, 1) := by decide +kernel
theorem d_Reducer_init_21 : decode b_Reducer_init 21 = .ok (.aload_n 2, 1) := by decide +kernel
theorem d_Reducer_init_22 : decode b_Reducer_init 22 = .ok (.putfield 22, 3) := by decide +kernel
theorem d_Reducer_init_25 : decode b_Reducer_init 25 = .ok (.aload_n 0, 1) := by decide +kernel
theorem d_Reducer_init_26 : decode b_Reducer_init 26 = .ok (.aload_n 3, 1) := by decide +kernel
theorem d_Reducer_init_27 : decode b_Reducer_init 27 = .ok (.putfield 26, 3) := by decide +kernel
theorem d_Reducer_init_30 : decode b_Reducer_init 30 = .ok (.aload_n 0, 1) := by decide +kernel
theorem d_Reducer_init_31 : decode b_Reducer_init 31 = .ok (.aload 4, 2) := by decide +kernel
theorem d_Reducer_init_33 : decode b_Reducer_init 33 = .ok (.putfield 30, 3) := by decide +kernel
theorem d_Reducer_init_36 : decode b_Reducer_init 36 = .ok (.return_, 1) := by decide +kernel
theorem d_Reducer_begin_0 : decode b_Reducer_begin 0 = .ok (.aload_n 0, 1) := by decide +kernel
theorem d_Reducer_begin_1 : decode b_Reducer_begin 1 = .ok (.getfield 12, 3) := by decide +kernel
theorem d_Reducer_begin_4 : decode b_Reducer_begin 4 = .ok (.iconst 0, 1) := by decide +kernel
theorem d_Reducer_begin_5 : decode b_Reducer_begin 5 = .ok (.putfield 34, 3) := by decide +kernel
theorem d_Reducer_begin_8 : decode b_Reducer_begin 8 = .ok (.aload_n 0, 1) := by decide +kernel
theorem d_Reducer_begin_9 : decode b_Reducer_begin 9 = .ok (.iconst 0, 1) := by decide +kernel
theorem d_Reducer_begin_10 : decode b_Reducer_begin 10 = .ok (.putfield 38, 3) := by decide +kernel
theorem d_Reducer_begin_13 : decode b_Reducer_begin 13 = .ok (.aload_n 0, 1) := by decide +kernel
theorem d_Reducer_begin_14 : decode b_Reducer_begin 14 = .ok (.iload_n 1, 1) := by decide +kernel
theorem d_Reducer_begin_15 : decode b_Reducer_begin 15 = .ok (.putfield 41, 3) := by decide +kernel
theorem d_Reducer_begin_18 : decode b_Reducer_begin 18 = .ok (.aload_n 0, 1) := by decide +kernel
theorem d_Reducer_begin_19 : decode b_Reducer_begin 19 = .ok (.iconst 0, 1) := by decide +kernel
theorem d_Reducer_begin_20 : decode b_Reducer_begin 20 = .ok (.putfield 44, 3) := by decide +kernel
theorem d_Reducer_begin_23 : decode b_Reducer_begin 23 = .ok (.return_, 1) := by decide +kernel
theorem d_Reducer_ask_0 : decode b_Reducer_ask 0 = .ok (.iload_n 2, 1) := by decide +kernel
theorem d_Reducer_ask_1 : decode b_Reducer_ask 1 = .ok (.ifCond .lt 7, 3) := by decide +kernel
theorem d_Reducer_ask_4 : decode b_Reducer_ask 4 = .ok (.iload_n 3, 1) := by decide +kernel
theorem d_Reducer_ask_5 : decode b_Reducer_ask 5 = .ok (.ifCond .ge 6, 3) := by decide +kernel
theorem d_Reducer_ask_8 : decode b_Reducer_ask 8 = .ok (.bipush (-3), 2) := by decide +kernel
theorem d_Reducer_ask_10 : decode b_Reducer_ask 10 = .ok (.ireturn, 1) := by decide +kernel
theorem d_Reducer_ask_11 : decode b_Reducer_ask 11 = .ok (.aload_n 0, 1) := by decide +kernel
theorem d_Reducer_ask_12 : decode b_Reducer_ask 12 = .ok (.getfield 12, 3) := by decide +kernel
theorem d_Reducer_ask_15 : decode b_Reducer_ask 15 = .ok (.iload_n 1, 1) := by decide +kernel
theorem d_Reducer_ask_16 : decode b_Reducer_ask 16 = .ok (.iload_n 2, 1) := by decide +kernel
theorem d_Reducer_ask_17 : decode b_Reducer_ask 17 = .ok (.iload_n 3, 1) := by decide +kernel
theorem d_Reducer_ask_18 : decode b_Reducer_ask 18 = .ok (.iconst 1, 1) := by decide +kernel
theorem d_Reducer_ask_19 : decode b_Reducer_ask 19 = .ok (.invokevirtual 48, 3) := by decide +kernel
theorem d_Reducer_ask_22 : decode b_Reducer_ask 22 = .ok (.ifCond .eq 7, 3) := by decide +kernel
theorem d_Reducer_ask_25 : decode b_Reducer_ask 25 = .ok (.iconst 1, 1) := by decide +kernel
theorem d_Reducer_ask_26 : decode b_Reducer_ask 26 = .ok (.goto 5, 3) := by decide +kernel
theorem d_Reducer_ask_29 : decode b_Reducer_ask 29 = .ok (.bipush (-3), 2) := by decide +kernel
theorem d_Reducer_ask_31 : decode b_Reducer_ask 31 = .ok (.ireturn, 1) := by decide +kernel
