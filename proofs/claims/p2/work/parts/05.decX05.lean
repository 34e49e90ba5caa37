theorem d_Types_make_0 : decode b_Types_make 0 = .ok (.iload_n 1, 1) := by decide +kernel
theorem d_Types_make_1 : decode b_Types_make 1 = .ok (.bipush 31, 2) := by decide +kernel
theorem d_Types_make_3 : decode b_Types_make 3 = .ok (.imul, 1) := by decide +kernel
theorem d_Types_make_4 : decode b_Types_make 4 = .ok (.iload_n 2, 1) := by decide +kernel
theorem d_Types_make_5 : decode b_Types_make 5 = .ok (.iadd, 1) := by decide +kernel
theorem d_Types_make_6 : decode b_Types_make 6 = .ok (.bipush 31, 2) := by decide +kernel
theorem d_Types_make_8 : decode b_Types_make 8 = .ok (.imul, 1) := by decide +kernel
theorem d_Types_make_9 : decode b_Types_make 9 = .ok (.iload_n 3, 1) := by decide +kernel
theorem d_Types_make_10 : decode b_Types_make 10 = .ok (.iadd, 1) := by decide +kernel
theorem d_Types_make_11 : decode b_Types_make 11 = .ok (.bipush 31, 2) := by decide +kernel
theorem d_Types_make_13 : decode b_Types_make 13 = .ok (.imul, 1) := by decide +kernel
theorem d_Types_make_14 : decode b_Types_make 14 = .ok (.iload 4, 2) := by decide +kernel
theorem d_Types_make_16 : decode b_Types_make 16 = .ok (.iadd, 1) := by decide +kernel
theorem d_Types_make_17 : decode b_Types_make 17 = .ok (.bipush 127, 2) := by decide +kernel
theorem d_Types_make_19 : decode b_Types_make 19 = .ok (.iand, 1) := by decide +kernel
theorem d_Types_make_20 : decode b_Types_make 20 = .ok (.istore 5, 2) := by decide +kernel
theorem d_Types_make_22 : decode b_Types_make 22 = .ok (.aload_n 0, 1) := by decide +kernel
theorem d_Types_make_23 : decode b_Types_make 23 = .ok (.getfield 40, 3) := by decide +kernel
theorem d_Types_make_26 : decode b_Types_make 26 = .ok (.iload 5, 2) := by decide +kernel
theorem d_Types_make_28 : decode b_Types_make 28 = .ok (.iaload, 1) := by decide +kernel
theorem d_Types_make_29 : decode b_Types_make 29 = .ok (.istore 6, 2) := by decide +kernel
theorem d_Types_make_31 : decode b_Types_make 31 = .ok (.iconst 0, 1) := by decide +kernel
theorem d_Types_make_32 : decode b_Types_make 32 = .ok (.istore 7, 2) := by decide +kernel
theorem d_Types_make_34 : decode b_Types_make 34 = .ok (.iload 7, 2) := by decide +kernel
theorem d_Types_make_36 : decode b_Types_make 36 = .ok (.sipush 500, 3) := by decide +kernel
theorem d_Types_make_39 : decode b_Types_make 39 = .ok (.if_icmp .ge 80, 3) := by decide +kernel
theorem d_Types_make_42 : decode b_Types_make 42 = .ok (.iload 6, 2) := by decide +kernel
theorem d_Types_make_44 : decode b_Types_make 44 = .ok (.ifCond .lt 75, 3) := by decide +kernel
theorem d_Types_make_47 : decode b_Types_make 47 = .ok (.iload 6, 2) := by decide +kernel
theorem d_Types_make_49 : decode b_Types_make 49 = .ok (.aload_n 0, 1) := by decide +kernel
theorem d_Types_make_50 : decode b_Types_make 50 = .ok (.getfield 52, 3) := by decide +kernel
theorem d_Types_make_53 : decode b_Types_make 53 = .ok (.if_icmp .ge 66, 3) := by decide +kernel
theorem d_Types_make_56 : decode b_Types_make 56 = .ok (.aload_n 0, 1) := by decide +kernel
theorem d_Types_make_57 : decode b_Types_make 57 = .ok (.getfield 9, 3) := by decide +kernel
theorem d_Types_make_60 : decode b_Types_make 60 = .ok (.iload 6, 2) := by decide +kernel
theorem d_Types_make_62 : decode b_Types_make 62 = .ok (.iaload, 1) := by decide +kernel
theorem d_Types_make_63 : decode b_Types_make 63 = .ok (.iload_n 1, 1) := by decide +kernel
theorem d_Types_make_64 : decode b_Types_make 64 = .ok (.if_icmp .ne 40, 3) := by decide +kernel
theorem d_Types_make_67 : decode b_Types_make 67 = .ok (.aload_n 0, 1) := by decide +kernel
theorem d_Types_make_68 : decode b_Types_make 68 = .ok (.getfield 15, 3) := by decide +kernel
theorem d_Types_make_71 : decode b_Types_make 71 = .ok (.iload 6, 2) := by decide +kernel
theorem d_Types_make_73 : decode b_Types_make 73 = .ok (.iaload, 1) := by decide +kernel
theorem d_Types_make_74 : decode b_Types_make 74 = .ok (.iload_n 2, 1) := by decide +kernel
theorem d_Types_make_75 : decode b_Types_make 75 = .ok (.if_icmp .ne 29, 3) := by decide +kernel
theorem d_Types_make_78 : decode b_Types_make 78 = .ok (.aload_n 0, 1) := by decide +kernel
theorem d_Types_make_79 : decode b_Types_make 79 = .ok (.getfield 18, 3) := by decide +kernel
theorem d_Types_make_82 : decode b_Types_make 82 = .ok (.iload 6, 2) := by decide +kernel
theorem d_Types_make_84 : decode b_Types_make 84 = .ok (.iaload, 1) := by decide +kernel
theorem d_Types_make_85 : decode b_Types_make 85 = .ok (.iload_n 3, 1) := by decide +kernel
theorem d_Types_make_86 : decode b_Types_make 86 = .ok (.if_icmp .ne 18, 3) := by decide +kernel
theorem d_Types_make_89 : decode b_Types_make 89 = .ok (.aload_n 0, 1) := by decide +kernel
theorem d_Types_make_90 : decode b_Types_make 90 = .ok (.getfield 21, 3) := by decide +kernel
theorem d_Types_make_93 : decode b_Types_make 93 = .ok (.iload 6, 2) := by decide +kernel
theorem d_Types_make_95 : decode b_Types_make 95 = .ok (.iaload, 1) := by decide +kernel
theorem d_Types_make_96 : decode b_Types_make 96 = .ok (.iload 4, 2) := by decide +kernel
theorem d_Types_make_98 : decode b_Types_make 98 = .ok (.if_icmp .ne 6, 3) := by decide +kernel
theorem d_Types_make_101 : decode b_Types_make 101 = .ok (.iload 6, 2) := by decide +kernel
theorem d_Types_make_103 : decode b_Types_make 103 = .ok (.ireturn, 1) := by decide +kernel
theorem d_Types_make_104 : decode b_Types_make 104 = .ok (.aload_n 0, 1) := by decide +kernel
theorem d_Types_make_105 : decode b_Types_make 105 = .ok (.getfield 43, 3) := by decide +kernel
theorem d_Types_make_108 : decode b_Types_make 108 = .ok (.iload 6, 2) := by decide +kernel
theorem d_Types_make_110 : decode b_Types_make 110 = .ok (.iaload, 1) := by decide +kernel
theorem d_Types_make_111 : decode b_Types_make 111 = .ok (.istore 6, 2) := by decide +kernel
theorem d_Types_make_113 : decode b_Types_make 113 = .ok (.iinc 7 1, 3) := by decide +kernel
theorem d_Types_make_116 : decode b_Types_make 116 = .ok (.goto (-82), 3) := by decide +kernel
theorem d_Types_make_119 : decode b_Types_make 119 = .ok (.iconst 1, 1) := by decide +kernel
theorem d_Types_make_120 : decode b_Types_make 120 = .ok (.istore 7, 2) := by decide +kernel
theorem d_Types_make_122 : decode b_Types_make 122 = .ok (.iconst 1, 1) := by decide +kernel
theorem d_Types_make_123 : decode b_Types_make 123 = .ok (.iload_n 1, 1) := by decide +kernel
theorem d_Types_make_124 : decode b_Types_make 124 = .ok (.ishl, 1) := by decide +kernel
theorem d_Types_make_125 : decode b_Types_make 125 = .ok (.istore 8, 2) := by decide +kernel
theorem d_Types_make_127 : decode b_Types_make 127 = .ok (.iload_n 1, 1) := by decide +kernel
theorem d_Types_make_128 : decode b_Types_make 128 = .ok (.bipush 7, 2) := by decide +kernel
theorem d_Types_make_130 : decode b_Types_make 130 = .ok (.if_icmp .ne 9, 3) := by decide +kernel
theorem d_Types_make_133 : decode b_Types_make 133 = .ok (.iconst 1, 1) := by decide +kernel
theorem d_Types_make_134 : decode b_Types_make 134 = .ok (.iload_n 2, 1) := by decide +kernel
theorem d_Types_make_135 : decode b_Types_make 135 = .ok (.ishl, 1) := by decide +kernel
theorem d_Types_make_136 : decode b_Types_make 136 = .ok (.goto 4, 3) := by decide +kernel
theorem d_Types_make_139 : decode b_Types_make 139 = .ok (.iconst 0, 1) := by decide +kernel
theorem d_Types_make_140 : decode b_Types_make 140 = .ok (.istore 9, 2) := by decide +kernel
theorem d_Types_make_142 : decode b_Types_make 142 = .ok (.iload_n 1, 1) := by decide +kernel
theorem d_Types_make_143 : decode b_Types_make 143 = .ok (.iconst 3, 1) := by decide +kernel
theorem d_Types_make_144 : decode b_Types_make 144 = .ok (.if_icmp .ne 9, 3) := by decide +kernel
theorem d_Types_make_147 : decode b_Types_make 147 = .ok (.lconst 1, 1) := by decide +kernel
theorem d_Types_make_148 : decode b_Types_make 148 = .ok (.iload_n 2, 1) := by decide +kernel
theorem d_Types_make_149 : decode b_Types_make 149 = .ok (.lshl, 1) := by decide +kernel
theorem d_Types_make_150 : decode b_Types_make 150 = .ok (.goto 4, 3) := by decide +kernel
theorem d_Types_make_153 : decode b_Types_make 153 = .ok (.lconst 0, 1) := by decide +kernel
theorem d_Types_make_154 : decode b_Types_make 154 = .ok (.lstore 10, 2) := by decide +kernel
theorem d_Types_make_156 : decode b_Types_make 156 = .ok (.iload_n 1, 1) := by decide +kernel
theorem d_Types_make_157 : decode b_Types_make 157 = .ok (.ifCond .eq 8, 3) := by decide +kernel
theorem d_Types_make_160 : decode b_Types_make 160 = .ok (.iload_n 1, 1) := by decide +kernel
theorem d_Types_make_161 : decode b_Types_make 161 = .ok (.iconst 1, 1) := by decide +kernel
theorem d_Types_make_162 : decode b_Types_make 162 = .ok (.if_icmp .ne 9, 3) := by decide +kernel
theorem d_Types_make_165 : decode b_Types_make 165 = .ok (.lconst 1, 1) := by decide +kernel
theorem d_Types_make_166 : decode b_Types_make 166 = .ok (.iload_n 2, 1) := by decide +kernel
theorem d_Types_make_167 : decode b_Types_make 167 = .ok (.lshl, 1) := by decide +kernel
theorem d_Types_make_168 : decode b_Types_make 168 = .ok (.goto 4, 3) := by decide +kernel
theorem d_Types_make_171 : decode b_Types_make 171 = .ok (.lconst 0, 1) := by decide +kernel
theorem d_Types_make_172 : decode b_Types_make 172 = .ok (.lstore 12, 2) := by decide +kernel
theorem d_Types_make_174 : decode b_Types_make 174 = .ok (.iconst 0, 1) := by decide +kernel
theorem d_Types_make_175 : decode b_Types_make 175 = .ok (.istore 14, 2) := by decide +kernel
theorem d_Types_make_177 : decode b_Types_make 177 = .ok (.iload 14, 2) := by decide +kernel
theorem d_Types_make_179 : decode b_Types_make 179 = .ok (.iconst 3, 1) := by decide +kernel
theorem d_Types_make_180 : decode b_Types_make 180 = .ok (.if_icmp .ge 153, 3) := by decide +kernel
theorem d_Types_make_183 : decode b_Types_make 183 = .ok (.iconst (-1), 1) := by decide +kernel
theorem d_Types_make_184 : decode b_Types_make 184 = .ok (.istore 15, 2) := by decide +kernel
theorem d_Types_make_186 : decode b_Types_make 186 = .ok (.iload 14, 2) := by decide +kernel
theorem d_Types_make_188 : decode b_Types_make 188 = .ok (.ifCond .ne 17, 3) := by decide +kernel
theorem d_Types_make_191 : decode b_Types_make 191 = .ok (.iload_n 1, 1) := by decide +kernel
theorem d_Types_make_192 : decode b_Types_make 192 = .ok (.iconst 4, 1) := by decide +kernel
theorem d_Types_make_193 : decode b_Types_make 193 = .ok (.if_icmp .eq 9, 3) := by decide +kernel
theorem d_Types_make_196 : decode b_Types_make 196 = .ok (.iload_n 1, 1) := by decide +kernel
theorem d_Types_make_197 : decode b_Types_make 197 = .ok (.bipush 8, 2) := by decide +kernel
theorem d_Types_make_199 : decode b_Types_make 199 = .ok (.if_icmp .ne 6, 3) := by decide +kernel
theorem d_Types_make_202 : decode b_Types_make 202 = .ok (.iload_n 2, 1) := by decide +kernel
theorem d_Types_make_203 : decode b_Types_make 203 = .ok (.istore 15, 2) := by decide +kernel
theorem d_Types_make_205 : decode b_Types_make 205 = .ok (.iload 14, 2) := by decide +kernel
theorem d_Types_make_207 : decode b_Types_make 207 = .ok (.iconst 1, 1) := by decide +kernel
theorem d_Types_make_208 : decode b_Types_make 208 = .ok (.if_icmp .ne 16, 3) := by decide +kernel
theorem d_Types_make_211 : decode b_Types_make 211 = .ok (.iload_n 1, 1) := by decide +kernel
theorem d_Types_make_212 : decode b_Types_make 212 = .ok (.iconst 1, 1) := by decide +kernel
theorem d_Types_make_213 : decode b_Types_make 213 = .ok (.if_icmp .eq 8, 3) := by decide +kernel
theorem d_Types_make_216 : decode b_Types_make 216 = .ok (.iload_n 1, 1) := by decide +kernel
theorem d_Types_make_217 : decode b_Types_make 217 = .ok (.iconst 2, 1) := by decide +kernel
theorem d_Types_make_218 : decode b_Types_make 218 = .ok (.if_icmp .ne 6, 3) := by decide +kernel
theorem d_Types_make_221 : decode b_Types_make 221 = .ok (.iload_n 3, 1) := by decide +kernel
theorem d_Types_make_222 : decode b_Types_make 222 = .ok (.istore 15, 2) := by decide +kernel
theorem d_Types_make_224 : decode b_Types_make 224 = .ok (.iload 14, 2) := by decide +kernel
theorem d_Types_make_226 : decode b_Types_make 226 = .ok (.iconst 2, 1) := by decide +kernel
theorem d_Types_make_227 : decode b_Types_make 227 = .ok (.if_icmp .ne 12, 3) := by decide +kernel
theorem d_Types_make_230 : decode b_Types_make 230 = .ok (.iload_n 1, 1) := by decide +kernel
theorem d_Types_make_231 : decode b_Types_make 231 = .ok (.iconst 1, 1) := by decide +kernel
theorem d_Types_make_232 : decode b_Types_make 232 = .ok (.if_icmp .ne 7, 3) := by decide +kernel
theorem d_Types_make_235 : decode b_Types_make 235 = .ok (.iload 4, 2) := by decide +kernel
theorem d_Types_make_237 : decode b_Types_make 237 = .ok (.istore 15, 2) := by decide +kernel
theorem d_Types_make_239 : decode b_Types_make 239 = .ok (.iload 15, 2) := by decide +kernel
theorem d_Types_make_241 : decode b_Types_make 241 = .ok (.ifCond .lt 86, 3) := by decide +kernel
theorem d_Types_make_244 : decode b_Types_make 244 = .ok (.iload 15, 2) := by decide +kernel
theorem d_Types_make_246 : decode b_Types_make 246 = .ok (.aload_n 0, 1) := by decide +kernel
theorem d_Types_make_247 : decode b_Types_make 247 = .ok (.getfield 52, 3) := by decide +kernel
theorem d_Types_make_250 : decode b_Types_make 250 = .ok (.if_icmp .lt 6, 3) := by decide +kernel
theorem d_Types_make_253 : decode b_Types_make 253 = .ok (.goto 74, 3) := by decide +kernel
theorem d_Types_make_256 : decode b_Types_make 256 = .ok (.iload 7, 2) := by decide +kernel
theorem d_Types_make_258 : decode b_Types_make 258 = .ok (.aload_n 0, 1) := by decide +kernel
theorem d_Types_make_259 : decode b_Types_make 259 = .ok (.getfield 24, 3) := by decide +kernel
theorem d_Types_make_262 : decode b_Types_make 262 = .ok (.iload 15, 2) := by decide +kernel
theorem d_Types_make_264 : decode b_Types_make 264 = .ok (.iaload, 1) := by decide +kernel
theorem d_Types_make_265 : decode b_Types_make 265 = .ok (.if_icmp .gt 14, 3) := by decide +kernel
theorem d_Types_make_268 : decode b_Types_make 268 = .ok (.aload_n 0, 1) := by decide +kernel
theorem d_Types_make_269 : decode b_Types_make 269 = .ok (.getfield 24, 3) := by decide +kernel
theorem d_Types_make_272 : decode b_Types_make 272 = .ok (.iload 15, 2) := by decide +kernel
theorem d_Types_make_274 : decode b_Types_make 274 = .ok (.iaload, 1) := by decide +kernel
theorem d_Types_make_275 : decode b_Types_make 275 = .ok (.iconst 1, 1) := by decide +kernel
theorem d_Types_make_276 : decode b_Types_make 276 = .ok (.iadd, 1) := by decide +kernel
theorem d_Types_make_277 : decode b_Types_make 277 = .ok (.istore 7, 2) := by decide +kernel
theorem d_Types_make_279 : decode b_Types_make 279 = .ok (.iload 8, 2) := by decide +kernel
theorem d_Types_make_281 : decode b_Types_make 281 = .ok (.aload_n 0, 1) := by decide +kernel
theorem d_Types_make_282 : decode b_Types_make 282 = .ok (.getfield 27, 3) := by decide +kernel
theorem d_Types_make_285 : decode b_Types_make 285 = .ok (.iload 15, 2) := by decide +kernel
theorem d_Types_make_287 : decode b_Types_make 287 = .ok (.iaload, 1) := by decide +kernel
theorem d_Types_make_288 : decode b_Types_make 288 = .ok (.ior, 1) := by decide +kernel
theorem d_Types_make_289 : decode b_Types_make 289 = .ok (.istore 8, 2) := by decide +kernel
theorem d_Types_make_291 : decode b_Types_make 291 = .ok (.iload 9, 2) := by decide +kernel
theorem d_Types_make_293 : decode b_Types_make 293 = .ok (.aload_n 0, 1) := by decide +kernel
theorem d_Types_make_294 : decode b_Types_make 294 = .ok (.getfield 30, 3) := by decide +kernel
theorem d_Types_make_297 : decode b_Types_make 297 = .ok (.iload 15, 2) := by decide +kernel
theorem d_Types_make_299 : decode b_Types_make 299 = .ok (.iaload, 1) := by decide +kernel
theorem d_Types_make_300 : decode b_Types_make 300 = .ok (.ior, 1) := by decide +kernel
theorem d_Types_make_301 : decode b_Types_make 301 = .ok (.istore 9, 2) := by decide +kernel
theorem d_Types_make_303 : decode b_Types_make 303 = .ok (.lload 10, 2) := by decide +kernel
theorem d_Types_make_305 : decode b_Types_make 305 = .ok (.aload_n 0, 1) := by decide +kernel
theorem d_Types_make_306 : decode b_Types_make 306 = .ok (.getfield 33, 3) := by decide +kernel
theorem d_Types_make_309 : decode b_Types_make 309 = .ok (.iload 15, 2) := by decide +kernel
theorem d_Types_make_311 : decode b_Types_make 311 = .ok (.laload, 1) := by decide +kernel
theorem d_Types_make_312 : decode b_Types_make 312 = .ok (.lor, 1) := by decide +kernel
theorem d_Types_make_313 : decode b_Types_make 313 = .ok (.lstore 10, 2) := by decide +kernel
theorem d_Types_make_315 : decode b_Types_make 315 = .ok (.lload 12, 2) := by decide +kernel
theorem d_Types_make_317 : decode b_Types_make 317 = .ok (.aload_n 0, 1) := by decide +kernel
theorem d_Types_make_318 : decode b_Types_make 318 = .ok (.getfield 37, 3) := by decide +kernel
theorem d_Types_make_321 : decode b_Types_make 321 = .ok (.iload 15, 2) := by decide +kernel
theorem d_Types_make_323 : decode b_Types_make 323 = .ok (.laload, 1) := by decide +kernel
theorem d_Types_make_324 : decode b_Types_make 324 = .ok (.lor, 1) := by decide +kernel
theorem d_Types_make_325 : decode b_Types_make 325 = .ok (.lstore 12, 2) := by decide +kernel
theorem d_Types_make_327 : decode b_Types_make 327 = .ok (.iinc 14 1, 3) := by decide +kernel
theorem d_Types_make_330 : decode b_Types_make 330 = .ok (.goto (-153), 3) := by decide +kernel
theorem d_Types_make_333 : decode b_Types_make 333 = .ok (.iload 7, 2) := by decide +kernel
theorem d_Types_make_335 : decode b_Types_make 335 = .ok (.bipush 20, 2) := by decide +kernel
theorem d_Types_make_337 : decode b_Types_make 337 = .ok (.if_icmp .gt 20, 3) := by decide +kernel
theorem d_Types_make_340 : decode b_Types_make 340 = .ok (.aload_n 0, 1) := by decide +kernel
theorem d_Types_make_341 : decode b_Types_make 341 = .ok (.getfield 52, 3) := by decide +kernel
theorem d_Types_make_344 : decode b_Types_make 344 = .ok (.ifCond .lt 13, 3) := by decide +kernel
theorem d_Types_make_347 : decode b_Types_make 347 = .ok (.aload_n 0, 1) := by decide +kernel
theorem d_Types_make_348 : decode b_Types_make 348 = .ok (.getfield 52, 3) := by decide +kernel
theorem d_Types_make_351 : decode b_Types_make 351 = .ok (.sipush 500, 3) := by decide +kernel
theorem d_Types_make_354 : decode b_Types_make 354 = .ok (.if_icmp .lt 6, 3) := by decide +kernel
theorem d_Types_make_357 : decode b_Types_make 357 = .ok (.bipush (-3), 2) := by decide +kernel
theorem d_Types_make_359 : decode b_Types_make 359 = .ok (.ireturn, 1) := by decide +kernel
theorem d_Types_make_360 : decode b_Types_make 360 = .ok (.aload_n 0, 1) := by decide +kernel
theorem d_Types_make_361 : decode b_Types_make 361 = .ok (.getfield 52, 3) := by decide +kernel
theorem d_Types_make_364 : decode b_Types_make 364 = .ok (.istore 6, 2) := by decide +kernel
theorem d_Types_make_366 : decode b_Types_make 366 = .ok (.aload_n 0, 1) := by decide +kernel
theorem d_Types_make_367 : decode b_Types_make 367 = .ok (.getfield 9, 3) := by decide +kernel
theorem d_Types_make_370 : decode b_Types_make 370 = .ok (.iload 6, 2) := by decide +kernel
theorem d_Types_make_372 : decode b_Types_make 372 = .ok (.iload_n 1, 1) := by decide +kernel
theorem d_Types_make_373 : decode b_Types_make 373 = .ok (.iastore, 1) := by decide +kernel
theorem d_Types_make_374 : decode b_Types_make 374 = .ok (.aload_n 0, 1) := by decide +kernel
theorem d_Types_make_375 : decode b_Types_make 375 = .ok (.getfield 15, 3) := by decide +kernel
theorem d_Types_make_378 : decode b_Types_make 378 = .ok (.iload 6, 2) := by decide +kernel
theorem d_Types_make_380 : decode b_Types_make 380 = .ok (.iload_n 2, 1) := by decide +kernel
theorem d_Types_make_381 : decode b_Types_make 381 = .ok (.iastore, 1) := by decide +kernel
theorem d_Types_make_382 : decode b_Types_make 382 = .ok (.aload_n 0, 1) := by decide +kernel
theorem d_Types_make_383 : decode b_Types_make 383 = .ok (.getfield 18, 3) := by decide +kernel
theorem d_Types_make_386 : decode b_Types_make 386 = .ok (.iload 6, 2) := by decide +kernel
theorem d_Types_make_388 : decode b_Types_make 388 = .ok (.iload_n 3, 1) := by decide +kernel
theorem d_Types_make_389 : decode b_Types_make 389 = .ok (.iastore, 1) := by decide +kernel
theorem d_Types_make_390 : decode b_Types_make 390 = .ok (.aload_n 0, 1) := by decide +kernel
theorem d_Types_make_391 : decode b_Types_make 391 = .ok (.getfield 21, 3) := by decide +kernel
theorem d_Types_make_394 : decode b_Types_make 394 = .ok (.iload 6, 2) := by decide +kernel
theorem d_Types_make_396 : decode b_Types_make 396 = .ok (.iload 4, 2) := by decide +kernel
theorem d_Types_make_398 : decode b_Types_make 398 = .ok (.iastore, 1) := by decide +kernel
theorem d_Types_make_399 : decode b_Types_make 399 = .ok (.aload_n 0, 1) := by decide +kernel
theorem d_Types_make_400 : decode b_Types_make 400 = .ok (.getfield 24, 3) := by decide +kernel
theorem d_Types_make_403 : decode b_Types_make 403 = .ok (.iload 6, 2) := by decide +kernel
theorem d_Types_make_405 : decode b_Types_make 405 = .ok (.iload 7, 2) := by decide +kernel
theorem d_Types_make_407 : decode b_Types_make 407 = .ok (.iastore, 1) := by decide +kernel
theorem d_Types_make_408 : decode b_Types_make 408 = .ok (.aload_n 0, 1) := by decide +kernel
theorem d_Types_make_409 : decode b_Types_make 409 = .ok (.getfield 27, 3) := by decide +kernel
theorem d_Types_make_412 : decode b_Types_make 412 = .ok (.iload 6, 2) := by decide +kernel
theorem d_Types_make_414 : decode b_Types_make 414 = .ok (.iload 8, 2) := by decide +kernel
theorem d_Types_make_416 : decode b_Types_make 416 = .ok (.iastore, 1) := by decide +kernel
theorem d_Types_make_417 : decode b_Types_make 417 = .ok (.aload_n 0, 1) := by decide +kernel
theorem d_Types_make_418 : decode b_Types_make 418 = .ok (.getfield 30, 3) := by decide +kernel
theorem d_Types_make_421 : decode b_Types_make 421 = .ok (.iload 6, 2) := by decide +kernel
theorem d_Types_make_423 : decode b_Types_make 423 = .ok (.iload 9, 2) := by decide +kernel
theorem d_Types_make_425 : decode b_Types_make 425 = .ok (.iastore, 1) := by decide +kernel
theorem d_Types_make_426 : decode b_Types_make 426 = .ok (.aload_n 0, 1) := by decide +kernel
theorem d_Types_make_427 : decode b_Types_make 427 = .ok (.getfield 33, 3) := by decide +kernel
theorem d_Types_make_430 : decode b_Types_make 430 = .ok (.iload 6, 2) := by decide +kernel
theorem d_Types_make_432 : decode b_Types_make 432 = .ok (.lload 10, 2) := by decide +kernel
theorem d_Types_make_434 : decode b_Types_make 434 = .ok (.lastore, 1) := by decide +kernel
theorem d_Types_make_435 : decode b_Types_make 435 = .ok (.aload_n 0, 1) := by decide +kernel
theorem d_Types_make_436 : decode b_Types_make 436 = .ok (.getfield 37, 3) := by decide +kernel
theorem d_Types_make_439 : decode b_Types_make 439 = .ok (.iload 6, 2) := by decide +kernel
theorem d_Types_make_441 : decode b_Types_make 441 = .ok (.lload 12, 2) := by decide +kernel
theorem d_Types_make_443 : decode b_Types_make 443 = .ok (.lastore, 1) := by decide +kernel
theorem d_Types_make_444 : decode b_Types_make 444 = .ok (.aload_n 0, 1) := by decide +kernel
theorem d_Types_make_445 : decode b_Types_make 445 = .ok (.getfield 43, 3) := by decide +kernel
theorem d_Types_make_448 : decode b_Types_make 448 = .ok (.iload 6, 2) := by decide +kernel
theorem d_Types_make_450 : decode b_Types_make 450 = .ok (.aload_n 0, 1) := by decide +kernel
theorem d_Types_make_451 : decode b_Types_make 451 = .ok (.getfield 40, 3) := by decide +kernel
theorem d_Types_make_454 : decode b_Types_make 454 = .ok (.iload 5, 2) := by decide +kernel
theorem d_Types_make_456 : decode b_Types_make 456 = .ok (.iaload, 1) := by decide +kernel
theorem d_Types_make_457 : decode b_Types_make 457 = .ok (.iastore, 1) := by decide +kernel
theorem d_Types_make_458 : decode b_Types_make 458 = .ok (.aload_n 0, 1) := by decide +kernel
theorem d_Types_make_459 : decode b_Types_make 459 = .ok (.getfield 40, 3) := by decide +kernel
theorem d_Types_make_462 : decode b_Types_make 462 = .ok (.iload 5, 2) := by decide +kernel
theorem d_Types_make_464 : decode b_Types_make 464 = .ok (.iload 6, 2) := by decide +kernel
theorem d_Types_make_466 : decode b_Types_make 466 = .ok (.iastore, 1) := by decide +kernel
theorem d_Types_make_467 : decode b_Types_make 467 = .ok (.aload_n 0, 1) := by decide +kernel
theorem d_Types_make_468 : decode b_Types_make 468 = .ok (.dup, 1) := by decide +kernel
theorem d_Types_make_469 : decode b_Types_make 469 = .ok (.getfield 52, 3) := by decide +kernel
theorem d_Types_make_472 : decode b_Types_make 472 = .ok (.iconst 1, 1) := by decide +kernel
theorem d_Types_make_473 : decode b_Types_make 473 = .ok (.iadd, 1) := by decide +kernel
theorem d_Types_make_474 : decode b_Types_make 474 = .ok (.putfield 52, 3) := by decide +kernel
theorem d_Types_make_477 : decode b_Types_make 477 = .ok (.iload 6, 2) := by decide +kernel
theorem d_Types_make_479 : decode b_Types_make 479 = .ok (.ireturn, 1) := by decide +kernel
theorem d_Work_init_0 : decode b_Work_init 0 = .ok (.aload_n 0, 1) := by decide +kernel
theorem d_Work_init_1 : decode b_Work_init 1 = .ok (.invokespecial 3, 3) := by decide +kernel
theorem d_Work_init_4 : decode b_Work_init 4 = .ok (.aload_n 0, 1) := by decide +kernel
theorem d_Work_init_5 : decode b_Work_init 5 = .ok (.bipush 120, 2) := by decide +kernel
theorem d_Work_init_7 : decode b_Work_init 7 = .ok (.newarray .int, 2) := by decide +kernel
theorem d_Work_init_9 : decode b_Work_init 9 = .ok (.putfield 11, 3) := by decide +kernel
theorem d_Work_init_12 : decode b_Work_init 12 = .ok (.aload_n 0, 1) := by decide +kernel
theorem d_Work_init_13 : decode b_Work_init 13 = .ok (.bipush 120, 2) := by decide +kernel
theorem d_Work_init_15 : decode b_Work_init 15 = .ok (.newarray .int, 2) := by decide +kernel
theorem d_Work_init_17 : decode b_Work_init 17 = .ok (.putfield 15, 3) := by decide +kernel
theorem d_Work_init_20 : decode b_Work_init 20 = .ok (.aload_n 0, 1) := by decide +kernel
theorem d_Work_init_21 : decode b_Work_init 21 = .ok (.bipush 120, 2) := by decide +kernel
theorem d_Work_init_23 : decode b_Work_init 23 = .ok (.newarray .int, 2) := by decide +kernel
theorem d_Work_init_25 : decode b_Work_init 25 = .ok (.putfield 18, 3) := by decide +kernel
theorem d_Work_init_28 : decode b_Work_init 28 = .ok (.aload_n 0, 1) := by decide +kernel
theorem d_Work_init_29 : decode b_Work_init 29 = .ok (.bipush 120, 2) := by decide +kernel
theorem d_Work_init_31 : decode b_Work_init 31 = .ok (.newarray .int, 2) := by decide +kernel
theorem d_Work_init_33 : decode b_Work_init 33 = .ok (.putfield 21, 3) := by decide +kernel
theorem d_Work_init_36 : decode b_Work_init 36 = .ok (.return_, 1) := by decide +kernel
theorem d_Work_add_0 : decode b_Work_add 0 = .ok (.aload_n 0, 1) := by decide +kernel
theorem d_Work_add_1 : decode b_Work_add 1 = .ok (.getfield 24, 3) := by decide +kernel
theorem d_Work_add_4 : decode b_Work_add 4 = .ok (.ifCond .lt 12, 3) := by decide +kernel
theorem d_Work_add_7 : decode b_Work_add 7 = .ok (.aload_n 0, 1) := by decide +kernel
theorem d_Work_add_8 : decode b_Work_add 8 = .ok (.getfield 24, 3) := by decide +kernel
theorem d_Work_add_11 : decode b_Work_add 11 = .ok (.bipush 120, 2) := by decide +kernel
theorem d_Work_add_13 : decode b_Work_add 13 = .ok (.if_icmp .lt 5, 3) := by decide +kernel
theorem d_Work_add_16 : decode b_Work_add 16 = .ok (.iconst 0, 1) := by decide +kernel
theorem d_Work_add_17 : decode b_Work_add 17 = .ok (.ireturn, 1) := by decide +kernel
theorem d_Work_add_18 : decode b_Work_add 18 = .ok (.aload_n 0, 1) := by decide +kernel
theorem d_Work_add_19 : decode b_Work_add 19 = .ok (.getfield 11, 3) := by decide +kernel
theorem d_Work_add_22 : decode b_Work_add 22 = .ok (.aload_n 0, 1) := by decide +kernel
theorem d_Work_add_23 : decode b_Work_add 23 = .ok (.getfield 24, 3) := by decide +kernel
theorem d_Work_add_26 : decode b_Work_add 26 = .ok (.iload_n 1, 1) := by decide +kernel
theorem d_Work_add_27 : decode b_Work_add 27 = .ok (.iastore, 1) := by decide +kernel
theorem d_Work_add_28 : decode b_Work_add 28 = .ok (.aload_n 0, 1) := by decide +kernel
theorem d_Work_add_29 : decode b_Work_add 29 = .ok (.getfield 15, 3) := by decide +kernel
theorem d_Work_add_32 : decode b_Work_add 32 = .ok (.aload_n 0, 1) := by decide +kernel
theorem d_Work_add_33 : decode b_Work_add 33 = .ok (.getfield 24, 3) := by decide +kernel
theorem d_Work_add_36 : decode b_Work_add 36 = .ok (.iload_n 2, 1) := by decide +kernel
theorem d_Work_add_37 : decode b_Work_add 37 = .ok (.iastore, 1) := by decide +kernel
theorem d_Work_add_38 : decode b_Work_add 38 = .ok (.aload_n 0, 1) := by decide +kernel
theorem d_Work_add_39 : decode b_Work_add 39 = .ok (.getfield 18, 3) := by decide +kernel
theorem d_Work_add_42 : decode b_Work_add 42 = .ok (.aload_n 0, 1) := by decide +kernel
theorem d_Work_add_43 : decode b_Work_add 43 = .ok (.getfield 24, 3) := by decide +kernel
theorem d_Work_add_46 : decode b_Work_add 46 = .ok (.iload_n 3, 1) := by decide +kernel
theorem d_Work_add_47 : decode b_Work_add 47 = .ok (.iastore, 1) := by decide +kernel
theorem d_Work_add_48 : decode b_Work_add 48 = .ok (.aload_n 0, 1) := by decide +kernel
theorem d_Work_add_49 : decode b_Work_add 49 = .ok (.getfield 21, 3) := by decide +kernel
theorem d_Work_add_52 : decode b_Work_add 52 = .ok (.aload_n 0, 1) := by decide +kernel
theorem d_Work_add_53 : decode b_Work_add 53 = .ok (.getfield 24, 3) := by decide +kernel
theorem d_Work_add_56 : decode b_Work_add 56 = .ok (.iload 4, 2) := by decide +kernel
theorem d_Work_add_58 : decode b_Work_add 58 = .ok (.iastore, 1) := by decide +kernel
theorem d_Work_add_59 : decode b_Work_add 59 = .ok (.aload_n 0, 1) := by decide +kernel
theorem d_Work_add_60 : decode b_Work_add 60 = .ok (.dup, 1) := by decide +kernel
theorem d_Work_add_61 : decode b_Work_add 61 = .ok (.getfield 24, 3) := by decide +kernel
theorem d_Work_add_64 : decode b_Work_add 64 = .ok (.iconst 1, 1) := by decide +kernel
theorem d_Work_add_65 : decode b_Work_add 65 = .ok (.iadd, 1) := by decide +kernel
theorem d_Work_add_66 : decode b_Work_add 66 = .ok (.putfield 24, 3) := by decide +kernel
theorem d_Work_add_69 : decode b_Work_add 69 = .ok (.iconst 1, 1) := by decide +kernel
theorem d_Work_add_70 : decode b_Work_add 70 = .ok (.ireturn, 1) := by decide +kernel
theorem d_Work_take_0 : decode b_Work_take 0 = .ok (.aload_n 0, 1) := by decide +kernel
theorem d_Work_take_1 : decode b_Work_take 1 = .ok (.getfield 24, 3) := by decide +kernel
theorem d_Work_take_4 : decode b_Work_take 4 = .ok (.iconst 1, 1) := by decide +kernel
theorem d_Work_take_5 : decode b_Work_take 5 = .ok (.if_icmp .lt 12, 3) := by decide +kernel
theorem d_Work_take_8 : decode b_Work_take 8 = .ok (.aload_n 0, 1) := by decide +kernel
theorem d_Work_take_9 : decode b_Work_take 9 = .ok (.getfield 24, 3) := by decide +kernel
theorem d_Work_take_12 : decode b_Work_take 12 = .ok (.bipush 120, 2) := by decide +kernel
theorem d_Work_take_14 : decode b_Work_take 14 = .ok (.if_icmp .le 5, 3) := by decide +kernel
theorem d_Work_take_17 : decode b_Work_take 17 = .ok (.iconst 0, 1) := by decide +kernel
theorem d_Work_take_18 : decode b_Work_take 18 = .ok (.ireturn, 1) := by decide +kernel
theorem d_Work_take_19 : decode b_Work_take 19 = .ok (.aload_n 0, 1) := by decide +kernel
theorem d_Work_take_20 : decode b_Work_take 20 = .ok (.dup, 1) := by decide +kernel
theorem d_Work_take_21 : decode b_Work_take 21 = .ok (.getfield 24, 3) := by decide +kernel
theorem d_Work_take_24 : decode b_Work_take 24 = .ok (.iconst 1, 1) := by decide +kernel
theorem d_Work_take_25 : decode b_Work_take 25 = .ok (.isub, 1) := by decide +kernel
theorem d_Work_take_26 : decode b_Work_take 26 = .ok (.putfield 24, 3) := by decide +kernel
theorem d_Work_take_29 : decode b_Work_take 29 = .ok (.aload_n 0, 1) := by decide +kernel
theorem d_Work_take_30 : decode b_Work_take 30 = .ok (.aload_n 0, 1) := by decide +kernel
theorem d_Work_take_31 : decode b_Work_take 31 = .ok (.getfield 11, 3) := by decide +kernel
theorem d_Work_take_34 : decode b_Work_take 34 = .ok (.aload_n 0, 1) := by decide +kernel
theorem d_Work_take_35 : decode b_Work_take 35 = .ok (.getfield 24, 3) := by decide +kernel
theorem d_Work_take_38 : decode b_Work_take 38 = .ok (.iaload, 1) := by decide +kernel
theorem d_Work_take_39 : decode b_Work_take 39 = .ok (.putfield 28, 3) := by decide +kernel
theorem d_Work_take_42 : decode b_Work_take 42 = .ok (.aload_n 0, 1) := by decide +kernel
theorem d_Work_take_43 : decode b_Work_take 43 = .ok (.aload_n 0, 1) := by decide +kernel
theorem d_Work_take_44 : decode b_Work_take 44 = .ok (.getfield 15, 3) := by decide +kernel
theorem d_Work_take_47 : decode b_Work_take 47 = .ok (.aload_n 0, 1) := by decide +kernel
theorem d_Work_take_48 : decode b_Work_take 48 = .ok (.getfield 24, 3) := by decide +kernel
theorem d_Work_take_51 : decode b_Work_take 51 = .ok (.iaload, 1) := by decide +kernel
theorem d_Work_take_52 : decode b_Work_take 52 = .ok (.putfield 31, 3) := by decide +kernel
theorem d_Work_take_55 : decode b_Work_take 55 = .ok (.aload_n 0, 1) := by decide +kernel
theorem d_Work_take_56 : decode b_Work_take 56 = .ok (.aload_n 0, 1) := by decide +kernel
theorem d_Work_take_57 : decode b_Work_take 57 = .ok (.getfield 18, 3) := by decide +kernel
theorem d_Work_take_60 : decode b_Work_take 60 = .ok (.aload_n 0, 1) := by decide +kernel
theorem d_Work_take_61 : decode b_Work_take 61 = .ok (.getfield 24, 3) := by decide +kernel
theorem d_Work_take_64 : decode b_Work_take 64 = .ok (.iaload, 1) := by decide +kernel
theorem d_Work_take_65 : decode b_Work_take 65 = .ok (.putfield 34, 3) := by decide +kernel
theorem d_Work_take_68 : decode b_Work_take 68 = .ok (.aload_n 0, 1) := by decide +kernel
theorem d_Work_take_69 : decode b_Work_take 69 = .ok (.aload_n 0, 1) := by decide +kernel
theorem d_Work_take_70 : decode b_Work_take 70 = .ok (.getfield 21, 3) := by decide +kernel
theorem d_Work_take_73 : decode b_Work_take 73 = .ok (.aload_n 0, 1) := by decide +kernel
theorem d_Work_take_74 : decode b_Work_take 74 = .ok (.getfield 24, 3) := by decide +kernel
theorem d_Work_take_77 : decode b_Work_take 77 = .ok (.iaload, 1) := by decide +kernel
theorem d_Work_take_78 : decode b_Work_take 78 = .ok (.putfield 37, 3) := by decide +kernel
theorem d_Work_take_81 : decode b_Work_take 81 = .ok (.iconst 1, 1) := by decide +kernel
theorem d_Work_take_82 : decode b_Work_take 82 = .ok (.ireturn, 1) := by decide +kernel
theorem d_I_init_0 : decode b_I_init 0 = .ok (.aload_n 0, 1) := by decide +kernel
theorem d_I_init_1 : decode b_I_init 1 = .ok (.invokespecial 1, 3) := by decide +kernel
theorem d_I_init_4 : decode b_I_init 4 = .ok (.aload_n 0, 1) := by decide +kernel
theorem d_I_init_5 : decode b_I_init 5 = .ok (.new 7, 3) := by decide +kernel
theorem d_I_init_8 : decode b_I_init 8 = .ok (.dup, 1) := by decide +kernel
theorem d_I_init_9 : decode b_I_init 9 = .ok (.invokespecial 9, 3) := by decide +kernel
theorem d_I_init_12 : decode b_I_init 12 = .ok (.putfield 10, 3) := by decide +kernel
theorem d_I_init_15 : decode b_I_init 15 = .ok (.aload_n 0, 1) := by decide +kernel
theorem d_I_init_16 : decode b_I_init 16 = .ok (.new 16, 3) := by decide +kernel
theorem d_I_init_19 : decode b_I_init 19 = .ok (.dup, 1) := by decide +kernel
theorem d_I_init_20 : decode b_I_init 20 = .ok (.invokespecial 18, 3) := by decide +kernel
theorem d_I_init_23 : decode b_I_init 23 = .ok (.putfield 19, 3) := by decide +kernel
theorem d_I_init_26 : decode b_I_init 26 = .ok (.aload_n 0, 1) := by decide +kernel
theorem d_I_init_27 : decode b_I_init 27 = .ok (.new 23, 3) := by decide +kernel
theorem d_I_init_30 : decode b_I_init 30 = .ok (.dup, 1) := by decide +kernel
theorem d_I_init_31 : decode b_I_init 31 = .ok (.invokespecial 25, 3) := by decide +kernel
theorem d_I_init_34 : decode b_I_init 34 = .ok (.putfield 26, 3) := by decide +kernel
theorem d_I_init_37 : decode b_I_init 37 = .ok (.aload_n 0, 1) := by decide +kernel
theorem d_I_init_38 : decode b_I_init 38 = .ok (.bipush 12, 2) := by decide +kernel
theorem d_I_init_40 : decode b_I_init 40 = .ok (.newarray .int, 2) := by decide +kernel
theorem d_I_init_42 : decode b_I_init 42 = .ok (.putfield 30, 3) := by decide +kernel
theorem d_I_init_45 : decode b_I_init 45 = .ok (.new 34, 3) := by decide +kernel
theorem d_I_init_48 : decode b_I_init 48 = .ok (.dup, 1) := by decide +kernel
theorem d_I_init_49 : decode b_I_init 49 = .ok (.aload_n 0, 1) := by decide +kernel
theorem d_I_init_50 : decode b_I_init 50 = .ok (.getfield 19, 3) := by decide +kernel
theorem d_I_init_53 : decode b_I_init 53 = .ok (.invokespecial 36, 3) := by decide +kernel
theorem d_I_init_56 : decode b_I_init 56 = .ok (.astore_n 1, 1) := by decide +kernel
theorem d_I_init_57 : decode b_I_init 57 = .ok (.aload_n 0, 1) := by decide +kernel
theorem d_I_init_58 : decode b_I_init 58 = .ok (.new 39, 3) := by decide +kernel
theorem d_I_init_61 : decode b_I_init 61 = .ok (.dup, 1) := by decide +kernel
theorem d_I_init_62 : decode b_I_init 62 = .ok (.aload_n 0, 1) := by decide +kernel
theorem d_I_init_63 : decode b_I_init 63 = .ok (.getfield 10, 3) := by decide +kernel
theorem d_I_init_66 : decode b_I_init 66 = .ok (.aload_n 0, 1) := by decide +kernel
theorem d_I_init_67 : decode b_I_init 67 = .ok (.getfield 19, 3) := by decide +kernel
theorem d_I_init_70 : decode b_I_init 70 = .ok (.aload_n 0, 1) := by decide +kernel
theorem d_I_init_71 : decode b_I_init 71 = .ok (.getfield 26, 3) := by decide +kernel
theorem d_I_init_74 : decode b_I_init 74 = .ok (.aload_n 1, 1) := by decide +kernel
theorem d_I_init_75 : decode b_I_init 75 = .ok (.invokespecial 41, 3) := by decide +kernel
theorem d_I_init_78 : decode b_I_init 78 = .ok (.putfield 44, 3) := by decide +kernel
theorem d_I_init_81 : decode b_I_init 81 = .ok (.aload_n 0, 1) := by decide +kernel
theorem d_I_init_82 : decode b_I_init 82 = .ok (.new 48, 3) := by decide +kernel
theorem d_I_init_85 : decode b_I_init 85 = .ok (.dup, 1) := by decide +kernel
theorem d_I_init_86 : decode b_I_init 86 = .ok (.aload_n 0, 1) := by decide +kernel
theorem d_I_init_87 : decode b_I_init 87 = .ok (.getfield 10, 3) := by decide +kernel
theorem d_I_init_90 : decode b_I_init 90 = .ok (.aload_n 0, 1) := by decide +kernel
theorem d_I_init_91 : decode b_I_init 91 = .ok (.getfield 19, 3) := by decide +kernel
theorem d_I_init_94 : decode b_I_init 94 = .ok (.aload_n 0, 1) := by decide +kernel
theorem d_I_init_95 : decode b_I_init 95 = .ok (.getfield 26, 3) := by decide +kernel
theorem d_I_init_98 : decode b_I_init 98 = .ok (.aload_n 1, 1) := by decide +kernel
theorem d_I_init_99 : decode b_I_init 99 = .ok (.aload_n 0, 1) := by decide +kernel
theorem d_I_init_100 : decode b_I_init 100 = .ok (.getfield 44, 3) := by decide +kernel
theorem d_I_init_103 : decode b_I_init 103 = .ok (.aload_n 0, 1) := by decide +kernel
theorem d_I_init_104 : decode b_I_init 104 = .ok (.getfield 30, 3) := by decide +kernel
theorem d_I_init_107 : decode b_I_init 107 = .ok (.invokespecial 50, 3) := by decide +kernel
theorem d_I_init_110 : decode b_I_init 110 = .ok (.putfield 53, 3) := by decide +kernel
theorem d_I_init_113 : decode b_I_init 113 = .ok (.aload_n 0, 1) := by decide +kernel
theorem d_I_init_114 : decode b_I_init 114 = .ok (.new 57, 3) := by decide +kernel
theorem d_I_init_117 : decode b_I_init 117 = .ok (.dup, 1) := by decide +kernel
theorem d_I_init_118 : decode b_I_init 118 = .ok (.aload_n 0, 1) := by decide +kernel
theorem d_I_init_119 : decode b_I_init 119 = .ok (.getfield 10, 3) := by decide +kernel
theorem d_I_init_122 : decode b_I_init 122 = .ok (.aload_n 0, 1) := by decide +kernel
theorem d_I_init_123 : decode b_I_init 123 = .ok (.getfield 19, 3) := by decide +kernel
theorem d_I_init_126 : decode b_I_init 126 = .ok (.aload_n 0, 1) := by decide +kernel
theorem d_I_init_127 : decode b_I_init 127 = .ok (.getfield 26, 3) := by decide +kernel
theorem d_I_init_130 : decode b_I_init 130 = .ok (.aload_n 0, 1) := by decide +kernel
theorem d_I_init_131 : decode b_I_init 131 = .ok (.getfield 44, 3) := by decide +kernel
theorem d_I_init_134 : decode b_I_init 134 = .ok (.invokespecial 59, 3) := by decide +kernel
theorem d_I_init_137 : decode b_I_init 137 = .ok (.putfield 62, 3) := by decide +kernel
theorem d_I_init_140 : decode b_I_init 140 = .ok (.aload_n 0, 1) := by decide +kernel
theorem d_I_init_141 : decode b_I_init 141 = .ok (.new 66, 3) := by decide +kernel
theorem d_I_init_144 : decode b_I_init 144 = .ok (.dup, 1) := by decide +kernel
theorem d_I_init_145 : decode b_I_init 145 = .ok (.invokespecial 68, 3) := by decide +kernel
theorem d_I_init_148 : decode b_I_init 148 = .ok (.putfield 69, 3) := by decide +kernel
theorem d_I_init_151 : decode b_I_init 151 = .ok (.aload_n 0, 1) := by decide +kernel
theorem d_I_init_152 : decode b_I_init 152 = .ok (.iconst (-1), 1) := by decide +kernel
theorem d_I_init_153 : decode b_I_init 153 = .ok (.putfield 73, 3) := by decide +kernel
theorem d_I_init_156 : decode b_I_init 156 = .ok (.return_, 1) := by decide +kernel
theorem d_I_declare_0 : decode b_I_declare 0 = .ok (.iload_n 1, 1) := by decide +kernel
theorem d_I_declare_1 : decode b_I_declare 1 = .ok (.ifCond .lt 8, 3) := by decide +kernel
theorem d_I_declare_4 : decode b_I_declare 4 = .ok (.iload_n 1, 1) := by decide +kernel
theorem d_I_declare_5 : decode b_I_declare 5 = .ok (.iconst 2, 1) := by decide +kernel
theorem d_I_declare_6 : decode b_I_declare 6 = .ok (.if_icmp .le 6, 3) := by decide +kernel
theorem d_I_declare_9 : decode b_I_declare 9 = .ok (.bipush (-2), 2) := by decide +kernel
theorem d_I_declare_11 : decode b_I_declare 11 = .ok (.ireturn, 1) := by decide +kernel
theorem d_I_declare_12 : decode b_I_declare 12 = .ok (.aload_n 0, 1) := by decide +kernel
theorem d_I_declare_13 : decode b_I_declare 13 = .ok (.getfield 10, 3) := by decide +kernel
theorem d_I_declare_16 : decode b_I_declare 16 = .ok (.iload_n 1, 1) := by decide +kernel
theorem d_I_declare_17 : decode b_I_declare 17 = .ok (.invokevirtual 77, 3) := by decide +kernel
theorem d_I_declare_20 : decode b_I_declare 20 = .ok (.ireturn, 1) := by decide +kernel
theorem d_I_parent_0 : decode b_I_parent 0 = .ok (.iload_n 1, 1) := by decide +kernel
theorem d_I_parent_1 : decode b_I_parent 1 = .ok (.bipush 9, 2) := by decide +kernel
theorem d_I_parent_3 : decode b_I_parent 3 = .ok (.if_icmp .lt 23, 3) := by decide +kernel
theorem d_I_parent_6 : decode b_I_parent 6 = .ok (.aload_n 0, 1) := by decide +kernel
theorem d_I_parent_7 : decode b_I_parent 7 = .ok (.getfield 10, 3) := by decide +kernel
theorem d_I_parent_10 : decode b_I_parent 10 = .ok (.iload_n 1, 1) := by decide +kernel
theorem d_I_parent_11 : decode b_I_parent 11 = .ok (.invokevirtual 81, 3) := by decide +kernel
theorem d_I_parent_14 : decode b_I_parent 14 = .ok (.ifCond .eq 12, 3) := by decide +kernel
theorem d_I_parent_17 : decode b_I_parent 17 = .ok (.aload_n 0, 1) := by decide +kernel
theorem d_I_parent_18 : decode b_I_parent 18 = .ok (.iload_n 1, 1) := by decide +kernel
theorem d_I_parent_19 : decode b_I_parent 19 = .ok (.iload_n 2, 1) := by decide +kernel
theorem d_I_parent_20 : decode b_I_parent 20 = .ok (.invokevirtual 85, 3) := by decide +kernel
theorem d_I_parent_23 : decode b_I_parent 23 = .ok (.ifCond .ne 6, 3) := by decide +kernel
theorem d_I_parent_26 : decode b_I_parent 26 = .ok (.bipush (-2), 2) := by decide +kernel
theorem d_I_parent_28 : decode b_I_parent 28 = .ok (.ireturn, 1) := by decide +kernel
theorem d_I_parent_29 : decode b_I_parent 29 = .ok (.aload_n 0, 1) := by decide +kernel
theorem d_I_parent_30 : decode b_I_parent 30 = .ok (.getfield 10, 3) := by decide +kernel
theorem d_I_parent_33 : decode b_I_parent 33 = .ok (.iload_n 1, 1) := by decide +kernel
theorem d_I_parent_34 : decode b_I_parent 34 = .ok (.iload_n 2, 1) := by decide +kernel
theorem d_I_parent_35 : decode b_I_parent 35 = .ok (.aload_n 0, 1) := by decide +kernel
theorem d_I_parent_36 : decode b_I_parent 36 = .ok (.getfield 19, 3) := by decide +kernel
theorem d_I_parent_39 : decode b_I_parent 39 = .ok (.iload_n 2, 1) := by decide +kernel
theorem d_I_parent_40 : decode b_I_parent 40 = .ok (.invokevirtual 89, 3) := by decide +kernel
theorem d_I_parent_43 : decode b_I_parent 43 = .ok (.invokevirtual 92, 3) := by decide +kernel
theorem d_I_parent_46 : decode b_I_parent 46 = .ok (.ireturn, 1) := by decide +kernel
theorem d_I_plain_0 : decode b_I_plain 0 = .ok (.aload_n 0, 1) := by decide +kernel
theorem d_I_plain_1 : decode b_I_plain 1 = .ok (.getfield 10, 3) := by decide +kernel
theorem d_I_plain_4 : decode b_I_plain 4 = .ok (.iload_n 1, 1) := by decide +kernel
theorem d_I_plain_5 : decode b_I_plain 5 = .ok (.invokevirtual 81, 3) := by decide +kernel
theorem d_I_plain_8 : decode b_I_plain 8 = .ok (.ifCond .ne 6, 3) := by decide +kernel
theorem d_I_plain_11 : decode b_I_plain 11 = .ok (.bipush (-2), 2) := by decide +kernel
theorem d_I_plain_13 : decode b_I_plain 13 = .ok (.ireturn, 1) := by decide +kernel
theorem d_I_plain_14 : decode b_I_plain 14 = .ok (.aload_n 0, 1) := by decide +kernel
theorem d_I_plain_15 : decode b_I_plain 15 = .ok (.getfield 19, 3) := by decide +kernel
theorem d_I_plain_18 : decode b_I_plain 18 = .ok (.iconst 0, 1) := by decide +kernel
theorem d_I_plain_19 : decode b_I_plain 19 = .ok (.iload_n 1, 1) := by decide +kernel
theorem d_I_plain_20 : decode b_I_plain 20 = .ok (.iconst (-1), 1) := by decide +kernel
theorem d_I_plain_21 : decode b_I_plain 21 = .ok (.iconst (-1), 1) := by decide +kernel
theorem d_I_plain_22 : decode b_I_plain 22 = .ok (.invokevirtual 96, 3) := by decide +kernel
theorem d_I_plain_25 : decode b_I_plain 25 = .ok (.ireturn, 1) := by decide +kernel
theorem d_I_of_0 : decode b_I_of 0 = .ok (.aload_n 0, 1) := by decide +kernel
theorem d_I_of_1 : decode b_I_of 1 = .ok (.getfield 10, 3) := by decide +kernel
theorem d_I_of_4 : decode b_I_of 4 = .ok (.iload_n 1, 1) := by decide +kernel
theorem d_I_of_5 : decode b_I_of 5 = .ok (.invokevirtual 100, 3) := by decide +kernel
theorem d_I_of_8 : decode b_I_of 8 = .ok (.istore 4, 2) := by decide +kernel
theorem d_I_of_10 : decode b_I_of 10 = .ok (.iload 4, 2) := by decide +kernel
theorem d_I_of_12 : decode b_I_of 12 = .ok (.iconst 1, 1) := by decide +kernel
theorem d_I_of_13 : decode b_I_of 13 = .ok (.if_icmp .lt 11, 3) := by decide +kernel
theorem d_I_of_16 : decode b_I_of 16 = .ok (.aload_n 0, 1) := by decide +kernel
theorem d_I_of_17 : decode b_I_of 17 = .ok (.iload_n 2, 1) := by decide +kernel
theorem d_I_of_18 : decode b_I_of 18 = .ok (.invokevirtual 103, 3) := by decide +kernel
theorem d_I_of_21 : decode b_I_of 21 = .ok (.ifCond .ne 6, 3) := by decide +kernel
theorem d_I_of_24 : decode b_I_of 24 = .ok (.bipush (-2), 2) := by decide +kernel
theorem d_I_of_26 : decode b_I_of 26 = .ok (.ireturn, 1) := by decide +kernel
theorem d_I_of_27 : decode b_I_of 27 = .ok (.iload 4, 2) := by decide +kernel
theorem d_I_of_29 : decode b_I_of 29 = .ok (.iconst 1, 1) := by decide +kernel
theorem d_I_of_30 : decode b_I_of 30 = .ok (.if_icmp .ne 15, 3) := by decide +kernel
theorem d_I_of_33 : decode b_I_of 33 = .ok (.aload_n 0, 1) := by decide +kernel
theorem d_I_of_34 : decode b_I_of 34 = .ok (.getfield 19, 3) := by decide +kernel
theorem d_I_of_37 : decode b_I_of 37 = .ok (.iconst 1, 1) := by decide +kernel
theorem d_I_of_38 : decode b_I_of 38 = .ok (.iload_n 1, 1) := by decide +kernel
theorem d_I_of_39 : decode b_I_of 39 = .ok (.iload_n 2, 1) := by decide +kernel
theorem d_I_of_40 : decode b_I_of 40 = .ok (.iconst (-1), 1) := by decide +kernel
theorem d_I_of_41 : decode b_I_of 41 = .ok (.invokevirtual 96, 3) := by decide +kernel
theorem d_I_of_44 : decode b_I_of 44 = .ok (.ireturn, 1) := by decide +kernel
theorem d_I_of_45 : decode b_I_of 45 = .ok (.aload_n 0, 1) := by decide +kernel
theorem d_I_of_46 : decode b_I_of 46 = .ok (.iload_n 3, 1) := by decide +kernel
theorem d_I_of_47 : decode b_I_of 47 = .ok (.invokevirtual 103, 3) := by decide +kernel
theorem d_I_of_50 : decode b_I_of 50 = .ok (.ifCond .ne 6, 3) := by decide +kernel
theorem d_I_of_53 : decode b_I_of 53 = .ok (.bipush (-2), 2) := by decide +kernel
theorem d_I_of_55 : decode b_I_of 55 = .ok (.ireturn, 1) := by decide +kernel
theorem d_I_of_56 : decode b_I_of 56 = .ok (.aload_n 0, 1) := by decide +kernel
theorem d_I_of_57 : decode b_I_of 57 = .ok (.getfield 19, 3) := by decide +kernel
theorem d_I_of_60 : decode b_I_of 60 = .ok (.iconst 1, 1) := by decide +kernel
theorem d_I_of_61 : decode b_I_of 61 = .ok (.iload_n 1, 1) := by decide +kernel
theorem d_I_of_62 : decode b_I_of 62 = .ok (.iload_n 2, 1) := by decide +kernel
theorem d_I_of_63 : decode b_I_of 63 = .ok (.iload_n 3, 1) := by decide +kernel
theorem d_I_of_64 : decode b_I_of 64 = .ok (.invokevirtual 96, 3) := by decide +kernel
theorem d_I_of_67 : decode b_I_of 67 = .ok (.ireturn, 1) := by decide +kernel
theorem d_I_wild_0 : decode b_I_wild 0 = .ok (.iload_n 1, 1) := by decide +kernel
theorem d_I_wild_1 : decode b_I_wild 1 = .ok (.ifCond .lt 8, 3) := by decide +kernel
theorem d_I_wild_4 : decode b_I_wild 4 = .ok (.iload_n 1, 1) := by decide +kernel
theorem d_I_wild_5 : decode b_I_wild 5 = .ok (.iconst 2, 1) := by decide +kernel
theorem d_I_wild_6 : decode b_I_wild 6 = .ok (.if_icmp .le 6, 3) := by decide +kernel
theorem d_I_wild_9 : decode b_I_wild 9 = .ok (.bipush (-2), 2) := by decide +kernel
theorem d_I_wild_11 : decode b_I_wild 11 = .ok (.ireturn, 1) := by decide +kernel
theorem d_I_wild_12 : decode b_I_wild 12 = .ok (.iload_n 1, 1) := by decide +kernel
theorem d_I_wild_13 : decode b_I_wild 13 = .ok (.ifCond .ne 15, 3) := by decide +kernel
theorem d_I_wild_16 : decode b_I_wild 16 = .ok (.aload_n 0, 1) := by decide +kernel
theorem d_I_wild_17 : decode b_I_wild 17 = .ok (.getfield 19, 3) := by decide +kernel
theorem d_I_wild_20 : decode b_I_wild 20 = .ok (.iconst 2, 1) := by decide +kernel
theorem d_I_wild_21 : decode b_I_wild 21 = .ok (.iconst 0, 1) := by decide +kernel
theorem d_I_wild_22 : decode b_I_wild 22 = .ok (.iconst (-1), 1) := by decide +kernel
theorem d_I_wild_23 : decode b_I_wild 23 = .ok (.iconst (-1), 1) := by decide +kernel
theorem d_I_wild_24 : decode b_I_wild 24 = .ok (.invokevirtual 96, 3) := by decide +kernel
theorem d_I_wild_27 : decode b_I_wild 27 = .ok (.ireturn, 1) := by decide +kernel
theorem d_I_wild_28 : decode b_I_wild 28 = .ok (.aload_n 0, 1) := by decide +kernel
theorem d_I_wild_29 : decode b_I_wild 29 = .ok (.iload_n 2, 1) := by decide +kernel
theorem d_I_wild_30 : decode b_I_wild 30 = .ok (.invokevirtual 103, 3) := by decide +kernel
theorem d_I_wild_33 : decode b_I_wild 33 = .ok (.ifCond .eq 15, 3) := by decide +kernel
theorem d_I_wild_36 : decode b_I_wild 36 = .ok (.aload_n 0, 1) := by decide +kernel
theorem d_I_wild_37 : decode b_I_wild 37 = .ok (.getfield 19, 3) := by decide +kernel
theorem d_I_wild_40 : decode b_I_wild 40 = .ok (.iload_n 2, 1) := by decide +kernel
theorem d_I_wild_41 : decode b_I_wild 41 = .ok (.invokevirtual 106, 3) := by decide +kernel
theorem d_I_wild_44 : decode b_I_wild 44 = .ok (.iconst 2, 1) := by decide +kernel
theorem d_I_wild_45 : decode b_I_wild 45 = .ok (.if_icmp .ne 6, 3) := by decide +kernel
theorem d_I_wild_48 : decode b_I_wild 48 = .ok (.bipush (-2), 2) := by decide +kernel
theorem d_I_wild_50 : decode b_I_wild 50 = .ok (.ireturn, 1) := by decide +kernel
theorem d_I_wild_51 : decode b_I_wild 51 = .ok (.aload_n 0, 1) := by decide +kernel
theorem d_I_wild_52 : decode b_I_wild 52 = .ok (.getfield 19, 3) := by decide +kernel
theorem d_I_wild_55 : decode b_I_wild 55 = .ok (.iconst 2, 1) := by decide +kernel
theorem d_I_wild_56 : decode b_I_wild 56 = .ok (.iload_n 1, 1) := by decide +kernel
theorem d_I_wild_57 : decode b_I_wild 57 = .ok (.iload_n 2, 1) := by decide +kernel
theorem d_I_wild_58 : decode b_I_wild 58 = .ok (.iconst (-1), 1) := by decide +kernel
theorem d_I_wild_59 : decode b_I_wild 59 = .ok (.invokevirtual 96, 3) := by decide +kernel
theorem d_I_wild_62 : decode b_I_wild 62 = .ok (.ireturn, 1) := by decide +kernel
theorem d_I_parameter_0 : decode b_I_parameter 0 = .ok (.iload_n 2, 1) := by decide +kernel
theorem d_I_parameter_1 : decode b_I_parameter 1 = .ok (.ifCond .lt 15, 3) := by decide +kernel
theorem d_I_parameter_4 : decode b_I_parameter 4 = .ok (.iload_n 2, 1) := by decide +kernel
theorem d_I_parameter_5 : decode b_I_parameter 5 = .ok (.aload_n 0, 1) := by decide +kernel
theorem d_I_parameter_6 : decode b_I_parameter 6 = .ok (.getfield 10, 3) := by decide +kernel
theorem d_I_parameter_9 : decode b_I_parameter 9 = .ok (.iload_n 1, 1) := by decide +kernel
theorem d_I_parameter_10 : decode b_I_parameter 10 = .ok (.invokevirtual 100, 3) := by decide +kernel
theorem d_I_parameter_13 : decode b_I_parameter 13 = .ok (.if_icmp .lt 6, 3) := by decide +kernel
theorem d_I_parameter_16 : decode b_I_parameter 16 = .ok (.bipush (-2), 2) := by decide +kernel
theorem d_I_parameter_18 : decode b_I_parameter 18 = .ok (.ireturn, 1) := by decide +kernel
theorem d_I_parameter_19 : decode b_I_parameter 19 = .ok (.aload_n 0, 1) := by decide +kernel
theorem d_I_parameter_20 : decode b_I_parameter 20 = .ok (.getfield 19, 3) := by decide +kernel
theorem d_I_parameter_23 : decode b_I_parameter 23 = .ok (.iconst 3, 1) := by decide +kernel
theorem d_I_parameter_24 : decode b_I_parameter 24 = .ok (.iload_n 1, 1) := by decide +kernel
theorem d_I_parameter_25 : decode b_I_parameter 25 = .ok (.iload_n 2, 1) := by decide +kernel
theorem d_I_parameter_26 : decode b_I_parameter 26 = .ok (.iconst (-1), 1) := by decide +kernel
theorem d_I_parameter_27 : decode b_I_parameter 27 = .ok (.invokevirtual 96, 3) := by decide +kernel
theorem d_I_parameter_30 : decode b_I_parameter 30 = .ok (.ireturn, 1) := by decide +kernel
theorem d_I_array_0 : decode b_I_array 0 = .ok (.aload_n 0, 1) := by decide +kernel
theorem d_I_array_1 : decode b_I_array 1 = .ok (.getfield 19, 3) := by decide +kernel
theorem d_I_array_4 : decode b_I_array 4 = .ok (.iload_n 1, 1) := by decide +kernel
theorem d_I_array_5 : decode b_I_array 5 = .ok (.invokevirtual 109, 3) := by decide +kernel
theorem d_I_array_8 : decode b_I_array 8 = .ok (.ifCond .ne 6, 3) := by decide +kernel
theorem d_I_array_11 : decode b_I_array 11 = .ok (.bipush (-2), 2) := by decide +kernel
theorem d_I_array_13 : decode b_I_array 13 = .ok (.ireturn, 1) := by decide +kernel
theorem d_I_array_14 : decode b_I_array 14 = .ok (.aload_n 0, 1) := by decide +kernel
theorem d_I_array_15 : decode b_I_array 15 = .ok (.getfield 19, 3) := by decide +kernel
theorem d_I_array_18 : decode b_I_array 18 = .ok (.iload_n 1, 1) := by decide +kernel
theorem d_I_array_19 : decode b_I_array 19 = .ok (.invokevirtual 106, 3) := by decide +kernel
theorem d_I_array_22 : decode b_I_array 22 = .ok (.istore_n 2, 1) := by decide +kernel
theorem d_I_array_23 : decode b_I_array 23 = .ok (.iload_n 2, 1) := by decide +kernel
theorem d_I_array_24 : decode b_I_array 24 = .ok (.iconst 2, 1) := by decide +kernel
theorem d_I_array_25 : decode b_I_array 25 = .ok (.if_icmp .eq 9, 3) := by decide +kernel
theorem d_I_array_28 : decode b_I_array 28 = .ok (.iload_n 2, 1) := by decide +kernel
theorem d_I_array_29 : decode b_I_array 29 = .ok (.bipush 6, 2) := by decide +kernel
theorem d_I_array_31 : decode b_I_array 31 = .ok (.if_icmp .ne 6, 3) := by decide +kernel
theorem d_I_array_34 : decode b_I_array 34 = .ok (.bipush (-2), 2) := by decide +kernel
theorem d_I_array_36 : decode b_I_array 36 = .ok (.ireturn, 1) := by decide +kernel
theorem d_I_array_37 : decode b_I_array 37 = .ok (.aload_n 0, 1) := by decide +kernel
theorem d_I_array_38 : decode b_I_array 38 = .ok (.getfield 19, 3) := by decide +kernel
theorem d_I_array_41 : decode b_I_array 41 = .ok (.iconst 4, 1) := by decide +kernel
theorem d_I_array_42 : decode b_I_array 42 = .ok (.iload_n 1, 1) := by decide +kernel
theorem d_I_array_43 : decode b_I_array 43 = .ok (.iconst (-1), 1) := by decide +kernel
theorem d_I_array_44 : decode b_I_array 44 = .ok (.iconst (-1), 1) := by decide +kernel
theorem d_I_array_45 : decode b_I_array 45 = .ok (.invokevirtual 96, 3) := by decide +kernel
theorem d_I_array_48 : decode b_I_array 48 = .ok (.ireturn, 1) := by decide +kernel
theorem d_I_primitive_0 : decode b_I_primitive 0 = .ok (.iload_n 1, 1) := by decide +kernel
theorem d_I_primitive_1 : decode b_I_primitive 1 = .ok (.ifCond .lt 9, 3) := by decide +kernel
theorem d_I_primitive_4 : decode b_I_primitive 4 = .ok (.iload_n 1, 1) := by decide +kernel
theorem d_I_primitive_5 : decode b_I_primitive 5 = .ok (.bipush 8, 2) := by decide +kernel
theorem d_I_primitive_7 : decode b_I_primitive 7 = .ok (.if_icmp .lt 6, 3) := by decide +kernel
theorem d_I_primitive_10 : decode b_I_primitive 10 = .ok (.bipush (-2), 2) := by decide +kernel
theorem d_I_primitive_12 : decode b_I_primitive 12 = .ok (.ireturn, 1) := by decide +kernel
theorem d_I_primitive_13 : decode b_I_primitive 13 = .ok (.aload_n 0, 1) := by decide +kernel
theorem d_I_primitive_14 : decode b_I_primitive 14 = .ok (.getfield 19, 3) := by decide +kernel
theorem d_I_primitive_17 : decode b_I_primitive 17 = .ok (.iconst 5, 1) := by decide +kernel
theorem d_I_primitive_18 : decode b_I_primitive 18 = .ok (.iload_n 1, 1) := by decide +kernel
theorem d_I_primitive_19 : decode b_I_primitive 19 = .ok (.iconst (-1), 1) := by decide +kernel
theorem d_I_primitive_20 : decode b_I_primitive 20 = .ok (.iconst (-1), 1) := by decide +kernel
theorem d_I_primitive_21 : decode b_I_primitive 21 = .ok (.invokevirtual 96, 3) := by decide +kernel
theorem d_I_primitive_24 : decode b_I_primitive 24 = .ok (.ireturn, 1) := by decide +kernel
theorem d_I_nothing_0 : decode b_I_nothing 0 = .ok (.aload_n 0, 1) := by decide +kernel
theorem d_I_nothing_1 : decode b_I_nothing 1 = .ok (.getfield 19, 3) := by decide +kernel
theorem d_I_nothing_4 : decode b_I_nothing 4 = .ok (.bipush 6, 2) := by decide +kernel
theorem d_I_nothing_6 : decode b_I_nothing 6 = .ok (.iconst 0, 1) := by decide +kernel
theorem d_I_nothing_7 : decode b_I_nothing 7 = .ok (.iconst (-1), 1) := by decide +kernel
theorem d_I_nothing_8 : decode b_I_nothing 8 = .ok (.iconst (-1), 1) := by decide +kernel
theorem d_I_nothing_9 : decode b_I_nothing 9 = .ok (.invokevirtual 96, 3) := by decide +kernel
theorem d_I_nothing_12 : decode b_I_nothing 12 = .ok (.ireturn, 1) := by decide +kernel
theorem d_I_variable_0 : decode b_I_variable 0 = .ok (.aload_n 0, 1) := by decide +kernel
theorem d_I_variable_1 : decode b_I_variable 1 = .ok (.getfield 110, 3) := by decide +kernel
theorem d_I_variable_4 : decode b_I_variable 4 = .ok (.ifCond .lt 12, 3) := by decide +kernel
theorem d_I_variable_7 : decode b_I_variable 7 = .ok (.aload_n 0, 1) := by decide +kernel
theorem d_I_variable_8 : decode b_I_variable 8 = .ok (.getfield 110, 3) := by decide +kernel
theorem d_I_variable_11 : decode b_I_variable 11 = .ok (.bipush 12, 2) := by decide +kernel
theorem d_I_variable_13 : decode b_I_variable 13 = .ok (.if_icmp .lt 6, 3) := by decide +kernel
theorem d_I_variable_16 : decode b_I_variable 16 = .ok (.bipush (-3), 2) := by decide +kernel
theorem d_I_variable_18 : decode b_I_variable 18 = .ok (.ireturn, 1) := by decide +kernel
theorem d_I_variable_19 : decode b_I_variable 19 = .ok (.aload_n 0, 1) := by decide +kernel
theorem d_I_variable_20 : decode b_I_variable 20 = .ok (.getfield 19, 3) := by decide +kernel
theorem d_I_variable_23 : decode b_I_variable 23 = .ok (.bipush 7, 2) := by decide +kernel
theorem d_I_variable_25 : decode b_I_variable 25 = .ok (.aload_n 0, 1) := by decide +kernel
theorem d_I_variable_26 : decode b_I_variable 26 = .ok (.getfield 110, 3) := by decide +kernel
theorem d_I_variable_29 : decode b_I_variable 29 = .ok (.iconst (-1), 1) := by decide +kernel
theorem d_I_variable_30 : decode b_I_variable 30 = .ok (.iconst (-1), 1) := by decide +kernel
theorem d_I_variable_31 : decode b_I_variable 31 = .ok (.invokevirtual 96, 3) := by decide +kernel
theorem d_I_variable_34 : decode b_I_variable 34 = .ok (.istore_n 1, 1) := by decide +kernel
theorem d_I_variable_35 : decode b_I_variable 35 = .ok (.iload_n 1, 1) := by decide +kernel
theorem d_I_variable_36 : decode b_I_variable 36 = .ok (.ifCond .ge 6, 3) := by decide +kernel
theorem d_I_variable_39 : decode b_I_variable 39 = .ok (.bipush (-3), 2) := by decide +kernel
theorem d_I_variable_41 : decode b_I_variable 41 = .ok (.ireturn, 1) := by decide +kernel
theorem d_I_variable_42 : decode b_I_variable 42 = .ok (.aload_n 0, 1) := by decide +kernel
theorem d_I_variable_43 : decode b_I_variable 43 = .ok (.getfield 30, 3) := by decide +kernel
theorem d_I_variable_46 : decode b_I_variable 46 = .ok (.aload_n 0, 1) := by decide +kernel
theorem d_I_variable_47 : decode b_I_variable 47 = .ok (.getfield 110, 3) := by decide +kernel
theorem d_I_variable_50 : decode b_I_variable 50 = .ok (.iload_n 1, 1) := by decide +kernel
theorem d_I_variable_51 : decode b_I_variable 51 = .ok (.iastore, 1) := by decide +kernel
theorem d_I_variable_52 : decode b_I_variable 52 = .ok (.aload_n 0, 1) := by decide +kernel
theorem d_I_variable_53 : decode b_I_variable 53 = .ok (.dup, 1) := by decide +kernel
theorem d_I_variable_54 : decode b_I_variable 54 = .ok (.getfield 110, 3) := by decide +kernel
theorem d_I_variable_57 : decode b_I_variable 57 = .ok (.iconst 1, 1) := by decide +kernel
theorem d_I_variable_58 : decode b_I_variable 58 = .ok (.iadd, 1) := by decide +kernel
theorem d_I_variable_59 : decode b_I_variable 59 = .ok (.putfield 110, 3) := by decide +kernel
theorem d_I_variable_62 : decode b_I_variable 62 = .ok (.iload_n 1, 1) := by decide +kernel
theorem d_I_variable_63 : decode b_I_variable 63 = .ok (.ireturn, 1) := by decide +kernel
