theorem d_M_sub_0 : decode b_M_sub 0 = .ok (.iload_n 1, 1) := by decide +kernel
theorem d_M_sub_1 : decode b_M_sub 1 = .ok (.iload_n 2, 1) := by decide +kernel
theorem d_M_sub_2 : decode b_M_sub 2 = .ok (.if_icmp .ne 5, 3) := by decide +kernel
theorem d_M_sub_5 : decode b_M_sub 5 = .ok (.iconst 1, 1) := by decide +kernel
theorem d_M_sub_6 : decode b_M_sub 6 = .ok (.ireturn, 1) := by decide +kernel
theorem d_M_sub_7 : decode b_M_sub 7 = .ok (.aload_n 0, 1) := by decide +kernel
theorem d_M_sub_8 : decode b_M_sub 8 = .ok (.getfield 27, 3) := by decide +kernel
theorem d_M_sub_11 : decode b_M_sub 11 = .ok (.iload_n 1, 1) := by decide +kernel
theorem d_M_sub_12 : decode b_M_sub 12 = .ok (.iaload, 1) := by decide +kernel
theorem d_M_sub_13 : decode b_M_sub 13 = .ok (.bipush 6, 2) := by decide +kernel
theorem d_M_sub_15 : decode b_M_sub 15 = .ok (.if_icmp .ne 19, 3) := by decide +kernel
theorem d_M_sub_18 : decode b_M_sub 18 = .ok (.aload_n 0, 1) := by decide +kernel
theorem d_M_sub_19 : decode b_M_sub 19 = .ok (.getfield 27, 3) := by decide +kernel
theorem d_M_sub_22 : decode b_M_sub 22 = .ok (.iload_n 2, 1) := by decide +kernel
theorem d_M_sub_23 : decode b_M_sub 23 = .ok (.iaload, 1) := by decide +kernel
theorem d_M_sub_24 : decode b_M_sub 24 = .ok (.iconst 5, 1) := by decide +kernel
theorem d_M_sub_25 : decode b_M_sub 25 = .ok (.if_icmp .eq 7, 3) := by decide +kernel
theorem d_M_sub_28 : decode b_M_sub 28 = .ok (.iconst 1, 1) := by decide +kernel
theorem d_M_sub_29 : decode b_M_sub 29 = .ok (.goto 4, 3) := by decide +kernel
theorem d_M_sub_32 : decode b_M_sub 32 = .ok (.iconst 0, 1) := by decide +kernel
theorem d_M_sub_33 : decode b_M_sub 33 = .ok (.ireturn, 1) := by decide +kernel
theorem d_M_sub_34 : decode b_M_sub 34 = .ok (.aload_n 0, 1) := by decide +kernel
theorem d_M_sub_35 : decode b_M_sub 35 = .ok (.getfield 27, 3) := by decide +kernel
theorem d_M_sub_38 : decode b_M_sub 38 = .ok (.iload_n 2, 1) := by decide +kernel
theorem d_M_sub_39 : decode b_M_sub 39 = .ok (.iaload, 1) := by decide +kernel
theorem d_M_sub_40 : decode b_M_sub 40 = .ok (.bipush 6, 2) := by decide +kernel
theorem d_M_sub_42 : decode b_M_sub 42 = .ok (.if_icmp .eq 23, 3) := by decide +kernel
theorem d_M_sub_45 : decode b_M_sub 45 = .ok (.aload_n 0, 1) := by decide +kernel
theorem d_M_sub_46 : decode b_M_sub 46 = .ok (.getfield 27, 3) := by decide +kernel
theorem d_M_sub_49 : decode b_M_sub 49 = .ok (.iload_n 1, 1) := by decide +kernel
theorem d_M_sub_50 : decode b_M_sub 50 = .ok (.iaload, 1) := by decide +kernel
theorem d_M_sub_51 : decode b_M_sub 51 = .ok (.iconst 5, 1) := by decide +kernel
theorem d_M_sub_52 : decode b_M_sub 52 = .ok (.if_icmp .eq 13, 3) := by decide +kernel
theorem d_M_sub_55 : decode b_M_sub 55 = .ok (.aload_n 0, 1) := by decide +kernel
theorem d_M_sub_56 : decode b_M_sub 56 = .ok (.getfield 27, 3) := by decide +kernel
theorem d_M_sub_59 : decode b_M_sub 59 = .ok (.iload_n 2, 1) := by decide +kernel
theorem d_M_sub_60 : decode b_M_sub 60 = .ok (.iaload, 1) := by decide +kernel
theorem d_M_sub_61 : decode b_M_sub 61 = .ok (.iconst 5, 1) := by decide +kernel
theorem d_M_sub_62 : decode b_M_sub 62 = .ok (.if_icmp .ne 5, 3) := by decide +kernel
theorem d_M_sub_65 : decode b_M_sub 65 = .ok (.iconst 0, 1) := by decide +kernel
theorem d_M_sub_66 : decode b_M_sub 66 = .ok (.ireturn, 1) := by decide +kernel
theorem d_M_sub_67 : decode b_M_sub 67 = .ok (.aload_n 0, 1) := by decide +kernel
theorem d_M_sub_68 : decode b_M_sub 68 = .ok (.getfield 27, 3) := by decide +kernel
theorem d_M_sub_71 : decode b_M_sub 71 = .ok (.iload_n 1, 1) := by decide +kernel
theorem d_M_sub_72 : decode b_M_sub 72 = .ok (.iaload, 1) := by decide +kernel
theorem d_M_sub_73 : decode b_M_sub 73 = .ok (.bipush 7, 2) := by decide +kernel
theorem d_M_sub_75 : decode b_M_sub 75 = .ok (.if_icmp .eq 14, 3) := by decide +kernel
theorem d_M_sub_78 : decode b_M_sub 78 = .ok (.aload_n 0, 1) := by decide +kernel
theorem d_M_sub_79 : decode b_M_sub 79 = .ok (.getfield 27, 3) := by decide +kernel
theorem d_M_sub_82 : decode b_M_sub 82 = .ok (.iload_n 2, 1) := by decide +kernel
theorem d_M_sub_83 : decode b_M_sub 83 = .ok (.iaload, 1) := by decide +kernel
theorem d_M_sub_84 : decode b_M_sub 84 = .ok (.bipush 7, 2) := by decide +kernel
theorem d_M_sub_86 : decode b_M_sub 86 = .ok (.if_icmp .ne 10, 3) := by decide +kernel
theorem d_M_sub_89 : decode b_M_sub 89 = .ok (.aload_n 0, 1) := by decide +kernel
theorem d_M_sub_90 : decode b_M_sub 90 = .ok (.iload_n 1, 1) := by decide +kernel
theorem d_M_sub_91 : decode b_M_sub 91 = .ok (.iload_n 2, 1) := by decide +kernel
theorem d_M_sub_92 : decode b_M_sub 92 = .ok (.invokevirtual 261, 3) := by decide +kernel
theorem d_M_sub_95 : decode b_M_sub 95 = .ok (.ireturn, 1) := by decide +kernel
theorem d_M_sub_96 : decode b_M_sub 96 = .ok (.aload_n 0, 1) := by decide +kernel
theorem d_M_sub_97 : decode b_M_sub 97 = .ok (.getfield 27, 3) := by decide +kernel
theorem d_M_sub_100 : decode b_M_sub 100 = .ok (.iload_n 2, 1) := by decide +kernel
theorem d_M_sub_101 : decode b_M_sub 101 = .ok (.iaload, 1) := by decide +kernel
theorem d_M_sub_102 : decode b_M_sub 102 = .ok (.ifCond .ne 33, 3) := by decide +kernel
theorem d_M_sub_105 : decode b_M_sub 105 = .ok (.aload_n 0, 1) := by decide +kernel
theorem d_M_sub_106 : decode b_M_sub 106 = .ok (.getfield 30, 3) := by decide +kernel
theorem d_M_sub_109 : decode b_M_sub 109 = .ok (.iload_n 2, 1) := by decide +kernel
theorem d_M_sub_110 : decode b_M_sub 110 = .ok (.iaload, 1) := by decide +kernel
theorem d_M_sub_111 : decode b_M_sub 111 = .ok (.ifCond .eq 18, 3) := by decide +kernel
theorem d_M_sub_114 : decode b_M_sub 114 = .ok (.aload_n 0, 1) := by decide +kernel
theorem d_M_sub_115 : decode b_M_sub 115 = .ok (.iload_n 1, 1) := by decide +kernel
theorem d_M_sub_116 : decode b_M_sub 116 = .ok (.aload_n 0, 1) := by decide +kernel
theorem d_M_sub_117 : decode b_M_sub 117 = .ok (.getfield 30, 3) := by decide +kernel
theorem d_M_sub_120 : decode b_M_sub 120 = .ok (.iload_n 2, 1) := by decide +kernel
theorem d_M_sub_121 : decode b_M_sub 121 = .ok (.iaload, 1) := by decide +kernel
theorem d_M_sub_122 : decode b_M_sub 122 = .ok (.invokevirtual 212, 3) := by decide +kernel
theorem d_M_sub_125 : decode b_M_sub 125 = .ok (.iconst (-1), 1) := by decide +kernel
theorem d_M_sub_126 : decode b_M_sub 126 = .ok (.if_icmp .eq 7, 3) := by decide +kernel
theorem d_M_sub_129 : decode b_M_sub 129 = .ok (.iconst 1, 1) := by decide +kernel
theorem d_M_sub_130 : decode b_M_sub 130 = .ok (.goto 4, 3) := by decide +kernel
theorem d_M_sub_133 : decode b_M_sub 133 = .ok (.iconst 0, 1) := by decide +kernel
theorem d_M_sub_134 : decode b_M_sub 134 = .ok (.ireturn, 1) := by decide +kernel
theorem d_M_sub_135 : decode b_M_sub 135 = .ok (.aload_n 0, 1) := by decide +kernel
theorem d_M_sub_136 : decode b_M_sub 136 = .ok (.getfield 27, 3) := by decide +kernel
theorem d_M_sub_139 : decode b_M_sub 139 = .ok (.iload_n 2, 1) := by decide +kernel
theorem d_M_sub_140 : decode b_M_sub 140 = .ok (.iaload, 1) := by decide +kernel
theorem d_M_sub_141 : decode b_M_sub 141 = .ok (.iconst 1, 1) := by decide +kernel
theorem d_M_sub_142 : decode b_M_sub 142 = .ok (.if_icmp .ne 87, 3) := by decide +kernel
theorem d_M_sub_145 : decode b_M_sub 145 = .ok (.aload_n 0, 1) := by decide +kernel
theorem d_M_sub_146 : decode b_M_sub 146 = .ok (.iload_n 1, 1) := by decide +kernel
theorem d_M_sub_147 : decode b_M_sub 147 = .ok (.aload_n 0, 1) := by decide +kernel
theorem d_M_sub_148 : decode b_M_sub 148 = .ok (.getfield 30, 3) := by decide +kernel
theorem d_M_sub_151 : decode b_M_sub 151 = .ok (.iload_n 2, 1) := by decide +kernel
theorem d_M_sub_152 : decode b_M_sub 152 = .ok (.iaload, 1) := by decide +kernel
theorem d_M_sub_153 : decode b_M_sub 153 = .ok (.invokevirtual 212, 3) := by decide +kernel
theorem d_M_sub_156 : decode b_M_sub 156 = .ok (.istore_n 3, 1) := by decide +kernel
theorem d_M_sub_157 : decode b_M_sub 157 = .ok (.iload_n 3, 1) := by decide +kernel
theorem d_M_sub_158 : decode b_M_sub 158 = .ok (.iconst (-1), 1) := by decide +kernel
theorem d_M_sub_159 : decode b_M_sub 159 = .ok (.if_icmp .eq 13, 3) := by decide +kernel
theorem d_M_sub_162 : decode b_M_sub 162 = .ok (.aload_n 0, 1) := by decide +kernel
theorem d_M_sub_163 : decode b_M_sub 163 = .ok (.getfield 27, 3) := by decide +kernel
theorem d_M_sub_166 : decode b_M_sub 166 = .ok (.iload_n 3, 1) := by decide +kernel
theorem d_M_sub_167 : decode b_M_sub 167 = .ok (.iaload, 1) := by decide +kernel
theorem d_M_sub_168 : decode b_M_sub 168 = .ok (.iconst 1, 1) := by decide +kernel
theorem d_M_sub_169 : decode b_M_sub 169 = .ok (.if_icmp .eq 5, 3) := by decide +kernel
theorem d_M_sub_172 : decode b_M_sub 172 = .ok (.iconst 0, 1) := by decide +kernel
theorem d_M_sub_173 : decode b_M_sub 173 = .ok (.ireturn, 1) := by decide +kernel
theorem d_M_sub_174 : decode b_M_sub 174 = .ok (.aload_n 0, 1) := by decide +kernel
theorem d_M_sub_175 : decode b_M_sub 175 = .ok (.iconst 2, 1) := by decide +kernel
theorem d_M_sub_176 : decode b_M_sub 176 = .ok (.aload_n 0, 1) := by decide +kernel
theorem d_M_sub_177 : decode b_M_sub 177 = .ok (.getfield 33, 3) := by decide +kernel
theorem d_M_sub_180 : decode b_M_sub 180 = .ok (.iload_n 3, 1) := by decide +kernel
theorem d_M_sub_181 : decode b_M_sub 181 = .ok (.iaload, 1) := by decide +kernel
theorem d_M_sub_182 : decode b_M_sub 182 = .ok (.aload_n 0, 1) := by decide +kernel
theorem d_M_sub_183 : decode b_M_sub 183 = .ok (.getfield 33, 3) := by decide +kernel
theorem d_M_sub_186 : decode b_M_sub 186 = .ok (.iload_n 2, 1) := by decide +kernel
theorem d_M_sub_187 : decode b_M_sub 187 = .ok (.iaload, 1) := by decide +kernel
theorem d_M_sub_188 : decode b_M_sub 188 = .ok (.invokevirtual 255, 3) := by decide +kernel
theorem d_M_sub_191 : decode b_M_sub 191 = .ok (.istore 4, 2) := by decide +kernel
theorem d_M_sub_193 : decode b_M_sub 193 = .ok (.aload_n 0, 1) := by decide +kernel
theorem d_M_sub_194 : decode b_M_sub 194 = .ok (.getfield 36, 3) := by decide +kernel
theorem d_M_sub_197 : decode b_M_sub 197 = .ok (.iload_n 2, 1) := by decide +kernel
theorem d_M_sub_198 : decode b_M_sub 198 = .ok (.iaload, 1) := by decide +kernel
theorem d_M_sub_199 : decode b_M_sub 199 = .ok (.iconst (-1), 1) := by decide +kernel
theorem d_M_sub_200 : decode b_M_sub 200 = .ok (.if_icmp .eq 23, 3) := by decide +kernel
theorem d_M_sub_203 : decode b_M_sub 203 = .ok (.aload_n 0, 1) := by decide +kernel
theorem d_M_sub_204 : decode b_M_sub 204 = .ok (.iconst 2, 1) := by decide +kernel
theorem d_M_sub_205 : decode b_M_sub 205 = .ok (.aload_n 0, 1) := by decide +kernel
theorem d_M_sub_206 : decode b_M_sub 206 = .ok (.getfield 36, 3) := by decide +kernel
theorem d_M_sub_209 : decode b_M_sub 209 = .ok (.iload_n 3, 1) := by decide +kernel
theorem d_M_sub_210 : decode b_M_sub 210 = .ok (.iaload, 1) := by decide +kernel
theorem d_M_sub_211 : decode b_M_sub 211 = .ok (.aload_n 0, 1) := by decide +kernel
theorem d_M_sub_212 : decode b_M_sub 212 = .ok (.getfield 36, 3) := by decide +kernel
theorem d_M_sub_215 : decode b_M_sub 215 = .ok (.iload_n 2, 1) := by decide +kernel
theorem d_M_sub_216 : decode b_M_sub 216 = .ok (.iaload, 1) := by decide +kernel
theorem d_M_sub_217 : decode b_M_sub 217 = .ok (.invokevirtual 255, 3) := by decide +kernel
theorem d_M_sub_220 : decode b_M_sub 220 = .ok (.ifCond .eq 7, 3) := by decide +kernel
theorem d_M_sub_223 : decode b_M_sub 223 = .ok (.iconst 1, 1) := by decide +kernel
theorem d_M_sub_224 : decode b_M_sub 224 = .ok (.goto 4, 3) := by decide +kernel
theorem d_M_sub_227 : decode b_M_sub 227 = .ok (.iconst 0, 1) := by decide +kernel
theorem d_M_sub_228 : decode b_M_sub 228 = .ok (.ireturn, 1) := by decide +kernel
theorem d_M_sub_229 : decode b_M_sub 229 = .ok (.aload_n 0, 1) := by decide +kernel
theorem d_M_sub_230 : decode b_M_sub 230 = .ok (.getfield 27, 3) := by decide +kernel
theorem d_M_sub_233 : decode b_M_sub 233 = .ok (.iload_n 2, 1) := by decide +kernel
theorem d_M_sub_234 : decode b_M_sub 234 = .ok (.iaload, 1) := by decide +kernel
theorem d_M_sub_235 : decode b_M_sub 235 = .ok (.iconst 4, 1) := by decide +kernel
theorem d_M_sub_236 : decode b_M_sub 236 = .ok (.if_icmp .ne 96, 3) := by decide +kernel
theorem d_M_sub_239 : decode b_M_sub 239 = .ok (.aload_n 0, 1) := by decide +kernel
theorem d_M_sub_240 : decode b_M_sub 240 = .ok (.getfield 27, 3) := by decide +kernel
theorem d_M_sub_243 : decode b_M_sub 243 = .ok (.iload_n 1, 1) := by decide +kernel
theorem d_M_sub_244 : decode b_M_sub 244 = .ok (.iaload, 1) := by decide +kernel
theorem d_M_sub_245 : decode b_M_sub 245 = .ok (.iconst 4, 1) := by decide +kernel
theorem d_M_sub_246 : decode b_M_sub 246 = .ok (.if_icmp .eq 5, 3) := by decide +kernel
theorem d_M_sub_249 : decode b_M_sub 249 = .ok (.iconst 0, 1) := by decide +kernel
theorem d_M_sub_250 : decode b_M_sub 250 = .ok (.ireturn, 1) := by decide +kernel
theorem d_M_sub_251 : decode b_M_sub 251 = .ok (.aload_n 0, 1) := by decide +kernel
theorem d_M_sub_252 : decode b_M_sub 252 = .ok (.getfield 27, 3) := by decide +kernel
theorem d_M_sub_255 : decode b_M_sub 255 = .ok (.aload_n 0, 1) := by decide +kernel
theorem d_M_sub_256 : decode b_M_sub 256 = .ok (.getfield 30, 3) := by decide +kernel
theorem d_M_sub_259 : decode b_M_sub 259 = .ok (.iload_n 1, 1) := by decide +kernel
theorem d_M_sub_260 : decode b_M_sub 260 = .ok (.iaload, 1) := by decide +kernel
theorem d_M_sub_261 : decode b_M_sub 261 = .ok (.iaload, 1) := by decide +kernel
theorem d_M_sub_262 : decode b_M_sub 262 = .ok (.iconst 5, 1) := by decide +kernel
theorem d_M_sub_263 : decode b_M_sub 263 = .ok (.if_icmp .eq 18, 3) := by decide +kernel
theorem d_M_sub_266 : decode b_M_sub 266 = .ok (.aload_n 0, 1) := by decide +kernel
theorem d_M_sub_267 : decode b_M_sub 267 = .ok (.getfield 27, 3) := by decide +kernel
theorem d_M_sub_270 : decode b_M_sub 270 = .ok (.aload_n 0, 1) := by decide +kernel
theorem d_M_sub_271 : decode b_M_sub 271 = .ok (.getfield 30, 3) := by decide +kernel
theorem d_M_sub_274 : decode b_M_sub 274 = .ok (.iload_n 2, 1) := by decide +kernel
theorem d_M_sub_275 : decode b_M_sub 275 = .ok (.iaload, 1) := by decide +kernel
theorem d_M_sub_276 : decode b_M_sub 276 = .ok (.iaload, 1) := by decide +kernel
theorem d_M_sub_277 : decode b_M_sub 277 = .ok (.iconst 5, 1) := by decide +kernel
theorem d_M_sub_278 : decode b_M_sub 278 = .ok (.if_icmp .ne 7, 3) := by decide +kernel
theorem d_M_sub_281 : decode b_M_sub 281 = .ok (.iconst 1, 1) := by decide +kernel
theorem d_M_sub_282 : decode b_M_sub 282 = .ok (.goto 4, 3) := by decide +kernel
theorem d_M_sub_285 : decode b_M_sub 285 = .ok (.iconst 0, 1) := by decide +kernel
theorem d_M_sub_286 : decode b_M_sub 286 = .ok (.istore_n 3, 1) := by decide +kernel
theorem d_M_sub_287 : decode b_M_sub 287 = .ok (.iload_n 3, 1) := by decide +kernel
theorem d_M_sub_288 : decode b_M_sub 288 = .ok (.ifCond .eq 26, 3) := by decide +kernel
theorem d_M_sub_291 : decode b_M_sub 291 = .ok (.aload_n 0, 1) := by decide +kernel
theorem d_M_sub_292 : decode b_M_sub 292 = .ok (.getfield 30, 3) := by decide +kernel
theorem d_M_sub_295 : decode b_M_sub 295 = .ok (.iload_n 1, 1) := by decide +kernel
theorem d_M_sub_296 : decode b_M_sub 296 = .ok (.iaload, 1) := by decide +kernel
theorem d_M_sub_297 : decode b_M_sub 297 = .ok (.aload_n 0, 1) := by decide +kernel
theorem d_M_sub_298 : decode b_M_sub 298 = .ok (.getfield 30, 3) := by decide +kernel
theorem d_M_sub_301 : decode b_M_sub 301 = .ok (.iload_n 2, 1) := by decide +kernel
theorem d_M_sub_302 : decode b_M_sub 302 = .ok (.iaload, 1) := by decide +kernel
theorem d_M_sub_303 : decode b_M_sub 303 = .ok (.if_icmp .ne 7, 3) := by decide +kernel
theorem d_M_sub_306 : decode b_M_sub 306 = .ok (.iconst 1, 1) := by decide +kernel
theorem d_M_sub_307 : decode b_M_sub 307 = .ok (.goto 24, 3) := by decide +kernel
theorem d_M_sub_310 : decode b_M_sub 310 = .ok (.iconst 0, 1) := by decide +kernel
theorem d_M_sub_311 : decode b_M_sub 311 = .ok (.goto 20, 3) := by decide +kernel
theorem d_M_sub_314 : decode b_M_sub 314 = .ok (.aload_n 0, 1) := by decide +kernel
theorem d_M_sub_315 : decode b_M_sub 315 = .ok (.iconst 1, 1) := by decide +kernel
theorem d_M_sub_316 : decode b_M_sub 316 = .ok (.aload_n 0, 1) := by decide +kernel
theorem d_M_sub_317 : decode b_M_sub 317 = .ok (.getfield 30, 3) := by decide +kernel
theorem d_M_sub_320 : decode b_M_sub 320 = .ok (.iload_n 1, 1) := by decide +kernel
theorem d_M_sub_321 : decode b_M_sub 321 = .ok (.iaload, 1) := by decide +kernel
theorem d_M_sub_322 : decode b_M_sub 322 = .ok (.aload_n 0, 1) := by decide +kernel
theorem d_M_sub_323 : decode b_M_sub 323 = .ok (.getfield 30, 3) := by decide +kernel
theorem d_M_sub_326 : decode b_M_sub 326 = .ok (.iload_n 2, 1) := by decide +kernel
theorem d_M_sub_327 : decode b_M_sub 327 = .ok (.iaload, 1) := by decide +kernel
theorem d_M_sub_328 : decode b_M_sub 328 = .ok (.invokevirtual 255, 3) := by decide +kernel
theorem d_M_sub_331 : decode b_M_sub 331 = .ok (.ireturn, 1) := by decide +kernel
theorem d_M_sub_332 : decode b_M_sub 332 = .ok (.aload_n 0, 1) := by decide +kernel
theorem d_M_sub_333 : decode b_M_sub 333 = .ok (.getfield 27, 3) := by decide +kernel
theorem d_M_sub_336 : decode b_M_sub 336 = .ok (.iload_n 2, 1) := by decide +kernel
theorem d_M_sub_337 : decode b_M_sub 337 = .ok (.iaload, 1) := by decide +kernel
theorem d_M_sub_338 : decode b_M_sub 338 = .ok (.bipush 8, 2) := by decide +kernel
theorem d_M_sub_340 : decode b_M_sub 340 = .ok (.if_icmp .ne 69, 3) := by decide +kernel
theorem d_M_sub_343 : decode b_M_sub 343 = .ok (.aload_n 0, 1) := by decide +kernel
theorem d_M_sub_344 : decode b_M_sub 344 = .ok (.getfield 33, 3) := by decide +kernel
theorem d_M_sub_347 : decode b_M_sub 347 = .ok (.iload_n 2, 1) := by decide +kernel
theorem d_M_sub_348 : decode b_M_sub 348 = .ok (.iaload, 1) := by decide +kernel
theorem d_M_sub_349 : decode b_M_sub 349 = .ok (.ifCond .ne 17, 3) := by decide +kernel
theorem d_M_sub_352 : decode b_M_sub 352 = .ok (.aload_n 0, 1) := by decide +kernel
theorem d_M_sub_353 : decode b_M_sub 353 = .ok (.getfield 33, 3) := by decide +kernel
theorem d_M_sub_356 : decode b_M_sub 356 = .ok (.aload_n 0, 1) := by decide +kernel
theorem d_M_sub_357 : decode b_M_sub 357 = .ok (.getfield 30, 3) := by decide +kernel
theorem d_M_sub_360 : decode b_M_sub 360 = .ok (.iload_n 2, 1) := by decide +kernel
theorem d_M_sub_361 : decode b_M_sub 361 = .ok (.iaload, 1) := by decide +kernel
theorem d_M_sub_362 : decode b_M_sub 362 = .ok (.iaload, 1) := by decide +kernel
theorem d_M_sub_363 : decode b_M_sub 363 = .ok (.goto 14, 3) := by decide +kernel
theorem d_M_sub_366 : decode b_M_sub 366 = .ok (.aload_n 0, 1) := by decide +kernel
theorem d_M_sub_367 : decode b_M_sub 367 = .ok (.getfield 36, 3) := by decide +kernel
theorem d_M_sub_370 : decode b_M_sub 370 = .ok (.aload_n 0, 1) := by decide +kernel
theorem d_M_sub_371 : decode b_M_sub 371 = .ok (.getfield 30, 3) := by decide +kernel
theorem d_M_sub_374 : decode b_M_sub 374 = .ok (.iload_n 2, 1) := by decide +kernel
theorem d_M_sub_375 : decode b_M_sub 375 = .ok (.iaload, 1) := by decide +kernel
theorem d_M_sub_376 : decode b_M_sub 376 = .ok (.iaload, 1) := by decide +kernel
theorem d_M_sub_377 : decode b_M_sub 377 = .ok (.istore_n 3, 1) := by decide +kernel
theorem d_M_sub_378 : decode b_M_sub 378 = .ok (.aload_n 0, 1) := by decide +kernel
theorem d_M_sub_379 : decode b_M_sub 379 = .ok (.getfield 30, 3) := by decide +kernel
theorem d_M_sub_382 : decode b_M_sub 382 = .ok (.iload_n 3, 1) := by decide +kernel
theorem d_M_sub_383 : decode b_M_sub 383 = .ok (.iaload, 1) := by decide +kernel
theorem d_M_sub_384 : decode b_M_sub 384 = .ok (.iconst 2, 1) := by decide +kernel
theorem d_M_sub_385 : decode b_M_sub 385 = .ok (.if_icmp .ne 22, 3) := by decide +kernel
theorem d_M_sub_388 : decode b_M_sub 388 = .ok (.aload_n 0, 1) := by decide +kernel
theorem d_M_sub_389 : decode b_M_sub 389 = .ok (.iconst 1, 1) := by decide +kernel
theorem d_M_sub_390 : decode b_M_sub 390 = .ok (.iload_n 1, 1) := by decide +kernel
theorem d_M_sub_391 : decode b_M_sub 391 = .ok (.aload_n 0, 1) := by decide +kernel
theorem d_M_sub_392 : decode b_M_sub 392 = .ok (.getfield 33, 3) := by decide +kernel
theorem d_M_sub_395 : decode b_M_sub 395 = .ok (.iload_n 3, 1) := by decide +kernel
theorem d_M_sub_396 : decode b_M_sub 396 = .ok (.iaload, 1) := by decide +kernel
theorem d_M_sub_397 : decode b_M_sub 397 = .ok (.invokevirtual 255, 3) := by decide +kernel
theorem d_M_sub_400 : decode b_M_sub 400 = .ok (.ifCond .eq 7, 3) := by decide +kernel
theorem d_M_sub_403 : decode b_M_sub 403 = .ok (.iconst 1, 1) := by decide +kernel
theorem d_M_sub_404 : decode b_M_sub 404 = .ok (.goto 4, 3) := by decide +kernel
theorem d_M_sub_407 : decode b_M_sub 407 = .ok (.iconst 0, 1) := by decide +kernel
theorem d_M_sub_408 : decode b_M_sub 408 = .ok (.ireturn, 1) := by decide +kernel
theorem d_M_sub_409 : decode b_M_sub 409 = .ok (.iconst 0, 1) := by decide +kernel
theorem d_M_sub_410 : decode b_M_sub 410 = .ok (.ireturn, 1) := by decide +kernel
theorem d_M_contained_0 : decode b_M_contained 0 = .ok (.aload_n 0, 1) := by decide +kernel
theorem d_M_contained_1 : decode b_M_contained 1 = .ok (.getfield 27, 3) := by decide +kernel
theorem d_M_contained_4 : decode b_M_contained 4 = .ok (.iload_n 1, 1) := by decide +kernel
theorem d_M_contained_5 : decode b_M_contained 5 = .ok (.iaload, 1) := by decide +kernel
theorem d_M_contained_6 : decode b_M_contained 6 = .ok (.iconst 2, 1) := by decide +kernel
theorem d_M_contained_7 : decode b_M_contained 7 = .ok (.if_icmp .ne 7, 3) := by decide +kernel
theorem d_M_contained_10 : decode b_M_contained 10 = .ok (.iconst 1, 1) := by decide +kernel
theorem d_M_contained_11 : decode b_M_contained 11 = .ok (.goto 4, 3) := by decide +kernel
theorem d_M_contained_14 : decode b_M_contained 14 = .ok (.iconst 0, 1) := by decide +kernel
theorem d_M_contained_15 : decode b_M_contained 15 = .ok (.istore_n 3, 1) := by decide +kernel
theorem d_M_contained_16 : decode b_M_contained 16 = .ok (.aload_n 0, 1) := by decide +kernel
theorem d_M_contained_17 : decode b_M_contained 17 = .ok (.getfield 27, 3) := by decide +kernel
theorem d_M_contained_20 : decode b_M_contained 20 = .ok (.iload_n 2, 1) := by decide +kernel
theorem d_M_contained_21 : decode b_M_contained 21 = .ok (.iaload, 1) := by decide +kernel
theorem d_M_contained_22 : decode b_M_contained 22 = .ok (.iconst 2, 1) := by decide +kernel
theorem d_M_contained_23 : decode b_M_contained 23 = .ok (.if_icmp .eq 23, 3) := by decide +kernel
theorem d_M_contained_26 : decode b_M_contained 26 = .ok (.iload_n 3, 1) := by decide +kernel
theorem d_M_contained_27 : decode b_M_contained 27 = .ok (.ifCond .ne 17, 3) := by decide +kernel
theorem d_M_contained_30 : decode b_M_contained 30 = .ok (.aload_n 0, 1) := by decide +kernel
theorem d_M_contained_31 : decode b_M_contained 31 = .ok (.iconst 3, 1) := by decide +kernel
theorem d_M_contained_32 : decode b_M_contained 32 = .ok (.iload_n 1, 1) := by decide +kernel
theorem d_M_contained_33 : decode b_M_contained 33 = .ok (.iload_n 2, 1) := by decide +kernel
theorem d_M_contained_34 : decode b_M_contained 34 = .ok (.invokevirtual 255, 3) := by decide +kernel
theorem d_M_contained_37 : decode b_M_contained 37 = .ok (.ifCond .eq 7, 3) := by decide +kernel
theorem d_M_contained_40 : decode b_M_contained 40 = .ok (.iconst 1, 1) := by decide +kernel
theorem d_M_contained_41 : decode b_M_contained 41 = .ok (.goto 4, 3) := by decide +kernel
theorem d_M_contained_44 : decode b_M_contained 44 = .ok (.iconst 0, 1) := by decide +kernel
theorem d_M_contained_45 : decode b_M_contained 45 = .ok (.ireturn, 1) := by decide +kernel
theorem d_M_contained_46 : decode b_M_contained 46 = .ok (.aload_n 0, 1) := by decide +kernel
theorem d_M_contained_47 : decode b_M_contained 47 = .ok (.getfield 33, 3) := by decide +kernel
theorem d_M_contained_50 : decode b_M_contained 50 = .ok (.iload_n 2, 1) := by decide +kernel
theorem d_M_contained_51 : decode b_M_contained 51 = .ok (.iaload, 1) := by decide +kernel
theorem d_M_contained_52 : decode b_M_contained 52 = .ok (.istore 4, 2) := by decide +kernel
theorem d_M_contained_54 : decode b_M_contained 54 = .ok (.aload_n 0, 1) := by decide +kernel
theorem d_M_contained_55 : decode b_M_contained 55 = .ok (.getfield 30, 3) := by decide +kernel
theorem d_M_contained_58 : decode b_M_contained 58 = .ok (.iload_n 2, 1) := by decide +kernel
theorem d_M_contained_59 : decode b_M_contained 59 = .ok (.iaload, 1) := by decide +kernel
theorem d_M_contained_60 : decode b_M_contained 60 = .ok (.ifCond .ne 5, 3) := by decide +kernel
theorem d_M_contained_63 : decode b_M_contained 63 = .ok (.iconst 1, 1) := by decide +kernel
theorem d_M_contained_64 : decode b_M_contained 64 = .ok (.ireturn, 1) := by decide +kernel
theorem d_M_contained_65 : decode b_M_contained 65 = .ok (.aload_n 0, 1) := by decide +kernel
theorem d_M_contained_66 : decode b_M_contained 66 = .ok (.getfield 30, 3) := by decide +kernel
theorem d_M_contained_69 : decode b_M_contained 69 = .ok (.iload_n 2, 1) := by decide +kernel
theorem d_M_contained_70 : decode b_M_contained 70 = .ok (.iaload, 1) := by decide +kernel
theorem d_M_contained_71 : decode b_M_contained 71 = .ok (.iconst 1, 1) := by decide +kernel
theorem d_M_contained_72 : decode b_M_contained 72 = .ok (.if_icmp .ne 70, 3) := by decide +kernel
theorem d_M_contained_75 : decode b_M_contained 75 = .ok (.iload_n 3, 1) := by decide +kernel
theorem d_M_contained_76 : decode b_M_contained 76 = .ok (.ifCond .eq 26, 3) := by decide +kernel
theorem d_M_contained_79 : decode b_M_contained 79 = .ok (.aload_n 0, 1) := by decide +kernel
theorem d_M_contained_80 : decode b_M_contained 80 = .ok (.getfield 30, 3) := by decide +kernel
theorem d_M_contained_83 : decode b_M_contained 83 = .ok (.iload_n 1, 1) := by decide +kernel
theorem d_M_contained_84 : decode b_M_contained 84 = .ok (.iaload, 1) := by decide +kernel
theorem d_M_contained_85 : decode b_M_contained 85 = .ok (.iconst 2, 1) := by decide +kernel
theorem d_M_contained_86 : decode b_M_contained 86 = .ok (.if_icmp .ne 16, 3) := by decide +kernel
theorem d_M_contained_89 : decode b_M_contained 89 = .ok (.aload_n 0, 1) := by decide +kernel
theorem d_M_contained_90 : decode b_M_contained 90 = .ok (.iconst 3, 1) := by decide +kernel
theorem d_M_contained_91 : decode b_M_contained 91 = .ok (.aload_n 0, 1) := by decide +kernel
theorem d_M_contained_92 : decode b_M_contained 92 = .ok (.iconst 0, 1) := by decide +kernel
theorem d_M_contained_93 : decode b_M_contained 93 = .ok (.invokevirtual 182, 3) := by decide +kernel
theorem d_M_contained_96 : decode b_M_contained 96 = .ok (.iload 4, 2) := by decide +kernel
theorem d_M_contained_98 : decode b_M_contained 98 = .ok (.invokevirtual 255, 3) := by decide +kernel
theorem d_M_contained_101 : decode b_M_contained 101 = .ok (.ireturn, 1) := by decide +kernel
theorem d_M_contained_102 : decode b_M_contained 102 = .ok (.aload_n 0, 1) := by decide +kernel
theorem d_M_contained_103 : decode b_M_contained 103 = .ok (.iconst 1, 1) := by decide +kernel
theorem d_M_contained_104 : decode b_M_contained 104 = .ok (.iload_n 3, 1) := by decide +kernel
theorem d_M_contained_105 : decode b_M_contained 105 = .ok (.ifCond .ne 7, 3) := by decide +kernel
theorem d_M_contained_108 : decode b_M_contained 108 = .ok (.iload_n 1, 1) := by decide +kernel
theorem d_M_contained_109 : decode b_M_contained 109 = .ok (.goto 27, 3) := by decide +kernel
theorem d_M_contained_112 : decode b_M_contained 112 = .ok (.aload_n 0, 1) := by decide +kernel
theorem d_M_contained_113 : decode b_M_contained 113 = .ok (.getfield 30, 3) := by decide +kernel
theorem d_M_contained_116 : decode b_M_contained 116 = .ok (.iload_n 1, 1) := by decide +kernel
theorem d_M_contained_117 : decode b_M_contained 117 = .ok (.iaload, 1) := by decide +kernel
theorem d_M_contained_118 : decode b_M_contained 118 = .ok (.iconst 1, 1) := by decide +kernel
theorem d_M_contained_119 : decode b_M_contained 119 = .ok (.if_icmp .ne 12, 3) := by decide +kernel
theorem d_M_contained_122 : decode b_M_contained 122 = .ok (.aload_n 0, 1) := by decide +kernel
theorem d_M_contained_123 : decode b_M_contained 123 = .ok (.getfield 33, 3) := by decide +kernel
theorem d_M_contained_126 : decode b_M_contained 126 = .ok (.iload_n 1, 1) := by decide +kernel
theorem d_M_contained_127 : decode b_M_contained 127 = .ok (.iaload, 1) := by decide +kernel
theorem d_M_contained_128 : decode b_M_contained 128 = .ok (.goto 8, 3) := by decide +kernel
theorem d_M_contained_131 : decode b_M_contained 131 = .ok (.aload_n 0, 1) := by decide +kernel
theorem d_M_contained_132 : decode b_M_contained 132 = .ok (.iconst 0, 1) := by decide +kernel
theorem d_M_contained_133 : decode b_M_contained 133 = .ok (.invokevirtual 182, 3) := by decide +kernel
theorem d_M_contained_136 : decode b_M_contained 136 = .ok (.iload 4, 2) := by decide +kernel
theorem d_M_contained_138 : decode b_M_contained 138 = .ok (.invokevirtual 255, 3) := by decide +kernel
theorem d_M_contained_141 : decode b_M_contained 141 = .ok (.ireturn, 1) := by decide +kernel
theorem d_M_contained_142 : decode b_M_contained 142 = .ok (.iload_n 3, 1) := by decide +kernel
theorem d_M_contained_143 : decode b_M_contained 143 = .ok (.ifCond .ne 14, 3) := by decide +kernel
theorem d_M_contained_146 : decode b_M_contained 146 = .ok (.aload_n 0, 1) := by decide +kernel
theorem d_M_contained_147 : decode b_M_contained 147 = .ok (.iconst 1, 1) := by decide +kernel
theorem d_M_contained_148 : decode b_M_contained 148 = .ok (.iload 4, 2) := by decide +kernel
theorem d_M_contained_150 : decode b_M_contained 150 = .ok (.iload_n 1, 1) := by decide +kernel
theorem d_M_contained_151 : decode b_M_contained 151 = .ok (.invokevirtual 255, 3) := by decide +kernel
theorem d_M_contained_154 : decode b_M_contained 154 = .ok (.goto 34, 3) := by decide +kernel
theorem d_M_contained_157 : decode b_M_contained 157 = .ok (.aload_n 0, 1) := by decide +kernel
theorem d_M_contained_158 : decode b_M_contained 158 = .ok (.getfield 30, 3) := by decide +kernel
theorem d_M_contained_161 : decode b_M_contained 161 = .ok (.iload_n 1, 1) := by decide +kernel
theorem d_M_contained_162 : decode b_M_contained 162 = .ok (.iaload, 1) := by decide +kernel
theorem d_M_contained_163 : decode b_M_contained 163 = .ok (.iconst 2, 1) := by decide +kernel
theorem d_M_contained_164 : decode b_M_contained 164 = .ok (.if_icmp .ne 23, 3) := by decide +kernel
theorem d_M_contained_167 : decode b_M_contained 167 = .ok (.aload_n 0, 1) := by decide +kernel
theorem d_M_contained_168 : decode b_M_contained 168 = .ok (.iconst 1, 1) := by decide +kernel
theorem d_M_contained_169 : decode b_M_contained 169 = .ok (.iload 4, 2) := by decide +kernel
theorem d_M_contained_171 : decode b_M_contained 171 = .ok (.aload_n 0, 1) := by decide +kernel
theorem d_M_contained_172 : decode b_M_contained 172 = .ok (.getfield 33, 3) := by decide +kernel
theorem d_M_contained_175 : decode b_M_contained 175 = .ok (.iload_n 1, 1) := by decide +kernel
theorem d_M_contained_176 : decode b_M_contained 176 = .ok (.iaload, 1) := by decide +kernel
theorem d_M_contained_177 : decode b_M_contained 177 = .ok (.invokevirtual 255, 3) := by decide +kernel
theorem d_M_contained_180 : decode b_M_contained 180 = .ok (.ifCond .eq 7, 3) := by decide +kernel
theorem d_M_contained_183 : decode b_M_contained 183 = .ok (.iconst 1, 1) := by decide +kernel
theorem d_M_contained_184 : decode b_M_contained 184 = .ok (.goto 4, 3) := by decide +kernel
theorem d_M_contained_187 : decode b_M_contained 187 = .ok (.iconst 0, 1) := by decide +kernel
theorem d_M_contained_188 : decode b_M_contained 188 = .ok (.ireturn, 1) := by decide +kernel
theorem d_M_equal_0 : decode b_M_equal 0 = .ok (.iload_n 1, 1) := by decide +kernel
theorem d_M_equal_1 : decode b_M_equal 1 = .ok (.iload_n 2, 1) := by decide +kernel
theorem d_M_equal_2 : decode b_M_equal 2 = .ok (.if_icmp .ne 5, 3) := by decide +kernel
theorem d_M_equal_5 : decode b_M_equal 5 = .ok (.iconst 1, 1) := by decide +kernel
theorem d_M_equal_6 : decode b_M_equal 6 = .ok (.ireturn, 1) := by decide +kernel
theorem d_M_equal_7 : decode b_M_equal 7 = .ok (.aload_n 0, 1) := by decide +kernel
theorem d_M_equal_8 : decode b_M_equal 8 = .ok (.getfield 42, 3) := by decide +kernel
theorem d_M_equal_11 : decode b_M_equal 11 = .ok (.iload_n 1, 1) := by decide +kernel
theorem d_M_equal_12 : decode b_M_equal 12 = .ok (.baload, 1) := by decide +kernel
theorem d_M_equal_13 : decode b_M_equal 13 = .ok (.ifCond .eq 14, 3) := by decide +kernel
theorem d_M_equal_16 : decode b_M_equal 16 = .ok (.aload_n 0, 1) := by decide +kernel
theorem d_M_equal_17 : decode b_M_equal 17 = .ok (.getfield 42, 3) := by decide +kernel
theorem d_M_equal_20 : decode b_M_equal 20 = .ok (.iload_n 2, 1) := by decide +kernel
theorem d_M_equal_21 : decode b_M_equal 21 = .ok (.baload, 1) := by decide +kernel
theorem d_M_equal_22 : decode b_M_equal 22 = .ok (.ifCond .eq 5, 3) := by decide +kernel
theorem d_M_equal_25 : decode b_M_equal 25 = .ok (.iconst 0, 1) := by decide +kernel
theorem d_M_equal_26 : decode b_M_equal 26 = .ok (.ireturn, 1) := by decide +kernel
theorem d_M_equal_27 : decode b_M_equal 27 = .ok (.aload_n 0, 1) := by decide +kernel
theorem d_M_equal_28 : decode b_M_equal 28 = .ok (.getfield 27, 3) := by decide +kernel
theorem d_M_equal_31 : decode b_M_equal 31 = .ok (.iload_n 1, 1) := by decide +kernel
theorem d_M_equal_32 : decode b_M_equal 32 = .ok (.iaload, 1) := by decide +kernel
theorem d_M_equal_33 : decode b_M_equal 33 = .ok (.istore_n 3, 1) := by decide +kernel
theorem d_M_equal_34 : decode b_M_equal 34 = .ok (.iload_n 3, 1) := by decide +kernel
theorem d_M_equal_35 : decode b_M_equal 35 = .ok (.bipush 6, 2) := by decide +kernel
theorem d_M_equal_37 : decode b_M_equal 37 = .ok (.if_icmp .eq 29, 3) := by decide +kernel
theorem d_M_equal_40 : decode b_M_equal 40 = .ok (.iload_n 3, 1) := by decide +kernel
theorem d_M_equal_41 : decode b_M_equal 41 = .ok (.iconst 5, 1) := by decide +kernel
theorem d_M_equal_42 : decode b_M_equal 42 = .ok (.if_icmp .eq 24, 3) := by decide +kernel
theorem d_M_equal_45 : decode b_M_equal 45 = .ok (.aload_n 0, 1) := by decide +kernel
theorem d_M_equal_46 : decode b_M_equal 46 = .ok (.getfield 27, 3) := by decide +kernel
theorem d_M_equal_49 : decode b_M_equal 49 = .ok (.iload_n 2, 1) := by decide +kernel
theorem d_M_equal_50 : decode b_M_equal 50 = .ok (.iaload, 1) := by decide +kernel
theorem d_M_equal_51 : decode b_M_equal 51 = .ok (.bipush 6, 2) := by decide +kernel
theorem d_M_equal_53 : decode b_M_equal 53 = .ok (.if_icmp .eq 13, 3) := by decide +kernel
theorem d_M_equal_56 : decode b_M_equal 56 = .ok (.aload_n 0, 1) := by decide +kernel
theorem d_M_equal_57 : decode b_M_equal 57 = .ok (.getfield 27, 3) := by decide +kernel
theorem d_M_equal_60 : decode b_M_equal 60 = .ok (.iload_n 2, 1) := by decide +kernel
theorem d_M_equal_61 : decode b_M_equal 61 = .ok (.iaload, 1) := by decide +kernel
theorem d_M_equal_62 : decode b_M_equal 62 = .ok (.iconst 5, 1) := by decide +kernel
theorem d_M_equal_63 : decode b_M_equal 63 = .ok (.if_icmp .ne 5, 3) := by decide +kernel
theorem d_M_equal_66 : decode b_M_equal 66 = .ok (.iconst 0, 1) := by decide +kernel
theorem d_M_equal_67 : decode b_M_equal 67 = .ok (.ireturn, 1) := by decide +kernel
theorem d_M_equal_68 : decode b_M_equal 68 = .ok (.iload_n 3, 1) := by decide +kernel
theorem d_M_equal_69 : decode b_M_equal 69 = .ok (.bipush 7, 2) := by decide +kernel
theorem d_M_equal_71 : decode b_M_equal 71 = .ok (.if_icmp .eq 14, 3) := by decide +kernel
theorem d_M_equal_74 : decode b_M_equal 74 = .ok (.aload_n 0, 1) := by decide +kernel
theorem d_M_equal_75 : decode b_M_equal 75 = .ok (.getfield 27, 3) := by decide +kernel
theorem d_M_equal_78 : decode b_M_equal 78 = .ok (.iload_n 2, 1) := by decide +kernel
theorem d_M_equal_79 : decode b_M_equal 79 = .ok (.iaload, 1) := by decide +kernel
theorem d_M_equal_80 : decode b_M_equal 80 = .ok (.bipush 7, 2) := by decide +kernel
theorem d_M_equal_82 : decode b_M_equal 82 = .ok (.if_icmp .ne 10, 3) := by decide +kernel
theorem d_M_equal_85 : decode b_M_equal 85 = .ok (.aload_n 0, 1) := by decide +kernel
theorem d_M_equal_86 : decode b_M_equal 86 = .ok (.iload_n 1, 1) := by decide +kernel
theorem d_M_equal_87 : decode b_M_equal 87 = .ok (.iload_n 2, 1) := by decide +kernel
theorem d_M_equal_88 : decode b_M_equal 88 = .ok (.invokevirtual 264, 3) := by decide +kernel
theorem d_M_equal_91 : decode b_M_equal 91 = .ok (.ireturn, 1) := by decide +kernel
theorem d_M_equal_92 : decode b_M_equal 92 = .ok (.iload_n 3, 1) := by decide +kernel
theorem d_M_equal_93 : decode b_M_equal 93 = .ok (.aload_n 0, 1) := by decide +kernel
theorem d_M_equal_94 : decode b_M_equal 94 = .ok (.getfield 27, 3) := by decide +kernel
theorem d_M_equal_97 : decode b_M_equal 97 = .ok (.iload_n 2, 1) := by decide +kernel
theorem d_M_equal_98 : decode b_M_equal 98 = .ok (.iaload, 1) := by decide +kernel
theorem d_M_equal_99 : decode b_M_equal 99 = .ok (.if_icmp .eq 5, 3) := by decide +kernel
theorem d_M_equal_102 : decode b_M_equal 102 = .ok (.iconst 0, 1) := by decide +kernel
theorem d_M_equal_103 : decode b_M_equal 103 = .ok (.ireturn, 1) := by decide +kernel
theorem d_M_equal_104 : decode b_M_equal 104 = .ok (.iload_n 3, 1) := by decide +kernel
theorem d_M_equal_105 : decode b_M_equal 105 = .ok (.iconst 1, 1) := by decide +kernel
theorem d_M_equal_106 : decode b_M_equal 106 = .ok (.if_icmp .ne 73, 3) := by decide +kernel
theorem d_M_equal_109 : decode b_M_equal 109 = .ok (.aload_n 0, 1) := by decide +kernel
theorem d_M_equal_110 : decode b_M_equal 110 = .ok (.getfield 30, 3) := by decide +kernel
theorem d_M_equal_113 : decode b_M_equal 113 = .ok (.iload_n 1, 1) := by decide +kernel
theorem d_M_equal_114 : decode b_M_equal 114 = .ok (.iaload, 1) := by decide +kernel
theorem d_M_equal_115 : decode b_M_equal 115 = .ok (.aload_n 0, 1) := by decide +kernel
theorem d_M_equal_116 : decode b_M_equal 116 = .ok (.getfield 30, 3) := by decide +kernel
theorem d_M_equal_119 : decode b_M_equal 119 = .ok (.iload_n 2, 1) := by decide +kernel
theorem d_M_equal_120 : decode b_M_equal 120 = .ok (.iaload, 1) := by decide +kernel
theorem d_M_equal_121 : decode b_M_equal 121 = .ok (.if_icmp .ne 58, 3) := by decide +kernel
theorem d_M_equal_124 : decode b_M_equal 124 = .ok (.aload_n 0, 1) := by decide +kernel
theorem d_M_equal_125 : decode b_M_equal 125 = .ok (.iconst 3, 1) := by decide +kernel
theorem d_M_equal_126 : decode b_M_equal 126 = .ok (.aload_n 0, 1) := by decide +kernel
theorem d_M_equal_127 : decode b_M_equal 127 = .ok (.getfield 33, 3) := by decide +kernel
theorem d_M_equal_130 : decode b_M_equal 130 = .ok (.iload_n 1, 1) := by decide +kernel
theorem d_M_equal_131 : decode b_M_equal 131 = .ok (.iaload, 1) := by decide +kernel
theorem d_M_equal_132 : decode b_M_equal 132 = .ok (.aload_n 0, 1) := by decide +kernel
theorem d_M_equal_133 : decode b_M_equal 133 = .ok (.getfield 33, 3) := by decide +kernel
theorem d_M_equal_136 : decode b_M_equal 136 = .ok (.iload_n 2, 1) := by decide +kernel
theorem d_M_equal_137 : decode b_M_equal 137 = .ok (.iaload, 1) := by decide +kernel
theorem d_M_equal_138 : decode b_M_equal 138 = .ok (.invokevirtual 255, 3) := by decide +kernel
theorem d_M_equal_141 : decode b_M_equal 141 = .ok (.istore 4, 2) := by decide +kernel
theorem d_M_equal_143 : decode b_M_equal 143 = .ok (.aload_n 0, 1) := by decide +kernel
theorem d_M_equal_144 : decode b_M_equal 144 = .ok (.getfield 36, 3) := by decide +kernel
theorem d_M_equal_147 : decode b_M_equal 147 = .ok (.iload_n 1, 1) := by decide +kernel
theorem d_M_equal_148 : decode b_M_equal 148 = .ok (.iaload, 1) := by decide +kernel
theorem d_M_equal_149 : decode b_M_equal 149 = .ok (.iconst (-1), 1) := by decide +kernel
theorem d_M_equal_150 : decode b_M_equal 150 = .ok (.if_icmp .eq 23, 3) := by decide +kernel
theorem d_M_equal_153 : decode b_M_equal 153 = .ok (.aload_n 0, 1) := by decide +kernel
theorem d_M_equal_154 : decode b_M_equal 154 = .ok (.iconst 3, 1) := by decide +kernel
theorem d_M_equal_155 : decode b_M_equal 155 = .ok (.aload_n 0, 1) := by decide +kernel
theorem d_M_equal_156 : decode b_M_equal 156 = .ok (.getfield 36, 3) := by decide +kernel
theorem d_M_equal_159 : decode b_M_equal 159 = .ok (.iload_n 1, 1) := by decide +kernel
theorem d_M_equal_160 : decode b_M_equal 160 = .ok (.iaload, 1) := by decide +kernel
theorem d_M_equal_161 : decode b_M_equal 161 = .ok (.aload_n 0, 1) := by decide +kernel
theorem d_M_equal_162 : decode b_M_equal 162 = .ok (.getfield 36, 3) := by decide +kernel
theorem d_M_equal_165 : decode b_M_equal 165 = .ok (.iload_n 2, 1) := by decide +kernel
theorem d_M_equal_166 : decode b_M_equal 166 = .ok (.iaload, 1) := by decide +kernel
theorem d_M_equal_167 : decode b_M_equal 167 = .ok (.invokevirtual 255, 3) := by decide +kernel
theorem d_M_equal_170 : decode b_M_equal 170 = .ok (.ifCond .eq 7, 3) := by decide +kernel
theorem d_M_equal_173 : decode b_M_equal 173 = .ok (.iconst 1, 1) := by decide +kernel
theorem d_M_equal_174 : decode b_M_equal 174 = .ok (.goto 4, 3) := by decide +kernel
theorem d_M_equal_177 : decode b_M_equal 177 = .ok (.iconst 0, 1) := by decide +kernel
theorem d_M_equal_178 : decode b_M_equal 178 = .ok (.ireturn, 1) := by decide +kernel
theorem d_M_equal_179 : decode b_M_equal 179 = .ok (.iload_n 3, 1) := by decide +kernel
theorem d_M_equal_180 : decode b_M_equal 180 = .ok (.iconst 4, 1) := by decide +kernel
theorem d_M_equal_181 : decode b_M_equal 181 = .ok (.if_icmp .eq 24, 3) := by decide +kernel
theorem d_M_equal_184 : decode b_M_equal 184 = .ok (.iload_n 3, 1) := by decide +kernel
theorem d_M_equal_185 : decode b_M_equal 185 = .ok (.bipush 8, 2) := by decide +kernel
theorem d_M_equal_187 : decode b_M_equal 187 = .ok (.if_icmp .ne 36, 3) := by decide +kernel
theorem d_M_equal_190 : decode b_M_equal 190 = .ok (.aload_n 0, 1) := by decide +kernel
theorem d_M_equal_191 : decode b_M_equal 191 = .ok (.getfield 33, 3) := by decide +kernel
theorem d_M_equal_194 : decode b_M_equal 194 = .ok (.iload_n 1, 1) := by decide +kernel
theorem d_M_equal_195 : decode b_M_equal 195 = .ok (.iaload, 1) := by decide +kernel
theorem d_M_equal_196 : decode b_M_equal 196 = .ok (.aload_n 0, 1) := by decide +kernel
theorem d_M_equal_197 : decode b_M_equal 197 = .ok (.getfield 33, 3) := by decide +kernel
theorem d_M_equal_200 : decode b_M_equal 200 = .ok (.iload_n 2, 1) := by decide +kernel
theorem d_M_equal_201 : decode b_M_equal 201 = .ok (.iaload, 1) := by decide +kernel
theorem d_M_equal_202 : decode b_M_equal 202 = .ok (.if_icmp .ne 21, 3) := by decide +kernel
theorem d_M_equal_205 : decode b_M_equal 205 = .ok (.aload_n 0, 1) := by decide +kernel
theorem d_M_equal_206 : decode b_M_equal 206 = .ok (.iconst 3, 1) := by decide +kernel
theorem d_M_equal_207 : decode b_M_equal 207 = .ok (.aload_n 0, 1) := by decide +kernel
theorem d_M_equal_208 : decode b_M_equal 208 = .ok (.getfield 30, 3) := by decide +kernel
theorem d_M_equal_211 : decode b_M_equal 211 = .ok (.iload_n 1, 1) := by decide +kernel
theorem d_M_equal_212 : decode b_M_equal 212 = .ok (.iaload, 1) := by decide +kernel
theorem d_M_equal_213 : decode b_M_equal 213 = .ok (.aload_n 0, 1) := by decide +kernel
theorem d_M_equal_214 : decode b_M_equal 214 = .ok (.getfield 30, 3) := by decide +kernel
theorem d_M_equal_217 : decode b_M_equal 217 = .ok (.iload_n 2, 1) := by decide +kernel
theorem d_M_equal_218 : decode b_M_equal 218 = .ok (.iaload, 1) := by decide +kernel
theorem d_M_equal_219 : decode b_M_equal 219 = .ok (.invokevirtual 255, 3) := by decide +kernel
theorem d_M_equal_222 : decode b_M_equal 222 = .ok (.ireturn, 1) := by decide +kernel
theorem d_M_equal_223 : decode b_M_equal 223 = .ok (.iload_n 3, 1) := by decide +kernel
theorem d_M_equal_224 : decode b_M_equal 224 = .ok (.iconst 2, 1) := by decide +kernel
theorem d_M_equal_225 : decode b_M_equal 225 = .ok (.if_icmp .ne 51, 3) := by decide +kernel
theorem d_M_equal_228 : decode b_M_equal 228 = .ok (.aload_n 0, 1) := by decide +kernel
theorem d_M_equal_229 : decode b_M_equal 229 = .ok (.getfield 30, 3) := by decide +kernel
theorem d_M_equal_232 : decode b_M_equal 232 = .ok (.iload_n 1, 1) := by decide +kernel
theorem d_M_equal_233 : decode b_M_equal 233 = .ok (.iaload, 1) := by decide +kernel
theorem d_M_equal_234 : decode b_M_equal 234 = .ok (.aload_n 0, 1) := by decide +kernel
theorem d_M_equal_235 : decode b_M_equal 235 = .ok (.getfield 30, 3) := by decide +kernel
theorem d_M_equal_238 : decode b_M_equal 238 = .ok (.iload_n 2, 1) := by decide +kernel
theorem d_M_equal_239 : decode b_M_equal 239 = .ok (.iaload, 1) := by decide +kernel
theorem d_M_equal_240 : decode b_M_equal 240 = .ok (.if_icmp .ne 36, 3) := by decide +kernel
theorem d_M_equal_243 : decode b_M_equal 243 = .ok (.aload_n 0, 1) := by decide +kernel
theorem d_M_equal_244 : decode b_M_equal 244 = .ok (.getfield 30, 3) := by decide +kernel
theorem d_M_equal_247 : decode b_M_equal 247 = .ok (.iload_n 1, 1) := by decide +kernel
theorem d_M_equal_248 : decode b_M_equal 248 = .ok (.iaload, 1) := by decide +kernel
theorem d_M_equal_249 : decode b_M_equal 249 = .ok (.ifCond .le 27, 3) := by decide +kernel
theorem d_M_equal_252 : decode b_M_equal 252 = .ok (.aload_n 0, 1) := by decide +kernel
theorem d_M_equal_253 : decode b_M_equal 253 = .ok (.iconst 3, 1) := by decide +kernel
theorem d_M_equal_254 : decode b_M_equal 254 = .ok (.aload_n 0, 1) := by decide +kernel
theorem d_M_equal_255 : decode b_M_equal 255 = .ok (.getfield 33, 3) := by decide +kernel
theorem d_M_equal_258 : decode b_M_equal 258 = .ok (.iload_n 1, 1) := by decide +kernel
theorem d_M_equal_259 : decode b_M_equal 259 = .ok (.iaload, 1) := by decide +kernel
theorem d_M_equal_260 : decode b_M_equal 260 = .ok (.aload_n 0, 1) := by decide +kernel
theorem d_M_equal_261 : decode b_M_equal 261 = .ok (.getfield 33, 3) := by decide +kernel
theorem d_M_equal_264 : decode b_M_equal 264 = .ok (.iload_n 2, 1) := by decide +kernel
theorem d_M_equal_265 : decode b_M_equal 265 = .ok (.iaload, 1) := by decide +kernel
theorem d_M_equal_266 : decode b_M_equal 266 = .ok (.invokevirtual 255, 3) := by decide +kernel
theorem d_M_equal_269 : decode b_M_equal 269 = .ok (.ifCond .eq 7, 3) := by decide +kernel
theorem d_M_equal_272 : decode b_M_equal 272 = .ok (.iconst 1, 1) := by decide +kernel
theorem d_M_equal_273 : decode b_M_equal 273 = .ok (.goto 4, 3) := by decide +kernel
theorem d_M_equal_276 : decode b_M_equal 276 = .ok (.iconst 0, 1) := by decide +kernel
theorem d_M_equal_277 : decode b_M_equal 277 = .ok (.ireturn, 1) := by decide +kernel
theorem d_M_bind_0 : decode b_M_bind 0 = .ok (.iconst 0, 1) := by decide +kernel
theorem d_M_bind_1 : decode b_M_bind 1 = .ok (.istore 4, 2) := by decide +kernel
theorem d_M_bind_3 : decode b_M_bind 3 = .ok (.iload 4, 2) := by decide +kernel
theorem d_M_bind_5 : decode b_M_bind 5 = .ok (.aload_n 0, 1) := by decide +kernel
theorem d_M_bind_6 : decode b_M_bind 6 = .ok (.getfield 267, 3) := by decide +kernel
theorem d_M_bind_9 : decode b_M_bind 9 = .ok (.if_icmp .ge 48, 3) := by decide +kernel
theorem d_M_bind_12 : decode b_M_bind 12 = .ok (.aload_n 0, 1) := by decide +kernel
theorem d_M_bind_13 : decode b_M_bind 13 = .ok (.getfield 103, 3) := by decide +kernel
theorem d_M_bind_16 : decode b_M_bind 16 = .ok (.iload 4, 2) := by decide +kernel
theorem d_M_bind_18 : decode b_M_bind 18 = .ok (.iaload, 1) := by decide +kernel
theorem d_M_bind_19 : decode b_M_bind 19 = .ok (.iload_n 1, 1) := by decide +kernel
theorem d_M_bind_20 : decode b_M_bind 20 = .ok (.if_icmp .ne 31, 3) := by decide +kernel
theorem d_M_bind_23 : decode b_M_bind 23 = .ok (.aload_n 0, 1) := by decide +kernel
theorem d_M_bind_24 : decode b_M_bind 24 = .ok (.getfield 106, 3) := by decide +kernel
theorem d_M_bind_27 : decode b_M_bind 27 = .ok (.iload 4, 2) := by decide +kernel
theorem d_M_bind_29 : decode b_M_bind 29 = .ok (.iaload, 1) := by decide +kernel
theorem d_M_bind_30 : decode b_M_bind 30 = .ok (.aload_n 0, 1) := by decide +kernel
theorem d_M_bind_31 : decode b_M_bind 31 = .ok (.getfield 30, 3) := by decide +kernel
theorem d_M_bind_34 : decode b_M_bind 34 = .ok (.iload_n 2, 1) := by decide +kernel
theorem d_M_bind_35 : decode b_M_bind 35 = .ok (.iaload, 1) := by decide +kernel
theorem d_M_bind_36 : decode b_M_bind 36 = .ok (.if_icmp .ne 15, 3) := by decide +kernel
theorem d_M_bind_39 : decode b_M_bind 39 = .ok (.aload_n 0, 1) := by decide +kernel
theorem d_M_bind_40 : decode b_M_bind 40 = .ok (.getfield 109, 3) := by decide +kernel
theorem d_M_bind_43 : decode b_M_bind 43 = .ok (.iload 4, 2) := by decide +kernel
theorem d_M_bind_45 : decode b_M_bind 45 = .ok (.iaload, 1) := by decide +kernel
theorem d_M_bind_46 : decode b_M_bind 46 = .ok (.iload_n 3, 1) := by decide +kernel
theorem d_M_bind_47 : decode b_M_bind 47 = .ok (.if_icmp .ne 4, 3) := by decide +kernel
theorem d_M_bind_50 : decode b_M_bind 50 = .ok (.return_, 1) := by decide +kernel
theorem d_M_bind_51 : decode b_M_bind 51 = .ok (.iinc 4 1, 3) := by decide +kernel
theorem d_M_bind_54 : decode b_M_bind 54 = .ok (.goto (-51), 3) := by decide +kernel
theorem d_M_bind_57 : decode b_M_bind 57 = .ok (.aload_n 0, 1) := by decide +kernel
theorem d_M_bind_58 : decode b_M_bind 58 = .ok (.getfield 267, 3) := by decide +kernel
theorem d_M_bind_61 : decode b_M_bind 61 = .ok (.sipush 200, 3) := by decide +kernel
theorem d_M_bind_64 : decode b_M_bind 64 = .ok (.if_icmp .ne 9, 3) := by decide +kernel
theorem d_M_bind_67 : decode b_M_bind 67 = .ok (.aload_n 0, 1) := by decide +kernel
theorem d_M_bind_68 : decode b_M_bind 68 = .ok (.iconst 1, 1) := by decide +kernel
theorem d_M_bind_69 : decode b_M_bind 69 = .ok (.putfield 148, 3) := by decide +kernel
theorem d_M_bind_72 : decode b_M_bind 72 = .ok (.return_, 1) := by decide +kernel
theorem d_M_bind_73 : decode b_M_bind 73 = .ok (.aload_n 0, 1) := by decide +kernel
theorem d_M_bind_74 : decode b_M_bind 74 = .ok (.getfield 103, 3) := by decide +kernel
theorem d_M_bind_77 : decode b_M_bind 77 = .ok (.aload_n 0, 1) := by decide +kernel
theorem d_M_bind_78 : decode b_M_bind 78 = .ok (.getfield 267, 3) := by decide +kernel
theorem d_M_bind_81 : decode b_M_bind 81 = .ok (.iload_n 1, 1) := by decide +kernel
theorem d_M_bind_82 : decode b_M_bind 82 = .ok (.iastore, 1) := by decide +kernel
theorem d_M_bind_83 : decode b_M_bind 83 = .ok (.aload_n 0, 1) := by decide +kernel
theorem d_M_bind_84 : decode b_M_bind 84 = .ok (.getfield 106, 3) := by decide +kernel
theorem d_M_bind_87 : decode b_M_bind 87 = .ok (.aload_n 0, 1) := by decide +kernel
theorem d_M_bind_88 : decode b_M_bind 88 = .ok (.getfield 267, 3) := by decide +kernel
theorem d_M_bind_91 : decode b_M_bind 91 = .ok (.aload_n 0, 1) := by decide +kernel
theorem d_M_bind_92 : decode b_M_bind 92 = .ok (.getfield 30, 3) := by decide +kernel
theorem d_M_bind_95 : decode b_M_bind 95 = .ok (.iload_n 2, 1) := by decide +kernel
theorem d_M_bind_96 : decode b_M_bind 96 = .ok (.iaload, 1) := by decide +kernel
theorem d_M_bind_97 : decode b_M_bind 97 = .ok (.iastore, 1) := by decide +kernel
theorem d_M_bind_98 : decode b_M_bind 98 = .ok (.aload_n 0, 1) := by decide +kernel
theorem d_M_bind_99 : decode b_M_bind 99 = .ok (.getfield 109, 3) := by decide +kernel
theorem d_M_bind_102 : decode b_M_bind 102 = .ok (.aload_n 0, 1) := by decide +kernel
theorem d_M_bind_103 : decode b_M_bind 103 = .ok (.getfield 267, 3) := by decide +kernel
theorem d_M_bind_106 : decode b_M_bind 106 = .ok (.iload_n 3, 1) := by decide +kernel
theorem d_M_bind_107 : decode b_M_bind 107 = .ok (.iastore, 1) := by decide +kernel
theorem d_M_bind_108 : decode b_M_bind 108 = .ok (.aload_n 0, 1) := by decide +kernel
theorem d_M_bind_109 : decode b_M_bind 109 = .ok (.getfield 112, 3) := by decide +kernel
theorem d_M_bind_112 : decode b_M_bind 112 = .ok (.aload_n 0, 1) := by decide +kernel
theorem d_M_bind_113 : decode b_M_bind 113 = .ok (.getfield 267, 3) := by decide +kernel
theorem d_M_bind_116 : decode b_M_bind 116 = .ok (.aload_n 0, 1) := by decide +kernel
theorem d_M_bind_117 : decode b_M_bind 117 = .ok (.getfield 270, 3) := by decide +kernel
theorem d_M_bind_120 : decode b_M_bind 120 = .ok (.iastore, 1) := by decide +kernel
theorem d_M_bind_121 : decode b_M_bind 121 = .ok (.aload_n 0, 1) := by decide +kernel
theorem d_M_bind_122 : decode b_M_bind 122 = .ok (.dup, 1) := by decide +kernel
theorem d_M_bind_123 : decode b_M_bind 123 = .ok (.getfield 267, 3) := by decide +kernel
theorem d_M_bind_126 : decode b_M_bind 126 = .ok (.iconst 1, 1) := by decide +kernel
theorem d_M_bind_127 : decode b_M_bind 127 = .ok (.iadd, 1) := by decide +kernel
theorem d_M_bind_128 : decode b_M_bind 128 = .ok (.putfield 267, 3) := by decide +kernel
theorem d_M_bind_131 : decode b_M_bind 131 = .ok (.return_, 1) := by decide +kernel
theorem d_M_isBelow_0 : decode b_M_isBelow 0 = .ok (.aload_n 0, 1) := by decide +kernel
theorem d_M_isBelow_1 : decode b_M_isBelow 1 = .ok (.getfield 230, 3) := by decide +kernel
theorem d_M_isBelow_4 : decode b_M_isBelow 4 = .ok (.ifCond .eq 10, 3) := by decide +kernel
theorem d_M_isBelow_7 : decode b_M_isBelow 7 = .ok (.aload_n 0, 1) := by decide +kernel
theorem d_M_isBelow_8 : decode b_M_isBelow 8 = .ok (.iconst 1, 1) := by decide +kernel
theorem d_M_isBelow_9 : decode b_M_isBelow 9 = .ok (.putfield 273, 3) := by decide +kernel
theorem d_M_isBelow_12 : decode b_M_isBelow 12 = .ok (.iconst 0, 1) := by decide +kernel
theorem d_M_isBelow_13 : decode b_M_isBelow 13 = .ok (.ireturn, 1) := by decide +kernel
theorem d_M_isBelow_14 : decode b_M_isBelow 14 = .ok (.aload_n 0, 1) := by decide +kernel
theorem d_M_isBelow_15 : decode b_M_isBelow 15 = .ok (.getfield 27, 3) := by decide +kernel
theorem d_M_isBelow_18 : decode b_M_isBelow 18 = .ok (.iload_n 1, 1) := by decide +kernel
theorem d_M_isBelow_19 : decode b_M_isBelow 19 = .ok (.iaload, 1) := by decide +kernel
theorem d_M_isBelow_20 : decode b_M_isBelow 20 = .ok (.bipush 7, 2) := by decide +kernel
theorem d_M_isBelow_22 : decode b_M_isBelow 22 = .ok (.if_icmp .ne 10, 3) := by decide +kernel
theorem d_M_isBelow_25 : decode b_M_isBelow 25 = .ok (.aload_n 0, 1) := by decide +kernel
theorem d_M_isBelow_26 : decode b_M_isBelow 26 = .ok (.iconst 1, 1) := by decide +kernel
theorem d_M_isBelow_27 : decode b_M_isBelow 27 = .ok (.iload_n 1, 1) := by decide +kernel
theorem d_M_isBelow_28 : decode b_M_isBelow 28 = .ok (.iload_n 2, 1) := by decide +kernel
theorem d_M_isBelow_29 : decode b_M_isBelow 29 = .ok (.invokevirtual 276, 3) := by decide +kernel
theorem d_M_isBelow_32 : decode b_M_isBelow 32 = .ok (.aload_n 0, 1) := by decide +kernel
theorem d_M_isBelow_33 : decode b_M_isBelow 33 = .ok (.getfield 27, 3) := by decide +kernel
theorem d_M_isBelow_36 : decode b_M_isBelow 36 = .ok (.iload_n 2, 1) := by decide +kernel
theorem d_M_isBelow_37 : decode b_M_isBelow 37 = .ok (.iaload, 1) := by decide +kernel
theorem d_M_isBelow_38 : decode b_M_isBelow 38 = .ok (.bipush 7, 2) := by decide +kernel
theorem d_M_isBelow_40 : decode b_M_isBelow 40 = .ok (.if_icmp .ne 17, 3) := by decide +kernel
theorem d_M_isBelow_43 : decode b_M_isBelow 43 = .ok (.aload_n 0, 1) := by decide +kernel
theorem d_M_isBelow_44 : decode b_M_isBelow 44 = .ok (.getfield 148, 3) := by decide +kernel
theorem d_M_isBelow_47 : decode b_M_isBelow 47 = .ok (.ifCond .ne 10, 3) := by decide +kernel
theorem d_M_isBelow_50 : decode b_M_isBelow 50 = .ok (.aload_n 0, 1) := by decide +kernel
theorem d_M_isBelow_51 : decode b_M_isBelow 51 = .ok (.iconst 2, 1) := by decide +kernel
theorem d_M_isBelow_52 : decode b_M_isBelow 52 = .ok (.iload_n 2, 1) := by decide +kernel
theorem d_M_isBelow_53 : decode b_M_isBelow 53 = .ok (.iload_n 1, 1) := by decide +kernel
theorem d_M_isBelow_54 : decode b_M_isBelow 54 = .ok (.invokevirtual 276, 3) := by decide +kernel
theorem d_M_isBelow_57 : decode b_M_isBelow 57 = .ok (.iconst 1, 1) := by decide +kernel
theorem d_M_isBelow_58 : decode b_M_isBelow 58 = .ok (.ireturn, 1) := by decide +kernel
theorem d_M_isSame_0 : decode b_M_isSame 0 = .ok (.aload_n 0, 1) := by decide +kernel
theorem d_M_isSame_1 : decode b_M_isSame 1 = .ok (.getfield 230, 3) := by decide +kernel
theorem d_M_isSame_4 : decode b_M_isSame 4 = .ok (.ifCond .eq 10, 3) := by decide +kernel
theorem d_M_isSame_7 : decode b_M_isSame 7 = .ok (.aload_n 0, 1) := by decide +kernel
theorem d_M_isSame_8 : decode b_M_isSame 8 = .ok (.iconst 1, 1) := by decide +kernel
theorem d_M_isSame_9 : decode b_M_isSame 9 = .ok (.putfield 273, 3) := by decide +kernel
theorem d_M_isSame_12 : decode b_M_isSame 12 = .ok (.iconst 0, 1) := by decide +kernel
theorem d_M_isSame_13 : decode b_M_isSame 13 = .ok (.ireturn, 1) := by decide +kernel
theorem d_M_isSame_14 : decode b_M_isSame 14 = .ok (.aload_n 0, 1) := by decide +kernel
theorem d_M_isSame_15 : decode b_M_isSame 15 = .ok (.getfield 27, 3) := by decide +kernel
theorem d_M_isSame_18 : decode b_M_isSame 18 = .ok (.iload_n 1, 1) := by decide +kernel
theorem d_M_isSame_19 : decode b_M_isSame 19 = .ok (.iaload, 1) := by decide +kernel
theorem d_M_isSame_20 : decode b_M_isSame 20 = .ok (.bipush 7, 2) := by decide +kernel
theorem d_M_isSame_22 : decode b_M_isSame 22 = .ok (.if_icmp .ne 10, 3) := by decide +kernel
theorem d_M_isSame_25 : decode b_M_isSame 25 = .ok (.aload_n 0, 1) := by decide +kernel
theorem d_M_isSame_26 : decode b_M_isSame 26 = .ok (.iconst 0, 1) := by decide +kernel
theorem d_M_isSame_27 : decode b_M_isSame 27 = .ok (.iload_n 1, 1) := by decide +kernel
theorem d_M_isSame_28 : decode b_M_isSame 28 = .ok (.iload_n 2, 1) := by decide +kernel
theorem d_M_isSame_29 : decode b_M_isSame 29 = .ok (.invokevirtual 276, 3) := by decide +kernel
theorem d_M_isSame_32 : decode b_M_isSame 32 = .ok (.aload_n 0, 1) := by decide +kernel
theorem d_M_isSame_33 : decode b_M_isSame 33 = .ok (.getfield 27, 3) := by decide +kernel
theorem d_M_isSame_36 : decode b_M_isSame 36 = .ok (.iload_n 2, 1) := by decide +kernel
theorem d_M_isSame_37 : decode b_M_isSame 37 = .ok (.iaload, 1) := by decide +kernel
theorem d_M_isSame_38 : decode b_M_isSame 38 = .ok (.bipush 7, 2) := by decide +kernel
theorem d_M_isSame_40 : decode b_M_isSame 40 = .ok (.if_icmp .ne 17, 3) := by decide +kernel
theorem d_M_isSame_43 : decode b_M_isSame 43 = .ok (.aload_n 0, 1) := by decide +kernel
theorem d_M_isSame_44 : decode b_M_isSame 44 = .ok (.getfield 148, 3) := by decide +kernel
theorem d_M_isSame_47 : decode b_M_isSame 47 = .ok (.ifCond .ne 10, 3) := by decide +kernel
theorem d_M_isSame_50 : decode b_M_isSame 50 = .ok (.aload_n 0, 1) := by decide +kernel
theorem d_M_isSame_51 : decode b_M_isSame 51 = .ok (.iconst 0, 1) := by decide +kernel
theorem d_M_isSame_52 : decode b_M_isSame 52 = .ok (.iload_n 2, 1) := by decide +kernel
theorem d_M_isSame_53 : decode b_M_isSame 53 = .ok (.iload_n 1, 1) := by decide +kernel
theorem d_M_isSame_54 : decode b_M_isSame 54 = .ok (.invokevirtual 276, 3) := by decide +kernel
theorem d_M_isSame_57 : decode b_M_isSame 57 = .ok (.iconst 1, 1) := by decide +kernel
theorem d_M_isSame_58 : decode b_M_isSame 58 = .ok (.ireturn, 1) := by decide +kernel
