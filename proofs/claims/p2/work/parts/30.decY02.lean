theorem d_M_aboveOf_0 : decode b_M_aboveOf 0 = .ok (.aload_n 0, 1) := by decide +kernel
theorem d_M_aboveOf_1 : decode b_M_aboveOf 1 = .ok (.iconst 0, 1) := by decide +kernel
theorem d_M_aboveOf_2 : decode b_M_aboveOf 2 = .ok (.putfield 202, 3) := by decide +kernel
theorem d_M_aboveOf_5 : decode b_M_aboveOf 5 = .ok (.aload_n 0, 1) := by decide +kernel
theorem d_M_aboveOf_6 : decode b_M_aboveOf 6 = .ok (.iload_n 1, 1) := by decide +kernel
theorem d_M_aboveOf_7 : decode b_M_aboveOf 7 = .ok (.iconst 0, 1) := by decide +kernel
theorem d_M_aboveOf_8 : decode b_M_aboveOf 8 = .ok (.iconst 0, 1) := by decide +kernel
theorem d_M_aboveOf_9 : decode b_M_aboveOf 9 = .ok (.invokevirtual 205, 3) := by decide +kernel
theorem d_M_aboveOf_12 : decode b_M_aboveOf 12 = .ok (.aload_n 0, 1) := by decide +kernel
theorem d_M_aboveOf_13 : decode b_M_aboveOf 13 = .ok (.getfield 202, 3) := by decide +kernel
theorem d_M_aboveOf_16 : decode b_M_aboveOf 16 = .ok (.ifCond .le 340, 3) := by decide +kernel
theorem d_M_aboveOf_19 : decode b_M_aboveOf 19 = .ok (.aload_n 0, 1) := by decide +kernel
theorem d_M_aboveOf_20 : decode b_M_aboveOf 20 = .ok (.getfield 148, 3) := by decide +kernel
theorem d_M_aboveOf_23 : decode b_M_aboveOf 23 = .ok (.ifCond .ne 333, 3) := by decide +kernel
theorem d_M_aboveOf_26 : decode b_M_aboveOf 26 = .ok (.aload_n 0, 1) := by decide +kernel
theorem d_M_aboveOf_27 : decode b_M_aboveOf 27 = .ok (.dup, 1) := by decide +kernel
theorem d_M_aboveOf_28 : decode b_M_aboveOf 28 = .ok (.getfield 202, 3) := by decide +kernel
theorem d_M_aboveOf_31 : decode b_M_aboveOf 31 = .ok (.iconst 1, 1) := by decide +kernel
theorem d_M_aboveOf_32 : decode b_M_aboveOf 32 = .ok (.isub, 1) := by decide +kernel
theorem d_M_aboveOf_33 : decode b_M_aboveOf 33 = .ok (.putfield 202, 3) := by decide +kernel
theorem d_M_aboveOf_36 : decode b_M_aboveOf 36 = .ok (.aload_n 0, 1) := by decide +kernel
theorem d_M_aboveOf_37 : decode b_M_aboveOf 37 = .ok (.getfield 73, 3) := by decide +kernel
theorem d_M_aboveOf_40 : decode b_M_aboveOf 40 = .ok (.aload_n 0, 1) := by decide +kernel
theorem d_M_aboveOf_41 : decode b_M_aboveOf 41 = .ok (.getfield 202, 3) := by decide +kernel
theorem d_M_aboveOf_44 : decode b_M_aboveOf 44 = .ok (.iaload, 1) := by decide +kernel
theorem d_M_aboveOf_45 : decode b_M_aboveOf 45 = .ok (.istore_n 3, 1) := by decide +kernel
theorem d_M_aboveOf_46 : decode b_M_aboveOf 46 = .ok (.aload_n 0, 1) := by decide +kernel
theorem d_M_aboveOf_47 : decode b_M_aboveOf 47 = .ok (.getfield 79, 3) := by decide +kernel
theorem d_M_aboveOf_50 : decode b_M_aboveOf 50 = .ok (.aload_n 0, 1) := by decide +kernel
theorem d_M_aboveOf_51 : decode b_M_aboveOf 51 = .ok (.getfield 202, 3) := by decide +kernel
theorem d_M_aboveOf_54 : decode b_M_aboveOf 54 = .ok (.iaload, 1) := by decide +kernel
theorem d_M_aboveOf_55 : decode b_M_aboveOf 55 = .ok (.istore 4, 2) := by decide +kernel
theorem d_M_aboveOf_57 : decode b_M_aboveOf 57 = .ok (.iload 4, 2) := by decide +kernel
theorem d_M_aboveOf_59 : decode b_M_aboveOf 59 = .ok (.iconst 1, 1) := by decide +kernel
theorem d_M_aboveOf_60 : decode b_M_aboveOf 60 = .ok (.if_icmp .ne 25, 3) := by decide +kernel
theorem d_M_aboveOf_63 : decode b_M_aboveOf 63 = .ok (.aload_n 0, 1) := by decide +kernel
theorem d_M_aboveOf_64 : decode b_M_aboveOf 64 = .ok (.aload_n 0, 1) := by decide +kernel
theorem d_M_aboveOf_65 : decode b_M_aboveOf 65 = .ok (.getfield 30, 3) := by decide +kernel
theorem d_M_aboveOf_68 : decode b_M_aboveOf 68 = .ok (.aload_n 0, 1) := by decide +kernel
theorem d_M_aboveOf_69 : decode b_M_aboveOf 69 = .ok (.getfield 76, 3) := by decide +kernel
theorem d_M_aboveOf_72 : decode b_M_aboveOf 72 = .ok (.aload_n 0, 1) := by decide +kernel
theorem d_M_aboveOf_73 : decode b_M_aboveOf 73 = .ok (.getfield 202, 3) := by decide +kernel
theorem d_M_aboveOf_76 : decode b_M_aboveOf 76 = .ok (.iaload, 1) := by decide +kernel
theorem d_M_aboveOf_77 : decode b_M_aboveOf 77 = .ok (.iaload, 1) := by decide +kernel
theorem d_M_aboveOf_78 : decode b_M_aboveOf 78 = .ok (.invokevirtual 182, 3) := by decide +kernel
theorem d_M_aboveOf_81 : decode b_M_aboveOf 81 = .ok (.istore_n 3, 1) := by decide +kernel
theorem d_M_aboveOf_82 : decode b_M_aboveOf 82 = .ok (.goto 24, 3) := by decide +kernel
theorem d_M_aboveOf_85 : decode b_M_aboveOf 85 = .ok (.iload 4, 2) := by decide +kernel
theorem d_M_aboveOf_87 : decode b_M_aboveOf 87 = .ok (.iconst 2, 1) := by decide +kernel
theorem d_M_aboveOf_88 : decode b_M_aboveOf 88 = .ok (.if_icmp .ne 18, 3) := by decide +kernel
theorem d_M_aboveOf_91 : decode b_M_aboveOf 91 = .ok (.aload_n 0, 1) := by decide +kernel
theorem d_M_aboveOf_92 : decode b_M_aboveOf 92 = .ok (.aload_n 0, 1) := by decide +kernel
theorem d_M_aboveOf_93 : decode b_M_aboveOf 93 = .ok (.getfield 76, 3) := by decide +kernel
theorem d_M_aboveOf_96 : decode b_M_aboveOf 96 = .ok (.aload_n 0, 1) := by decide +kernel
theorem d_M_aboveOf_97 : decode b_M_aboveOf 97 = .ok (.getfield 202, 3) := by decide +kernel
theorem d_M_aboveOf_100 : decode b_M_aboveOf 100 = .ok (.iaload, 1) := by decide +kernel
theorem d_M_aboveOf_101 : decode b_M_aboveOf 101 = .ok (.iload_n 3, 1) := by decide +kernel
theorem d_M_aboveOf_102 : decode b_M_aboveOf 102 = .ok (.invokevirtual 209, 3) := by decide +kernel
theorem d_M_aboveOf_105 : decode b_M_aboveOf 105 = .ok (.istore_n 3, 1) := by decide +kernel
theorem d_M_aboveOf_106 : decode b_M_aboveOf 106 = .ok (.aload_n 0, 1) := by decide +kernel
theorem d_M_aboveOf_107 : decode b_M_aboveOf 107 = .ok (.getfield 148, 3) := by decide +kernel
theorem d_M_aboveOf_110 : decode b_M_aboveOf 110 = .ok (.ifCond .eq 5, 3) := by decide +kernel
theorem d_M_aboveOf_113 : decode b_M_aboveOf 113 = .ok (.iconst (-1), 1) := by decide +kernel
theorem d_M_aboveOf_114 : decode b_M_aboveOf 114 = .ok (.ireturn, 1) := by decide +kernel
theorem d_M_aboveOf_115 : decode b_M_aboveOf 115 = .ok (.aload_n 0, 1) := by decide +kernel
theorem d_M_aboveOf_116 : decode b_M_aboveOf 116 = .ok (.getfield 27, 3) := by decide +kernel
theorem d_M_aboveOf_119 : decode b_M_aboveOf 119 = .ok (.iload_n 3, 1) := by decide +kernel
theorem d_M_aboveOf_120 : decode b_M_aboveOf 120 = .ok (.iaload, 1) := by decide +kernel
theorem d_M_aboveOf_121 : decode b_M_aboveOf 121 = .ok (.bipush 8, 2) := by decide +kernel
theorem d_M_aboveOf_123 : decode b_M_aboveOf 123 = .ok (.if_icmp .ne 66, 3) := by decide +kernel
theorem d_M_aboveOf_126 : decode b_M_aboveOf 126 = .ok (.aload_n 0, 1) := by decide +kernel
theorem d_M_aboveOf_127 : decode b_M_aboveOf 127 = .ok (.getfield 33, 3) := by decide +kernel
theorem d_M_aboveOf_130 : decode b_M_aboveOf 130 = .ok (.iload_n 3, 1) := by decide +kernel
theorem d_M_aboveOf_131 : decode b_M_aboveOf 131 = .ok (.iaload, 1) := by decide +kernel
theorem d_M_aboveOf_132 : decode b_M_aboveOf 132 = .ok (.ifCond .ne 17, 3) := by decide +kernel
theorem d_M_aboveOf_135 : decode b_M_aboveOf 135 = .ok (.aload_n 0, 1) := by decide +kernel
theorem d_M_aboveOf_136 : decode b_M_aboveOf 136 = .ok (.getfield 33, 3) := by decide +kernel
theorem d_M_aboveOf_139 : decode b_M_aboveOf 139 = .ok (.aload_n 0, 1) := by decide +kernel
theorem d_M_aboveOf_140 : decode b_M_aboveOf 140 = .ok (.getfield 30, 3) := by decide +kernel
theorem d_M_aboveOf_143 : decode b_M_aboveOf 143 = .ok (.iload_n 3, 1) := by decide +kernel
theorem d_M_aboveOf_144 : decode b_M_aboveOf 144 = .ok (.iaload, 1) := by decide +kernel
theorem d_M_aboveOf_145 : decode b_M_aboveOf 145 = .ok (.iaload, 1) := by decide +kernel
theorem d_M_aboveOf_146 : decode b_M_aboveOf 146 = .ok (.goto 14, 3) := by decide +kernel
theorem d_M_aboveOf_149 : decode b_M_aboveOf 149 = .ok (.aload_n 0, 1) := by decide +kernel
theorem d_M_aboveOf_150 : decode b_M_aboveOf 150 = .ok (.getfield 36, 3) := by decide +kernel
theorem d_M_aboveOf_153 : decode b_M_aboveOf 153 = .ok (.aload_n 0, 1) := by decide +kernel
theorem d_M_aboveOf_154 : decode b_M_aboveOf 154 = .ok (.getfield 30, 3) := by decide +kernel
theorem d_M_aboveOf_157 : decode b_M_aboveOf 157 = .ok (.iload_n 3, 1) := by decide +kernel
theorem d_M_aboveOf_158 : decode b_M_aboveOf 158 = .ok (.iaload, 1) := by decide +kernel
theorem d_M_aboveOf_159 : decode b_M_aboveOf 159 = .ok (.iaload, 1) := by decide +kernel
theorem d_M_aboveOf_160 : decode b_M_aboveOf 160 = .ok (.istore 5, 2) := by decide +kernel
theorem d_M_aboveOf_162 : decode b_M_aboveOf 162 = .ok (.aload_n 0, 1) := by decide +kernel
theorem d_M_aboveOf_163 : decode b_M_aboveOf 163 = .ok (.getfield 30, 3) := by decide +kernel
theorem d_M_aboveOf_166 : decode b_M_aboveOf 166 = .ok (.iload 5, 2) := by decide +kernel
theorem d_M_aboveOf_168 : decode b_M_aboveOf 168 = .ok (.iaload, 1) := by decide +kernel
theorem d_M_aboveOf_169 : decode b_M_aboveOf 169 = .ok (.iconst 1, 1) := by decide +kernel
theorem d_M_aboveOf_170 : decode b_M_aboveOf 170 = .ok (.if_icmp .ne 16, 3) := by decide +kernel
theorem d_M_aboveOf_173 : decode b_M_aboveOf 173 = .ok (.aload_n 0, 1) := by decide +kernel
theorem d_M_aboveOf_174 : decode b_M_aboveOf 174 = .ok (.aload_n 0, 1) := by decide +kernel
theorem d_M_aboveOf_175 : decode b_M_aboveOf 175 = .ok (.getfield 33, 3) := by decide +kernel
theorem d_M_aboveOf_178 : decode b_M_aboveOf 178 = .ok (.iload 5, 2) := by decide +kernel
theorem d_M_aboveOf_180 : decode b_M_aboveOf 180 = .ok (.iaload, 1) := by decide +kernel
theorem d_M_aboveOf_181 : decode b_M_aboveOf 181 = .ok (.iconst 0, 1) := by decide +kernel
theorem d_M_aboveOf_182 : decode b_M_aboveOf 182 = .ok (.iconst 0, 1) := by decide +kernel
theorem d_M_aboveOf_183 : decode b_M_aboveOf 183 = .ok (.invokevirtual 205, 3) := by decide +kernel
theorem d_M_aboveOf_186 : decode b_M_aboveOf 186 = .ok (.goto 167, 3) := by decide +kernel
theorem d_M_aboveOf_189 : decode b_M_aboveOf 189 = .ok (.aload_n 0, 1) := by decide +kernel
theorem d_M_aboveOf_190 : decode b_M_aboveOf 190 = .ok (.getfield 27, 3) := by decide +kernel
theorem d_M_aboveOf_193 : decode b_M_aboveOf 193 = .ok (.iload_n 3, 1) := by decide +kernel
theorem d_M_aboveOf_194 : decode b_M_aboveOf 194 = .ok (.iaload, 1) := by decide +kernel
theorem d_M_aboveOf_195 : decode b_M_aboveOf 195 = .ok (.ifCond .eq 13, 3) := by decide +kernel
theorem d_M_aboveOf_198 : decode b_M_aboveOf 198 = .ok (.aload_n 0, 1) := by decide +kernel
theorem d_M_aboveOf_199 : decode b_M_aboveOf 199 = .ok (.getfield 27, 3) := by decide +kernel
theorem d_M_aboveOf_202 : decode b_M_aboveOf 202 = .ok (.iload_n 3, 1) := by decide +kernel
theorem d_M_aboveOf_203 : decode b_M_aboveOf 203 = .ok (.iaload, 1) := by decide +kernel
theorem d_M_aboveOf_204 : decode b_M_aboveOf 204 = .ok (.iconst 1, 1) := by decide +kernel
theorem d_M_aboveOf_205 : decode b_M_aboveOf 205 = .ok (.if_icmp .ne 148, 3) := by decide +kernel
theorem d_M_aboveOf_208 : decode b_M_aboveOf 208 = .ok (.aload_n 0, 1) := by decide +kernel
theorem d_M_aboveOf_209 : decode b_M_aboveOf 209 = .ok (.getfield 30, 3) := by decide +kernel
theorem d_M_aboveOf_212 : decode b_M_aboveOf 212 = .ok (.iload_n 3, 1) := by decide +kernel
theorem d_M_aboveOf_213 : decode b_M_aboveOf 213 = .ok (.iaload, 1) := by decide +kernel
theorem d_M_aboveOf_214 : decode b_M_aboveOf 214 = .ok (.istore 5, 2) := by decide +kernel
theorem d_M_aboveOf_216 : decode b_M_aboveOf 216 = .ok (.iload 5, 2) := by decide +kernel
theorem d_M_aboveOf_218 : decode b_M_aboveOf 218 = .ok (.iload_n 2, 1) := by decide +kernel
theorem d_M_aboveOf_219 : decode b_M_aboveOf 219 = .ok (.if_icmp .ne 5, 3) := by decide +kernel
theorem d_M_aboveOf_222 : decode b_M_aboveOf 222 = .ok (.iload_n 3, 1) := by decide +kernel
theorem d_M_aboveOf_223 : decode b_M_aboveOf 223 = .ok (.ireturn, 1) := by decide +kernel
theorem d_M_aboveOf_224 : decode b_M_aboveOf 224 = .ok (.aload_n 0, 1) := by decide +kernel
theorem d_M_aboveOf_225 : decode b_M_aboveOf 225 = .ok (.getfield 16, 3) := by decide +kernel
theorem d_M_aboveOf_228 : decode b_M_aboveOf 228 = .ok (.iload 5, 2) := by decide +kernel
theorem d_M_aboveOf_230 : decode b_M_aboveOf 230 = .ok (.iaload, 1) := by decide +kernel
theorem d_M_aboveOf_231 : decode b_M_aboveOf 231 = .ok (.iconst 1, 1) := by decide +kernel
theorem d_M_aboveOf_232 : decode b_M_aboveOf 232 = .ok (.isub, 1) := by decide +kernel
theorem d_M_aboveOf_233 : decode b_M_aboveOf 233 = .ok (.istore 6, 2) := by decide +kernel
theorem d_M_aboveOf_235 : decode b_M_aboveOf 235 = .ok (.iload 6, 2) := by decide +kernel
theorem d_M_aboveOf_237 : decode b_M_aboveOf 237 = .ok (.ifCond .lt 116, 3) := by decide +kernel
theorem d_M_aboveOf_240 : decode b_M_aboveOf 240 = .ok (.aload_n 0, 1) := by decide +kernel
theorem d_M_aboveOf_241 : decode b_M_aboveOf 241 = .ok (.getfield 13, 3) := by decide +kernel
theorem d_M_aboveOf_244 : decode b_M_aboveOf 244 = .ok (.iconst 3, 1) := by decide +kernel
theorem d_M_aboveOf_245 : decode b_M_aboveOf 245 = .ok (.iload 5, 2) := by decide +kernel
theorem d_M_aboveOf_247 : decode b_M_aboveOf 247 = .ok (.imul, 1) := by decide +kernel
theorem d_M_aboveOf_248 : decode b_M_aboveOf 248 = .ok (.iload 6, 2) := by decide +kernel
theorem d_M_aboveOf_250 : decode b_M_aboveOf 250 = .ok (.iadd, 1) := by decide +kernel
theorem d_M_aboveOf_251 : decode b_M_aboveOf 251 = .ok (.iaload, 1) := by decide +kernel
theorem d_M_aboveOf_252 : decode b_M_aboveOf 252 = .ok (.istore 7, 2) := by decide +kernel
theorem d_M_aboveOf_254 : decode b_M_aboveOf 254 = .ok (.aload_n 0, 1) := by decide +kernel
theorem d_M_aboveOf_255 : decode b_M_aboveOf 255 = .ok (.getfield 19, 3) := by decide +kernel
theorem d_M_aboveOf_258 : decode b_M_aboveOf 258 = .ok (.aload_n 0, 1) := by decide +kernel
theorem d_M_aboveOf_259 : decode b_M_aboveOf 259 = .ok (.getfield 30, 3) := by decide +kernel
theorem d_M_aboveOf_262 : decode b_M_aboveOf 262 = .ok (.iload 7, 2) := by decide +kernel
theorem d_M_aboveOf_264 : decode b_M_aboveOf 264 = .ok (.iaload, 1) := by decide +kernel
theorem d_M_aboveOf_265 : decode b_M_aboveOf 265 = .ok (.laload, 1) := by decide +kernel
theorem d_M_aboveOf_266 : decode b_M_aboveOf 266 = .ok (.lconst 1, 1) := by decide +kernel
theorem d_M_aboveOf_267 : decode b_M_aboveOf 267 = .ok (.aload_n 0, 1) := by decide +kernel
theorem d_M_aboveOf_268 : decode b_M_aboveOf 268 = .ok (.getfield 30, 3) := by decide +kernel
theorem d_M_aboveOf_271 : decode b_M_aboveOf 271 = .ok (.iload 7, 2) := by decide +kernel
theorem d_M_aboveOf_273 : decode b_M_aboveOf 273 = .ok (.iaload, 1) := by decide +kernel
theorem d_M_aboveOf_274 : decode b_M_aboveOf 274 = .ok (.lshl, 1) := by decide +kernel
theorem d_M_aboveOf_275 : decode b_M_aboveOf 275 = .ok (.lor, 1) := by decide +kernel
theorem d_M_aboveOf_276 : decode b_M_aboveOf 276 = .ok (.iload_n 2, 1) := by decide +kernel
theorem d_M_aboveOf_277 : decode b_M_aboveOf 277 = .ok (.lshr, 1) := by decide +kernel
theorem d_M_aboveOf_278 : decode b_M_aboveOf 278 = .ok (.bipush 63, 2) := by decide +kernel
theorem d_M_aboveOf_280 : decode b_M_aboveOf 280 = .ok (.lshl, 1) := by decide +kernel
theorem d_M_aboveOf_281 : decode b_M_aboveOf 281 = .ok (.lconst 0, 1) := by decide +kernel
theorem d_M_aboveOf_282 : decode b_M_aboveOf 282 = .ok (.lcmp, 1) := by decide +kernel
theorem d_M_aboveOf_283 : decode b_M_aboveOf 283 = .ok (.ifCond .ne 6, 3) := by decide +kernel
theorem d_M_aboveOf_286 : decode b_M_aboveOf 286 = .ok (.goto 61, 3) := by decide +kernel
theorem d_M_aboveOf_289 : decode b_M_aboveOf 289 = .ok (.aload_n 0, 1) := by decide +kernel
theorem d_M_aboveOf_290 : decode b_M_aboveOf 290 = .ok (.getfield 27, 3) := by decide +kernel
theorem d_M_aboveOf_293 : decode b_M_aboveOf 293 = .ok (.iload_n 3, 1) := by decide +kernel
theorem d_M_aboveOf_294 : decode b_M_aboveOf 294 = .ok (.iaload, 1) := by decide +kernel
theorem d_M_aboveOf_295 : decode b_M_aboveOf 295 = .ok (.iconst 1, 1) := by decide +kernel
theorem d_M_aboveOf_296 : decode b_M_aboveOf 296 = .ok (.if_icmp .ne 14, 3) := by decide +kernel
theorem d_M_aboveOf_299 : decode b_M_aboveOf 299 = .ok (.aload_n 0, 1) := by decide +kernel
theorem d_M_aboveOf_300 : decode b_M_aboveOf 300 = .ok (.iload_n 3, 1) := by decide +kernel
theorem d_M_aboveOf_301 : decode b_M_aboveOf 301 = .ok (.iload 7, 2) := by decide +kernel
theorem d_M_aboveOf_303 : decode b_M_aboveOf 303 = .ok (.iconst 2, 1) := by decide +kernel
theorem d_M_aboveOf_304 : decode b_M_aboveOf 304 = .ok (.invokevirtual 205, 3) := by decide +kernel
theorem d_M_aboveOf_307 : decode b_M_aboveOf 307 = .ok (.goto 40, 3) := by decide +kernel
theorem d_M_aboveOf_310 : decode b_M_aboveOf 310 = .ok (.aload_n 0, 1) := by decide +kernel
theorem d_M_aboveOf_311 : decode b_M_aboveOf 311 = .ok (.aload_n 0, 1) := by decide +kernel
theorem d_M_aboveOf_312 : decode b_M_aboveOf 312 = .ok (.getfield 7, 3) := by decide +kernel
theorem d_M_aboveOf_315 : decode b_M_aboveOf 315 = .ok (.iload 5, 2) := by decide +kernel
theorem d_M_aboveOf_317 : decode b_M_aboveOf 317 = .ok (.iaload, 1) := by decide +kernel
theorem d_M_aboveOf_318 : decode b_M_aboveOf 318 = .ok (.ifCond .le 7, 3) := by decide +kernel
theorem d_M_aboveOf_321 : decode b_M_aboveOf 321 = .ok (.iload_n 3, 1) := by decide +kernel
theorem d_M_aboveOf_322 : decode b_M_aboveOf 322 = .ok (.goto 5, 3) := by decide +kernel
theorem d_M_aboveOf_325 : decode b_M_aboveOf 325 = .ok (.iload 7, 2) := by decide +kernel
theorem d_M_aboveOf_327 : decode b_M_aboveOf 327 = .ok (.iload 7, 2) := by decide +kernel
theorem d_M_aboveOf_329 : decode b_M_aboveOf 329 = .ok (.aload_n 0, 1) := by decide +kernel
theorem d_M_aboveOf_330 : decode b_M_aboveOf 330 = .ok (.getfield 7, 3) := by decide +kernel
theorem d_M_aboveOf_333 : decode b_M_aboveOf 333 = .ok (.iload 5, 2) := by decide +kernel
theorem d_M_aboveOf_335 : decode b_M_aboveOf 335 = .ok (.iaload, 1) := by decide +kernel
theorem d_M_aboveOf_336 : decode b_M_aboveOf 336 = .ok (.ifCond .le 7, 3) := by decide +kernel
theorem d_M_aboveOf_339 : decode b_M_aboveOf 339 = .ok (.iconst 1, 1) := by decide +kernel
theorem d_M_aboveOf_340 : decode b_M_aboveOf 340 = .ok (.goto 4, 3) := by decide +kernel
theorem d_M_aboveOf_343 : decode b_M_aboveOf 343 = .ok (.iconst 0, 1) := by decide +kernel
theorem d_M_aboveOf_344 : decode b_M_aboveOf 344 = .ok (.invokevirtual 205, 3) := by decide +kernel
theorem d_M_aboveOf_347 : decode b_M_aboveOf 347 = .ok (.iinc 6 (-1), 3) := by decide +kernel
theorem d_M_aboveOf_350 : decode b_M_aboveOf 350 = .ok (.goto (-115), 3) := by decide +kernel
theorem d_M_aboveOf_353 : decode b_M_aboveOf 353 = .ok (.goto (-341), 3) := by decide +kernel
theorem d_M_aboveOf_356 : decode b_M_aboveOf 356 = .ok (.aload_n 0, 1) := by decide +kernel
theorem d_M_aboveOf_357 : decode b_M_aboveOf 357 = .ok (.getfield 148, 3) := by decide +kernel
theorem d_M_aboveOf_360 : decode b_M_aboveOf 360 = .ok (.ifCond .ne 17, 3) := by decide +kernel
theorem d_M_aboveOf_363 : decode b_M_aboveOf 363 = .ok (.iload_n 2, 1) := by decide +kernel
theorem d_M_aboveOf_364 : decode b_M_aboveOf 364 = .ok (.ifCond .ne 13, 3) := by decide +kernel
theorem d_M_aboveOf_367 : decode b_M_aboveOf 367 = .ok (.aload_n 0, 1) := by decide +kernel
theorem d_M_aboveOf_368 : decode b_M_aboveOf 368 = .ok (.getfield 27, 3) := by decide +kernel
theorem d_M_aboveOf_371 : decode b_M_aboveOf 371 = .ok (.iload_n 1, 1) := by decide +kernel
theorem d_M_aboveOf_372 : decode b_M_aboveOf 372 = .ok (.iaload, 1) := by decide +kernel
theorem d_M_aboveOf_373 : decode b_M_aboveOf 373 = .ok (.iconst 5, 1) := by decide +kernel
theorem d_M_aboveOf_374 : decode b_M_aboveOf 374 = .ok (.if_icmp .ne 7, 3) := by decide +kernel
theorem d_M_aboveOf_377 : decode b_M_aboveOf 377 = .ok (.iconst (-1), 1) := by decide +kernel
theorem d_M_aboveOf_378 : decode b_M_aboveOf 378 = .ok (.goto 8, 3) := by decide +kernel
theorem d_M_aboveOf_381 : decode b_M_aboveOf 381 = .ok (.aload_n 0, 1) := by decide +kernel
theorem d_M_aboveOf_382 : decode b_M_aboveOf 382 = .ok (.iconst 0, 1) := by decide +kernel
theorem d_M_aboveOf_383 : decode b_M_aboveOf 383 = .ok (.invokevirtual 182, 3) := by decide +kernel
theorem d_M_aboveOf_386 : decode b_M_aboveOf 386 = .ok (.ireturn, 1) := by decide +kernel
theorem d_M_push_0 : decode b_M_push 0 = .ok (.aload_n 0, 1) := by decide +kernel
theorem d_M_push_1 : decode b_M_push 1 = .ok (.getfield 73, 3) := by decide +kernel
theorem d_M_push_4 : decode b_M_push 4 = .ok (.aload_n 0, 1) := by decide +kernel
theorem d_M_push_5 : decode b_M_push 5 = .ok (.getfield 202, 3) := by decide +kernel
theorem d_M_push_8 : decode b_M_push 8 = .ok (.iload_n 1, 1) := by decide +kernel
theorem d_M_push_9 : decode b_M_push 9 = .ok (.iastore, 1) := by decide +kernel
theorem d_M_push_10 : decode b_M_push 10 = .ok (.aload_n 0, 1) := by decide +kernel
theorem d_M_push_11 : decode b_M_push 11 = .ok (.getfield 76, 3) := by decide +kernel
theorem d_M_push_14 : decode b_M_push 14 = .ok (.aload_n 0, 1) := by decide +kernel
theorem d_M_push_15 : decode b_M_push 15 = .ok (.getfield 202, 3) := by decide +kernel
theorem d_M_push_18 : decode b_M_push 18 = .ok (.iload_n 2, 1) := by decide +kernel
theorem d_M_push_19 : decode b_M_push 19 = .ok (.iastore, 1) := by decide +kernel
theorem d_M_push_20 : decode b_M_push 20 = .ok (.aload_n 0, 1) := by decide +kernel
theorem d_M_push_21 : decode b_M_push 21 = .ok (.getfield 79, 3) := by decide +kernel
theorem d_M_push_24 : decode b_M_push 24 = .ok (.aload_n 0, 1) := by decide +kernel
theorem d_M_push_25 : decode b_M_push 25 = .ok (.getfield 202, 3) := by decide +kernel
theorem d_M_push_28 : decode b_M_push 28 = .ok (.iload_n 3, 1) := by decide +kernel
theorem d_M_push_29 : decode b_M_push 29 = .ok (.iastore, 1) := by decide +kernel
theorem d_M_push_30 : decode b_M_push 30 = .ok (.aload_n 0, 1) := by decide +kernel
theorem d_M_push_31 : decode b_M_push 31 = .ok (.dup, 1) := by decide +kernel
theorem d_M_push_32 : decode b_M_push 32 = .ok (.getfield 202, 3) := by decide +kernel
theorem d_M_push_35 : decode b_M_push 35 = .ok (.iconst 1, 1) := by decide +kernel
theorem d_M_push_36 : decode b_M_push 36 = .ok (.iadd, 1) := by decide +kernel
theorem d_M_push_37 : decode b_M_push 37 = .ok (.putfield 202, 3) := by decide +kernel
theorem d_M_push_40 : decode b_M_push 40 = .ok (.return_, 1) := by decide +kernel
theorem d_M_above_0 : decode b_M_above 0 = .ok (.aload_n 0, 1) := by decide +kernel
theorem d_M_above_1 : decode b_M_above 1 = .ok (.iload_n 1, 1) := by decide +kernel
theorem d_M_above_2 : decode b_M_above 2 = .ok (.invokevirtual 159, 3) := by decide +kernel
theorem d_M_above_5 : decode b_M_above 5 = .ok (.ifCond .eq 21, 3) := by decide +kernel
theorem d_M_above_8 : decode b_M_above 8 = .ok (.aload_n 0, 1) := by decide +kernel
theorem d_M_above_9 : decode b_M_above 9 = .ok (.getfield 27, 3) := by decide +kernel
theorem d_M_above_12 : decode b_M_above 12 = .ok (.iload_n 1, 1) := by decide +kernel
theorem d_M_above_13 : decode b_M_above 13 = .ok (.iaload, 1) := by decide +kernel
theorem d_M_above_14 : decode b_M_above 14 = .ok (.iconst 2, 1) := by decide +kernel
theorem d_M_above_15 : decode b_M_above 15 = .ok (.if_icmp .eq 11, 3) := by decide +kernel
theorem d_M_above_18 : decode b_M_above 18 = .ok (.aload_n 0, 1) := by decide +kernel
theorem d_M_above_19 : decode b_M_above 19 = .ok (.iload_n 2, 1) := by decide +kernel
theorem d_M_above_20 : decode b_M_above 20 = .ok (.invokevirtual 176, 3) := by decide +kernel
theorem d_M_above_23 : decode b_M_above 23 = .ok (.ifCond .ne 6, 3) := by decide +kernel
theorem d_M_above_26 : decode b_M_above 26 = .ok (.bipush (-2), 2) := by decide +kernel
theorem d_M_above_28 : decode b_M_above 28 = .ok (.ireturn, 1) := by decide +kernel
theorem d_M_above_29 : decode b_M_above 29 = .ok (.aload_n 0, 1) := by decide +kernel
theorem d_M_above_30 : decode b_M_above 30 = .ok (.aload_n 0, 1) := by decide +kernel
theorem d_M_above_31 : decode b_M_above 31 = .ok (.iload_n 1, 1) := by decide +kernel
theorem d_M_above_32 : decode b_M_above 32 = .ok (.iload_n 2, 1) := by decide +kernel
theorem d_M_above_33 : decode b_M_above 33 = .ok (.invokevirtual 212, 3) := by decide +kernel
theorem d_M_above_36 : decode b_M_above 36 = .ok (.invokevirtual 186, 3) := by decide +kernel
theorem d_M_above_39 : decode b_M_above 39 = .ok (.ireturn, 1) := by decide +kernel
theorem d_M_then_0 : decode b_M_then 0 = .ok (.aload_n 0, 1) := by decide +kernel
theorem d_M_then_1 : decode b_M_then 1 = .ok (.getfield 94, 3) := by decide +kernel
theorem d_M_then_4 : decode b_M_then 4 = .ok (.aload_n 0, 1) := by decide +kernel
theorem d_M_then_5 : decode b_M_then 5 = .ok (.getfield 215, 3) := by decide +kernel
theorem d_M_then_8 : decode b_M_then 8 = .ok (.iload_n 1, 1) := by decide +kernel
theorem d_M_then_9 : decode b_M_then 9 = .ok (.iastore, 1) := by decide +kernel
theorem d_M_then_10 : decode b_M_then 10 = .ok (.aload_n 0, 1) := by decide +kernel
theorem d_M_then_11 : decode b_M_then 11 = .ok (.getfield 97, 3) := by decide +kernel
theorem d_M_then_14 : decode b_M_then 14 = .ok (.aload_n 0, 1) := by decide +kernel
theorem d_M_then_15 : decode b_M_then 15 = .ok (.getfield 215, 3) := by decide +kernel
theorem d_M_then_18 : decode b_M_then 18 = .ok (.iload_n 2, 1) := by decide +kernel
theorem d_M_then_19 : decode b_M_then 19 = .ok (.iastore, 1) := by decide +kernel
theorem d_M_then_20 : decode b_M_then 20 = .ok (.aload_n 0, 1) := by decide +kernel
theorem d_M_then_21 : decode b_M_then 21 = .ok (.getfield 100, 3) := by decide +kernel
theorem d_M_then_24 : decode b_M_then 24 = .ok (.aload_n 0, 1) := by decide +kernel
theorem d_M_then_25 : decode b_M_then 25 = .ok (.getfield 215, 3) := by decide +kernel
theorem d_M_then_28 : decode b_M_then 28 = .ok (.iload_n 3, 1) := by decide +kernel
theorem d_M_then_29 : decode b_M_then 29 = .ok (.iastore, 1) := by decide +kernel
theorem d_M_then_30 : decode b_M_then 30 = .ok (.aload_n 0, 1) := by decide +kernel
theorem d_M_then_31 : decode b_M_then 31 = .ok (.dup, 1) := by decide +kernel
theorem d_M_then_32 : decode b_M_then 32 = .ok (.getfield 215, 3) := by decide +kernel
theorem d_M_then_35 : decode b_M_then 35 = .ok (.iconst 1, 1) := by decide +kernel
theorem d_M_then_36 : decode b_M_then 36 = .ok (.iadd, 1) := by decide +kernel
theorem d_M_then_37 : decode b_M_then 37 = .ok (.putfield 215, 3) := by decide +kernel
theorem d_M_then_40 : decode b_M_then 40 = .ok (.iconst 1, 1) := by decide +kernel
theorem d_M_then_41 : decode b_M_then 41 = .ok (.ireturn, 1) := by decide +kernel
theorem d_M_less_0 : decode b_M_less 0 = .ok (.aload_n 0, 1) := by decide +kernel
theorem d_M_less_1 : decode b_M_less 1 = .ok (.iconst 1, 1) := by decide +kernel
theorem d_M_less_2 : decode b_M_less 2 = .ok (.putfield 218, 3) := by decide +kernel
theorem d_M_less_5 : decode b_M_less 5 = .ok (.aload_n 0, 1) := by decide +kernel
theorem d_M_less_6 : decode b_M_less 6 = .ok (.getfield 82, 3) := by decide +kernel
theorem d_M_less_9 : decode b_M_less 9 = .ok (.iconst 0, 1) := by decide +kernel
theorem d_M_less_10 : decode b_M_less 10 = .ok (.iload_n 1, 1) := by decide +kernel
theorem d_M_less_11 : decode b_M_less 11 = .ok (.iastore, 1) := by decide +kernel
theorem d_M_less_12 : decode b_M_less 12 = .ok (.aload_n 0, 1) := by decide +kernel
theorem d_M_less_13 : decode b_M_less 13 = .ok (.getfield 85, 3) := by decide +kernel
theorem d_M_less_16 : decode b_M_less 16 = .ok (.iconst 0, 1) := by decide +kernel
theorem d_M_less_17 : decode b_M_less 17 = .ok (.iload_n 2, 1) := by decide +kernel
theorem d_M_less_18 : decode b_M_less 18 = .ok (.iastore, 1) := by decide +kernel
theorem d_M_less_19 : decode b_M_less 19 = .ok (.aload_n 0, 1) := by decide +kernel
theorem d_M_less_20 : decode b_M_less 20 = .ok (.getfield 88, 3) := by decide +kernel
theorem d_M_less_23 : decode b_M_less 23 = .ok (.iconst 0, 1) := by decide +kernel
theorem d_M_less_24 : decode b_M_less 24 = .ok (.iload_n 3, 1) := by decide +kernel
theorem d_M_less_25 : decode b_M_less 25 = .ok (.iastore, 1) := by decide +kernel
theorem d_M_less_26 : decode b_M_less 26 = .ok (.aload_n 0, 1) := by decide +kernel
theorem d_M_less_27 : decode b_M_less 27 = .ok (.getfield 91, 3) := by decide +kernel
theorem d_M_less_30 : decode b_M_less 30 = .ok (.iconst 0, 1) := by decide +kernel
theorem d_M_less_31 : decode b_M_less 31 = .ok (.iconst 1, 1) := by decide +kernel
theorem d_M_less_32 : decode b_M_less 32 = .ok (.iastore, 1) := by decide +kernel
theorem d_M_less_33 : decode b_M_less 33 = .ok (.aload_n 0, 1) := by decide +kernel
theorem d_M_less_34 : decode b_M_less 34 = .ok (.getfield 218, 3) := by decide +kernel
theorem d_M_less_37 : decode b_M_less 37 = .ok (.ifCond .le 248, 3) := by decide +kernel
theorem d_M_less_40 : decode b_M_less 40 = .ok (.aload_n 0, 1) := by decide +kernel
theorem d_M_less_41 : decode b_M_less 41 = .ok (.dup, 1) := by decide +kernel
theorem d_M_less_42 : decode b_M_less 42 = .ok (.getfield 218, 3) := by decide +kernel
theorem d_M_less_45 : decode b_M_less 45 = .ok (.iconst 1, 1) := by decide +kernel
theorem d_M_less_46 : decode b_M_less 46 = .ok (.isub, 1) := by decide +kernel
theorem d_M_less_47 : decode b_M_less 47 = .ok (.putfield 218, 3) := by decide +kernel
theorem d_M_less_50 : decode b_M_less 50 = .ok (.aload_n 0, 1) := by decide +kernel
theorem d_M_less_51 : decode b_M_less 51 = .ok (.aload_n 0, 1) := by decide +kernel
theorem d_M_less_52 : decode b_M_less 52 = .ok (.getfield 91, 3) := by decide +kernel
theorem d_M_less_55 : decode b_M_less 55 = .ok (.aload_n 0, 1) := by decide +kernel
theorem d_M_less_56 : decode b_M_less 56 = .ok (.getfield 218, 3) := by decide +kernel
theorem d_M_less_59 : decode b_M_less 59 = .ok (.iaload, 1) := by decide +kernel
theorem d_M_less_60 : decode b_M_less 60 = .ok (.putfield 221, 3) := by decide +kernel
theorem d_M_less_63 : decode b_M_less 63 = .ok (.aload_n 0, 1) := by decide +kernel
theorem d_M_less_64 : decode b_M_less 64 = .ok (.aload_n 0, 1) := by decide +kernel
theorem d_M_less_65 : decode b_M_less 65 = .ok (.getfield 148, 3) := by decide +kernel
theorem d_M_less_68 : decode b_M_less 68 = .ok (.ifCond .ne 22, 3) := by decide +kernel
theorem d_M_less_71 : decode b_M_less 71 = .ok (.aload_n 0, 1) := by decide +kernel
theorem d_M_less_72 : decode b_M_less 72 = .ok (.getfield 221, 3) := by decide +kernel
theorem d_M_less_75 : decode b_M_less 75 = .ok (.bipush 60, 2) := by decide +kernel
theorem d_M_less_77 : decode b_M_less 77 = .ok (.if_icmp .gt 13, 3) := by decide +kernel
theorem d_M_less_80 : decode b_M_less 80 = .ok (.aload_n 0, 1) := by decide +kernel
theorem d_M_less_81 : decode b_M_less 81 = .ok (.getfield 224, 3) := by decide +kernel
theorem d_M_less_84 : decode b_M_less 84 = .ok (.sipush 20000, 3) := by decide +kernel
theorem d_M_less_87 : decode b_M_less 87 = .ok (.if_icmp .ne 7, 3) := by decide +kernel
theorem d_M_less_90 : decode b_M_less 90 = .ok (.iconst 1, 1) := by decide +kernel
theorem d_M_less_91 : decode b_M_less 91 = .ok (.goto 4, 3) := by decide +kernel
theorem d_M_less_94 : decode b_M_less 94 = .ok (.iconst 0, 1) := by decide +kernel
theorem d_M_less_95 : decode b_M_less 95 = .ok (.putfield 148, 3) := by decide +kernel
theorem d_M_less_98 : decode b_M_less 98 = .ok (.aload_n 0, 1) := by decide +kernel
theorem d_M_less_99 : decode b_M_less 99 = .ok (.getfield 148, 3) := by decide +kernel
theorem d_M_less_102 : decode b_M_less 102 = .ok (.ifCond .eq 5, 3) := by decide +kernel
theorem d_M_less_105 : decode b_M_less 105 = .ok (.iconst 0, 1) := by decide +kernel
theorem d_M_less_106 : decode b_M_less 106 = .ok (.ireturn, 1) := by decide +kernel
theorem d_M_less_107 : decode b_M_less 107 = .ok (.aload_n 0, 1) := by decide +kernel
theorem d_M_less_108 : decode b_M_less 108 = .ok (.dup, 1) := by decide +kernel
theorem d_M_less_109 : decode b_M_less 109 = .ok (.getfield 224, 3) := by decide +kernel
theorem d_M_less_112 : decode b_M_less 112 = .ok (.iconst 1, 1) := by decide +kernel
theorem d_M_less_113 : decode b_M_less 113 = .ok (.iadd, 1) := by decide +kernel
theorem d_M_less_114 : decode b_M_less 114 = .ok (.putfield 224, 3) := by decide +kernel
theorem d_M_less_117 : decode b_M_less 117 = .ok (.aload_n 0, 1) := by decide +kernel
theorem d_M_less_118 : decode b_M_less 118 = .ok (.dup, 1) := by decide +kernel
theorem d_M_less_119 : decode b_M_less 119 = .ok (.getfield 227, 3) := by decide +kernel
theorem d_M_less_122 : decode b_M_less 122 = .ok (.aload_n 0, 1) := by decide +kernel
theorem d_M_less_123 : decode b_M_less 123 = .ok (.getfield 230, 3) := by decide +kernel
theorem d_M_less_126 : decode b_M_less 126 = .ok (.ifCond .eq 7, 3) := by decide +kernel
theorem d_M_less_129 : decode b_M_less 129 = .ok (.iconst 0, 1) := by decide +kernel
theorem d_M_less_130 : decode b_M_less 130 = .ok (.goto 4, 3) := by decide +kernel
theorem d_M_less_133 : decode b_M_less 133 = .ok (.iconst 1, 1) := by decide +kernel
theorem d_M_less_134 : decode b_M_less 134 = .ok (.iadd, 1) := by decide +kernel
theorem d_M_less_135 : decode b_M_less 135 = .ok (.putfield 227, 3) := by decide +kernel
theorem d_M_less_138 : decode b_M_less 138 = .ok (.aload_n 0, 1) := by decide +kernel
theorem d_M_less_139 : decode b_M_less 139 = .ok (.iconst 0, 1) := by decide +kernel
theorem d_M_less_140 : decode b_M_less 140 = .ok (.putfield 215, 3) := by decide +kernel
theorem d_M_less_143 : decode b_M_less 143 = .ok (.aload_n 0, 1) := by decide +kernel
theorem d_M_less_144 : decode b_M_less 144 = .ok (.aload_n 0, 1) := by decide +kernel
theorem d_M_less_145 : decode b_M_less 145 = .ok (.getfield 82, 3) := by decide +kernel
theorem d_M_less_148 : decode b_M_less 148 = .ok (.aload_n 0, 1) := by decide +kernel
theorem d_M_less_149 : decode b_M_less 149 = .ok (.getfield 218, 3) := by decide +kernel
theorem d_M_less_152 : decode b_M_less 152 = .ok (.iaload, 1) := by decide +kernel
theorem d_M_less_153 : decode b_M_less 153 = .ok (.aload_n 0, 1) := by decide +kernel
theorem d_M_less_154 : decode b_M_less 154 = .ok (.getfield 85, 3) := by decide +kernel
theorem d_M_less_157 : decode b_M_less 157 = .ok (.aload_n 0, 1) := by decide +kernel
theorem d_M_less_158 : decode b_M_less 158 = .ok (.getfield 218, 3) := by decide +kernel
theorem d_M_less_161 : decode b_M_less 161 = .ok (.iaload, 1) := by decide +kernel
theorem d_M_less_162 : decode b_M_less 162 = .ok (.aload_n 0, 1) := by decide +kernel
theorem d_M_less_163 : decode b_M_less 163 = .ok (.getfield 88, 3) := by decide +kernel
theorem d_M_less_166 : decode b_M_less 166 = .ok (.aload_n 0, 1) := by decide +kernel
theorem d_M_less_167 : decode b_M_less 167 = .ok (.getfield 218, 3) := by decide +kernel
theorem d_M_less_170 : decode b_M_less 170 = .ok (.iaload, 1) := by decide +kernel
theorem d_M_less_171 : decode b_M_less 171 = .ok (.invokevirtual 233, 3) := by decide +kernel
theorem d_M_less_174 : decode b_M_less 174 = .ok (.istore 4, 2) := by decide +kernel
theorem d_M_less_176 : decode b_M_less 176 = .ok (.aload_n 0, 1) := by decide +kernel
theorem d_M_less_177 : decode b_M_less 177 = .ok (.getfield 148, 3) := by decide +kernel
theorem d_M_less_180 : decode b_M_less 180 = .ok (.ifCond .ne 8, 3) := by decide +kernel
theorem d_M_less_183 : decode b_M_less 183 = .ok (.iload 4, 2) := by decide +kernel
theorem d_M_less_185 : decode b_M_less 185 = .ok (.ifCond .ne 5, 3) := by decide +kernel
theorem d_M_less_188 : decode b_M_less 188 = .ok (.iconst 0, 1) := by decide +kernel
theorem d_M_less_189 : decode b_M_less 189 = .ok (.ireturn, 1) := by decide +kernel
theorem d_M_less_190 : decode b_M_less 190 = .ok (.aload_n 0, 1) := by decide +kernel
theorem d_M_less_191 : decode b_M_less 191 = .ok (.getfield 215, 3) := by decide +kernel
theorem d_M_less_194 : decode b_M_less 194 = .ok (.iconst 1, 1) := by decide +kernel
theorem d_M_less_195 : decode b_M_less 195 = .ok (.isub, 1) := by decide +kernel
theorem d_M_less_196 : decode b_M_less 196 = .ok (.istore 5, 2) := by decide +kernel
theorem d_M_less_198 : decode b_M_less 198 = .ok (.iload 5, 2) := by decide +kernel
theorem d_M_less_200 : decode b_M_less 200 = .ok (.ifCond .lt 82, 3) := by decide +kernel
theorem d_M_less_203 : decode b_M_less 203 = .ok (.aload_n 0, 1) := by decide +kernel
theorem d_M_less_204 : decode b_M_less 204 = .ok (.getfield 82, 3) := by decide +kernel
theorem d_M_less_207 : decode b_M_less 207 = .ok (.aload_n 0, 1) := by decide +kernel
theorem d_M_less_208 : decode b_M_less 208 = .ok (.getfield 218, 3) := by decide +kernel
theorem d_M_less_211 : decode b_M_less 211 = .ok (.aload_n 0, 1) := by decide +kernel
theorem d_M_less_212 : decode b_M_less 212 = .ok (.getfield 94, 3) := by decide +kernel
theorem d_M_less_215 : decode b_M_less 215 = .ok (.iload 5, 2) := by decide +kernel
theorem d_M_less_217 : decode b_M_less 217 = .ok (.iaload, 1) := by decide +kernel
theorem d_M_less_218 : decode b_M_less 218 = .ok (.iastore, 1) := by decide +kernel
theorem d_M_less_219 : decode b_M_less 219 = .ok (.aload_n 0, 1) := by decide +kernel
theorem d_M_less_220 : decode b_M_less 220 = .ok (.getfield 85, 3) := by decide +kernel
theorem d_M_less_223 : decode b_M_less 223 = .ok (.aload_n 0, 1) := by decide +kernel
theorem d_M_less_224 : decode b_M_less 224 = .ok (.getfield 218, 3) := by decide +kernel
theorem d_M_less_227 : decode b_M_less 227 = .ok (.aload_n 0, 1) := by decide +kernel
theorem d_M_less_228 : decode b_M_less 228 = .ok (.getfield 97, 3) := by decide +kernel
theorem d_M_less_231 : decode b_M_less 231 = .ok (.iload 5, 2) := by decide +kernel
theorem d_M_less_233 : decode b_M_less 233 = .ok (.iaload, 1) := by decide +kernel
theorem d_M_less_234 : decode b_M_less 234 = .ok (.iastore, 1) := by decide +kernel
theorem d_M_less_235 : decode b_M_less 235 = .ok (.aload_n 0, 1) := by decide +kernel
theorem d_M_less_236 : decode b_M_less 236 = .ok (.getfield 88, 3) := by decide +kernel
theorem d_M_less_239 : decode b_M_less 239 = .ok (.aload_n 0, 1) := by decide +kernel
theorem d_M_less_240 : decode b_M_less 240 = .ok (.getfield 218, 3) := by decide +kernel
theorem d_M_less_243 : decode b_M_less 243 = .ok (.aload_n 0, 1) := by decide +kernel
theorem d_M_less_244 : decode b_M_less 244 = .ok (.getfield 100, 3) := by decide +kernel
theorem d_M_less_247 : decode b_M_less 247 = .ok (.iload 5, 2) := by decide +kernel
theorem d_M_less_249 : decode b_M_less 249 = .ok (.iaload, 1) := by decide +kernel
theorem d_M_less_250 : decode b_M_less 250 = .ok (.iastore, 1) := by decide +kernel
theorem d_M_less_251 : decode b_M_less 251 = .ok (.aload_n 0, 1) := by decide +kernel
theorem d_M_less_252 : decode b_M_less 252 = .ok (.getfield 91, 3) := by decide +kernel
theorem d_M_less_255 : decode b_M_less 255 = .ok (.aload_n 0, 1) := by decide +kernel
theorem d_M_less_256 : decode b_M_less 256 = .ok (.getfield 218, 3) := by decide +kernel
theorem d_M_less_259 : decode b_M_less 259 = .ok (.aload_n 0, 1) := by decide +kernel
theorem d_M_less_260 : decode b_M_less 260 = .ok (.getfield 221, 3) := by decide +kernel
theorem d_M_less_263 : decode b_M_less 263 = .ok (.iconst 1, 1) := by decide +kernel
theorem d_M_less_264 : decode b_M_less 264 = .ok (.iadd, 1) := by decide +kernel
theorem d_M_less_265 : decode b_M_less 265 = .ok (.iastore, 1) := by decide +kernel
theorem d_M_less_266 : decode b_M_less 266 = .ok (.aload_n 0, 1) := by decide +kernel
theorem d_M_less_267 : decode b_M_less 267 = .ok (.dup, 1) := by decide +kernel
theorem d_M_less_268 : decode b_M_less 268 = .ok (.getfield 218, 3) := by decide +kernel
theorem d_M_less_271 : decode b_M_less 271 = .ok (.iconst 1, 1) := by decide +kernel
theorem d_M_less_272 : decode b_M_less 272 = .ok (.iadd, 1) := by decide +kernel
theorem d_M_less_273 : decode b_M_less 273 = .ok (.putfield 218, 3) := by decide +kernel
theorem d_M_less_276 : decode b_M_less 276 = .ok (.iinc 5 (-1), 3) := by decide +kernel
theorem d_M_less_279 : decode b_M_less 279 = .ok (.goto (-81), 3) := by decide +kernel
theorem d_M_less_282 : decode b_M_less 282 = .ok (.goto (-249), 3) := by decide +kernel
theorem d_M_less_285 : decode b_M_less 285 = .ok (.iconst 1, 1) := by decide +kernel
theorem d_M_less_286 : decode b_M_less 286 = .ok (.ireturn, 1) := by decide +kernel
theorem d_M_step_0 : decode b_M_step 0 = .ok (.iload_n 1, 1) := by decide +kernel
theorem d_M_step_1 : decode b_M_step 1 = .ok (.tableswitch 48 0 2 #[27, 34, 41], 27) := by decide +kernel
theorem d_M_step_28 : decode b_M_step 28 = .ok (.aload_n 0, 1) := by decide +kernel
theorem d_M_step_29 : decode b_M_step 29 = .ok (.iload_n 2, 1) := by decide +kernel
theorem d_M_step_30 : decode b_M_step 30 = .ok (.iload_n 3, 1) := by decide +kernel
theorem d_M_step_31 : decode b_M_step 31 = .ok (.invokevirtual 237, 3) := by decide +kernel
theorem d_M_step_34 : decode b_M_step 34 = .ok (.ireturn, 1) := by decide +kernel
theorem d_M_step_35 : decode b_M_step 35 = .ok (.aload_n 0, 1) := by decide +kernel
theorem d_M_step_36 : decode b_M_step 36 = .ok (.iload_n 2, 1) := by decide +kernel
theorem d_M_step_37 : decode b_M_step 37 = .ok (.iload_n 3, 1) := by decide +kernel
theorem d_M_step_38 : decode b_M_step 38 = .ok (.invokevirtual 240, 3) := by decide +kernel
theorem d_M_step_41 : decode b_M_step 41 = .ok (.ireturn, 1) := by decide +kernel
theorem d_M_step_42 : decode b_M_step 42 = .ok (.aload_n 0, 1) := by decide +kernel
theorem d_M_step_43 : decode b_M_step 43 = .ok (.iload_n 2, 1) := by decide +kernel
theorem d_M_step_44 : decode b_M_step 44 = .ok (.iload_n 3, 1) := by decide +kernel
theorem d_M_step_45 : decode b_M_step 45 = .ok (.invokevirtual 243, 3) := by decide +kernel
theorem d_M_step_48 : decode b_M_step 48 = .ok (.ireturn, 1) := by decide +kernel
theorem d_M_step_49 : decode b_M_step 49 = .ok (.aload_n 0, 1) := by decide +kernel
theorem d_M_step_50 : decode b_M_step 50 = .ok (.iload_n 2, 1) := by decide +kernel
theorem d_M_step_51 : decode b_M_step 51 = .ok (.iload_n 3, 1) := by decide +kernel
theorem d_M_step_52 : decode b_M_step 52 = .ok (.invokevirtual 246, 3) := by decide +kernel
theorem d_M_step_55 : decode b_M_step 55 = .ok (.ireturn, 1) := by decide +kernel
theorem d_M_isWidened_0 : decode b_M_isWidened 0 = .ok (.iload_n 0, 1) := by decide +kernel
theorem d_M_isWidened_1 : decode b_M_isWidened 1 = .ok (.iload_n 1, 1) := by decide +kernel
theorem d_M_isWidened_2 : decode b_M_isWidened 2 = .ok (.if_icmp .eq 18, 3) := by decide +kernel
theorem d_M_isWidened_5 : decode b_M_isWidened 5 = .ok (.iload_n 0, 1) := by decide +kernel
theorem d_M_isWidened_6 : decode b_M_isWidened 6 = .ok (.iconst 1, 1) := by decide +kernel
theorem d_M_isWidened_7 : decode b_M_isWidened 7 = .ok (.if_icmp .lt 17, 3) := by decide +kernel
theorem d_M_isWidened_10 : decode b_M_isWidened 10 = .ok (.iload_n 1, 1) := by decide +kernel
theorem d_M_isWidened_11 : decode b_M_isWidened 11 = .ok (.iload_n 0, 1) := by decide +kernel
theorem d_M_isWidened_12 : decode b_M_isWidened 12 = .ok (.if_icmp .le 12, 3) := by decide +kernel
theorem d_M_isWidened_15 : decode b_M_isWidened 15 = .ok (.iload_n 1, 1) := by decide +kernel
theorem d_M_isWidened_16 : decode b_M_isWidened 16 = .ok (.iconst 3, 1) := by decide +kernel
theorem d_M_isWidened_17 : decode b_M_isWidened 17 = .ok (.if_icmp .eq 7, 3) := by decide +kernel
theorem d_M_isWidened_20 : decode b_M_isWidened 20 = .ok (.iconst 1, 1) := by decide +kernel
theorem d_M_isWidened_21 : decode b_M_isWidened 21 = .ok (.goto 4, 3) := by decide +kernel
theorem d_M_isWidened_24 : decode b_M_isWidened 24 = .ok (.iconst 0, 1) := by decide +kernel
theorem d_M_isWidened_25 : decode b_M_isWidened 25 = .ok (.ireturn, 1) := by decide +kernel
theorem d_M_boxOf_0 : decode b_M_boxOf 0 = .ok (.aload_n 0, 1) := by decide +kernel
theorem d_M_boxOf_1 : decode b_M_boxOf 1 = .ok (.aload_n 0, 1) := by decide +kernel
theorem d_M_boxOf_2 : decode b_M_boxOf 2 = .ok (.getfield 30, 3) := by decide +kernel
theorem d_M_boxOf_5 : decode b_M_boxOf 5 = .ok (.iload_n 1, 1) := by decide +kernel
theorem d_M_boxOf_6 : decode b_M_boxOf 6 = .ok (.iaload, 1) := by decide +kernel
theorem d_M_boxOf_7 : decode b_M_boxOf 7 = .ok (.iconst 1, 1) := by decide +kernel
theorem d_M_boxOf_8 : decode b_M_boxOf 8 = .ok (.iadd, 1) := by decide +kernel
theorem d_M_boxOf_9 : decode b_M_boxOf 9 = .ok (.invokevirtual 182, 3) := by decide +kernel
theorem d_M_boxOf_12 : decode b_M_boxOf 12 = .ok (.ireturn, 1) := by decide +kernel
theorem d_M_compatible_0 : decode b_M_compatible 0 = .ok (.aload_n 0, 1) := by decide +kernel
theorem d_M_compatible_1 : decode b_M_compatible 1 = .ok (.getfield 27, 3) := by decide +kernel
theorem d_M_compatible_4 : decode b_M_compatible 4 = .ok (.iload_n 1, 1) := by decide +kernel
theorem d_M_compatible_5 : decode b_M_compatible 5 = .ok (.iaload, 1) := by decide +kernel
theorem d_M_compatible_6 : decode b_M_compatible 6 = .ok (.iconst 5, 1) := by decide +kernel
theorem d_M_compatible_7 : decode b_M_compatible 7 = .ok (.if_icmp .ne 7, 3) := by decide +kernel
theorem d_M_compatible_10 : decode b_M_compatible 10 = .ok (.iconst 1, 1) := by decide +kernel
theorem d_M_compatible_11 : decode b_M_compatible 11 = .ok (.goto 4, 3) := by decide +kernel
theorem d_M_compatible_14 : decode b_M_compatible 14 = .ok (.iconst 0, 1) := by decide +kernel
theorem d_M_compatible_15 : decode b_M_compatible 15 = .ok (.istore_n 3, 1) := by decide +kernel
theorem d_M_compatible_16 : decode b_M_compatible 16 = .ok (.aload_n 0, 1) := by decide +kernel
theorem d_M_compatible_17 : decode b_M_compatible 17 = .ok (.getfield 27, 3) := by decide +kernel
theorem d_M_compatible_20 : decode b_M_compatible 20 = .ok (.iload_n 2, 1) := by decide +kernel
theorem d_M_compatible_21 : decode b_M_compatible 21 = .ok (.iaload, 1) := by decide +kernel
theorem d_M_compatible_22 : decode b_M_compatible 22 = .ok (.iconst 5, 1) := by decide +kernel
theorem d_M_compatible_23 : decode b_M_compatible 23 = .ok (.if_icmp .ne 7, 3) := by decide +kernel
theorem d_M_compatible_26 : decode b_M_compatible 26 = .ok (.iconst 1, 1) := by decide +kernel
theorem d_M_compatible_27 : decode b_M_compatible 27 = .ok (.goto 4, 3) := by decide +kernel
theorem d_M_compatible_30 : decode b_M_compatible 30 = .ok (.iconst 0, 1) := by decide +kernel
theorem d_M_compatible_31 : decode b_M_compatible 31 = .ok (.istore 4, 2) := by decide +kernel
theorem d_M_compatible_33 : decode b_M_compatible 33 = .ok (.aload_n 0, 1) := by decide +kernel
theorem d_M_compatible_34 : decode b_M_compatible 34 = .ok (.getfield 42, 3) := by decide +kernel
theorem d_M_compatible_37 : decode b_M_compatible 37 = .ok (.iload_n 1, 1) := by decide +kernel
theorem d_M_compatible_38 : decode b_M_compatible 38 = .ok (.baload, 1) := by decide +kernel
theorem d_M_compatible_39 : decode b_M_compatible 39 = .ok (.ifCond .eq 114, 3) := by decide +kernel
theorem d_M_compatible_42 : decode b_M_compatible 42 = .ok (.aload_n 0, 1) := by decide +kernel
theorem d_M_compatible_43 : decode b_M_compatible 43 = .ok (.getfield 42, 3) := by decide +kernel
theorem d_M_compatible_46 : decode b_M_compatible 46 = .ok (.iload_n 2, 1) := by decide +kernel
theorem d_M_compatible_47 : decode b_M_compatible 47 = .ok (.baload, 1) := by decide +kernel
theorem d_M_compatible_48 : decode b_M_compatible 48 = .ok (.ifCond .eq 105, 3) := by decide +kernel
theorem d_M_compatible_51 : decode b_M_compatible 51 = .ok (.iload_n 3, 1) := by decide +kernel
theorem d_M_compatible_52 : decode b_M_compatible 52 = .ok (.ifCond .eq 24, 3) := by decide +kernel
theorem d_M_compatible_55 : decode b_M_compatible 55 = .ok (.iload 4, 2) := by decide +kernel
theorem d_M_compatible_57 : decode b_M_compatible 57 = .ok (.ifCond .eq 19, 3) := by decide +kernel
theorem d_M_compatible_60 : decode b_M_compatible 60 = .ok (.aload_n 0, 1) := by decide +kernel
theorem d_M_compatible_61 : decode b_M_compatible 61 = .ok (.getfield 30, 3) := by decide +kernel
theorem d_M_compatible_64 : decode b_M_compatible 64 = .ok (.iload_n 1, 1) := by decide +kernel
theorem d_M_compatible_65 : decode b_M_compatible 65 = .ok (.iaload, 1) := by decide +kernel
theorem d_M_compatible_66 : decode b_M_compatible 66 = .ok (.aload_n 0, 1) := by decide +kernel
theorem d_M_compatible_67 : decode b_M_compatible 67 = .ok (.getfield 30, 3) := by decide +kernel
theorem d_M_compatible_70 : decode b_M_compatible 70 = .ok (.iload_n 2, 1) := by decide +kernel
theorem d_M_compatible_71 : decode b_M_compatible 71 = .ok (.iaload, 1) := by decide +kernel
theorem d_M_compatible_72 : decode b_M_compatible 72 = .ok (.invokestatic 249, 3) := by decide +kernel
theorem d_M_compatible_75 : decode b_M_compatible 75 = .ok (.ireturn, 1) := by decide +kernel
theorem d_M_compatible_76 : decode b_M_compatible 76 = .ok (.iload_n 3, 1) := by decide +kernel
theorem d_M_compatible_77 : decode b_M_compatible 77 = .ok (.ifCond .eq 15, 3) := by decide +kernel
theorem d_M_compatible_80 : decode b_M_compatible 80 = .ok (.aload_n 0, 1) := by decide +kernel
theorem d_M_compatible_81 : decode b_M_compatible 81 = .ok (.iconst 1, 1) := by decide +kernel
theorem d_M_compatible_82 : decode b_M_compatible 82 = .ok (.aload_n 0, 1) := by decide +kernel
theorem d_M_compatible_83 : decode b_M_compatible 83 = .ok (.iload_n 1, 1) := by decide +kernel
theorem d_M_compatible_84 : decode b_M_compatible 84 = .ok (.invokevirtual 252, 3) := by decide +kernel
theorem d_M_compatible_87 : decode b_M_compatible 87 = .ok (.iload_n 2, 1) := by decide +kernel
theorem d_M_compatible_88 : decode b_M_compatible 88 = .ok (.invokevirtual 255, 3) := by decide +kernel
theorem d_M_compatible_91 : decode b_M_compatible 91 = .ok (.ireturn, 1) := by decide +kernel
theorem d_M_compatible_92 : decode b_M_compatible 92 = .ok (.iload 4, 2) := by decide +kernel
theorem d_M_compatible_94 : decode b_M_compatible 94 = .ok (.ifCond .eq 92, 3) := by decide +kernel
theorem d_M_compatible_97 : decode b_M_compatible 97 = .ok (.aload_n 0, 1) := by decide +kernel
theorem d_M_compatible_98 : decode b_M_compatible 98 = .ok (.getfield 27, 3) := by decide +kernel
theorem d_M_compatible_101 : decode b_M_compatible 101 = .ok (.iload_n 1, 1) := by decide +kernel
theorem d_M_compatible_102 : decode b_M_compatible 102 = .ok (.iaload, 1) := by decide +kernel
theorem d_M_compatible_103 : decode b_M_compatible 103 = .ok (.ifCond .ne 48, 3) := by decide +kernel
theorem d_M_compatible_106 : decode b_M_compatible 106 = .ok (.aload_n 0, 1) := by decide +kernel
theorem d_M_compatible_107 : decode b_M_compatible 107 = .ok (.getfield 30, 3) := by decide +kernel
theorem d_M_compatible_110 : decode b_M_compatible 110 = .ok (.iload_n 1, 1) := by decide +kernel
theorem d_M_compatible_111 : decode b_M_compatible 111 = .ok (.iaload, 1) := by decide +kernel
theorem d_M_compatible_112 : decode b_M_compatible 112 = .ok (.iconst 1, 1) := by decide +kernel
theorem d_M_compatible_113 : decode b_M_compatible 113 = .ok (.if_icmp .lt 38, 3) := by decide +kernel
theorem d_M_compatible_116 : decode b_M_compatible 116 = .ok (.aload_n 0, 1) := by decide +kernel
theorem d_M_compatible_117 : decode b_M_compatible 117 = .ok (.getfield 30, 3) := by decide +kernel
theorem d_M_compatible_120 : decode b_M_compatible 120 = .ok (.iload_n 1, 1) := by decide +kernel
theorem d_M_compatible_121 : decode b_M_compatible 121 = .ok (.iaload, 1) := by decide +kernel
theorem d_M_compatible_122 : decode b_M_compatible 122 = .ok (.bipush 8, 2) := by decide +kernel
theorem d_M_compatible_124 : decode b_M_compatible 124 = .ok (.if_icmp .gt 27, 3) := by decide +kernel
theorem d_M_compatible_127 : decode b_M_compatible 127 = .ok (.aload_n 0, 1) := by decide +kernel
theorem d_M_compatible_128 : decode b_M_compatible 128 = .ok (.getfield 30, 3) := by decide +kernel
theorem d_M_compatible_131 : decode b_M_compatible 131 = .ok (.iload_n 1, 1) := by decide +kernel
theorem d_M_compatible_132 : decode b_M_compatible 132 = .ok (.iaload, 1) := by decide +kernel
theorem d_M_compatible_133 : decode b_M_compatible 133 = .ok (.iconst 1, 1) := by decide +kernel
theorem d_M_compatible_134 : decode b_M_compatible 134 = .ok (.isub, 1) := by decide +kernel
theorem d_M_compatible_135 : decode b_M_compatible 135 = .ok (.aload_n 0, 1) := by decide +kernel
theorem d_M_compatible_136 : decode b_M_compatible 136 = .ok (.getfield 30, 3) := by decide +kernel
theorem d_M_compatible_139 : decode b_M_compatible 139 = .ok (.iload_n 2, 1) := by decide +kernel
theorem d_M_compatible_140 : decode b_M_compatible 140 = .ok (.iaload, 1) := by decide +kernel
theorem d_M_compatible_141 : decode b_M_compatible 141 = .ok (.invokestatic 249, 3) := by decide +kernel
theorem d_M_compatible_144 : decode b_M_compatible 144 = .ok (.ifCond .eq 7, 3) := by decide +kernel
theorem d_M_compatible_147 : decode b_M_compatible 147 = .ok (.iconst 1, 1) := by decide +kernel
theorem d_M_compatible_148 : decode b_M_compatible 148 = .ok (.goto 4, 3) := by decide +kernel
theorem d_M_compatible_151 : decode b_M_compatible 151 = .ok (.iconst 0, 1) := by decide +kernel
theorem d_M_compatible_152 : decode b_M_compatible 152 = .ok (.ireturn, 1) := by decide +kernel
theorem d_M_compatible_153 : decode b_M_compatible 153 = .ok (.iload_n 3, 1) := by decide +kernel
theorem d_M_compatible_154 : decode b_M_compatible 154 = .ok (.ifCond .eq 15, 3) := by decide +kernel
theorem d_M_compatible_157 : decode b_M_compatible 157 = .ok (.aload_n 0, 1) := by decide +kernel
theorem d_M_compatible_158 : decode b_M_compatible 158 = .ok (.iconst 0, 1) := by decide +kernel
theorem d_M_compatible_159 : decode b_M_compatible 159 = .ok (.aload_n 0, 1) := by decide +kernel
theorem d_M_compatible_160 : decode b_M_compatible 160 = .ok (.iload_n 1, 1) := by decide +kernel
theorem d_M_compatible_161 : decode b_M_compatible 161 = .ok (.invokevirtual 252, 3) := by decide +kernel
theorem d_M_compatible_164 : decode b_M_compatible 164 = .ok (.iload_n 2, 1) := by decide +kernel
theorem d_M_compatible_165 : decode b_M_compatible 165 = .ok (.invokevirtual 255, 3) := by decide +kernel
theorem d_M_compatible_168 : decode b_M_compatible 168 = .ok (.ireturn, 1) := by decide +kernel
theorem d_M_compatible_169 : decode b_M_compatible 169 = .ok (.iload 4, 2) := by decide +kernel
theorem d_M_compatible_171 : decode b_M_compatible 171 = .ok (.ifCond .eq 15, 3) := by decide +kernel
theorem d_M_compatible_174 : decode b_M_compatible 174 = .ok (.aload_n 0, 1) := by decide +kernel
theorem d_M_compatible_175 : decode b_M_compatible 175 = .ok (.iconst 3, 1) := by decide +kernel
theorem d_M_compatible_176 : decode b_M_compatible 176 = .ok (.iload_n 1, 1) := by decide +kernel
theorem d_M_compatible_177 : decode b_M_compatible 177 = .ok (.aload_n 0, 1) := by decide +kernel
theorem d_M_compatible_178 : decode b_M_compatible 178 = .ok (.iload_n 2, 1) := by decide +kernel
theorem d_M_compatible_179 : decode b_M_compatible 179 = .ok (.invokevirtual 252, 3) := by decide +kernel
theorem d_M_compatible_182 : decode b_M_compatible 182 = .ok (.invokevirtual 255, 3) := by decide +kernel
theorem d_M_compatible_185 : decode b_M_compatible 185 = .ok (.ireturn, 1) := by decide +kernel
theorem d_M_compatible_186 : decode b_M_compatible 186 = .ok (.aload_n 0, 1) := by decide +kernel
theorem d_M_compatible_187 : decode b_M_compatible 187 = .ok (.getfield 27, 3) := by decide +kernel
theorem d_M_compatible_190 : decode b_M_compatible 190 = .ok (.iload_n 2, 1) := by decide +kernel
theorem d_M_compatible_191 : decode b_M_compatible 191 = .ok (.iaload, 1) := by decide +kernel
theorem d_M_compatible_192 : decode b_M_compatible 192 = .ok (.iconst 1, 1) := by decide +kernel
theorem d_M_compatible_193 : decode b_M_compatible 193 = .ok (.if_icmp .ne 39, 3) := by decide +kernel
theorem d_M_compatible_196 : decode b_M_compatible 196 = .ok (.aload_n 0, 1) := by decide +kernel
theorem d_M_compatible_197 : decode b_M_compatible 197 = .ok (.iload_n 1, 1) := by decide +kernel
theorem d_M_compatible_198 : decode b_M_compatible 198 = .ok (.aload_n 0, 1) := by decide +kernel
theorem d_M_compatible_199 : decode b_M_compatible 199 = .ok (.getfield 30, 3) := by decide +kernel
theorem d_M_compatible_202 : decode b_M_compatible 202 = .ok (.iload_n 2, 1) := by decide +kernel
theorem d_M_compatible_203 : decode b_M_compatible 203 = .ok (.iaload, 1) := by decide +kernel
theorem d_M_compatible_204 : decode b_M_compatible 204 = .ok (.invokevirtual 212, 3) := by decide +kernel
theorem d_M_compatible_207 : decode b_M_compatible 207 = .ok (.istore 5, 2) := by decide +kernel
theorem d_M_compatible_209 : decode b_M_compatible 209 = .ok (.iload 5, 2) := by decide +kernel
theorem d_M_compatible_211 : decode b_M_compatible 211 = .ok (.iconst (-1), 1) := by decide +kernel
theorem d_M_compatible_212 : decode b_M_compatible 212 = .ok (.if_icmp .eq 20, 3) := by decide +kernel
theorem d_M_compatible_215 : decode b_M_compatible 215 = .ok (.aload_n 0, 1) := by decide +kernel
theorem d_M_compatible_216 : decode b_M_compatible 216 = .ok (.getfield 27, 3) := by decide +kernel
theorem d_M_compatible_219 : decode b_M_compatible 219 = .ok (.iload 5, 2) := by decide +kernel
theorem d_M_compatible_221 : decode b_M_compatible 221 = .ok (.iaload, 1) := by decide +kernel
theorem d_M_compatible_222 : decode b_M_compatible 222 = .ok (.ifCond .ne 10, 3) := by decide +kernel
theorem d_M_compatible_225 : decode b_M_compatible 225 = .ok (.aload_n 0, 1) := by decide +kernel
theorem d_M_compatible_226 : decode b_M_compatible 226 = .ok (.iconst 1, 1) := by decide +kernel
theorem d_M_compatible_227 : decode b_M_compatible 227 = .ok (.putfield 258, 3) := by decide +kernel
theorem d_M_compatible_230 : decode b_M_compatible 230 = .ok (.iconst 1, 1) := by decide +kernel
theorem d_M_compatible_231 : decode b_M_compatible 231 = .ok (.ireturn, 1) := by decide +kernel
theorem d_M_compatible_232 : decode b_M_compatible 232 = .ok (.aload_n 0, 1) := by decide +kernel
theorem d_M_compatible_233 : decode b_M_compatible 233 = .ok (.iconst 1, 1) := by decide +kernel
theorem d_M_compatible_234 : decode b_M_compatible 234 = .ok (.iload_n 1, 1) := by decide +kernel
theorem d_M_compatible_235 : decode b_M_compatible 235 = .ok (.iload_n 2, 1) := by decide +kernel
theorem d_M_compatible_236 : decode b_M_compatible 236 = .ok (.invokevirtual 255, 3) := by decide +kernel
theorem d_M_compatible_239 : decode b_M_compatible 239 = .ok (.ireturn, 1) := by decide +kernel
