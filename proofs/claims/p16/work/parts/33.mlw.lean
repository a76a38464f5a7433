theorem dX8_readItem_0 : decode cX8_readItem 0 = .ok (.aload_n 0, 1) := by decide +kernel
theorem dX8_readItem_1 : decode cX8_readItem 1 = .ok (.iconst 1, 1) := by decide +kernel
theorem dX8_readItem_2 : decode cX8_readItem 2 = .ok (.invokevirtual 183, 3) := by decide +kernel
theorem dX8_readItem_5 : decode cX8_readItem 5 = .ok (.istore 4, 2) := by decide +kernel
theorem dX8_readItem_7 : decode cX8_readItem 7 = .ok (.iload 4, 2) := by decide +kernel
theorem dX8_readItem_9 : decode cX8_readItem 9 = .ok (.iconst (-1), 1) := by decide +kernel
theorem dX8_readItem_10 : decode cX8_readItem 10 = .ok (.if_icmp .eq 7, 3) := by decide +kernel
theorem dX8_readItem_13 : decode cX8_readItem 13 = .ok (.iconst 0, 1) := by decide +kernel
theorem dX8_readItem_14 : decode cX8_readItem 14 = .ok (.goto 10, 3) := by decide +kernel
theorem dX8_readItem_17 : decode cX8_readItem 17 = .ok (.aload_n 0, 1) := by decide +kernel
theorem dX8_readItem_18 : decode cX8_readItem 18 = .ok (.invokevirtual 176, 3) := by decide +kernel
theorem dX8_readItem_21 : decode cX8_readItem 21 = .ok (.invokestatic 201, 3) := by decide +kernel
theorem dX8_readItem_24 : decode cX8_readItem 24 = .ok (.istore 5, 2) := by decide +kernel
theorem dX8_readItem_26 : decode cX8_readItem 26 = .ok (.iload 5, 2) := by decide +kernel
theorem dX8_readItem_28 : decode cX8_readItem 28 = .ok (.iconst (-1), 1) := by decide +kernel
theorem dX8_readItem_29 : decode cX8_readItem 29 = .ok (.if_icmp .ne 8, 3) := by decide +kernel
theorem dX8_readItem_32 : decode cX8_readItem 32 = .ok (.aload_n 0, 1) := by decide +kernel
theorem dX8_readItem_33 : decode cX8_readItem 33 = .ok (.iconst 1, 1) := by decide +kernel
theorem dX8_readItem_34 : decode cX8_readItem 34 = .ok (.invokevirtual 180, 3) := by decide +kernel
theorem dX8_readItem_37 : decode cX8_readItem 37 = .ok (.aload_n 0, 1) := by decide +kernel
theorem dX8_readItem_38 : decode cX8_readItem 38 = .ok (.invokevirtual 172, 3) := by decide +kernel
theorem dX8_readItem_41 : decode cX8_readItem 41 = .ok (.ifCond .eq 29, 3) := by decide +kernel
theorem dX8_readItem_44 : decode cX8_readItem 44 = .ok (.iload 5, 2) := by decide +kernel
theorem dX8_readItem_46 : decode cX8_readItem 46 = .ok (.bipush 6, 2) := by decide +kernel
theorem dX8_readItem_48 : decode cX8_readItem 48 = .ok (.if_icmp .eq 22, 3) := by decide +kernel
theorem dX8_readItem_51 : decode cX8_readItem 51 = .ok (.aload_n 0, 1) := by decide +kernel
theorem dX8_readItem_52 : decode cX8_readItem 52 = .ok (.getfield 23, 3) := by decide +kernel
theorem dX8_readItem_55 : decode cX8_readItem 55 = .ok (.aload_n 0, 1) := by decide +kernel
theorem dX8_readItem_56 : decode cX8_readItem 56 = .ok (.getfield 187, 3) := by decide +kernel
theorem dX8_readItem_59 : decode cX8_readItem 59 = .ok (.iaload, 1) := by decide +kernel
theorem dX8_readItem_60 : decode cX8_readItem 60 = .ok (.bipush 40, 2) := by decide +kernel
theorem dX8_readItem_62 : decode cX8_readItem 62 = .ok (.if_icmp .ne 8, 3) := by decide +kernel
theorem dX8_readItem_65 : decode cX8_readItem 65 = .ok (.aload_n 0, 1) := by decide +kernel
theorem dX8_readItem_66 : decode cX8_readItem 66 = .ok (.iconst 4, 1) := by decide +kernel
theorem dX8_readItem_67 : decode cX8_readItem 67 = .ok (.invokevirtual 180, 3) := by decide +kernel
theorem dX8_readItem_70 : decode cX8_readItem 70 = .ok (.aload_n 0, 1) := by decide +kernel
theorem dX8_readItem_71 : decode cX8_readItem 71 = .ok (.invokevirtual 172, 3) := by decide +kernel
theorem dX8_readItem_74 : decode cX8_readItem 74 = .ok (.ifCond .ne 4, 3) := by decide +kernel
theorem dX8_readItem_77 : decode cX8_readItem 77 = .ok (.return_, 1) := by decide +kernel
theorem dX8_readItem_78 : decode cX8_readItem 78 = .ok (.sipush 130, 3) := by decide +kernel
theorem dX8_readItem_81 : decode cX8_readItem 81 = .ok (.aload_n 0, 1) := by decide +kernel
theorem dX8_readItem_82 : decode cX8_readItem 82 = .ok (.getfield 187, 3) := by decide +kernel
theorem dX8_readItem_85 : decode cX8_readItem 85 = .ok (.imul, 1) := by decide +kernel
theorem dX8_readItem_86 : decode cX8_readItem 86 = .ok (.aload_n 0, 1) := by decide +kernel
theorem dX8_readItem_87 : decode cX8_readItem 87 = .ok (.getfield 16, 3) := by decide +kernel
theorem dX8_readItem_90 : decode cX8_readItem 90 = .ok (.aload_n 0, 1) := by decide +kernel
theorem dX8_readItem_91 : decode cX8_readItem 91 = .ok (.getfield 187, 3) := by decide +kernel
theorem dX8_readItem_94 : decode cX8_readItem 94 = .ok (.iaload, 1) := by decide +kernel
theorem dX8_readItem_95 : decode cX8_readItem 95 = .ok (.iadd, 1) := by decide +kernel
theorem dX8_readItem_96 : decode cX8_readItem 96 = .ok (.istore 6, 2) := by decide +kernel
theorem dX8_readItem_98 : decode cX8_readItem 98 = .ok (.aload_n 0, 1) := by decide +kernel
theorem dX8_readItem_99 : decode cX8_readItem 99 = .ok (.getfield 16, 3) := by decide +kernel
theorem dX8_readItem_102 : decode cX8_readItem 102 = .ok (.aload_n 0, 1) := by decide +kernel
theorem dX8_readItem_103 : decode cX8_readItem 103 = .ok (.getfield 187, 3) := by decide +kernel
theorem dX8_readItem_106 : decode cX8_readItem 106 = .ok (.dup2, 1) := by decide +kernel
theorem dX8_readItem_107 : decode cX8_readItem 107 = .ok (.iaload, 1) := by decide +kernel
theorem dX8_readItem_108 : decode cX8_readItem 108 = .ok (.iconst 1, 1) := by decide +kernel
theorem dX8_readItem_109 : decode cX8_readItem 109 = .ok (.iadd, 1) := by decide +kernel
theorem dX8_readItem_110 : decode cX8_readItem 110 = .ok (.iastore, 1) := by decide +kernel
theorem dX8_readItem_111 : decode cX8_readItem 111 = .ok (.aload_n 0, 1) := by decide +kernel
theorem dX8_readItem_112 : decode cX8_readItem 112 = .ok (.getfield 29, 3) := by decide +kernel
theorem dX8_readItem_115 : decode cX8_readItem 115 = .ok (.iload 6, 2) := by decide +kernel
theorem dX8_readItem_117 : decode cX8_readItem 117 = .ok (.iload 5, 2) := by decide +kernel
theorem dX8_readItem_119 : decode cX8_readItem 119 = .ok (.iastore, 1) := by decide +kernel
theorem dX8_readItem_120 : decode cX8_readItem 120 = .ok (.aload_n 0, 1) := by decide +kernel
theorem dX8_readItem_121 : decode cX8_readItem 121 = .ok (.getfield 32, 3) := by decide +kernel
theorem dX8_readItem_124 : decode cX8_readItem 124 = .ok (.iload 6, 2) := by decide +kernel
theorem dX8_readItem_126 : decode cX8_readItem 126 = .ok (.iconst (-1), 1) := by decide +kernel
theorem dX8_readItem_127 : decode cX8_readItem 127 = .ok (.iastore, 1) := by decide +kernel
theorem dX8_readItem_128 : decode cX8_readItem 128 = .ok (.aload_n 0, 1) := by decide +kernel
theorem dX8_readItem_129 : decode cX8_readItem 129 = .ok (.getfield 35, 3) := by decide +kernel
theorem dX8_readItem_132 : decode cX8_readItem 132 = .ok (.iload 6, 2) := by decide +kernel
theorem dX8_readItem_134 : decode cX8_readItem 134 = .ok (.iload_n 2, 1) := by decide +kernel
theorem dX8_readItem_135 : decode cX8_readItem 135 = .ok (.iastore, 1) := by decide +kernel
theorem dX8_readItem_136 : decode cX8_readItem 136 = .ok (.aload_n 0, 1) := by decide +kernel
theorem dX8_readItem_137 : decode cX8_readItem 137 = .ok (.getfield 38, 3) := by decide +kernel
theorem dX8_readItem_140 : decode cX8_readItem 140 = .ok (.iload 6, 2) := by decide +kernel
theorem dX8_readItem_142 : decode cX8_readItem 142 = .ok (.iload_n 3, 1) := by decide +kernel
theorem dX8_readItem_143 : decode cX8_readItem 143 = .ok (.iastore, 1) := by decide +kernel
theorem dX8_readItem_144 : decode cX8_readItem 144 = .ok (.aload_n 0, 1) := by decide +kernel
theorem dX8_readItem_145 : decode cX8_readItem 145 = .ok (.getfield 41, 3) := by decide +kernel
theorem dX8_readItem_148 : decode cX8_readItem 148 = .ok (.iload 6, 2) := by decide +kernel
theorem dX8_readItem_150 : decode cX8_readItem 150 = .ok (.aload_n 0, 1) := by decide +kernel
theorem dX8_readItem_151 : decode cX8_readItem 151 = .ok (.getfield 163, 3) := by decide +kernel
theorem dX8_readItem_154 : decode cX8_readItem 154 = .ok (.iastore, 1) := by decide +kernel
theorem dX8_readItem_155 : decode cX8_readItem 155 = .ok (.aload_n 0, 1) := by decide +kernel
theorem dX8_readItem_156 : decode cX8_readItem 156 = .ok (.getfield 44, 3) := by decide +kernel
theorem dX8_readItem_159 : decode cX8_readItem 159 = .ok (.iload 6, 2) := by decide +kernel
theorem dX8_readItem_161 : decode cX8_readItem 161 = .ok (.iload 4, 2) := by decide +kernel
theorem dX8_readItem_163 : decode cX8_readItem 163 = .ok (.iastore, 1) := by decide +kernel
theorem dX8_readItem_164 : decode cX8_readItem 164 = .ok (.aload_n 0, 1) := by decide +kernel
theorem dX8_readItem_165 : decode cX8_readItem 165 = .ok (.getfield 47, 3) := by decide +kernel
theorem dX8_readItem_168 : decode cX8_readItem 168 = .ok (.iload 6, 2) := by decide +kernel
theorem dX8_readItem_170 : decode cX8_readItem 170 = .ok (.iconst 0, 1) := by decide +kernel
theorem dX8_readItem_171 : decode cX8_readItem 171 = .ok (.iastore, 1) := by decide +kernel
theorem dX8_readItem_172 : decode cX8_readItem 172 = .ok (.aload_n 0, 1) := by decide +kernel
theorem dX8_readItem_173 : decode cX8_readItem 173 = .ok (.getfield 50, 3) := by decide +kernel
theorem dX8_readItem_176 : decode cX8_readItem 176 = .ok (.iload 6, 2) := by decide +kernel
theorem dX8_readItem_178 : decode cX8_readItem 178 = .ok (.bipush (-2), 2) := by decide +kernel
theorem dX8_readItem_180 : decode cX8_readItem 180 = .ok (.iastore, 1) := by decide +kernel
theorem dX8_readItem_181 : decode cX8_readItem 181 = .ok (.aload_n 0, 1) := by decide +kernel
theorem dX8_readItem_182 : decode cX8_readItem 182 = .ok (.getfield 53, 3) := by decide +kernel
theorem dX8_readItem_185 : decode cX8_readItem 185 = .ok (.iload 6, 2) := by decide +kernel
theorem dX8_readItem_187 : decode cX8_readItem 187 = .ok (.iconst (-1), 1) := by decide +kernel
theorem dX8_readItem_188 : decode cX8_readItem 188 = .ok (.iastore, 1) := by decide +kernel
theorem dX8_readItem_189 : decode cX8_readItem 189 = .ok (.aload_n 0, 1) := by decide +kernel
theorem dX8_readItem_190 : decode cX8_readItem 190 = .ok (.getfield 56, 3) := by decide +kernel
theorem dX8_readItem_193 : decode cX8_readItem 193 = .ok (.iload 6, 2) := by decide +kernel
theorem dX8_readItem_195 : decode cX8_readItem 195 = .ok (.iconst (-1), 1) := by decide +kernel
theorem dX8_readItem_196 : decode cX8_readItem 196 = .ok (.iastore, 1) := by decide +kernel
theorem dX8_readItem_197 : decode cX8_readItem 197 = .ok (.aload_n 0, 1) := by decide +kernel
theorem dX8_readItem_198 : decode cX8_readItem 198 = .ok (.getfield 59, 3) := by decide +kernel
theorem dX8_readItem_201 : decode cX8_readItem 201 = .ok (.iload 6, 2) := by decide +kernel
theorem dX8_readItem_203 : decode cX8_readItem 203 = .ok (.iconst (-1), 1) := by decide +kernel
theorem dX8_readItem_204 : decode cX8_readItem 204 = .ok (.iastore, 1) := by decide +kernel
theorem dX8_readItem_205 : decode cX8_readItem 205 = .ok (.aload_n 0, 1) := by decide +kernel
theorem dX8_readItem_206 : decode cX8_readItem 206 = .ok (.getfield 62, 3) := by decide +kernel
theorem dX8_readItem_209 : decode cX8_readItem 209 = .ok (.iload 6, 2) := by decide +kernel
theorem dX8_readItem_211 : decode cX8_readItem 211 = .ok (.iload_n 1, 1) := by decide +kernel
theorem dX8_readItem_212 : decode cX8_readItem 212 = .ok (.iastore, 1) := by decide +kernel
theorem dX8_readItem_213 : decode cX8_readItem 213 = .ok (.aload_n 0, 1) := by decide +kernel
theorem dX8_readItem_214 : decode cX8_readItem 214 = .ok (.getfield 65, 3) := by decide +kernel
theorem dX8_readItem_217 : decode cX8_readItem 217 = .ok (.iconst 2, 1) := by decide +kernel
theorem dX8_readItem_218 : decode cX8_readItem 218 = .ok (.iload 6, 2) := by decide +kernel
theorem dX8_readItem_220 : decode cX8_readItem 220 = .ok (.imul, 1) := by decide +kernel
theorem dX8_readItem_221 : decode cX8_readItem 221 = .ok (.iconst 0, 1) := by decide +kernel
theorem dX8_readItem_222 : decode cX8_readItem 222 = .ok (.iastore, 1) := by decide +kernel
theorem dX8_readItem_223 : decode cX8_readItem 223 = .ok (.aload_n 0, 1) := by decide +kernel
theorem dX8_readItem_224 : decode cX8_readItem 224 = .ok (.getfield 65, 3) := by decide +kernel
theorem dX8_readItem_227 : decode cX8_readItem 227 = .ok (.iconst 2, 1) := by decide +kernel
theorem dX8_readItem_228 : decode cX8_readItem 228 = .ok (.iload 6, 2) := by decide +kernel
theorem dX8_readItem_230 : decode cX8_readItem 230 = .ok (.imul, 1) := by decide +kernel
theorem dX8_readItem_231 : decode cX8_readItem 231 = .ok (.iconst 1, 1) := by decide +kernel
theorem dX8_readItem_232 : decode cX8_readItem 232 = .ok (.iadd, 1) := by decide +kernel
theorem dX8_readItem_233 : decode cX8_readItem 233 = .ok (.iconst 0, 1) := by decide +kernel
theorem dX8_readItem_234 : decode cX8_readItem 234 = .ok (.iastore, 1) := by decide +kernel
theorem dX8_readItem_235 : decode cX8_readItem 235 = .ok (.iload 5, 2) := by decide +kernel
theorem dX8_readItem_237 : decode cX8_readItem 237 = .ok (.bipush 6, 2) := by decide +kernel
theorem dX8_readItem_239 : decode cX8_readItem 239 = .ok (.if_icmp .eq 56, 3) := by decide +kernel
theorem dX8_readItem_242 : decode cX8_readItem 242 = .ok (.aload_n 0, 1) := by decide +kernel
theorem dX8_readItem_243 : decode cX8_readItem 243 = .ok (.getfield 32, 3) := by decide +kernel
theorem dX8_readItem_246 : decode cX8_readItem 246 = .ok (.iload 6, 2) := by decide +kernel
theorem dX8_readItem_248 : decode cX8_readItem 248 = .ok (.aload_n 0, 1) := by decide +kernel
theorem dX8_readItem_249 : decode cX8_readItem 249 = .ok (.getfield 23, 3) := by decide +kernel
theorem dX8_readItem_252 : decode cX8_readItem 252 = .ok (.aload_n 0, 1) := by decide +kernel
theorem dX8_readItem_253 : decode cX8_readItem 253 = .ok (.getfield 187, 3) := by decide +kernel
theorem dX8_readItem_256 : decode cX8_readItem 256 = .ok (.iaload, 1) := by decide +kernel
theorem dX8_readItem_257 : decode cX8_readItem 257 = .ok (.iastore, 1) := by decide +kernel
theorem dX8_readItem_258 : decode cX8_readItem 258 = .ok (.aload_n 0, 1) := by decide +kernel
theorem dX8_readItem_259 : decode cX8_readItem 259 = .ok (.getfield 77, 3) := by decide +kernel
theorem dX8_readItem_262 : decode cX8_readItem 262 = .ok (.bipush 40, 2) := by decide +kernel
theorem dX8_readItem_264 : decode cX8_readItem 264 = .ok (.aload_n 0, 1) := by decide +kernel
theorem dX8_readItem_265 : decode cX8_readItem 265 = .ok (.getfield 187, 3) := by decide +kernel
theorem dX8_readItem_268 : decode cX8_readItem 268 = .ok (.imul, 1) := by decide +kernel
theorem dX8_readItem_269 : decode cX8_readItem 269 = .ok (.aload_n 0, 1) := by decide +kernel
theorem dX8_readItem_270 : decode cX8_readItem 270 = .ok (.getfield 23, 3) := by decide +kernel
theorem dX8_readItem_273 : decode cX8_readItem 273 = .ok (.aload_n 0, 1) := by decide +kernel
theorem dX8_readItem_274 : decode cX8_readItem 274 = .ok (.getfield 187, 3) := by decide +kernel
theorem dX8_readItem_277 : decode cX8_readItem 277 = .ok (.iaload, 1) := by decide +kernel
theorem dX8_readItem_278 : decode cX8_readItem 278 = .ok (.iadd, 1) := by decide +kernel
theorem dX8_readItem_279 : decode cX8_readItem 279 = .ok (.iload 6, 2) := by decide +kernel
theorem dX8_readItem_281 : decode cX8_readItem 281 = .ok (.iastore, 1) := by decide +kernel
theorem dX8_readItem_282 : decode cX8_readItem 282 = .ok (.aload_n 0, 1) := by decide +kernel
theorem dX8_readItem_283 : decode cX8_readItem 283 = .ok (.getfield 23, 3) := by decide +kernel
theorem dX8_readItem_286 : decode cX8_readItem 286 = .ok (.aload_n 0, 1) := by decide +kernel
theorem dX8_readItem_287 : decode cX8_readItem 287 = .ok (.getfield 187, 3) := by decide +kernel
theorem dX8_readItem_290 : decode cX8_readItem 290 = .ok (.dup2, 1) := by decide +kernel
theorem dX8_readItem_291 : decode cX8_readItem 291 = .ok (.iaload, 1) := by decide +kernel
theorem dX8_readItem_292 : decode cX8_readItem 292 = .ok (.iconst 1, 1) := by decide +kernel
theorem dX8_readItem_293 : decode cX8_readItem 293 = .ok (.iadd, 1) := by decide +kernel
theorem dX8_readItem_294 : decode cX8_readItem 294 = .ok (.iastore, 1) := by decide +kernel
theorem dX8_readItem_295 : decode cX8_readItem 295 = .ok (.aload_n 0, 1) := by decide +kernel
theorem dX8_readItem_296 : decode cX8_readItem 296 = .ok (.getfield 68, 3) := by decide +kernel
theorem dX8_readItem_299 : decode cX8_readItem 299 = .ok (.iload_n 1, 1) := by decide +kernel
theorem dX8_readItem_300 : decode cX8_readItem 300 = .ok (.iaload, 1) := by decide +kernel
theorem dX8_readItem_301 : decode cX8_readItem 301 = .ok (.iconst (-1), 1) := by decide +kernel
theorem dX8_readItem_302 : decode cX8_readItem 302 = .ok (.if_icmp .ne 14, 3) := by decide +kernel
theorem dX8_readItem_305 : decode cX8_readItem 305 = .ok (.aload_n 0, 1) := by decide +kernel
theorem dX8_readItem_306 : decode cX8_readItem 306 = .ok (.getfield 68, 3) := by decide +kernel
theorem dX8_readItem_309 : decode cX8_readItem 309 = .ok (.iload_n 1, 1) := by decide +kernel
theorem dX8_readItem_310 : decode cX8_readItem 310 = .ok (.iload 6, 2) := by decide +kernel
theorem dX8_readItem_312 : decode cX8_readItem 312 = .ok (.iastore, 1) := by decide +kernel
theorem dX8_readItem_313 : decode cX8_readItem 313 = .ok (.goto 16, 3) := by decide +kernel
theorem dX8_readItem_316 : decode cX8_readItem 316 = .ok (.aload_n 0, 1) := by decide +kernel
theorem dX8_readItem_317 : decode cX8_readItem 317 = .ok (.getfield 59, 3) := by decide +kernel
theorem dX8_readItem_320 : decode cX8_readItem 320 = .ok (.aload_n 0, 1) := by decide +kernel
theorem dX8_readItem_321 : decode cX8_readItem 321 = .ok (.getfield 71, 3) := by decide +kernel
theorem dX8_readItem_324 : decode cX8_readItem 324 = .ok (.iload_n 1, 1) := by decide +kernel
theorem dX8_readItem_325 : decode cX8_readItem 325 = .ok (.iaload, 1) := by decide +kernel
theorem dX8_readItem_326 : decode cX8_readItem 326 = .ok (.iload 6, 2) := by decide +kernel
theorem dX8_readItem_328 : decode cX8_readItem 328 = .ok (.iastore, 1) := by decide +kernel
theorem dX8_readItem_329 : decode cX8_readItem 329 = .ok (.aload_n 0, 1) := by decide +kernel
theorem dX8_readItem_330 : decode cX8_readItem 330 = .ok (.getfield 71, 3) := by decide +kernel
theorem dX8_readItem_333 : decode cX8_readItem 333 = .ok (.iload_n 1, 1) := by decide +kernel
theorem dX8_readItem_334 : decode cX8_readItem 334 = .ok (.iload 6, 2) := by decide +kernel
theorem dX8_readItem_336 : decode cX8_readItem 336 = .ok (.iastore, 1) := by decide +kernel
theorem dX8_readItem_337 : decode cX8_readItem 337 = .ok (.aload_n 0, 1) := by decide +kernel
theorem dX8_readItem_338 : decode cX8_readItem 338 = .ok (.dup, 1) := by decide +kernel
theorem dX8_readItem_339 : decode cX8_readItem 339 = .ok (.getfield 163, 3) := by decide +kernel
theorem dX8_readItem_342 : decode cX8_readItem 342 = .ok (.iconst 1, 1) := by decide +kernel
theorem dX8_readItem_343 : decode cX8_readItem 343 = .ok (.iadd, 1) := by decide +kernel
theorem dX8_readItem_344 : decode cX8_readItem 344 = .ok (.putfield 163, 3) := by decide +kernel
theorem dX8_readItem_347 : decode cX8_readItem 347 = .ok (.iload 5, 2) := by decide +kernel
theorem dX8_readItem_349 : decode cX8_readItem 349 = .ok (.ifCond .ne 14, 3) := by decide +kernel
theorem dX8_readItem_352 : decode cX8_readItem 352 = .ok (.aload_n 0, 1) := by decide +kernel
theorem dX8_readItem_353 : decode cX8_readItem 353 = .ok (.iload 6, 2) := by decide +kernel
theorem dX8_readItem_355 : decode cX8_readItem 355 = .ok (.iload 4, 2) := by decide +kernel
theorem dX8_readItem_357 : decode cX8_readItem 357 = .ok (.invokevirtual 205, 3) := by decide +kernel
theorem dX8_readItem_360 : decode cX8_readItem 360 = .ok (.goto 50, 3) := by decide +kernel
theorem dX8_readItem_363 : decode cX8_readItem 363 = .ok (.iload 5, 2) := by decide +kernel
theorem dX8_readItem_365 : decode cX8_readItem 365 = .ok (.iconst 2, 1) := by decide +kernel
theorem dX8_readItem_366 : decode cX8_readItem 366 = .ok (.if_icmp .eq 9, 3) := by decide +kernel
theorem dX8_readItem_369 : decode cX8_readItem 369 = .ok (.iload 5, 2) := by decide +kernel
theorem dX8_readItem_371 : decode cX8_readItem 371 = .ok (.iconst 3, 1) := by decide +kernel
theorem dX8_readItem_372 : decode cX8_readItem 372 = .ok (.if_icmp .ne 14, 3) := by decide +kernel
theorem dX8_readItem_375 : decode cX8_readItem 375 = .ok (.aload_n 0, 1) := by decide +kernel
theorem dX8_readItem_376 : decode cX8_readItem 376 = .ok (.iload 6, 2) := by decide +kernel
theorem dX8_readItem_378 : decode cX8_readItem 378 = .ok (.iload_n 2, 1) := by decide +kernel
theorem dX8_readItem_379 : decode cX8_readItem 379 = .ok (.iload_n 3, 1) := by decide +kernel
theorem dX8_readItem_380 : decode cX8_readItem 380 = .ok (.invokevirtual 209, 3) := by decide +kernel
theorem dX8_readItem_383 : decode cX8_readItem 383 = .ok (.goto 27, 3) := by decide +kernel
theorem dX8_readItem_386 : decode cX8_readItem 386 = .ok (.iload 5, 2) := by decide +kernel
theorem dX8_readItem_388 : decode cX8_readItem 388 = .ok (.bipush 6, 2) := by decide +kernel
theorem dX8_readItem_390 : decode cX8_readItem 390 = .ok (.if_icmp .ne 14, 3) := by decide +kernel
theorem dX8_readItem_393 : decode cX8_readItem 393 = .ok (.aload_n 0, 1) := by decide +kernel
theorem dX8_readItem_394 : decode cX8_readItem 394 = .ok (.iload 6, 2) := by decide +kernel
theorem dX8_readItem_396 : decode cX8_readItem 396 = .ok (.iload_n 2, 1) := by decide +kernel
theorem dX8_readItem_397 : decode cX8_readItem 397 = .ok (.iload_n 3, 1) := by decide +kernel
theorem dX8_readItem_398 : decode cX8_readItem 398 = .ok (.invokevirtual 212, 3) := by decide +kernel
theorem dX8_readItem_401 : decode cX8_readItem 401 = .ok (.goto 9, 3) := by decide +kernel
theorem dX8_readItem_404 : decode cX8_readItem 404 = .ok (.aload_n 0, 1) := by decide +kernel
theorem dX8_readItem_405 : decode cX8_readItem 405 = .ok (.iload 6, 2) := by decide +kernel
theorem dX8_readItem_407 : decode cX8_readItem 407 = .ok (.invokevirtual 215, 3) := by decide +kernel
theorem dX8_readItem_410 : decode cX8_readItem 410 = .ok (.return_, 1) := by decide +kernel
