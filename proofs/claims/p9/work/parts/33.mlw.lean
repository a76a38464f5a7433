theorem dX8_readItem_0 : decode cX8_readItem 0 = .ok (.aload_n 0, 1) := by decide +kernel
theorem dX8_readItem_1 : decode cX8_readItem 1 = .ok (.iconst 1, 1) := by decide +kernel
theorem dX8_readItem_2 : decode cX8_readItem 2 = .ok (.invokevirtual 183, 3) := by decide +kernel
theorem dX8_readItem_5 : decode cX8_readItem 5 = .ok (.istore 4, 2) := by decide +kernel
theorem dX8_readItem_7 : decode cX8_readItem 7 = .ok (.iload 4, 2) := by decide +kernel
theorem dX8_readItem_9 : decode cX8_readItem 9 = .ok (.iconst (-1), 1) := by decide +kernel
theorem dX8_readItem_10 : decode cX8_readItem 10 = .ok (.if_icmp .eq 7, 3) := by decide +kernel
theorem dX8_readItem_13 : decode cX8_readItem 13 = .ok (.iconst 0, 1) := by decide +kernel
theorem dX8_readItem_14 : decode cX8_readItem 14 = .ok (.goto 10, 3) := by decide +kernel
theorem dX8_readItem_17 : decode cX8_readItem 17 = .ok (.aload_n 0, 1) := by decide +kernel
theorem dX8_readItem_18 : decode cX8_readItem 18 = .ok (.invokevirtual 176, 3) := by decide +kernel
theorem dX8_readItem_21 : decode cX8_readItem 21 = .ok (.invokestatic 201, 3) := by decide +kernel
theorem dX8_readItem_24 : decode cX8_readItem 24 = .ok (.istore 5, 2) := by decide +kernel
theorem dX8_readItem_26 : decode cX8_readItem 26 = .ok (.iload 5, 2) := by decide +kernel
theorem dX8_readItem_28 : decode cX8_readItem 28 = .ok (.iconst (-1), 1) := by decide +kernel
theorem dX8_readItem_29 : decode cX8_readItem 29 = .ok (.if_icmp .ne 8, 3) := by decide +kernel
theorem dX8_readItem_32 : decode cX8_readItem 32 = .ok (.aload_n 0, 1) := by decide +kernel
theorem dX8_readItem_33 : decode cX8_readItem 33 = .ok (.iconst 1, 1) := by decide +kernel
theorem dX8_readItem_34 : decode cX8_readItem 34 = .ok (.invokevirtual 180, 3) := by decide +kernel
theorem dX8_readItem_37 : decode cX8_readItem 37 = .ok (.aload_n 0, 1) := by decide +kernel
theorem dX8_readItem_38 : decode cX8_readItem 38 = .ok (.invokevirtual 172, 3) := by decide +kernel
theorem dX8_readItem_41 : decode cX8_readItem 41 = .ok (.ifCond .eq 29, 3) := by decide +kernel
theorem dX8_readItem_44 : decode cX8_readItem 44 = .ok (.iload 5, 2) := by decide +kernel
theorem dX8_readItem_46 : decode cX8_readItem 46 = .ok (.bipush 6, 2) := by decide +kernel
theorem dX8_readItem_48 : decode cX8_readItem 48 = .ok (.if_icmp .eq 22, 3) := by decide +kernel
theorem dX8_readItem_51 : decode cX8_readItem 51 = .ok (.aload_n 0, 1) := by decide +kernel
theorem dX8_readItem_52 : decode cX8_readItem 52 = .ok (.getfield 23, 3) := by decide +kernel
theorem dX8_readItem_55 : decode cX8_readItem 55 = .ok (.aload_n 0, 1) := by decide +kernel
theorem dX8_readItem_56 : decode cX8_readItem 56 = .ok (.getfield 187, 3) := by decide +kernel
theorem dX8_readItem_59 : decode cX8_readItem 59 = .ok (.iaload, 1) := by decide +kernel
theorem dX8_readItem_60 : decode cX8_readItem 60 = .ok (.bipush 40, 2) := by decide +kernel
theorem dX8_readItem_62 : decode cX8_readItem 62 = .ok (.if_icmp .ne 8, 3) := by decide +kernel
theorem dX8_readItem_65 : decode cX8_readItem 65 = .ok (.aload_n 0, 1) := by decide +kernel
theorem dX8_readItem_66 : decode cX8_readItem 66 = .ok (.iconst 4, 1) := by decide +kernel
theorem dX8_readItem_67 : decode cX8_readItem 67 = .ok (.invokevirtual 180, 3) := by decide +kernel
theorem dX8_readItem_70 : decode cX8_readItem 70 = .ok (.aload_n 0, 1) := by decide +kernel
theorem dX8_readItem_71 : decode cX8_readItem 71 = .ok (.invokevirtual 172, 3) := by decide +kernel
theorem dX8_readItem_74 : decode cX8_readItem 74 = .ok (.ifCond .ne 4, 3) := by decide +kernel
theorem dX8_readItem_77 : decode cX8_readItem 77 = .ok (.return_, 1) := by decide +kernel
theorem dX8_readItem_78 : decode cX8_readItem 78 = .ok (.sipush 130, 3) := by decide +kernel
theorem dX8_readItem_81 : decode cX8_readItem 81 = .ok (.aload_n 0, 1) := by decide +kernel
theorem dX8_readItem_82 : decode cX8_readItem 82 = .ok (.getfield 187, 3) := by decide +kernel
theorem dX8_readItem_85 : decode cX8_readItem 85 = .ok (.imul, 1) := by decide +kernel
theorem dX8_readItem_86 : decode cX8_readItem 86 = .ok (.aload_n 0, 1) := by decide +kernel
theorem dX8_readItem_87 : decode cX8_readItem 87 = .ok (.getfield 16, 3) := by decide +kernel
theorem dX8_readItem_90 : decode cX8_readItem 90 = .ok (.aload_n 0, 1) := by decide +kernel
theorem dX8_readItem_91 : decode cX8_readItem 91 = .ok (.getfield 187, 3) := by decide +kernel
theorem dX8_readItem_94 : decode cX8_readItem 94 = .ok (.iaload, 1) := by decide +kernel
theorem dX8_readItem_95 : decode cX8_readItem 95 = .ok (.iadd, 1) := by decide +kernel
theorem dX8_readItem_96 : decode cX8_readItem 96 = .ok (.istore 6, 2) := by decide +kernel
theorem dX8_readItem_98 : decode cX8_readItem 98 = .ok (.aload_n 0, 1) := by decide +kernel
theorem dX8_readItem_99 : decode cX8_readItem 99 = .ok (.getfield 16, 3) := by decide +kernel
theorem dX8_readItem_102 : decode cX8_readItem 102 = .ok (.aload_n 0, 1) := by decide +kernel
theorem dX8_readItem_103 : decode cX8_readItem 103 = .ok (.getfield 187, 3) := by decide +kernel
theorem dX8_readItem_106 : decode cX8_readItem 106 = .ok (.dup2, 1) := by decide +kernel
theorem dX8_readItem_107 : decode cX8_readItem 107 = .ok (.iaload, 1) := by decide +kernel
theorem dX8_readItem_108 : decode cX8_readItem 108 = .ok (.iconst 1, 1) := by decide +kernel
theorem dX8_readItem_109 : decode cX8_readItem 109 = .ok (.iadd, 1) := by decide +kernel
theorem dX8_readItem_110 : decode cX8_readItem 110 = .ok (.iastore, 1) := by decide +kernel
theorem dX8_readItem_111 : decode cX8_readItem 111 = .ok (.aload_n 0, 1) := by decide +kernel
theorem dX8_readItem_112 : decode cX8_readItem 112 = .ok (.getfield 29, 3) := by decide +kernel
theorem dX8_readItem_115 : decode cX8_readItem 115 = .ok (.iload 6, 2) := by decide +kernel
theorem dX8_readItem_117 : decode cX8_readItem 117 = .ok (.iload 5, 2) := by decide +kernel
theorem dX8_readItem_119 : decode cX8_readItem 119 = .ok (.iastore, 1) := by decide +kernel
theorem dX8_readItem_120 : decode cX8_readItem 120 = .ok (.aload_n 0, 1) := by decide +kernel
theorem dX8_readItem_121 : decode cX8_readItem 121 = .ok (.getfield 32, 3) := by decide +kernel
theorem dX8_readItem_124 : decode cX8_readItem 124 = .ok (.iload 6, 2) := by decide +kernel
theorem dX8_readItem_126 : decode cX8_readItem 126 = .ok (.iconst (-1), 1) := by decide +kernel
theorem dX8_readItem_127 : decode cX8_readItem 127 = .ok (.iastore, 1) := by decide +kernel
theorem dX8_readItem_128 : decode cX8_readItem 128 = .ok (.aload_n 0, 1) := by decide +kernel
theorem dX8_readItem_129 : decode cX8_readItem 129 = .ok (.getfield 35, 3) := by decide +kernel
theorem dX8_readItem_132 : decode cX8_readItem 132 = .ok (.iload 6, 2) := by decide +kernel
theorem dX8_readItem_134 : decode cX8_readItem 134 = .ok (.iload_n 2, 1) := by decide +kernel
theorem dX8_readItem_135 : decode cX8_readItem 135 = .ok (.iastore, 1) := by decide +kernel
theorem dX8_readItem_136 : decode cX8_readItem 136 = .ok (.aload_n 0, 1) := by decide +kernel
theorem dX8_readItem_137 : decode cX8_readItem 137 = .ok (.getfield 38, 3) := by decide +kernel
theorem dX8_readItem_140 : decode cX8_readItem 140 = .ok (.iload 6, 2) := by decide +kernel
theorem dX8_readItem_142 : decode cX8_readItem 142 = .ok (.iload_n 3, 1) := by decide +kernel
theorem dX8_readItem_143 : decode cX8_readItem 143 = .ok (.iastore, 1) := by decide +kernel
theorem dX8_readItem_144 : decode cX8_readItem 144 = .ok (.aload_n 0, 1) := by decide +kernel
theorem dX8_readItem_145 : decode cX8_readItem 145 = .ok (.getfield 41, 3) := by decide +kernel
theorem dX8_readItem_148 : decode cX8_readItem 148 = .ok (.iload 6, 2) := by decide +kernel
theorem dX8_readItem_150 : decode cX8_readItem 150 = .ok (.aload_n 0, 1) := by decide +kernel
theorem dX8_readItem_151 : decode cX8_readItem 151 = .ok (.getfield 163, 3) := by decide +kernel
theorem dX8_readItem_154 : decode cX8_readItem 154 = .ok (.iastore, 1) := by decide +kernel
theorem dX8_readItem_155 : decode cX8_readItem 155 = .ok (.aload_n 0, 1) := by decide +kernel
theorem dX8_readItem_156 : decode cX8_readItem 156 = .ok (.getfield 44, 3) := by decide +kernel
theorem dX8_readItem_159 : decode cX8_readItem 159 = .ok (.iload 6, 2) := by decide +kernel
theorem dX8_readItem_161 : decode cX8_readItem 161 = .ok (.iload 4, 2) := by decide +kernel
theorem dX8_readItem_163 : decode cX8_readItem 163 = .ok (.iastore, 1) := by decide +kernel
theorem dX8_readItem_164 : decode cX8_readItem 164 = .ok (.aload_n 0, 1) := by decide +kernel
theorem dX8_readItem_165 : decode cX8_readItem 165 = .ok (.getfield 47, 3) := by decide +kernel
theorem dX8_readItem_168 : decode cX8_readItem 168 = .ok (.iload 6, 2) := by decide +kernel
theorem dX8_readItem_170 : decode cX8_readItem 170 = .ok (.iconst 0, 1) := by decide +kernel
theorem dX8_readItem_171 : decode cX8_readItem 171 = .ok (.iastore, 1) := by decide +kernel
theorem dX8_readItem_172 : decode cX8_readItem 172 = .ok (.aload_n 0, 1) := by decide +kernel
theorem dX8_readItem_173 : decode cX8_readItem 173 = .ok (.getfield 50, 3) := by decide +kernel
theorem dX8_readItem_176 : decode cX8_readItem 176 = .ok (.iload 6, 2) := by decide +kernel
theorem dX8_readItem_178 : decode cX8_readItem 178 = .ok (.bipush (-2), 2) := by decide +kernel
theorem dX8_readItem_180 : decode cX8_readItem 180 = .ok (.iastore, 1) := by decide +kernel
theorem dX8_readItem_181 : decode cX8_readItem 181 = .ok (.aload_n 0, 1) := by decide +kernel
theorem dX8_readItem_182 : decode cX8_readItem 182 = .ok (.getfield 53, 3) := by decide +kernel
theorem dX8_readItem_185 : decode cX8_readItem 185 = .ok (.iload 6, 2) := by decide +kernel
theorem dX8_readItem_187 : decode cX8_readItem 187 = .ok (.iconst (-1), 1) := by decide +kernel
theorem dX8_readItem_188 : decode cX8_readItem 188 = .ok (.iastore, 1) := by decide +kernel
theorem dX8_readItem_189 : decode cX8_readItem 189 = .ok (.aload_n 0, 1) := by decide +kernel
theorem dX8_readItem_190 : decode cX8_readItem 190 = .ok (.getfield 56, 3) := by decide +kernel
theorem dX8_readItem_193 : decode cX8_readItem 193 = .ok (.iload 6, 2) := by decide +kernel
theorem dX8_readItem_195 : decode cX8_readItem 195 = .ok (.iconst (-1), 1) := by decide +kernel
theorem dX8_readItem_196 : decode cX8_readItem 196 = .ok (.iastore, 1) := by decide +kernel
theorem dX8_readItem_197 : decode cX8_readItem 197 = .ok (.aload_n 0, 1) := by decide +kernel
theorem dX8_readItem_198 : decode cX8_readItem 198 = .ok (.getfield 59, 3) := by decide +kernel
theorem dX8_readItem_201 : decode cX8_readItem 201 = .ok (.iload 6, 2) := by decide +kernel
theorem dX8_readItem_203 : decode cX8_readItem 203 = .ok (.iconst (-1), 1) := by decide +kernel
theorem dX8_readItem_204 : decode cX8_readItem 204 = .ok (.iastore, 1) := by decide +kernel
theorem dX8_readItem_205 : decode cX8_readItem 205 = .ok (.aload_n 0, 1) := by decide +kernel
theorem dX8_readItem_206 : decode cX8_readItem 206 = .ok (.getfield 62, 3) := by decide +kernel
theorem dX8_readItem_209 : decode cX8_readItem 209 = .ok (.iload 6, 2) := by decide +kernel
theorem dX8_readItem_211 : decode cX8_readItem 211 = .ok (.iload_n 1, 1) := by decide +kernel
theorem dX8_readItem_212 : decode cX8_readItem 212 = .ok (.iastore, 1) := by decide +kernel
theorem dX8_readItem_213 : decode cX8_readItem 213 = .ok (.aload_n 0, 1) := by decide +kernel
theorem dX8_readItem_214 : decode cX8_readItem 214 = .ok (.getfield 65, 3) := by decide +kernel
theorem dX8_readItem_217 : decode cX8_readItem 217 = .ok (.iconst 2, 1) := by decide +kernel
theorem dX8_readItem_218 : decode cX8_readItem 218 = .ok (.iload 6, 2) := by decide +kernel
theorem dX8_readItem_220 : decode cX8_readItem 220 = .ok (.imul, 1) := by decide +kernel
theorem dX8_readItem_221 : decode cX8_readItem 221 = .ok (.iconst 0, 1) := by decide +kernel
theorem dX8_readItem_222 : decode cX8_readItem 222 = .ok (.iastore, 1) := by decide +kernel
theorem dX8_readItem_223 : decode cX8_readItem 223 = .ok (.aload_n 0, 1) := by decide +kernel
theorem dX8_readItem_224 : decode cX8_readItem 224 = .ok (.getfield 65, 3) := by decide +kernel
theorem dX8_readItem_227 : decode cX8_readItem 227 = .ok (.iconst 2, 1) := by decide +kernel
theorem dX8_readItem_228 : decode cX8_readItem 228 = .ok (.iload 6, 2) := by decide +kernel
theorem dX8_readItem_230 : decode cX8_readItem 230 = .ok (.imul, 1) := by decide +kernel
theorem dX8_readItem_231 : decode cX8_readItem 231 = .ok (.iconst 1, 1) := by decide +kernel
theorem dX8_readItem_232 : decode cX8_readItem 232 = .ok (.iadd, 1) := by decide +kernel
theorem dX8_readItem_233 : decode cX8_readItem 233 = .ok (.iconst 0, 1) := by decide +kernel
theorem dX8_readItem_234 : decode cX8_readItem 234 = .ok (.iastore, 1) := by decide +kernel
theorem dX8_readItem_235 : decode cX8_readItem 235 = .ok (.iload 5, 2) := by decide +kernel
theorem dX8_readItem_237 : decode cX8_readItem 237 = .ok (.bipush 6, 2) := by decide +kernel
theorem dX8_readItem_239 : decode cX8_readItem 239 = .ok (.if_icmp .eq 56, 3) := by decide +kernel
theorem dX8_readItem_242 : decode cX8_readItem 242 = .ok (.aload_n 0, 1) := by decide +kernel
theorem dX8_readItem_243 : decode cX8_readItem 243 = .ok (.getfield 32, 3) := by decide +kernel
theorem dX8_readItem_246 : decode cX8_readItem 246 = .ok (.iload 6, 2) := by decide +kernel
theorem dX8_readItem_248 : decode cX8_readItem 248 = .ok (.aload_n 0, 1) := by decide +kernel
theorem dX8_readItem_249 : decode cX8_readItem 249 = .ok (.getfield 23, 3) := by decide +kernel
theorem dX8_readItem_252 : decode cX8_readItem 252 = .ok (.aload_n 0, 1) := by decide +kernel
theorem dX8_readItem_253 : decode cX8_readItem 253 = .ok (.getfield 187, 3) := by decide +kernel
theorem dX8_readItem_256 : decode cX8_readItem 256 = .ok (.iaload, 1) := by decide +kernel
theorem dX8_readItem_257 : decode cX8_readItem 257 = .ok (.iastore, 1) := by decide +kernel
theorem dX8_readItem_258 : decode cX8_readItem 258 = .ok (.aload_n 0, 1) := by decide +kernel
theorem dX8_readItem_259 : decode cX8_readItem 259 = .ok (.getfield 77, 3) := by decide +kernel
theorem dX8_readItem_262 : decode cX8_readItem 262 = .ok (.bipush 40, 2) := by decide +kernel
theorem dX8_readItem_264 : decode cX8_readItem 264 = .ok (.aload_n 0, 1) := by decide +kernel
theorem dX8_readItem_265 : decode cX8_readItem 265 = .ok (.getfield 187, 3) := by decide +kernel
theorem dX8_readItem_268 : decode cX8_readItem 268 = .ok (.imul, 1) := by decide +kernel
theorem dX8_readItem_269 : decode cX8_readItem 269 = .ok (.aload_n 0, 1) := by decide +kernel
theorem dX8_readItem_270 : decode cX8_readItem 270 = .ok (.getfield 23, 3) := by decide +kernel
theorem dX8_readItem_273 : decode cX8_readItem 273 = .ok (.aload_n 0, 1) := by decide +kernel
theorem dX8_readItem_274 : decode cX8_readItem 274 = .ok (.getfield 187, 3) := by decide +kernel
theorem dX8_readItem_277 : decode cX8_readItem 277 = .ok (.iaload, 1) := by decide +kernel
theorem dX8_readItem_278 : decode cX8_readItem 278 = .ok (.iadd, 1) := by decide +kernel
theorem dX8_readItem_279 : decode cX8_readItem 279 = .ok (.iload 6, 2) := by decide +kernel
theorem dX8_readItem_281 : decode cX8_readItem 281 = .ok (.iastore, 1) := by decide +kernel
theorem dX8_readItem_282 : decode cX8_readItem 282 = .ok (.aload_n 0, 1) := by decide +kernel
theorem dX8_readItem_283 : decode cX8_readItem 283 = .ok (.getfield 23, 3) := by decide +kernel
theorem dX8_readItem_286 : decode cX8_readItem 286 = .ok (.aload_n 0, 1) := by decide +kernel
theorem dX8_readItem_287 : decode cX8_readItem 287 = .ok (.getfield 187, 3) := by decide +kernel
theorem dX8_readItem_290 : decode cX8_readItem 290 = .ok (.dup2, 1) := by decide +kernel
theorem dX8_readItem_291 : decode cX8_readItem 291 = .ok (.iaload, 1) := by decide +kernel
theorem dX8_readItem_292 : decode cX8_readItem 292 = .ok (.iconst 1, 1) := by decide +kernel
theorem dX8_readItem_293 : decode cX8_readItem 293 = .ok (.iadd, 1) := by decide +kernel
theorem dX8_readItem_294 : decode cX8_readItem 294 = .ok (.iastore, 1) := by decide +kernel
theorem dX8_readItem_295 : decode cX8_readItem 295 = .ok (.aload_n 0, 1) := by decide +kernel
theorem dX8_readItem_296 : decode cX8_readItem 296 = .ok (.getfield 68, 3) := by decide +kernel
theorem dX8_readItem_299 : decode cX8_readItem 299 = .ok (.iload_n 1, 1) := by decide +kernel
theorem dX8_readItem_300 : decode cX8_readItem 300 = .ok (.iaload, 1) := by decide +kernel
theorem dX8_readItem_301 : decode cX8_readItem 301 = .ok (.iconst (-1), 1) := by decide +kernel
theorem dX8_readItem_302 : decode cX8_readItem 302 = .ok (.if_icmp .ne 14, 3) := by decide +kernel
theorem dX8_readItem_305 : decode cX8_readItem 305 = .ok (.aload_n 0, 1) := by decide +kernel
theorem dX8_readItem_306 : decode cX8_readItem 306 = .ok (.getfield 68, 3) := by decide +kernel
theorem dX8_readItem_309 : decode cX8_readItem 309 = .ok (.iload_n 1, 1) := by decide +kernel
theorem dX8_readItem_310 : decode cX8_readItem 310 = .ok (.iload 6, 2) := by decide +kernel
theorem dX8_readItem_312 : decode cX8_readItem 312 = .ok (.iastore, 1) := by decide +kernel
theorem dX8_readItem_313 : decode cX8_readItem 313 = .ok (.goto 16, 3) := by decide +kernel
theorem dX8_readItem_316 : decode cX8_readItem 316 = .ok (.aload_n 0, 1) := by decide +kernel
theorem dX8_readItem_317 : decode cX8_readItem 317 = .ok (.getfield 59, 3) := by decide +kernel
theorem dX8_readItem_320 : decode cX8_readItem 320 = .ok (.aload_n 0, 1) := by decide +kernel
theorem dX8_readItem_321 : decode cX8_readItem 321 = .ok (.getfield 71, 3) := by decide +kernel
theorem dX8_readItem_324 : decode cX8_readItem 324 = .ok (.iload_n 1, 1) := by decide +kernel
theorem dX8_readItem_325 : decode cX8_readItem 325 = .ok (.iaload, 1) := by decide +kernel
theorem dX8_readItem_326 : decode cX8_readItem 326 = .ok (.iload 6, 2) := by decide +kernel
theorem dX8_readItem_328 : decode cX8_readItem 328 = .ok (.iastore, 1) := by decide +kernel
theorem dX8_readItem_329 : decode cX8_readItem 329 = .ok (.aload_n 0, 1) := by decide +kernel
theorem dX8_readItem_330 : decode cX8_readItem 330 = .ok (.getfield 71, 3) := by decide +kernel
theorem dX8_readItem_333 : decode cX8_readItem 333 = .ok (.iload_n 1, 1) := by decide +kernel
theorem dX8_readItem_334 : decode cX8_readItem 334 = .ok (.iload 6, 2) := by decide +kernel
theorem dX8_readItem_336 : decode cX8_readItem 336 = .ok (.iastore, 1) := by decide +kernel
theorem dX8_readItem_337 : decode cX8_readItem 337 = .ok (.aload_n 0, 1) := by decide +kernel
theorem dX8_readItem_338 : decode cX8_readItem 338 = .ok (.dup, 1) := by decide +kernel
theorem dX8_readItem_339 : decode cX8_readItem 339 = .ok (.getfield 163, 3) := by decide +kernel
theorem dX8_readItem_342 : decode cX8_readItem 342 = .ok (.iconst 1, 1) := by decide +kernel
theorem dX8_readItem_343 : decode cX8_readItem 343 = .ok (.iadd, 1) := by decide +kernel
theorem dX8_readItem_344 : decode cX8_readItem 344 = .ok (.putfield 163, 3) := by decide +kernel
theorem dX8_readItem_347 : decode cX8_readItem 347 = .ok (.iload 5, 2) := by decide +kernel
theorem dX8_readItem_349 : decode cX8_readItem 349 = .ok (.ifCond .ne 14, 3) := by decide +kernel
theorem dX8_readItem_352 : decode cX8_readItem 352 = .ok (.aload_n 0, 1) := by decide +kernel
theorem dX8_readItem_353 : decode cX8_readItem 353 = .ok (.iload 6, 2) := by decide +kernel
theorem dX8_readItem_355 : decode cX8_readItem 355 = .ok (.iload 4, 2) := by decide +kernel
theorem dX8_readItem_357 : decode cX8_readItem 357 = .ok (.invokevirtual 205, 3) := by decide +kernel
theorem dX8_readItem_360 : decode cX8_readItem 360 = .ok (.goto 50, 3) := by decide +kernel
theorem dX8_readItem_363 : decode cX8_readItem 363 = .ok (.iload 5, 2) := by decide +kernel
theorem dX8_readItem_365 : decode cX8_readItem 365 = .ok (.iconst 2, 1) := by decide +kernel
theorem dX8_readItem_366 : decode cX8_readItem 366 = .ok (.if_icmp .eq 9, 3) := by decide +kernel
theorem dX8_readItem_369 : decode cX8_readItem 369 = .ok (.iload 5, 2) := by decide +kernel
theorem dX8_readItem_371 : decode cX8_readItem 371 = .ok (.iconst 3, 1) := by decide +kernel
theorem dX8_readItem_372 : decode cX8_readItem 372 = .ok (.if_icmp .ne 14, 3) := by decide +kernel
theorem dX8_readItem_375 : decode cX8_readItem 375 = .ok (.aload_n 0, 1) := by decide +kernel
theorem dX8_readItem_376 : decode cX8_readItem 376 = .ok (.iload 6, 2) := by decide +kernel
theorem dX8_readItem_378 : decode cX8_readItem 378 = .ok (.iload_n 2, 1) := by decide +kernel
theorem dX8_readItem_379 : decode cX8_readItem 379 = .ok (.iload_n 3, 1) := by decide +kernel
theorem dX8_readItem_380 : decode cX8_readItem 380 = .ok (.invokevirtual 209, 3) := by decide +kernel
theorem dX8_readItem_383 : decode cX8_readItem 383 = .ok (.goto 27, 3) := by decide +kernel
theorem dX8_readItem_386 : decode cX8_readItem 386 = .ok (.iload 5, 2) := by decide +kernel
theorem dX8_readItem_388 : decode cX8_readItem 388 = .ok (.bipush 6, 2) := by decide +kernel
theorem dX8_readItem_390 : decode cX8_readItem 390 = .ok (.if_icmp .ne 14, 3) := by decide +kernel
theorem dX8_readItem_393 : decode cX8_readItem 393 = .ok (.aload_n 0, 1) := by decide +kernel
theorem dX8_readItem_394 : decode cX8_readItem 394 = .ok (.iload 6, 2) := by decide +kernel
theorem dX8_readItem_396 : decode cX8_readItem 396 = .ok (.iload_n 2, 1) := by decide +kernel
theorem dX8_readItem_397 : decode cX8_readItem 397 = .ok (.iload_n 3, 1) := by decide +kernel
theorem dX8_readItem_398 : decode cX8_readItem 398 = .ok (.invokevirtual 212, 3) := by decide +kernel
theorem dX8_readItem_401 : decode cX8_readItem 401 = .ok (.goto 9, 3) := by decide +kernel
theorem dX8_readItem_404 : decode cX8_readItem 404 = .ok (.aload_n 0, 1) := by decide +kernel
theorem dX8_readItem_405 : decode cX8_readItem 405 = .ok (.iload 6, 2) := by decide +kernel
theorem dX8_readItem_407 : decode cX8_readItem 407 = .ok (.invokevirtual 215, 3) := by decide +kernel
theorem dX8_readItem_410 : decode cX8_readItem 410 = .ok (.return_, 1) := by decide +kernel
set_option maxHeartbeats 4000000 in
set_option maxRecDepth 100000 in
theorem s_X8_readItem_b (l : Launch) (d : Nat) {t : Nat} (ihT : ∀ {P : PP} {h : HP} (_ : Iv P h) (a2 : Int32) (a2l : 0 ≤ a2.toInt) (a2u : a2.toInt ≤ 259) (a3 : Int32) (a3l : 0 ≤ a3.toInt) (a3u : a3.toInt ≤ 4) (a4 : Int32) (a4l : 0 ≤ a4.toInt) (a4u : a4.toInt ≤ 6) (hi : 130 * (h.2.1 70 6).toInt ≤ a2.toInt ∧ a2.toInt < 130 * (h.2.1 70 6).toInt + 130) (h0 : (h.2.1 70 5).toInt = 0) (hp : 6 * (V h.2.1 73 (h.2.1 70 6).toInt - V h.2.1 75 (h.2.1 70 6).toInt) ≤ (h.2.1 70 4).toInt + 5 * a4.toInt + 5 ∧ 2 * V h.2.1 74 (h.2.1 70 6).toInt ≤ (h.2.1 70 4).toInt + a4.toInt + 1) (ht : TR h.2.1 (h.2.1 70 6).toInt ∧ a2.toInt = 130 * (h.2.1 70 6).toInt + V h.2.1 73 (h.2.1 70 6).toInt - 1 ∧ 0 < V h.2.1 73 (h.2.1 70 6).toInt ∧ V h.2.1 80 a2.toInt = a4.toInt ∧ (V h.2.1 77 a2.toInt = 2 ∨ V h.2.1 77 a2.toInt = 3)) (hd : 7 ≤ a4.toInt + (t : Int)), Mt l yX8_readTest cX8_readTest 4 none (d + 4) [.ref 70, .int a2, .int a3, .int a4] h 0 0 (fun r h' => r = none ∧ (∃ Q : PP, Iv Q h' ∧ MW P Q) ∧ ((h'.2.1 70 5).toInt = 0 → (h.2.1 70 5).toInt = 0) ∧ ((h.2.1 70 4).toInt ≤ (h'.2.1 70 4).toInt) ∧ ((h'.2.1 70 5).toInt = 0 → 6 * (V h'.2.1 73 (h.2.1 70 6).toInt - V h'.2.1 75 (h.2.1 70 6).toInt) - (h'.2.1 70 4).toInt ≤ 6 * (V h.2.1 73 (h.2.1 70 6).toInt - V h.2.1 75 (h.2.1 70 6).toInt) - (h.2.1 70 4).toInt - 0 ∧ 2 * V h'.2.1 74 (h.2.1 70 6).toInt - (h'.2.1 70 4).toInt ≤ 2 * V h.2.1 74 (h.2.1 70 6).toInt - (h.2.1 70 4).toInt) ∧ ((h'.2.1 70 5).toInt = 0 → RT h.2.1 h'.2.1 (h.2.1 70 6).toInt a2.toInt a4.toInt) ∧ (KP h.2.1 h'.2.1) ∧ (OH h.2.1 h'.2.1 (h.2.1 70 6).toInt) ∧ (CKF h.2.1 → CKF h'.2.1))) (ihY : ∀ {P : PP} {h : HP} (_ : Iv P h) (a2 : Int32) (a2l : 0 ≤ a2.toInt) (a2u : a2.toInt ≤ 259) (a3 : Int32) (a3l : 0 ≤ a3.toInt) (a3u : a3.toInt ≤ 4) (a4 : Int32) (a4l : 0 ≤ a4.toInt) (a4u : a4.toInt ≤ 6) (hi : 130 * (h.2.1 70 6).toInt ≤ a2.toInt ∧ a2.toInt < 130 * (h.2.1 70 6).toInt + 130) (h0 : (h.2.1 70 5).toInt = 0) (hp : 6 * (V h.2.1 73 (h.2.1 70 6).toInt - V h.2.1 75 (h.2.1 70 6).toInt) ≤ (h.2.1 70 4).toInt + 5 * a4.toInt + 5 ∧ 2 * V h.2.1 74 (h.2.1 70 6).toInt ≤ (h.2.1 70 4).toInt + a4.toInt + 1) (ht : TR h.2.1 (h.2.1 70 6).toInt ∧ a2.toInt = 130 * (h.2.1 70 6).toInt + V h.2.1 73 (h.2.1 70 6).toInt - 1 ∧ 0 < V h.2.1 73 (h.2.1 70 6).toInt ∧ V h.2.1 80 a2.toInt = a4.toInt ∧ V h.2.1 77 a2.toInt = 6) (hd : 7 ≤ a4.toInt + (t : Int)), Mt l yX8_readTry cX8_readTry 4 none (d + 4) [.ref 70, .int a2, .int a3, .int a4] h 0 0 (fun r h' => r = none ∧ (∃ Q : PP, Iv Q h' ∧ MW P Q) ∧ ((h'.2.1 70 5).toInt = 0 → (h.2.1 70 5).toInt = 0) ∧ ((h.2.1 70 4).toInt ≤ (h'.2.1 70 4).toInt) ∧ ((h'.2.1 70 5).toInt = 0 → 6 * (V h'.2.1 73 (h.2.1 70 6).toInt - V h'.2.1 75 (h.2.1 70 6).toInt) - (h'.2.1 70 4).toInt ≤ 6 * (V h.2.1 73 (h.2.1 70 6).toInt - V h.2.1 75 (h.2.1 70 6).toInt) - (h.2.1 70 4).toInt - 5 ∧ 2 * V h'.2.1 74 (h.2.1 70 6).toInt - (h'.2.1 70 4).toInt ≤ 2 * V h.2.1 74 (h.2.1 70 6).toInt - (h.2.1 70 4).toInt) ∧ ((h'.2.1 70 5).toInt = 0 → RT h.2.1 h'.2.1 (h.2.1 70 6).toInt a2.toInt a4.toInt) ∧ (KP h.2.1 h'.2.1) ∧ (OH h.2.1 h'.2.1 (h.2.1 70 6).toInt) ∧ (CKF h.2.1 → CKF h'.2.1))) {P : PP} {h : HP} (hv : Iv P h) (a2 : Int32) (a2l : 0 ≤ a2.toInt) (a2u : a2.toInt ≤ 559) (a3 : Int32) (a3l : 0 ≤ a3.toInt) (a3u : a3.toInt ≤ 4) (a4 : Int32) (a4l : 0 ≤ a4.toInt) (a4u : a4.toInt ≤ 6) (h0 : (h.2.1 70 5).toInt = 0) (hp : 6 * (V h.2.1 73 (h.2.1 70 6).toInt - V h.2.1 75 (h.2.1 70 6).toInt) ≤ (h.2.1 70 4).toInt + 5 * a4.toInt ∧ 2 * V h.2.1 74 (h.2.1 70 6).toInt ≤ (h.2.1 70 4).toInt + a4.toInt + 1) (ht : TR h.2.1 (h.2.1 70 6).toInt ∧ BB h.2.1 (h.2.1 70 6).toInt a2.toInt ∧ OO h.2.1 (h.2.1 70 6).toInt (V h.2.1 92 a2.toInt) a4.toInt) (hd : 7 ≤ a4.toInt + (t : Int)) : Mt l yX8_readItem cX8_readItem 7 none (d + 5) [.ref 70, .int a2, .int a3, .int a4] h 0 0 (fun r h' => r = none ∧ (∃ Q : PP, Iv Q h' ∧ MW P Q) ∧ ((h'.2.1 70 5).toInt = 0 → (h.2.1 70 5).toInt = 0) ∧ ((h.2.1 70 4).toInt ≤ (h'.2.1 70 4).toInt) ∧ ((h'.2.1 70 5).toInt = 0 → (h.2.1 70 4).toInt + 1 ≤ (h'.2.1 70 4).toInt ∧ 6 * (V h'.2.1 73 (h.2.1 70 6).toInt - V h'.2.1 75 (h.2.1 70 6).toInt) - (h'.2.1 70 4).toInt ≤ 6 * (V h.2.1 73 (h.2.1 70 6).toInt - V h.2.1 75 (h.2.1 70 6).toInt) - (h.2.1 70 4).toInt ∧ 2 * V h'.2.1 74 (h.2.1 70 6).toInt - (h'.2.1 70 4).toInt ≤ 2 * V h.2.1 74 (h.2.1 70 6).toInt - (h.2.1 70 4).toInt) ∧ ((h'.2.1 70 5).toInt = 0 → RI h.2.1 h'.2.1 (h.2.1 70 6).toInt a2.toInt a4.toInt) ∧ (KP h.2.1 h'.2.1) ∧ (OH h.2.1 h'.2.1 (h.2.1 70 6).toInt) ∧ (CKF h.2.1 → CKF h'.2.1)) := by
  refine Mt_iv hv (by decide) (Nat.le_of_ble_eq_true rfl) ?_
  show Go l RX8 cX8_readItem 7 (g_rm (d + 5) 0 0) "readItem" none 117 0 0 (fun _ _ => True) (fun r h' => r = none ∧ (∃ Q : PP, Iv Q h' ∧ MW P Q) ∧ ((h'.2.1 70 5).toInt = 0 → (h.2.1 70 5).toInt = 0) ∧ ((h.2.1 70 4).toInt ≤ (h'.2.1 70 4).toInt) ∧ ((h'.2.1 70 5).toInt = 0 → (h.2.1 70 4).toInt + 1 ≤ (h'.2.1 70 4).toInt ∧ 6 * (V h'.2.1 73 (h.2.1 70 6).toInt - V h'.2.1 75 (h.2.1 70 6).toInt) - (h'.2.1 70 4).toInt ≤ 6 * (V h.2.1 73 (h.2.1 70 6).toInt - V h.2.1 75 (h.2.1 70 6).toInt) - (h.2.1 70 4).toInt ∧ 2 * V h'.2.1 74 (h.2.1 70 6).toInt - (h'.2.1 70 4).toInt ≤ 2 * V h.2.1 74 (h.2.1 70 6).toInt - (h.2.1 70 4).toInt) ∧ ((h'.2.1 70 5).toInt = 0 → RI h.2.1 h'.2.1 (h.2.1 70 6).toInt a2.toInt a4.toInt) ∧ (KP h.2.1 h'.2.1) ∧ (OH h.2.1 h'.2.1 (h.2.1 70 6).toInt) ∧ (CKF h.2.1 → CKF h'.2.1)) 0 0 [(0, .ref 70), (1, .int a2), (2, .int a3), (3, .int a4)] [] h
  obtain ⟨S, hS⟩ : ∃ S : Int, S = (h.2.1 70 6).toInt := ⟨_, rfl⟩
  have S0 : 0 ≤ S := by rw [hS]; exact (hv.2.1 70 6).1
  have S1 : S ≤ 1 := by rw [hS]; exact (hv.2.1 70 6).2
  have oh : OH h.2.1 h.2.1 S := OH.rfl _ _
  have ck : CKF h.2.1 → CKF h.2.1 := id
  have kp : KP h.2.1 h.2.1 := KP.rfl _
  rw [← hS] at hp
  rw [← hS] at ht
  have key : ∀ n : Nat, (∀ (l1 : Int32) (l2 : Int32) (l3 : Int32) (l4 : Int32) (l5 : Int32) (Qx : PP) (hx : HP), Iv Qx hx → MW P Qx → 0 ≤ l1.toInt → l1.toInt ≤ 559 → 0 ≤ l2.toInt → l2.toInt ≤ 4 → 0 ≤ l3.toInt → l3.toInt ≤ 6 → -1 ≤ l4.toInt → l4.toInt ≤ 9 → -1 ≤ l5.toInt → l5.toInt ≤ 6 → (VE h.2.1 hx.2.1) → (l1.toInt = a2.toInt) → (l2.toInt = a3.toInt) → (l3.toInt = a4.toInt) → ((h.2.1 70 4).toInt ≤ (hx.2.1 70 4).toInt) → ((hx.2.1 70 5).toInt = 0 → (hx.2.1 70 4).toInt ≤ 499 ∧ ((0 ≤ l4.toInt ∧ l5.toInt = 0) ∨ (l4.toInt = -1 ∧ 2 ≤ l5.toInt)) ∧ (l5.toInt = 6 ∨ V hx.2.1 75 S ≤ 39)) → OH h.2.1 hx.2.1 S → (CKF h.2.1 → CKF hx.2.1) → KP h.2.1 hx.2.1 → (0 : Int) ≤ (hx.2.1 70 4).toInt → (hx.2.1 70 4).toInt ≤ 500 → (-2147483648 : Int) ≤ (hx.2.1 70 5).toInt → (hx.2.1 70 5).toInt ≤ 2147483647 → (1 : Int) < n → Go l RX8 cX8_readItem 7 (g_rm (d + 5) 0 0) "readItem" none 117 0 0 (fun _ _ => True) (fun r h' => r = none ∧ (∃ Q : PP, Iv Q h' ∧ MW P Q) ∧ ((h'.2.1 70 5).toInt = 0 → (h.2.1 70 5).toInt = 0) ∧ ((h.2.1 70 4).toInt ≤ (h'.2.1 70 4).toInt) ∧ ((h'.2.1 70 5).toInt = 0 → (h.2.1 70 4).toInt + 1 ≤ (h'.2.1 70 4).toInt ∧ 6 * (V h'.2.1 73 (h.2.1 70 6).toInt - V h'.2.1 75 (h.2.1 70 6).toInt) - (h'.2.1 70 4).toInt ≤ 6 * (V h.2.1 73 (h.2.1 70 6).toInt - V h.2.1 75 (h.2.1 70 6).toInt) - (h.2.1 70 4).toInt ∧ 2 * V h'.2.1 74 (h.2.1 70 6).toInt - (h'.2.1 70 4).toInt ≤ 2 * V h.2.1 74 (h.2.1 70 6).toInt - (h.2.1 70 4).toInt) ∧ ((h'.2.1 70 5).toInt = 0 → RI h.2.1 h'.2.1 (h.2.1 70 6).toInt a2.toInt a4.toInt) ∧ (KP h.2.1 h'.2.1) ∧ (OH h.2.1 h'.2.1 (h.2.1 70 6).toInt) ∧ (CKF h.2.1 → CKF h'.2.1)) 0 70 [(0, .ref 70), (1, .int l1), (2, .int l2), (3, .int l3), (4, .int l4), (5, .int l5)] [] hx) := by
    intro n
    induction n with
    | zero => exact (by intros; omega)
    | succ n ih =>
      refine ?_
      ·
        intro l1 l2 l3 l4 l5 Qx hx hvx sqx l1l l1u l2l l2u l3l l3u l4l l4u l5l l5u x0 x1 x2 x3 x4 x5 ohx ckx kpx y0l y0u y1l y1u hm
        obtain ⟨u70_4, u70_4w⟩ : ∃ v : Int32, v = hx.2.1 70 4 := ⟨_, rfl⟩
        have u70_4e : (hx.2.1 70 4).toInt = u70_4.toInt := by rw [u70_4w]
        have u70_4l : 0 ≤ u70_4.toInt := by rw [u70_4w]; exact (hvx.2.1 70 4).1
        have u70_4u : u70_4.toInt ≤ 500 := by rw [u70_4w]; exact (hvx.2.1 70 4).2
        obtain ⟨u70_5, u70_5w⟩ : ∃ v : Int32, v = hx.2.1 70 5 := ⟨_, rfl⟩
        have u70_5e : (hx.2.1 70 5).toInt = u70_5.toInt := by rw [u70_5w]
        have u70_5l : -2147483648 ≤ u70_5.toInt := by rw [u70_5w]; exact (hvx.2.1 70 5).1
        have u70_5u : u70_5.toInt ≤ 2147483647 := by rw [u70_5w]; exact (hvx.2.1 70 5).2
        have xve := x0
        have n73_x : V hx.2.1 73 S = V h.2.1 73 S := x0.v (by omega) (by omega)
        have n74_x : V hx.2.1 74 S = V h.2.1 74 S := x0.v (by omega) (by omega)
        have n75_x : V hx.2.1 75 S = V h.2.1 75 S := x0.v (by omega) (by omega)
        refine go_aload_n (pc := 70) rfl dX8_readItem_70 ?_
        refine go_invV (pc := 71) (sl := 0) (s_X8_isGood l (d + 3) hvx ) mL_X8_172 iM_X8_isGood sM_X8_isGood (hvx.sh rfl) rfl rfl rfl (Nat.le_of_ble_eq_true rfl) (show d + 3 + 1 + 1 ≤ d + 5 by omega) (show 8 + (1 + 11) + 40 * (d + 3 + 1) ≤ 40 * (d + 5) by omega) (g_c0 hvx.ln) (Nat.le_of_ble_eq_true rfl) dX8_readItem_71 ?_
        intro r h1 hq _
        obtain ⟨v4, rfl, v4l, v4u, rfl, f2, f3⟩ := hq
        refine gf_if_ne (pc := 74) (tgt := 78) (ti_rfl v4) (by decide) dX8_readItem_74 (fun q5 => ?_) (fun q5 => ?_)
        ·
          have tp := ht.1.1
          have hbb : 280 * S ≤ a2.toInt ∧ a2.toInt < 280 * S + V h.2.1 74 S := ht.2.1
          have xx := x5 (by omega)
          have k75 : V hx.2.1 75 S ≤ 40 := (hvx.2.1 75 _).2
          refine go_sipush (pc := 78) (v := 130) (by decide) dX8_readItem_78 ?_
          refine go_aload_n (pc := 81) rfl dX8_readItem_81 ?_
          refine gi_get (pc := 82) (lo := 0) (hi := 1) hvx fL_X8_187 rfl (Nat.le_of_ble_eq_true rfl) rfl rfl dX8_readItem_82 (fun v6 v6l v6u v6w => ?_)
          have v6S : v6.toInt = S := by rw [v6w]; exact (congrArg Int32.toInt ohx.side).trans hS.symm
          refine gf_imul (pc := 85) (ti_c (v := 130) (a := 130) (by decide)) (ti_rfl v6) (by omega) (by omega) dX8_readItem_85 (fun v7 e8 => ?_)
          refine go_aload_n (pc := 86) rfl dX8_readItem_86 ?_
          refine gi_getF (pc := 87) (q := 73) hvx fL_X8_16 rfl (Nat.le_of_ble_eq_true rfl) rfl (hvx.rf (by decide)) dX8_readItem_87 ?_
          refine go_aload_n (pc := 90) rfl dX8_readItem_90 ?_
          refine gi_get (pc := 91) (lo := 0) (hi := 1) hvx fL_X8_187 rfl (Nat.le_of_ble_eq_true rfl) rfl rfl dX8_readItem_91 (fun v9 v9l v9u v9w => ?_)
          have v9r : v6 = hx.2.1 70 6 := v6w
          have v9q : TI v9 v6.toInt := by rw [v9w.trans v9r.symm]; exact (ti_rfl v6)
          refine gi_iald (pc := 94) (lo := 0) (hi := 130) (len := 2) hvx v9q rfl (by omega) (by omega) (fun _ => rfl) dX8_readItem_94 (fun v10 v10l v10u v10w => ?_)
          have v10V : v10.toInt = V hx.2.1 73 S := by rw [v10w, v6S]; rfl
          refine gf_iadd (pc := 95) e8 (ti_rfl v10) (by omega) (by omega) dX8_readItem_95 (fun v11 e12 => ?_)
          refine go_istore (pc := 96) (Nat.le_of_ble_eq_true rfl) dX8_readItem_96 (go_lv (lv2 := [(0, .ref 70), (1, .int l1), (2, .int l2), (3, .int l3), (4, .int l4), (5, .int l5), (6, .int v11)]) rfl ?_)
          refine go_aload_n (pc := 98) rfl dX8_readItem_98 ?_
          refine gi_getF (pc := 99) (q := 73) hvx fL_X8_16 rfl (Nat.le_of_ble_eq_true rfl) rfl (hvx.rf (by decide)) dX8_readItem_99 ?_
          refine go_aload_n (pc := 102) rfl dX8_readItem_102 ?_
          refine gi_get (pc := 103) (lo := 0) (hi := 1) hvx fL_X8_187 rfl (Nat.le_of_ble_eq_true rfl) rfl rfl dX8_readItem_103 (fun v13 v13l v13u v13w => ?_)
          have v13r : v6 = hx.2.1 70 6 := v6w
          have v13q : TI v13 v6.toInt := by rw [v13w.trans v13r.symm]; exact (ti_rfl v6)
          refine go_dup2 (pc := 106) rfl rfl dX8_readItem_106 ?_
          refine gi_iald (pc := 107) (lo := 0) (hi := 130) (len := 2) hvx v13q rfl (by omega) (by omega) (fun _ => rfl) dX8_readItem_107 (fun v14 v14l v14u v14w => ?_)
          have v14V : v14.toInt = V hx.2.1 73 S := by rw [v14w, v6S]; rfl
          refine go_iconst (pc := 108) (v := 1) (by decide) dX8_readItem_108 ?_
          refine gf_iadd (pc := 109) (ti_rfl v14) (ti_c (v := 1) (a := 1) (by decide)) (by omega) (by omega) dX8_readItem_109 (fun v15 e16 => ?_)
          refine gi_fst (pc := 110) (lo := 0) (hi := 130) (len := 2) hvx v13q e16 rfl (by omega) (by omega) (fun _ => rfl) (by omega) (by omega) (by omega) dX8_readItem_110 (fun h17 hv17 hv17e => ?_)
          refine go_aload_n (pc := 111) rfl dX8_readItem_111 ?_
          refine gi_getF (pc := 112) (q := 77) hv17 fL_X8_29 rfl (Nat.le_of_ble_eq_true rfl) rfl (hv17.rf (by decide)) dX8_readItem_112 ?_
          refine go_iload (pc := 115) rfl dX8_readItem_115 ?_
          refine go_iload (pc := 117) rfl dX8_readItem_117 ?_
          refine gi_fst (pc := 119) (lo := 0) (hi := 6) (len := 260) hv17 e12 (ti_rfl l5) rfl (by omega) (by omega) (fun _ => rfl) (by omega) (by omega) (by omega) dX8_readItem_119 (fun h18 hv18 hv18e => ?_)
          refine go_aload_n (pc := 120) rfl dX8_readItem_120 ?_
          refine gi_getF (pc := 121) (q := 78) hv18 fL_X8_32 rfl (Nat.le_of_ble_eq_true rfl) rfl (hv18.rf (by decide)) dX8_readItem_121 ?_
          refine go_iload (pc := 124) rfl dX8_readItem_124 ?_
          refine go_iconst (pc := 126) (v := (-1)) (by decide) dX8_readItem_126 ?_
          refine gi_fst (pc := 127) (lo := -1) (hi := 39) (len := 260) hv18 e12 (ti_c (v := (-1)) (a := (-1)) (by decide)) rfl (by omega) (by omega) (fun _ => rfl) (by omega) (by omega) (by omega) dX8_readItem_127 (fun h19 hv19 hv19e => ?_)
          refine go_aload_n (pc := 128) rfl dX8_readItem_128 ?_
          refine gi_getF (pc := 129) (q := 79) hv19 fL_X8_35 rfl (Nat.le_of_ble_eq_true rfl) rfl (hv19.rf (by decide)) dX8_readItem_129 ?_
          refine go_iload (pc := 132) rfl dX8_readItem_132 ?_
          refine go_iload_n (pc := 134) rfl dX8_readItem_134 ?_
          refine gi_fst (pc := 135) (lo := 0) (hi := 4) (len := 260) hv19 e12 (ti_rfl l2) rfl (by omega) (by omega) (fun _ => rfl) (by omega) (by omega) (by omega) dX8_readItem_135 (fun h20 hv20 hv20e => ?_)
          refine go_aload_n (pc := 136) rfl dX8_readItem_136 ?_
          refine gi_getF (pc := 137) (q := 80) hv20 fL_X8_38 rfl (Nat.le_of_ble_eq_true rfl) rfl (hv20.rf (by decide)) dX8_readItem_137 ?_
          refine go_iload (pc := 140) rfl dX8_readItem_140 ?_
          refine go_iload_n (pc := 142) rfl dX8_readItem_142 ?_
          refine gi_fst (pc := 143) (lo := 0) (hi := 6) (len := 260) hv20 e12 (ti_rfl l3) rfl (by omega) (by omega) (fun _ => rfl) (by omega) (by omega) (by omega) dX8_readItem_143 (fun h21 hv21 hv21e => ?_)
          refine go_aload_n (pc := 144) rfl dX8_readItem_144 ?_
          refine gi_getF (pc := 145) (q := 81) hv21 fL_X8_41 rfl (Nat.le_of_ble_eq_true rfl) rfl (hv21.rf (by decide)) dX8_readItem_145 ?_
          refine go_iload (pc := 148) rfl dX8_readItem_148 ?_
          refine go_aload_n (pc := 150) rfl dX8_readItem_150 ?_
          refine gi_get (pc := 151) (lo := 0) (hi := 500) hv21 fL_X8_163 rfl (Nat.le_of_ble_eq_true rfl) rfl rfl dX8_readItem_151 (fun v22 v22l v22u v22w => ?_)
          have v22r : u70_4 = h21.2.1 70 4 := (show u70_4 = h21.2.1 70 4 from by rw [hv21e]; exact (g_iI rfl (show u70_4 = h20.2.1 70 4 from by rw [hv20e]; exact (g_iI rfl (show u70_4 = h19.2.1 70 4 from by rw [hv19e]; exact (g_iI rfl (show u70_4 = h18.2.1 70 4 from by rw [hv18e]; exact (g_iI rfl (show u70_4 = h17.2.1 70 4 from by rw [hv17e]; exact (g_iI rfl u70_4w.symm).symm).symm).symm).symm).symm).symm).symm).symm).symm)
          have v22q : TI v22 u70_4.toInt := by rw [v22w.trans v22r.symm]; exact (ti_rfl u70_4)
          refine gi_fst (pc := 154) (lo := -2147483648) (hi := 2147483647) (len := 260) hv21 e12 v22q rfl (by omega) (by omega) (fun _ => rfl) (ti_ge v22q) (ti_le2 v22q) (by omega) dX8_readItem_154 (fun h23 hv23 hv23e => ?_)
          refine go_aload_n (pc := 155) rfl dX8_readItem_155 ?_
          refine gi_getF (pc := 156) (q := 82) hv23 fL_X8_44 rfl (Nat.le_of_ble_eq_true rfl) rfl (hv23.rf (by decide)) dX8_readItem_156 ?_
          refine go_iload (pc := 159) rfl dX8_readItem_159 ?_
          refine go_iload (pc := 161) rfl dX8_readItem_161 ?_
          refine gi_fst (pc := 163) (lo := -1) (hi := 9) (len := 260) hv23 e12 (ti_rfl l4) rfl (by omega) (by omega) (fun _ => rfl) (by omega) (by omega) (by omega) dX8_readItem_163 (fun h24 hv24 hv24e => ?_)
          refine go_aload_n (pc := 164) rfl dX8_readItem_164 ?_
          refine gi_getF (pc := 165) (q := 83) hv24 fL_X8_47 rfl (Nat.le_of_ble_eq_true rfl) rfl (hv24.rf (by decide)) dX8_readItem_165 ?_
          refine go_iload (pc := 168) rfl dX8_readItem_168 ?_
          refine go_iconst (pc := 170) (v := 0) (by decide) dX8_readItem_170 ?_
          refine gi_fst (pc := 171) (lo := -2147483648) (hi := 2147483647) (len := 260) hv24 e12 (ti_c (v := 0) (a := 0) (by decide)) rfl (by omega) (by omega) (fun _ => rfl) (ti_ge (ti_c (v := 0) (a := 0) (by decide))) (ti_le2 (ti_c (v := 0) (a := 0) (by decide))) (by omega) dX8_readItem_171 (fun h25 hv25 hv25e => ?_)
          refine go_aload_n (pc := 172) rfl dX8_readItem_172 ?_
          refine gi_getF (pc := 173) (q := 84) hv25 fL_X8_50 rfl (Nat.le_of_ble_eq_true rfl) rfl (hv25.rf (by decide)) dX8_readItem_173 ?_
          refine go_iload (pc := 176) rfl dX8_readItem_176 ?_
          refine go_bipush (pc := 178) (v := (-2)) (by decide) dX8_readItem_178 ?_
          refine gi_fst (pc := 180) (lo := -2) (hi := 4) (len := 260) hv25 e12 (ti_c (v := (-2)) (a := (-2)) (by decide)) rfl (by omega) (by omega) (fun _ => rfl) (by omega) (by omega) (by omega) dX8_readItem_180 (fun h26 hv26 hv26e => ?_)
          refine go_aload_n (pc := 181) rfl dX8_readItem_181 ?_
          refine gi_getF (pc := 182) (q := 85) hv26 fL_X8_53 rfl (Nat.le_of_ble_eq_true rfl) rfl (hv26.rf (by decide)) dX8_readItem_182 ?_
          refine go_iload (pc := 185) rfl dX8_readItem_185 ?_
          refine go_iconst (pc := 187) (v := (-1)) (by decide) dX8_readItem_187 ?_
          refine gi_fst (pc := 188) (lo := -1) (hi := 559) (len := 260) hv26 e12 (ti_c (v := (-1)) (a := (-1)) (by decide)) rfl (by omega) (by omega) (fun _ => rfl) (by omega) (by omega) (by omega) dX8_readItem_188 (fun h27 hv27 hv27e => ?_)
          refine go_aload_n (pc := 189) rfl dX8_readItem_189 ?_
          refine gi_getF (pc := 190) (q := 86) hv27 fL_X8_56 rfl (Nat.le_of_ble_eq_true rfl) rfl (hv27.rf (by decide)) dX8_readItem_190 ?_
          refine go_iload (pc := 193) rfl dX8_readItem_193 ?_
          refine go_iconst (pc := 195) (v := (-1)) (by decide) dX8_readItem_195 ?_
          refine gi_fst (pc := 196) (lo := -1) (hi := 559) (len := 260) hv27 e12 (ti_c (v := (-1)) (a := (-1)) (by decide)) rfl (by omega) (by omega) (fun _ => rfl) (by omega) (by omega) (by omega) dX8_readItem_196 (fun h28 hv28 hv28e => ?_)
          refine go_aload_n (pc := 197) rfl dX8_readItem_197 ?_
          refine gi_getF (pc := 198) (q := 87) hv28 fL_X8_59 rfl (Nat.le_of_ble_eq_true rfl) rfl (hv28.rf (by decide)) dX8_readItem_198 ?_
          refine go_iload (pc := 201) rfl dX8_readItem_201 ?_
          refine go_iconst (pc := 203) (v := (-1)) (by decide) dX8_readItem_203 ?_
          refine gi_fst (pc := 204) (lo := -1) (hi := 259) (len := 260) hv28 e12 (ti_c (v := (-1)) (a := (-1)) (by decide)) rfl (by omega) (by omega) (fun _ => rfl) (by omega) (by omega) (by omega) dX8_readItem_204 (fun h29 hv29 hv29e => ?_)
          refine go_aload_n (pc := 205) rfl dX8_readItem_205 ?_
          refine gi_getF (pc := 206) (q := 88) hv29 fL_X8_62 rfl (Nat.le_of_ble_eq_true rfl) rfl (hv29.rf (by decide)) dX8_readItem_206 ?_
          refine go_iload (pc := 209) rfl dX8_readItem_209 ?_
          refine go_iload_n (pc := 211) rfl dX8_readItem_211 ?_
          refine gi_fst (pc := 212) (lo := 0) (hi := 559) (len := 260) hv29 e12 (ti_rfl l1) rfl (by omega) (by omega) (fun _ => rfl) (by omega) (by omega) (by omega) dX8_readItem_212 (fun h30 hv30 hv30e => ?_)
          refine go_aload_n (pc := 213) rfl dX8_readItem_213 ?_
          refine gi_getF (pc := 214) (q := 89) hv30 fL_X8_65 rfl (Nat.le_of_ble_eq_true rfl) rfl (hv30.rf (by decide)) dX8_readItem_214 ?_
          refine go_iconst (pc := 217) (v := 2) (by decide) dX8_readItem_217 ?_
          refine go_iload (pc := 218) rfl dX8_readItem_218 ?_
          refine gf_imul (pc := 220) (ti_c (v := 2) (a := 2) (by decide)) e12 (by omega) (by omega) dX8_readItem_220 (fun v31 e32 => ?_)
          refine go_iconst (pc := 221) (v := 0) (by decide) dX8_readItem_221 ?_
          refine gi_fst (pc := 222) (lo := 0) (hi := 9999) (len := 520) hv30 e32 (ti_c (v := 0) (a := 0) (by decide)) rfl (by omega) (by omega) (fun _ => rfl) (by omega) (by omega) (by omega) dX8_readItem_222 (fun h33 hv33 hv33e => ?_)
          refine go_aload_n (pc := 223) rfl dX8_readItem_223 ?_
          refine gi_getF (pc := 224) (q := 89) hv33 fL_X8_65 rfl (Nat.le_of_ble_eq_true rfl) rfl (hv33.rf (by decide)) dX8_readItem_224 ?_
          refine go_iconst (pc := 227) (v := 2) (by decide) dX8_readItem_227 ?_
          refine go_iload (pc := 228) rfl dX8_readItem_228 ?_
          refine gf_imul (pc := 230) (ti_c (v := 2) (a := 2) (by decide)) e12 (by omega) (by omega) dX8_readItem_230 (fun v34 e35 => ?_)
          refine go_iconst (pc := 231) (v := 1) (by decide) dX8_readItem_231 ?_
          refine gf_iadd (pc := 232) e35 (ti_c (v := 1) (a := 1) (by decide)) (by omega) (by omega) dX8_readItem_232 (fun v36 e37 => ?_)
          refine go_iconst (pc := 233) (v := 0) (by decide) dX8_readItem_233 ?_
          refine gi_fst (pc := 234) (lo := 0) (hi := 9999) (len := 520) hv33 e37 (ti_c (v := 0) (a := 0) (by decide)) rfl (by omega) (by omega) (fun _ => rfl) (by omega) (by omega) (by omega) dX8_readItem_234 (fun h38 hv38 hv38e => ?_)
          refine go_iload (pc := 235) rfl dX8_readItem_235 ?_
          refine go_bipush (pc := 237) (v := 6) (by decide) dX8_readItem_237 ?_
          have E38 : h38.2.1 = (w1 (w1 (w1 (w1 (w1 (w1 (w1 (w1 (w1 (w1 (w1 (w1 (w1 (w1 (w1 hx.2.1 73 S (v15 : Int32)) 77 (((130 * S) + v10.toInt)) (l5 : Int32)) 78 (((130 * S) + v10.toInt)) ((-1) : Int32)) 79 (((130 * S) + v10.toInt)) (l2 : Int32)) 80 (((130 * S) + v10.toInt)) (l3 : Int32)) 81 (((130 * S) + v10.toInt)) (v22 : Int32)) 82 (((130 * S) + v10.toInt)) (l4 : Int32)) 83 (((130 * S) + v10.toInt)) (0 : Int32)) 84 (((130 * S) + v10.toInt)) ((-2) : Int32)) 85 (((130 * S) + v10.toInt)) ((-1) : Int32)) 86 (((130 * S) + v10.toInt)) ((-1) : Int32)) 87 (((130 * S) + v10.toInt)) ((-1) : Int32)) 88 (((130 * S) + v10.toInt)) (l1 : Int32)) 89 ((2 * ((130 * S) + v10.toInt))) (0 : Int32)) 89 (((2 * ((130 * S) + v10.toInt)) + 1)) (0 : Int32)) := by
            rw [hv38e, hv33e, hv30e, hv29e, hv28e, hv27e, hv26e, hv25e, hv24e, hv23e, hv21e, hv20e, hv19e, hv18e, hv17e]
            rw [v6S]
            rfl
          have oh38 : OH h.2.1 h38.2.1 S := by rw [E38]; exact (((((((((((((((ohx.trans (OH.w 1 rfl (by omega) (by omega) (by omega) (by omega))).trans (OH.w 130 rfl (by omega) (by omega) (by omega) (by omega))).trans (OH.w 130 rfl (by omega) (by omega) (by omega) (by omega))).trans (OH.w 130 rfl (by omega) (by omega) (by omega) (by omega))).trans (OH.w 130 rfl (by omega) (by omega) (by omega) (by omega))).trans (OH.w 130 rfl (by omega) (by omega) (by omega) (by omega))).trans (OH.w 130 rfl (by omega) (by omega) (by omega) (by omega))).trans (OH.w 130 rfl (by omega) (by omega) (by omega) (by omega))).trans (OH.w 130 rfl (by omega) (by omega) (by omega) (by omega))).trans (OH.w 130 rfl (by omega) (by omega) (by omega) (by omega))).trans (OH.w 130 rfl (by omega) (by omega) (by omega) (by omega))).trans (OH.w 130 rfl (by omega) (by omega) (by omega) (by omega))).trans (OH.w 130 rfl (by omega) (by omega) (by omega) (by omega))).trans (OH.w 260 rfl (by omega) (by omega) (by omega) (by omega))).trans (OH.w 260 rfl (by omega) (by omega) (by omega) (by omega)))
          have kp38 : KP h.2.1 h38.2.1 := by rw [E38]; exact (((((((((((((((kpx.trans (KP.w (by omega))).trans (KP.w (by omega))).trans (KP.w (by omega))).trans (KP.w (by omega))).trans (KP.w (by omega))).trans (KP.w (by omega))).trans (KP.w (by omega))).trans (KP.w (by omega))).trans (KP.w (by omega))).trans (KP.w (by omega))).trans (KP.w (by omega))).trans (KP.w (by omega))).trans (KP.w (by omega))).trans (KP.w (by omega))).trans (KP.w (by omega)))
          have n73_38 : V h38.2.1 73 S = (v14.toInt + 1) := by rw [E38, V_ne (by omega), V_ne (by omega), V_ne (by omega), V_ne (by omega), V_ne (by omega), V_ne (by omega), V_ne (by omega), V_ne (by omega), V_ne (by omega), V_ne (by omega), V_ne (by omega), V_ne (by omega), V_ne (by omega), V_ne (by omega), V_eq]; exact e16
          have n74_38 : V h38.2.1 74 S = V hx.2.1 74 S := by rw [E38, V_ne (by omega), V_ne (by omega), V_ne (by omega), V_ne (by omega), V_ne (by omega), V_ne (by omega), V_ne (by omega), V_ne (by omega), V_ne (by omega), V_ne (by omega), V_ne (by omega), V_ne (by omega), V_ne (by omega), V_ne (by omega), V_ne (by omega)]
          have n75_38 : V h38.2.1 75 S = V hx.2.1 75 S := by rw [E38, V_ne (by omega), V_ne (by omega), V_ne (by omega), V_ne (by omega), V_ne (by omega), V_ne (by omega), V_ne (by omega), V_ne (by omega), V_ne (by omega), V_ne (by omega), V_ne (by omega), V_ne (by omega), V_ne (by omega), V_ne (by omega), V_ne (by omega)]
          have ck38 : CKF h.2.1 → CKF h38.2.1 := fun z => by rw [E38]; exact (CKF.w (by omega) (CKF.w (by omega) (CKF.w (by omega) (CKF.w (by omega) (CKF.w (by omega) (CKF.w (by omega) (CKF.w84 (Or.inr (by rw [V_ne (by omega), V_ne (by omega), V_ne (by omega), V_ne (by omega), V_ne (by omega), V_ne (by omega), V_eq, show (l5 : Int32).toInt = l5.toInt from (ti_rfl l5)]; omega)) (CKF.w (by omega) (CKF.w (by omega) (CKF.w (by omega) (CKF.w (by omega) (CKF.w (by omega) (CKF.w (by omega) (CKF.w77 (by rw [show (l5 : Int32).toInt = l5.toInt from (ti_rfl l5)]; omega) (CKF.w (by omega) (ckx z))))))))))))))))
          refine gf_icmp_eq (pc := 239) (tgt := 295) (ti_rfl l5) (ti_c (v := 6) (a := 6) (by decide)) (by decide) dX8_readItem_239 (fun q39 => ?_) (fun q39 => ?_)
          ·
            refine go_aload_n (pc := 295) rfl dX8_readItem_295 ?_
            refine gi_getF (pc := 296) (q := 90) hv38 fL_X8_68 rfl (Nat.le_of_ble_eq_true rfl) rfl (hv38.rf (by decide)) dX8_readItem_296 ?_
            refine go_iload_n (pc := 299) rfl dX8_readItem_299 ?_
            refine gi_iald (pc := 300) (lo := -1) (hi := 259) (len := 560) hv38 (ti_rfl l1) rfl (by omega) (by omega) (fun _ => rfl) dX8_readItem_300 (fun v40 v40l v40u v40w => ?_)
            have v40V : v40.toInt = V h38.2.1 90 l1.toInt := by rw [v40w]; rfl
            have f90 : V h38.2.1 90 l1.toInt = V hx.2.1 90 l1.toInt := by rw [E38, V_ne (by omega), V_ne (by omega), V_ne (by omega), V_ne (by omega), V_ne (by omega), V_ne (by omega), V_ne (by omega), V_ne (by omega), V_ne (by omega), V_ne (by omega), V_ne (by omega), V_ne (by omega), V_ne (by omega), V_ne (by omega), V_ne (by omega)]
            have f91 : V h38.2.1 91 l1.toInt = V hx.2.1 91 l1.toInt := by rw [E38, V_ne (by omega), V_ne (by omega), V_ne (by omega), V_ne (by omega), V_ne (by omega), V_ne (by omega), V_ne (by omega), V_ne (by omega), V_ne (by omega), V_ne (by omega), V_ne (by omega), V_ne (by omega), V_ne (by omega), V_ne (by omega), V_ne (by omega)]
            have g90 : V hx.2.1 90 l1.toInt = V h.2.1 90 a2.toInt := by rw [x1]; exact xve.v (by omega) (by omega)
            have g91 : V hx.2.1 91 l1.toInt = V h.2.1 91 a2.toInt := by rw [x1]; exact xve.v (by omega) (by omega)
            refine go_iconst (pc := 301) (v := (-1)) (by decide) dX8_readItem_301 ?_
            refine gf_icmp_ne (pc := 302) (tgt := 316) (ti_rfl v40) (ti_c (v := (-1)) (a := (-1)) (by decide)) (by decide) dX8_readItem_302 (fun q41 => ?_) (fun q41 => ?_)
            ·
              have t5 := ht.1.2.2.2.2.2.1 a2.toInt ht.2.1
              rcases t5.2.1 with z | ⟨⟨z1, z2⟩, z3⟩
              · exact absurd z (t5.2.2.2 (by omega))
              refine go_aload_n (pc := 316) rfl dX8_readItem_316 ?_
              refine gi_getF (pc := 317) (q := 87) hv38 fL_X8_59 rfl (Nat.le_of_ble_eq_true rfl) rfl (hv38.rf (by decide)) dX8_readItem_317 ?_
              refine go_aload_n (pc := 320) rfl dX8_readItem_320 ?_
              refine gi_getF (pc := 321) (q := 91) hv38 fL_X8_71 rfl (Nat.le_of_ble_eq_true rfl) rfl (hv38.rf (by decide)) dX8_readItem_321 ?_
              refine go_iload_n (pc := 324) rfl dX8_readItem_324 ?_
              refine gi_iald (pc := 325) (lo := -1) (hi := 259) (len := 560) hv38 (ti_rfl l1) rfl (by omega) (by omega) (fun _ => rfl) dX8_readItem_325 (fun v42 v42l v42u v42w => ?_)
              have v42V : v42.toInt = V h38.2.1 91 l1.toInt := by rw [v42w]; rfl
              refine go_iload (pc := 326) rfl dX8_readItem_326 ?_
              refine gi_fst (pc := 328) (lo := -1) (hi := 259) (len := 260) hv38 (ti_rfl v42) e12 rfl (by omega) (by omega) (fun _ => rfl) (by omega) (by omega) (by omega) dX8_readItem_328 (fun h43 hv43 hv43e => ?_)
              refine go_aload_n (pc := 329) rfl dX8_readItem_329 ?_
              refine gi_getF (pc := 330) (q := 91) hv43 fL_X8_71 rfl (Nat.le_of_ble_eq_true rfl) rfl (hv43.rf (by decide)) dX8_readItem_330 ?_
              refine go_iload_n (pc := 333) rfl dX8_readItem_333 ?_
              refine go_iload (pc := 334) rfl dX8_readItem_334 ?_
              refine gi_fst (pc := 336) (lo := -1) (hi := 259) (len := 560) hv43 (ti_rfl l1) e12 rfl (by omega) (by omega) (fun _ => rfl) (by omega) (by omega) (by omega) dX8_readItem_336 (fun h44 hv44 hv44e => ?_)
              refine go_aload_n (pc := 337) rfl dX8_readItem_337 ?_
              refine go_dup (pc := 338) rfl dX8_readItem_338 ?_
              refine gi_get (pc := 339) (lo := 0) (hi := 500) hv44 fL_X8_163 rfl (Nat.le_of_ble_eq_true rfl) rfl rfl dX8_readItem_339 (fun v45 v45l v45u v45w => ?_)
              have v45r : u70_4 = h44.2.1 70 4 := (show u70_4 = h44.2.1 70 4 from by rw [hv44e]; exact (g_iI rfl (show u70_4 = h43.2.1 70 4 from by rw [hv43e]; exact (g_iI rfl (show u70_4 = h38.2.1 70 4 from by rw [hv38e]; exact (g_iI rfl (show u70_4 = h33.2.1 70 4 from by rw [hv33e]; exact (g_iI rfl (show u70_4 = h30.2.1 70 4 from by rw [hv30e]; exact (g_iI rfl (show u70_4 = h29.2.1 70 4 from by rw [hv29e]; exact (g_iI rfl (show u70_4 = h28.2.1 70 4 from by rw [hv28e]; exact (g_iI rfl (show u70_4 = h27.2.1 70 4 from by rw [hv27e]; exact (g_iI rfl (show u70_4 = h26.2.1 70 4 from by rw [hv26e]; exact (g_iI rfl (show u70_4 = h25.2.1 70 4 from by rw [hv25e]; exact (g_iI rfl (show u70_4 = h24.2.1 70 4 from by rw [hv24e]; exact (g_iI rfl (show u70_4 = h23.2.1 70 4 from by rw [hv23e]; exact (g_iI rfl (show u70_4 = h21.2.1 70 4 from by rw [hv21e]; exact (g_iI rfl (show u70_4 = h20.2.1 70 4 from by rw [hv20e]; exact (g_iI rfl (show u70_4 = h19.2.1 70 4 from by rw [hv19e]; exact (g_iI rfl (show u70_4 = h18.2.1 70 4 from by rw [hv18e]; exact (g_iI rfl (show u70_4 = h17.2.1 70 4 from by rw [hv17e]; exact (g_iI rfl u70_4w.symm).symm).symm).symm).symm).symm).symm).symm).symm).symm).symm).symm).symm).symm).symm).symm).symm).symm).symm).symm).symm).symm).symm).symm).symm).symm).symm).symm).symm).symm).symm).symm).symm).symm)
              have v45q : TI v45 u70_4.toInt := by rw [v45w.trans v45r.symm]; exact (ti_rfl u70_4)
              refine go_iconst (pc := 342) (v := 1) (by decide) dX8_readItem_342 ?_
              refine gf_iadd (pc := 343) v45q (ti_c (v := 1) (a := 1) (by decide)) (by omega) (by omega) dX8_readItem_343 (fun v46 e47 => ?_)
              have E44 : h44.2.1 = (w1 (w1 h38.2.1 87 v42.toInt (v11 : Int32)) 91 l1.toInt (v11 : Int32)) := by
                rw [hv44e, hv43e]
                rfl
              have oh44 : OH h.2.1 h44.2.1 S := by rw [E44]; exact ((oh38.trans (OH.w 130 rfl (by omega) (by omega) (by omega) (by omega))).trans (OH.w 280 rfl (by omega) (by omega) (by omega) (by omega)))
              have kp44 : KP h.2.1 h44.2.1 := by rw [E44]; exact ((kp38.trans (KP.w (by omega))).trans (KP.w (by omega)))
              have n73_44 : V h44.2.1 73 S = V h38.2.1 73 S := by rw [E44, V_ne (by omega), V_ne (by omega)]
              have n74_44 : V h44.2.1 74 S = V h38.2.1 74 S := by rw [E44, V_ne (by omega), V_ne (by omega)]
              have n75_44 : V h44.2.1 75 S = V h38.2.1 75 S := by rw [E44, V_ne (by omega), V_ne (by omega)]
              have ck44 : CKF h.2.1 → CKF h44.2.1 := fun z => by rw [E44]; exact (CKF.w (by omega) (CKF.w (by omega) (ck38 z)))
              refine gi_put (pc := 344) (lo := 0) (hi := 500) hv44 e47 (fP_X8_163 _) rfl (Nat.le_of_ble_eq_true rfl) rfl rfl (by omega) (by omega) rfl rfl (by decide) (by decide) (by decide) (by decide) dX8_readItem_344 (fun h48 hv48 hv48e => ?_)
              have ve48 : VE h44.2.1 h48.2.1 := VE.of hv44 hv48
              have oh48 : OH h.2.1 h48.2.1 S := oh44.trans (OH.of hv44 hv48 S)
              have kp48 : KP h.2.1 h48.2.1 := kp44.trans (KP.ve ve48)
              have ck48 : CKF h.2.1 → CKF h48.2.1 := fun z => CKF.ve ve48 (ck44 z)
              have n73_48 : V h48.2.1 73 S = V h44.2.1 73 S := ve48.v (by omega) (by omega)
              have n74_48 : V h48.2.1 74 S = V h44.2.1 74 S := ve48.v (by omega) (by omega)
              have n75_48 : V h48.2.1 75 S = V h44.2.1 75 S := ve48.v (by omega) (by omega)
              refine go_iload (pc := 347) rfl dX8_readItem_347 ?_
              refine gf_if_ne (pc := 349) (tgt := 363) (ti_rfl l5) (by decide) dX8_readItem_349 (fun q49 => ?_) (fun q49 => False.elim (by omega))
              refine go_iload (pc := 363) rfl dX8_readItem_363 ?_
              refine go_iconst (pc := 365) (v := 2) (by decide) dX8_readItem_365 ?_
              refine gf_icmp_eq (pc := 366) (tgt := 375) (ti_rfl l5) (ti_c (v := 2) (a := 2) (by decide)) (by decide) dX8_readItem_366 (fun q50 => False.elim (by omega)) (fun q50 => ?_)
              refine go_iload (pc := 369) rfl dX8_readItem_369 ?_
              refine go_iconst (pc := 371) (v := 3) (by decide) dX8_readItem_371 ?_
              refine gf_icmp_ne (pc := 372) (tgt := 386) (ti_rfl l5) (ti_c (v := 3) (a := 3) (by decide)) (by decide) dX8_readItem_372 (fun q51 => ?_) (fun q51 => False.elim (by omega))
              refine go_iload (pc := 386) rfl dX8_readItem_386 ?_
              refine go_bipush (pc := 388) (v := 6) (by decide) dX8_readItem_388 ?_
              refine gf_icmp_ne (pc := 390) (tgt := 404) (ti_rfl l5) (ti_c (v := 6) (a := 6) (by decide)) (by decide) dX8_readItem_390 (fun q52 => False.elim (by omega)) (fun q52 => ?_)
              refine go_aload_n (pc := 393) rfl dX8_readItem_393 ?_
              refine go_iload (pc := 394) rfl dX8_readItem_394 ?_
              refine go_iload_n (pc := 396) rfl dX8_readItem_396 ?_
              refine go_iload_n (pc := 397) rfl dX8_readItem_397 ?_
              have EG : h44.2.1 = (w1 (w1 (w1 (w1 (w1 (w1 (w1 (w1 (w1 (w1 (w1 (w1 (w1 (w1 (w1 (w1 (w1 hx.2.1 73 S (v15 : Int32)) 77 (((130 * S) + v10.toInt)) (l5 : Int32)) 78 (((130 * S) + v10.toInt)) ((-1) : Int32)) 79 (((130 * S) + v10.toInt)) (l2 : Int32)) 80 (((130 * S) + v10.toInt)) (l3 : Int32)) 81 (((130 * S) + v10.toInt)) (v22 : Int32)) 82 (((130 * S) + v10.toInt)) (l4 : Int32)) 83 (((130 * S) + v10.toInt)) (0 : Int32)) 84 (((130 * S) + v10.toInt)) ((-2) : Int32)) 85 (((130 * S) + v10.toInt)) ((-1) : Int32)) 86 (((130 * S) + v10.toInt)) ((-1) : Int32)) 87 (((130 * S) + v10.toInt)) ((-1) : Int32)) 88 (((130 * S) + v10.toInt)) (l1 : Int32)) 89 ((2 * ((130 * S) + v10.toInt))) (0 : Int32)) 89 (((2 * ((130 * S) + v10.toInt)) + 1)) (0 : Int32)) 87 v42.toInt (v11 : Int32)) 91 l1.toInt (v11 : Int32)) := by rw [E44, E38]
              have z53 : (v15 : Int32).toInt = (v14.toInt + 1) := e16
              have z54 : ((-1) : Int32).toInt = (-1) := (ti_c (v := (-1)) (a := (-1)) (by decide))
              have z55 : (v22 : Int32).toInt = u70_4.toInt := v22q
              have z56 : (0 : Int32).toInt = 0 := (ti_c (v := 0) (a := 0) (by decide))
              have z57 : ((-2) : Int32).toInt = (-2) := (ti_c (v := (-2)) (a := (-2)) (by decide))
              have z58 : (v11 : Int32).toInt = ((130 * v6.toInt) + v10.toInt) := e12
              have y73 : V hx.2.1 73 S = V h.2.1 73 S := xve.v (by omega) (by omega)
              have y75 : V hx.2.1 75 S = V h.2.1 75 S := xve.v (by omega) (by omega)
              have ni : NI h.2.1 h48.2.1 S l1.toInt a4.toInt (((130 * S) + v10.toInt)) l5.toInt l4.toInt := NI.cr11 (its := l5.toInt) (nm := l4.toInt) S0 xve EG ve48 (by omega) (by omega) (by omega) (by omega) (by first | omega | decide) (by omega) (by decide) (by decide) (by decide) (by omega) (by decide) (by decide) (by omega) (by omega) (by omega) (by omega) (by omega) (by omega) (by omega) (by omega) (by omega) (by omega)
              obtain ⟨i1, i2, i3, i4, i5, i6, i7, i8⟩ := ni (ht.1) (by rw [x1]; exact ht.2.1) (by rw [x1]; exact ht.2.2)
              have ze : (v11 : Int32).toInt = ((130 * S) + v10.toInt) := by rw [show (v11 : Int32).toInt = ((130 * v6.toInt) + v10.toInt) from e12]; omega
              have sM59 : (h48.2.1 70 6).toInt = S := (congrArg Int32.toInt oh48.side).trans hS.symm
              have g60 : (0 : Int) ≤ (h48.2.1 70 4).toInt := (hv48.2.1 70 4).1
              have g61 : (h48.2.1 70 4).toInt ≤ 500 := (hv48.2.1 70 4).2
              have g62 : (-2147483648 : Int) ≤ (h48.2.1 70 5).toInt := (hv48.2.1 70 5).1
              have g63 : (h48.2.1 70 5).toInt ≤ 2147483647 := (hv48.2.1 70 5).2
              have g64 : (h48.2.1 70 5).toInt = u70_5.toInt := by rw [← (show u70_5 = h48.2.1 70 5 from (show u70_5 = h48.2.1 70 5 from by rw [hv48e]; exact (g_iI rfl (show u70_5 = h44.2.1 70 5 from by rw [hv44e]; exact (g_iI rfl (show u70_5 = h43.2.1 70 5 from by rw [hv43e]; exact (g_iI rfl (show u70_5 = h38.2.1 70 5 from by rw [hv38e]; exact (g_iI rfl (show u70_5 = h33.2.1 70 5 from by rw [hv33e]; exact (g_iI rfl (show u70_5 = h30.2.1 70 5 from by rw [hv30e]; exact (g_iI rfl (show u70_5 = h29.2.1 70 5 from by rw [hv29e]; exact (g_iI rfl (show u70_5 = h28.2.1 70 5 from by rw [hv28e]; exact (g_iI rfl (show u70_5 = h27.2.1 70 5 from by rw [hv27e]; exact (g_iI rfl (show u70_5 = h26.2.1 70 5 from by rw [hv26e]; exact (g_iI rfl (show u70_5 = h25.2.1 70 5 from by rw [hv25e]; exact (g_iI rfl (show u70_5 = h24.2.1 70 5 from by rw [hv24e]; exact (g_iI rfl (show u70_5 = h23.2.1 70 5 from by rw [hv23e]; exact (g_iI rfl (show u70_5 = h21.2.1 70 5 from by rw [hv21e]; exact (g_iI rfl (show u70_5 = h20.2.1 70 5 from by rw [hv20e]; exact (g_iI rfl (show u70_5 = h19.2.1 70 5 from by rw [hv19e]; exact (g_iI rfl (show u70_5 = h18.2.1 70 5 from by rw [hv18e]; exact (g_iI rfl (show u70_5 = h17.2.1 70 5 from by rw [hv17e]; exact (g_iI rfl u70_5w.symm).symm).symm).symm).symm).symm).symm).symm).symm).symm).symm).symm).symm).symm).symm).symm).symm).symm).symm).symm).symm).symm).symm).symm).symm).symm).symm).symm).symm).symm).symm).symm).symm).symm).symm).symm))] <;> exact (ti_rfl u70_5)
              have g65 : (h48.2.1 70 4).toInt = (u70_4.toInt + 1) := by rw [← (show v46 = h48.2.1 70 4 from (show v46 = h48.2.1 70 4 from by rw [hv48e]; exact g_iS.symm))] <;> exact e47
              refine go_invV (pc := 398) (sl := 0) (ihY hv48 v11 (by rw [show (v11 : Int32).toInt = ((130 * v6.toInt) + v10.toInt) from e12]; omega) (by rw [show (v11 : Int32).toInt = ((130 * v6.toInt) + v10.toInt) from e12]; omega) l2 (by rw [show (l2 : Int32).toInt = l2.toInt from (ti_rfl l2)]; omega) (by rw [show (l2 : Int32).toInt = l2.toInt from (ti_rfl l2)]; omega) l3 (by rw [show (l3 : Int32).toInt = l3.toInt from (ti_rfl l3)]; omega) (by rw [show (l3 : Int32).toInt = l3.toInt from (ti_rfl l3)]; omega) (by rw [sM59]; exact (by omega)) (by omega) (by rw [sM59]; exact (by omega)) (by rw [sM59]; exact ⟨i1, by omega, by omega, by rw [ze, x3]; exact i6, by rw [ze]; omega⟩) (by omega)) mL_X8_212 iM_X8_readTry sM_X8_readTry (hv48.sh rfl) rfl rfl rfl (Nat.le_of_ble_eq_true rfl) (show d + 4 + 1 ≤ d + 5 by omega) (show 8 + (4 + 11) + 40 * (d + 4) ≤ 40 * (d + 5) by omega) (g_c0 hv48.ln) (Nat.le_of_ble_eq_true rfl) dX8_readItem_398 ?_
              intro r h66 hq _
              obtain ⟨rfl, ⟨Q67, hv66, sq68⟩, f69, f70, f71, f72, f73, f74, f75⟩ := hq
              rw [sM59] at f71
              rw [sM59] at f72
              rw [sM59] at f74
              have oh66 : OH h.2.1 h66.2.1 S := oh48.trans f74
              have kp66 : KP h.2.1 h66.2.1 := kp48.trans f73
              have ck66 : CKF h.2.1 → CKF h66.2.1 := fun z => f75 (ck48 z)
              obtain ⟨u76, u76w⟩ : ∃ v : Int32, v = h66.2.1 70 4 := ⟨_, rfl⟩
              have u76e : (h66.2.1 70 4).toInt = u76.toInt := by rw [u76w]
              have u76l : 0 ≤ u76.toInt := by rw [u76w]; exact (hv66.2.1 70 4).1
              have u76u : u76.toInt ≤ 500 := by rw [u76w]; exact (hv66.2.1 70 4).2
              obtain ⟨u77, u77w⟩ : ∃ v : Int32, v = h66.2.1 70 5 := ⟨_, rfl⟩
              have u77e : (h66.2.1 70 5).toInt = u77.toInt := by rw [u77w]
              have u77l : -2147483648 ≤ u77.toInt := by rw [u77w]; exact (hv66.2.1 70 5).1
              have u77u : u77.toInt ≤ 2147483647 := by rw [u77w]; exact (hv66.2.1 70 5).2
              refine go_goto (pc := 401) (tgt := 410) (by decide) dX8_readItem_401 ?_
              have g78 : (0 : Int) ≤ (h66.2.1 70 4).toInt := (hv66.2.1 70 4).1
              have g79 : (h66.2.1 70 4).toInt ≤ 500 := (hv66.2.1 70 4).2
              have g80 : (-2147483648 : Int) ≤ (h66.2.1 70 5).toInt := (hv66.2.1 70 5).1
              have g81 : (h66.2.1 70 5).toInt ≤ 2147483647 := (hv66.2.1 70 5).2
              have g82 : (h66.2.1 70 4).toInt = u76.toInt := by rw [← (show u76 = h66.2.1 70 4 from u76w)] <;> exact (ti_rfl u76)
              have g83 : (h66.2.1 70 5).toInt = u77.toInt := by rw [← (show u77 = h66.2.1 70 5 from u77w)] <;> exact (ti_rfl u77)
              have pp84 : (h66.2.1 70 5).toInt = 0 → (h.2.1 70 5).toInt = 0 := (by omega)
              have pp85 : (h.2.1 70 4).toInt ≤ (h66.2.1 70 4).toInt := (by omega)
              have pp86 : (h66.2.1 70 5).toInt = 0 → (h.2.1 70 4).toInt + 1 ≤ (h66.2.1 70 4).toInt ∧ 6 * (V h66.2.1 73 S - V h66.2.1 75 S) - (h66.2.1 70 4).toInt ≤ 6 * (V h.2.1 73 S - V h.2.1 75 S) - (h.2.1 70 4).toInt ∧ 2 * V h66.2.1 74 S - (h66.2.1 70 4).toInt ≤ 2 * V h.2.1 74 S - (h.2.1 70 4).toInt := (by omega)
              have pp87 : (h66.2.1 70 5).toInt = 0 → RI h.2.1 h66.2.1 S a2.toInt a4.toInt := (fun hg => by rw [← x1]; exact RI.of S0 ni (by rw [← ze, ← x3]; exact (f72 (by omega))))
              subst hS
              exact gi_vret (pc := 410) ⟨rfl, ⟨_, hv66, (MW.trans (MW.trans (MW.trans (MW.trans (MW.trans (MW.trans (MW.trans (MW.trans (MW.trans (MW.trans (MW.trans (MW.trans (MW.trans (MW.trans (MW.trans (MW.trans (MW.trans (MW.trans sqx (MW.mz _ _)) (MW.mz _ _)) (MW.mz _ _)) (MW.mz _ _)) (MW.mz _ _)) (MW.mz _ _)) (MW.mz _ _)) (MW.mz _ _)) (MW.mz _ _)) (MW.mz _ _)) (MW.mz _ _)) (MW.mz _ _)) (MW.mz _ _)) (MW.mz _ _)) (MW.mz _ _)) (MW.mz _ _)) (MW.mz _ _)) sq68)⟩, pp84, pp85, pp86, pp87, kp66, oh66, ck66⟩ hv66 dX8_readItem_410
            ·
              refine go_aload_n (pc := 305) rfl dX8_readItem_305 ?_
              refine gi_getF (pc := 306) (q := 90) hv38 fL_X8_68 rfl (Nat.le_of_ble_eq_true rfl) rfl (hv38.rf (by decide)) dX8_readItem_306 ?_
              refine go_iload_n (pc := 309) rfl dX8_readItem_309 ?_
              refine go_iload (pc := 310) rfl dX8_readItem_310 ?_
              refine gi_fst (pc := 312) (lo := -1) (hi := 259) (len := 560) hv38 (ti_rfl l1) e12 rfl (by omega) (by omega) (fun _ => rfl) (by omega) (by omega) (by omega) dX8_readItem_312 (fun h88 hv88 hv88e => ?_)
              refine go_goto (pc := 313) (tgt := 329) (by decide) dX8_readItem_313 ?_
              refine go_aload_n (pc := 329) rfl dX8_readItem_329 ?_
              refine gi_getF (pc := 330) (q := 91) hv88 fL_X8_71 rfl (Nat.le_of_ble_eq_true rfl) rfl (hv88.rf (by decide)) dX8_readItem_330 ?_
              refine go_iload_n (pc := 333) rfl dX8_readItem_333 ?_
              refine go_iload (pc := 334) rfl dX8_readItem_334 ?_
              refine gi_fst (pc := 336) (lo := -1) (hi := 259) (len := 560) hv88 (ti_rfl l1) e12 rfl (by omega) (by omega) (fun _ => rfl) (by omega) (by omega) (by omega) dX8_readItem_336 (fun h89 hv89 hv89e => ?_)
              refine go_aload_n (pc := 337) rfl dX8_readItem_337 ?_
              refine go_dup (pc := 338) rfl dX8_readItem_338 ?_
              refine gi_get (pc := 339) (lo := 0) (hi := 500) hv89 fL_X8_163 rfl (Nat.le_of_ble_eq_true rfl) rfl rfl dX8_readItem_339 (fun v90 v90l v90u v90w => ?_)
              have v90r : u70_4 = h89.2.1 70 4 := (show u70_4 = h89.2.1 70 4 from by rw [hv89e]; exact (g_iI rfl (show u70_4 = h88.2.1 70 4 from by rw [hv88e]; exact (g_iI rfl (show u70_4 = h38.2.1 70 4 from by rw [hv38e]; exact (g_iI rfl (show u70_4 = h33.2.1 70 4 from by rw [hv33e]; exact (g_iI rfl (show u70_4 = h30.2.1 70 4 from by rw [hv30e]; exact (g_iI rfl (show u70_4 = h29.2.1 70 4 from by rw [hv29e]; exact (g_iI rfl (show u70_4 = h28.2.1 70 4 from by rw [hv28e]; exact (g_iI rfl (show u70_4 = h27.2.1 70 4 from by rw [hv27e]; exact (g_iI rfl (show u70_4 = h26.2.1 70 4 from by rw [hv26e]; exact (g_iI rfl (show u70_4 = h25.2.1 70 4 from by rw [hv25e]; exact (g_iI rfl (show u70_4 = h24.2.1 70 4 from by rw [hv24e]; exact (g_iI rfl (show u70_4 = h23.2.1 70 4 from by rw [hv23e]; exact (g_iI rfl (show u70_4 = h21.2.1 70 4 from by rw [hv21e]; exact (g_iI rfl (show u70_4 = h20.2.1 70 4 from by rw [hv20e]; exact (g_iI rfl (show u70_4 = h19.2.1 70 4 from by rw [hv19e]; exact (g_iI rfl (show u70_4 = h18.2.1 70 4 from by rw [hv18e]; exact (g_iI rfl (show u70_4 = h17.2.1 70 4 from by rw [hv17e]; exact (g_iI rfl u70_4w.symm).symm).symm).symm).symm).symm).symm).symm).symm).symm).symm).symm).symm).symm).symm).symm).symm).symm).symm).symm).symm).symm).symm).symm).symm).symm).symm).symm).symm).symm).symm).symm).symm).symm)
              have v90q : TI v90 u70_4.toInt := by rw [v90w.trans v90r.symm]; exact (ti_rfl u70_4)
              refine go_iconst (pc := 342) (v := 1) (by decide) dX8_readItem_342 ?_
              refine gf_iadd (pc := 343) v90q (ti_c (v := 1) (a := 1) (by decide)) (by omega) (by omega) dX8_readItem_343 (fun v91 e92 => ?_)
              have E89 : h89.2.1 = (w1 (w1 h38.2.1 90 l1.toInt (v11 : Int32)) 91 l1.toInt (v11 : Int32)) := by
                rw [hv89e, hv88e]
                rfl
              have oh89 : OH h.2.1 h89.2.1 S := by rw [E89]; exact ((oh38.trans (OH.w 280 rfl (by omega) (by omega) (by omega) (by omega))).trans (OH.w 280 rfl (by omega) (by omega) (by omega) (by omega)))
              have kp89 : KP h.2.1 h89.2.1 := by rw [E89]; exact ((kp38.trans (KP.w (by omega))).trans (KP.w (by omega)))
              have n73_89 : V h89.2.1 73 S = V h38.2.1 73 S := by rw [E89, V_ne (by omega), V_ne (by omega)]
              have n74_89 : V h89.2.1 74 S = V h38.2.1 74 S := by rw [E89, V_ne (by omega), V_ne (by omega)]
              have n75_89 : V h89.2.1 75 S = V h38.2.1 75 S := by rw [E89, V_ne (by omega), V_ne (by omega)]
              have ck89 : CKF h.2.1 → CKF h89.2.1 := fun z => by rw [E89]; exact (CKF.w (by omega) (CKF.w (by omega) (ck38 z)))
              refine gi_put (pc := 344) (lo := 0) (hi := 500) hv89 e92 (fP_X8_163 _) rfl (Nat.le_of_ble_eq_true rfl) rfl rfl (by omega) (by omega) rfl rfl (by decide) (by decide) (by decide) (by decide) dX8_readItem_344 (fun h93 hv93 hv93e => ?_)
              have ve93 : VE h89.2.1 h93.2.1 := VE.of hv89 hv93
              have oh93 : OH h.2.1 h93.2.1 S := oh89.trans (OH.of hv89 hv93 S)
              have kp93 : KP h.2.1 h93.2.1 := kp89.trans (KP.ve ve93)
              have ck93 : CKF h.2.1 → CKF h93.2.1 := fun z => CKF.ve ve93 (ck89 z)
              have n73_93 : V h93.2.1 73 S = V h89.2.1 73 S := ve93.v (by omega) (by omega)
              have n74_93 : V h93.2.1 74 S = V h89.2.1 74 S := ve93.v (by omega) (by omega)
              have n75_93 : V h93.2.1 75 S = V h89.2.1 75 S := ve93.v (by omega) (by omega)
              refine go_iload (pc := 347) rfl dX8_readItem_347 ?_
              refine gf_if_ne (pc := 349) (tgt := 363) (ti_rfl l5) (by decide) dX8_readItem_349 (fun q94 => ?_) (fun q94 => False.elim (by omega))
              refine go_iload (pc := 363) rfl dX8_readItem_363 ?_
              refine go_iconst (pc := 365) (v := 2) (by decide) dX8_readItem_365 ?_
              refine gf_icmp_eq (pc := 366) (tgt := 375) (ti_rfl l5) (ti_c (v := 2) (a := 2) (by decide)) (by decide) dX8_readItem_366 (fun q95 => False.elim (by omega)) (fun q95 => ?_)
              refine go_iload (pc := 369) rfl dX8_readItem_369 ?_
              refine go_iconst (pc := 371) (v := 3) (by decide) dX8_readItem_371 ?_
              refine gf_icmp_ne (pc := 372) (tgt := 386) (ti_rfl l5) (ti_c (v := 3) (a := 3) (by decide)) (by decide) dX8_readItem_372 (fun q96 => ?_) (fun q96 => False.elim (by omega))
              refine go_iload (pc := 386) rfl dX8_readItem_386 ?_
              refine go_bipush (pc := 388) (v := 6) (by decide) dX8_readItem_388 ?_
              refine gf_icmp_ne (pc := 390) (tgt := 404) (ti_rfl l5) (ti_c (v := 6) (a := 6) (by decide)) (by decide) dX8_readItem_390 (fun q97 => False.elim (by omega)) (fun q97 => ?_)
              refine go_aload_n (pc := 393) rfl dX8_readItem_393 ?_
              refine go_iload (pc := 394) rfl dX8_readItem_394 ?_
              refine go_iload_n (pc := 396) rfl dX8_readItem_396 ?_
              refine go_iload_n (pc := 397) rfl dX8_readItem_397 ?_
              have EG : h89.2.1 = (w1 (w1 (w1 (w1 (w1 (w1 (w1 (w1 (w1 (w1 (w1 (w1 (w1 (w1 (w1 (w1 (w1 hx.2.1 73 S (v15 : Int32)) 77 (((130 * S) + v10.toInt)) (l5 : Int32)) 78 (((130 * S) + v10.toInt)) ((-1) : Int32)) 79 (((130 * S) + v10.toInt)) (l2 : Int32)) 80 (((130 * S) + v10.toInt)) (l3 : Int32)) 81 (((130 * S) + v10.toInt)) (v22 : Int32)) 82 (((130 * S) + v10.toInt)) (l4 : Int32)) 83 (((130 * S) + v10.toInt)) (0 : Int32)) 84 (((130 * S) + v10.toInt)) ((-2) : Int32)) 85 (((130 * S) + v10.toInt)) ((-1) : Int32)) 86 (((130 * S) + v10.toInt)) ((-1) : Int32)) 87 (((130 * S) + v10.toInt)) ((-1) : Int32)) 88 (((130 * S) + v10.toInt)) (l1 : Int32)) 89 ((2 * ((130 * S) + v10.toInt))) (0 : Int32)) 89 (((2 * ((130 * S) + v10.toInt)) + 1)) (0 : Int32)) 90 l1.toInt (v11 : Int32)) 91 l1.toInt (v11 : Int32)) := by rw [E89, E38]
              have z98 : (v15 : Int32).toInt = (v14.toInt + 1) := e16
              have z99 : ((-1) : Int32).toInt = (-1) := (ti_c (v := (-1)) (a := (-1)) (by decide))
              have z100 : (v22 : Int32).toInt = u70_4.toInt := v22q
              have z101 : (0 : Int32).toInt = 0 := (ti_c (v := 0) (a := 0) (by decide))
              have z102 : ((-2) : Int32).toInt = (-2) := (ti_c (v := (-2)) (a := (-2)) (by decide))
              have z103 : (v11 : Int32).toInt = ((130 * v6.toInt) + v10.toInt) := e12
              have y73 : V hx.2.1 73 S = V h.2.1 73 S := xve.v (by omega) (by omega)
              have y75 : V hx.2.1 75 S = V h.2.1 75 S := xve.v (by omega) (by omega)
              have ni : NI h.2.1 h93.2.1 S l1.toInt a4.toInt (((130 * S) + v10.toInt)) l5.toInt l4.toInt := NI.cr10 (its := l5.toInt) (nm := l4.toInt) S0 xve EG ve93 (by omega) (by omega) (by omega) (by omega) (by first | omega | decide) (by omega) (by decide) (by decide) (by decide) (by omega) (by decide) (by decide) (by omega) (by omega) (by omega) (by omega) (by omega) (by omega) (by omega)
              obtain ⟨i1, i2, i3, i4, i5, i6, i7, i8⟩ := ni (ht.1) (by rw [x1]; exact ht.2.1) (by rw [x1]; exact ht.2.2)
              have ze : (v11 : Int32).toInt = ((130 * S) + v10.toInt) := by rw [show (v11 : Int32).toInt = ((130 * v6.toInt) + v10.toInt) from e12]; omega
              have sM104 : (h93.2.1 70 6).toInt = S := (congrArg Int32.toInt oh93.side).trans hS.symm
              have g105 : (0 : Int) ≤ (h93.2.1 70 4).toInt := (hv93.2.1 70 4).1
              have g106 : (h93.2.1 70 4).toInt ≤ 500 := (hv93.2.1 70 4).2
              have g107 : (-2147483648 : Int) ≤ (h93.2.1 70 5).toInt := (hv93.2.1 70 5).1
              have g108 : (h93.2.1 70 5).toInt ≤ 2147483647 := (hv93.2.1 70 5).2
              have g109 : (h93.2.1 70 5).toInt = u70_5.toInt := by rw [← (show u70_5 = h93.2.1 70 5 from (show u70_5 = h93.2.1 70 5 from by rw [hv93e]; exact (g_iI rfl (show u70_5 = h89.2.1 70 5 from by rw [hv89e]; exact (g_iI rfl (show u70_5 = h88.2.1 70 5 from by rw [hv88e]; exact (g_iI rfl (show u70_5 = h38.2.1 70 5 from by rw [hv38e]; exact (g_iI rfl (show u70_5 = h33.2.1 70 5 from by rw [hv33e]; exact (g_iI rfl (show u70_5 = h30.2.1 70 5 from by rw [hv30e]; exact (g_iI rfl (show u70_5 = h29.2.1 70 5 from by rw [hv29e]; exact (g_iI rfl (show u70_5 = h28.2.1 70 5 from by rw [hv28e]; exact (g_iI rfl (show u70_5 = h27.2.1 70 5 from by rw [hv27e]; exact (g_iI rfl (show u70_5 = h26.2.1 70 5 from by rw [hv26e]; exact (g_iI rfl (show u70_5 = h25.2.1 70 5 from by rw [hv25e]; exact (g_iI rfl (show u70_5 = h24.2.1 70 5 from by rw [hv24e]; exact (g_iI rfl (show u70_5 = h23.2.1 70 5 from by rw [hv23e]; exact (g_iI rfl (show u70_5 = h21.2.1 70 5 from by rw [hv21e]; exact (g_iI rfl (show u70_5 = h20.2.1 70 5 from by rw [hv20e]; exact (g_iI rfl (show u70_5 = h19.2.1 70 5 from by rw [hv19e]; exact (g_iI rfl (show u70_5 = h18.2.1 70 5 from by rw [hv18e]; exact (g_iI rfl (show u70_5 = h17.2.1 70 5 from by rw [hv17e]; exact (g_iI rfl u70_5w.symm).symm).symm).symm).symm).symm).symm).symm).symm).symm).symm).symm).symm).symm).symm).symm).symm).symm).symm).symm).symm).symm).symm).symm).symm).symm).symm).symm).symm).symm).symm).symm).symm).symm).symm).symm))] <;> exact (ti_rfl u70_5)
              have g110 : (h93.2.1 70 4).toInt = (u70_4.toInt + 1) := by rw [← (show v91 = h93.2.1 70 4 from (show v91 = h93.2.1 70 4 from by rw [hv93e]; exact g_iS.symm))] <;> exact e92
              refine go_invV (pc := 398) (sl := 0) (ihY hv93 v11 (by rw [show (v11 : Int32).toInt = ((130 * v6.toInt) + v10.toInt) from e12]; omega) (by rw [show (v11 : Int32).toInt = ((130 * v6.toInt) + v10.toInt) from e12]; omega) l2 (by rw [show (l2 : Int32).toInt = l2.toInt from (ti_rfl l2)]; omega) (by rw [show (l2 : Int32).toInt = l2.toInt from (ti_rfl l2)]; omega) l3 (by rw [show (l3 : Int32).toInt = l3.toInt from (ti_rfl l3)]; omega) (by rw [show (l3 : Int32).toInt = l3.toInt from (ti_rfl l3)]; omega) (by rw [sM104]; exact (by omega)) (by omega) (by rw [sM104]; exact (by omega)) (by rw [sM104]; exact ⟨i1, by omega, by omega, by rw [ze, x3]; exact i6, by rw [ze]; omega⟩) (by omega)) mL_X8_212 iM_X8_readTry sM_X8_readTry (hv93.sh rfl) rfl rfl rfl (Nat.le_of_ble_eq_true rfl) (show d + 4 + 1 ≤ d + 5 by omega) (show 8 + (4 + 11) + 40 * (d + 4) ≤ 40 * (d + 5) by omega) (g_c0 hv93.ln) (Nat.le_of_ble_eq_true rfl) dX8_readItem_398 ?_
              intro r h111 hq _
              obtain ⟨rfl, ⟨Q112, hv111, sq113⟩, f114, f115, f116, f117, f118, f119, f120⟩ := hq
              rw [sM104] at f116
              rw [sM104] at f117
              rw [sM104] at f119
              have oh111 : OH h.2.1 h111.2.1 S := oh93.trans f119
              have kp111 : KP h.2.1 h111.2.1 := kp93.trans f118
              have ck111 : CKF h.2.1 → CKF h111.2.1 := fun z => f120 (ck93 z)
              obtain ⟨u121, u121w⟩ : ∃ v : Int32, v = h111.2.1 70 4 := ⟨_, rfl⟩
              have u121e : (h111.2.1 70 4).toInt = u121.toInt := by rw [u121w]
              have u121l : 0 ≤ u121.toInt := by rw [u121w]; exact (hv111.2.1 70 4).1
              have u121u : u121.toInt ≤ 500 := by rw [u121w]; exact (hv111.2.1 70 4).2
              obtain ⟨u122, u122w⟩ : ∃ v : Int32, v = h111.2.1 70 5 := ⟨_, rfl⟩
              have u122e : (h111.2.1 70 5).toInt = u122.toInt := by rw [u122w]
              have u122l : -2147483648 ≤ u122.toInt := by rw [u122w]; exact (hv111.2.1 70 5).1
              have u122u : u122.toInt ≤ 2147483647 := by rw [u122w]; exact (hv111.2.1 70 5).2
              refine go_goto (pc := 401) (tgt := 410) (by decide) dX8_readItem_401 ?_
              have g123 : (0 : Int) ≤ (h111.2.1 70 4).toInt := (hv111.2.1 70 4).1
              have g124 : (h111.2.1 70 4).toInt ≤ 500 := (hv111.2.1 70 4).2
              have g125 : (-2147483648 : Int) ≤ (h111.2.1 70 5).toInt := (hv111.2.1 70 5).1
              have g126 : (h111.2.1 70 5).toInt ≤ 2147483647 := (hv111.2.1 70 5).2
              have g127 : (h111.2.1 70 4).toInt = u121.toInt := by rw [← (show u121 = h111.2.1 70 4 from u121w)] <;> exact (ti_rfl u121)
              have g128 : (h111.2.1 70 5).toInt = u122.toInt := by rw [← (show u122 = h111.2.1 70 5 from u122w)] <;> exact (ti_rfl u122)
              have pp129 : (h111.2.1 70 5).toInt = 0 → (h.2.1 70 5).toInt = 0 := (by omega)
              have pp130 : (h.2.1 70 4).toInt ≤ (h111.2.1 70 4).toInt := (by omega)
              have pp131 : (h111.2.1 70 5).toInt = 0 → (h.2.1 70 4).toInt + 1 ≤ (h111.2.1 70 4).toInt ∧ 6 * (V h111.2.1 73 S - V h111.2.1 75 S) - (h111.2.1 70 4).toInt ≤ 6 * (V h.2.1 73 S - V h.2.1 75 S) - (h.2.1 70 4).toInt ∧ 2 * V h111.2.1 74 S - (h111.2.1 70 4).toInt ≤ 2 * V h.2.1 74 S - (h.2.1 70 4).toInt := (by omega)
              have pp132 : (h111.2.1 70 5).toInt = 0 → RI h.2.1 h111.2.1 S a2.toInt a4.toInt := (fun hg => by rw [← x1]; exact RI.of S0 ni (by rw [← ze, ← x3]; exact (f117 (by omega))))
              subst hS
              exact gi_vret (pc := 410) ⟨rfl, ⟨_, hv111, (MW.trans (MW.trans (MW.trans (MW.trans (MW.trans (MW.trans (MW.trans (MW.trans (MW.trans (MW.trans (MW.trans (MW.trans (MW.trans (MW.trans (MW.trans (MW.trans (MW.trans (MW.trans sqx (MW.mz _ _)) (MW.mz _ _)) (MW.mz _ _)) (MW.mz _ _)) (MW.mz _ _)) (MW.mz _ _)) (MW.mz _ _)) (MW.mz _ _)) (MW.mz _ _)) (MW.mz _ _)) (MW.mz _ _)) (MW.mz _ _)) (MW.mz _ _)) (MW.mz _ _)) (MW.mz _ _)) (MW.mz _ _)) (MW.mz _ _)) sq113)⟩, pp129, pp130, pp131, pp132, kp111, oh111, ck111⟩ hv111 dX8_readItem_410
          ·
            refine go_aload_n (pc := 242) rfl dX8_readItem_242 ?_
            refine gi_getF (pc := 243) (q := 78) hv38 fL_X8_32 rfl (Nat.le_of_ble_eq_true rfl) rfl (hv38.rf (by decide)) dX8_readItem_243 ?_
            refine go_iload (pc := 246) rfl dX8_readItem_246 ?_
            refine go_aload_n (pc := 248) rfl dX8_readItem_248 ?_
            refine gi_getF (pc := 249) (q := 75) hv38 fL_X8_23 rfl (Nat.le_of_ble_eq_true rfl) rfl (hv38.rf (by decide)) dX8_readItem_249 ?_
            refine go_aload_n (pc := 252) rfl dX8_readItem_252 ?_
            refine gi_get (pc := 253) (lo := 0) (hi := 1) hv38 fL_X8_187 rfl (Nat.le_of_ble_eq_true rfl) rfl rfl dX8_readItem_253 (fun v133 v133l v133u v133w => ?_)
            have v133r : v6 = h38.2.1 70 6 := (show v6 = h38.2.1 70 6 from by rw [hv38e]; exact (g_iI rfl (show v6 = h33.2.1 70 6 from by rw [hv33e]; exact (g_iI rfl (show v6 = h30.2.1 70 6 from by rw [hv30e]; exact (g_iI rfl (show v6 = h29.2.1 70 6 from by rw [hv29e]; exact (g_iI rfl (show v6 = h28.2.1 70 6 from by rw [hv28e]; exact (g_iI rfl (show v6 = h27.2.1 70 6 from by rw [hv27e]; exact (g_iI rfl (show v6 = h26.2.1 70 6 from by rw [hv26e]; exact (g_iI rfl (show v6 = h25.2.1 70 6 from by rw [hv25e]; exact (g_iI rfl (show v6 = h24.2.1 70 6 from by rw [hv24e]; exact (g_iI rfl (show v6 = h23.2.1 70 6 from by rw [hv23e]; exact (g_iI rfl (show v6 = h21.2.1 70 6 from by rw [hv21e]; exact (g_iI rfl (show v6 = h20.2.1 70 6 from by rw [hv20e]; exact (g_iI rfl (show v6 = h19.2.1 70 6 from by rw [hv19e]; exact (g_iI rfl (show v6 = h18.2.1 70 6 from by rw [hv18e]; exact (g_iI rfl (show v6 = h17.2.1 70 6 from by rw [hv17e]; exact (g_iI rfl v6w.symm).symm).symm).symm).symm).symm).symm).symm).symm).symm).symm).symm).symm).symm).symm).symm).symm).symm).symm).symm).symm).symm).symm).symm).symm).symm).symm).symm).symm).symm)
            have v133q : TI v133 v6.toInt := by rw [v133w.trans v133r.symm]; exact (ti_rfl v6)
            refine gi_iald (pc := 256) (lo := 0) (hi := 40) (len := 2) hv38 v133q rfl (by omega) (by omega) (fun _ => rfl) dX8_readItem_256 (fun v134 v134l v134u v134w => ?_)
            have v134V : v134.toInt = V h38.2.1 75 S := by rw [v134w, v6S]; rfl
            refine gi_fst (pc := 257) (lo := -1) (hi := 39) (len := 260) hv38 e12 (ti_rfl v134) rfl (by omega) (by omega) (fun _ => rfl) (by omega) (by omega) (by omega) dX8_readItem_257 (fun h135 hv135 hv135e => ?_)
            refine go_aload_n (pc := 258) rfl dX8_readItem_258 ?_
            refine gi_getF (pc := 259) (q := 93) hv135 fL_X8_77 rfl (Nat.le_of_ble_eq_true rfl) rfl (hv135.rf (by decide)) dX8_readItem_259 ?_
            refine go_bipush (pc := 262) (v := 40) (by decide) dX8_readItem_262 ?_
            refine go_aload_n (pc := 264) rfl dX8_readItem_264 ?_
            refine gi_get (pc := 265) (lo := 0) (hi := 1) hv135 fL_X8_187 rfl (Nat.le_of_ble_eq_true rfl) rfl rfl dX8_readItem_265 (fun v136 v136l v136u v136w => ?_)
            have v136r : v6 = h135.2.1 70 6 := (show v6 = h135.2.1 70 6 from by rw [hv135e]; exact (g_iI rfl (show v6 = h38.2.1 70 6 from by rw [hv38e]; exact (g_iI rfl (show v6 = h33.2.1 70 6 from by rw [hv33e]; exact (g_iI rfl (show v6 = h30.2.1 70 6 from by rw [hv30e]; exact (g_iI rfl (show v6 = h29.2.1 70 6 from by rw [hv29e]; exact (g_iI rfl (show v6 = h28.2.1 70 6 from by rw [hv28e]; exact (g_iI rfl (show v6 = h27.2.1 70 6 from by rw [hv27e]; exact (g_iI rfl (show v6 = h26.2.1 70 6 from by rw [hv26e]; exact (g_iI rfl (show v6 = h25.2.1 70 6 from by rw [hv25e]; exact (g_iI rfl (show v6 = h24.2.1 70 6 from by rw [hv24e]; exact (g_iI rfl (show v6 = h23.2.1 70 6 from by rw [hv23e]; exact (g_iI rfl (show v6 = h21.2.1 70 6 from by rw [hv21e]; exact (g_iI rfl (show v6 = h20.2.1 70 6 from by rw [hv20e]; exact (g_iI rfl (show v6 = h19.2.1 70 6 from by rw [hv19e]; exact (g_iI rfl (show v6 = h18.2.1 70 6 from by rw [hv18e]; exact (g_iI rfl (show v6 = h17.2.1 70 6 from by rw [hv17e]; exact (g_iI rfl v6w.symm).symm).symm).symm).symm).symm).symm).symm).symm).symm).symm).symm).symm).symm).symm).symm).symm).symm).symm).symm).symm).symm).symm).symm).symm).symm).symm).symm).symm).symm).symm).symm)
            have v136q : TI v136 v6.toInt := by rw [v136w.trans v136r.symm]; exact (ti_rfl v6)
            refine gf_imul (pc := 268) (ti_c (v := 40) (a := 40) (by decide)) v136q (by omega) (by omega) dX8_readItem_268 (fun v137 e138 => ?_)
            refine go_aload_n (pc := 269) rfl dX8_readItem_269 ?_
            refine gi_getF (pc := 270) (q := 75) hv135 fL_X8_23 rfl (Nat.le_of_ble_eq_true rfl) rfl (hv135.rf (by decide)) dX8_readItem_270 ?_
            refine go_aload_n (pc := 273) rfl dX8_readItem_273 ?_
            refine gi_get (pc := 274) (lo := 0) (hi := 1) hv135 fL_X8_187 rfl (Nat.le_of_ble_eq_true rfl) rfl rfl dX8_readItem_274 (fun v139 v139l v139u v139w => ?_)
            have v139r : v6 = h135.2.1 70 6 := (show v6 = h135.2.1 70 6 from by rw [hv135e]; exact (g_iI rfl (show v6 = h38.2.1 70 6 from by rw [hv38e]; exact (g_iI rfl (show v6 = h33.2.1 70 6 from by rw [hv33e]; exact (g_iI rfl (show v6 = h30.2.1 70 6 from by rw [hv30e]; exact (g_iI rfl (show v6 = h29.2.1 70 6 from by rw [hv29e]; exact (g_iI rfl (show v6 = h28.2.1 70 6 from by rw [hv28e]; exact (g_iI rfl (show v6 = h27.2.1 70 6 from by rw [hv27e]; exact (g_iI rfl (show v6 = h26.2.1 70 6 from by rw [hv26e]; exact (g_iI rfl (show v6 = h25.2.1 70 6 from by rw [hv25e]; exact (g_iI rfl (show v6 = h24.2.1 70 6 from by rw [hv24e]; exact (g_iI rfl (show v6 = h23.2.1 70 6 from by rw [hv23e]; exact (g_iI rfl (show v6 = h21.2.1 70 6 from by rw [hv21e]; exact (g_iI rfl (show v6 = h20.2.1 70 6 from by rw [hv20e]; exact (g_iI rfl (show v6 = h19.2.1 70 6 from by rw [hv19e]; exact (g_iI rfl (show v6 = h18.2.1 70 6 from by rw [hv18e]; exact (g_iI rfl (show v6 = h17.2.1 70 6 from by rw [hv17e]; exact (g_iI rfl v6w.symm).symm).symm).symm).symm).symm).symm).symm).symm).symm).symm).symm).symm).symm).symm).symm).symm).symm).symm).symm).symm).symm).symm).symm).symm).symm).symm).symm).symm).symm).symm).symm)
            have v139q : TI v139 v6.toInt := by rw [v139w.trans v139r.symm]; exact (ti_rfl v6)
            have E135 : h135.2.1 = (w1 h38.2.1 78 (((130 * S) + v10.toInt)) (v134 : Int32)) := by
              rw [hv135e]
              rw [v6S]
              rfl
            have oh135 : OH h.2.1 h135.2.1 S := by rw [E135]; exact (oh38.trans (OH.w 130 rfl (by omega) (by omega) (by omega) (by omega)))
            have kp135 : KP h.2.1 h135.2.1 := by rw [E135]; exact (kp38.trans (KP.w (by omega)))
            have n73_135 : V h135.2.1 73 S = V h38.2.1 73 S := by rw [E135, V_ne (by omega)]
            have n74_135 : V h135.2.1 74 S = V h38.2.1 74 S := by rw [E135, V_ne (by omega)]
            have n75_135 : V h135.2.1 75 S = V h38.2.1 75 S := by rw [E135, V_ne (by omega)]
            have ck135 : CKF h.2.1 → CKF h135.2.1 := fun z => by rw [E135]; exact (CKF.w (by omega) (ck38 z))
            refine gi_iald (pc := 277) (lo := 0) (hi := 40) (len := 2) hv135 v139q rfl (by omega) (by omega) (fun _ => rfl) dX8_readItem_277 (fun v140 v140l v140u v140w => ?_)
            have v140V : v140.toInt = V h135.2.1 75 S := by rw [v140w, v6S]; rfl
            refine gf_iadd (pc := 278) e138 (ti_rfl v140) (by omega) (by omega) dX8_readItem_278 (fun v141 e142 => ?_)
            refine go_iload (pc := 279) rfl dX8_readItem_279 ?_
            refine gi_fst (pc := 281) (lo := 0) (hi := 259) (len := 80) hv135 e142 e12 rfl (by omega) (by omega) (fun _ => rfl) (by omega) (by omega) (by omega) dX8_readItem_281 (fun h143 hv143 hv143e => ?_)
            refine go_aload_n (pc := 282) rfl dX8_readItem_282 ?_
            refine gi_getF (pc := 283) (q := 75) hv143 fL_X8_23 rfl (Nat.le_of_ble_eq_true rfl) rfl (hv143.rf (by decide)) dX8_readItem_283 ?_
            refine go_aload_n (pc := 286) rfl dX8_readItem_286 ?_
            refine gi_get (pc := 287) (lo := 0) (hi := 1) hv143 fL_X8_187 rfl (Nat.le_of_ble_eq_true rfl) rfl rfl dX8_readItem_287 (fun v144 v144l v144u v144w => ?_)
            have v144r : v6 = h143.2.1 70 6 := (show v6 = h143.2.1 70 6 from by rw [hv143e]; exact (g_iI rfl (show v6 = h135.2.1 70 6 from by rw [hv135e]; exact (g_iI rfl (show v6 = h38.2.1 70 6 from by rw [hv38e]; exact (g_iI rfl (show v6 = h33.2.1 70 6 from by rw [hv33e]; exact (g_iI rfl (show v6 = h30.2.1 70 6 from by rw [hv30e]; exact (g_iI rfl (show v6 = h29.2.1 70 6 from by rw [hv29e]; exact (g_iI rfl (show v6 = h28.2.1 70 6 from by rw [hv28e]; exact (g_iI rfl (show v6 = h27.2.1 70 6 from by rw [hv27e]; exact (g_iI rfl (show v6 = h26.2.1 70 6 from by rw [hv26e]; exact (g_iI rfl (show v6 = h25.2.1 70 6 from by rw [hv25e]; exact (g_iI rfl (show v6 = h24.2.1 70 6 from by rw [hv24e]; exact (g_iI rfl (show v6 = h23.2.1 70 6 from by rw [hv23e]; exact (g_iI rfl (show v6 = h21.2.1 70 6 from by rw [hv21e]; exact (g_iI rfl (show v6 = h20.2.1 70 6 from by rw [hv20e]; exact (g_iI rfl (show v6 = h19.2.1 70 6 from by rw [hv19e]; exact (g_iI rfl (show v6 = h18.2.1 70 6 from by rw [hv18e]; exact (g_iI rfl (show v6 = h17.2.1 70 6 from by rw [hv17e]; exact (g_iI rfl v6w.symm).symm).symm).symm).symm).symm).symm).symm).symm).symm).symm).symm).symm).symm).symm).symm).symm).symm).symm).symm).symm).symm).symm).symm).symm).symm).symm).symm).symm).symm).symm).symm).symm).symm)
            have v144q : TI v144 v6.toInt := by rw [v144w.trans v144r.symm]; exact (ti_rfl v6)
            refine go_dup2 (pc := 290) rfl rfl dX8_readItem_290 ?_
            have E143 : h143.2.1 = (w1 h135.2.1 93 (((40 * S) + v140.toInt)) (v11 : Int32)) := by
              rw [hv143e]
              rw [v6S]
              rfl
            have oh143 : OH h.2.1 h143.2.1 S := by rw [E143]; exact (oh135.trans (OH.w 40 rfl (by omega) (by omega) (by omega) (by omega)))
            have kp143 : KP h.2.1 h143.2.1 := by rw [E143]; exact (kp135.trans (KP.w (by omega)))
            have n73_143 : V h143.2.1 73 S = V h135.2.1 73 S := by rw [E143, V_ne (by omega)]
            have n74_143 : V h143.2.1 74 S = V h135.2.1 74 S := by rw [E143, V_ne (by omega)]
            have n75_143 : V h143.2.1 75 S = V h135.2.1 75 S := by rw [E143, V_ne (by omega)]
            have ck143 : CKF h.2.1 → CKF h143.2.1 := fun z => by rw [E143]; exact (CKF.w (by omega) (ck135 z))
            refine gi_iald (pc := 291) (lo := 0) (hi := 40) (len := 2) hv143 v144q rfl (by omega) (by omega) (fun _ => rfl) dX8_readItem_291 (fun v145 v145l v145u v145w => ?_)
            have v145V : v145.toInt = V h143.2.1 75 S := by rw [v145w, v6S]; rfl
            refine go_iconst (pc := 292) (v := 1) (by decide) dX8_readItem_292 ?_
            refine gf_iadd (pc := 293) (ti_rfl v145) (ti_c (v := 1) (a := 1) (by decide)) (by omega) (by omega) dX8_readItem_293 (fun v146 e147 => ?_)
            refine gi_fst (pc := 294) (lo := 0) (hi := 40) (len := 2) hv143 v144q e147 rfl (by omega) (by omega) (fun _ => rfl) (by omega) (by omega) (by omega) dX8_readItem_294 (fun h148 hv148 hv148e => ?_)
            refine go_aload_n (pc := 295) rfl dX8_readItem_295 ?_
            refine gi_getF (pc := 296) (q := 90) hv148 fL_X8_68 rfl (Nat.le_of_ble_eq_true rfl) rfl (hv148.rf (by decide)) dX8_readItem_296 ?_
            refine go_iload_n (pc := 299) rfl dX8_readItem_299 ?_
            have E148 : h148.2.1 = (w1 h143.2.1 75 S (v146 : Int32)) := by
              rw [hv148e]
              rw [v6S]
              rfl
            have oh148 : OH h.2.1 h148.2.1 S := by rw [E148]; exact (oh143.trans (OH.w 1 rfl (by omega) (by omega) (by omega) (by omega)))
            have kp148 : KP h.2.1 h148.2.1 := by rw [E148]; exact (kp143.trans (KP.w (by omega)))
            have n73_148 : V h148.2.1 73 S = V h143.2.1 73 S := by rw [E148, V_ne (by omega)]
            have n74_148 : V h148.2.1 74 S = V h143.2.1 74 S := by rw [E148, V_ne (by omega)]
            have n75_148 : V h148.2.1 75 S = (v145.toInt + 1) := by rw [E148, V_eq]; exact e147
            have ck148 : CKF h.2.1 → CKF h148.2.1 := fun z => by rw [E148]; exact (CKF.w (by omega) (ck143 z))
            refine gi_iald (pc := 300) (lo := -1) (hi := 259) (len := 560) hv148 (ti_rfl l1) rfl (by omega) (by omega) (fun _ => rfl) dX8_readItem_300 (fun v149 v149l v149u v149w => ?_)
            have v149V : v149.toInt = V h148.2.1 90 l1.toInt := by rw [v149w]; rfl
            have f90 : V h148.2.1 90 l1.toInt = V hx.2.1 90 l1.toInt := by rw [E148, V_ne (by omega), E143, V_ne (by omega), E135, V_ne (by omega), E38, V_ne (by omega), V_ne (by omega), V_ne (by omega), V_ne (by omega), V_ne (by omega), V_ne (by omega), V_ne (by omega), V_ne (by omega), V_ne (by omega), V_ne (by omega), V_ne (by omega), V_ne (by omega), V_ne (by omega), V_ne (by omega), V_ne (by omega)]
            have f91 : V h148.2.1 91 l1.toInt = V hx.2.1 91 l1.toInt := by rw [E148, V_ne (by omega), E143, V_ne (by omega), E135, V_ne (by omega), E38, V_ne (by omega), V_ne (by omega), V_ne (by omega), V_ne (by omega), V_ne (by omega), V_ne (by omega), V_ne (by omega), V_ne (by omega), V_ne (by omega), V_ne (by omega), V_ne (by omega), V_ne (by omega), V_ne (by omega), V_ne (by omega), V_ne (by omega)]
            have g90 : V hx.2.1 90 l1.toInt = V h.2.1 90 a2.toInt := by rw [x1]; exact xve.v (by omega) (by omega)
            have g91 : V hx.2.1 91 l1.toInt = V h.2.1 91 a2.toInt := by rw [x1]; exact xve.v (by omega) (by omega)
            refine go_iconst (pc := 301) (v := (-1)) (by decide) dX8_readItem_301 ?_
            refine gf_icmp_ne (pc := 302) (tgt := 316) (ti_rfl v149) (ti_c (v := (-1)) (a := (-1)) (by decide)) (by decide) dX8_readItem_302 (fun q150 => ?_) (fun q150 => ?_)
            ·
              have t5 := ht.1.2.2.2.2.2.1 a2.toInt ht.2.1
              rcases t5.2.1 with z | ⟨⟨z1, z2⟩, z3⟩
              · exact absurd z (t5.2.2.2 (by omega))
              refine go_aload_n (pc := 316) rfl dX8_readItem_316 ?_
              refine gi_getF (pc := 317) (q := 87) hv148 fL_X8_59 rfl (Nat.le_of_ble_eq_true rfl) rfl (hv148.rf (by decide)) dX8_readItem_317 ?_
              refine go_aload_n (pc := 320) rfl dX8_readItem_320 ?_
              refine gi_getF (pc := 321) (q := 91) hv148 fL_X8_71 rfl (Nat.le_of_ble_eq_true rfl) rfl (hv148.rf (by decide)) dX8_readItem_321 ?_
              refine go_iload_n (pc := 324) rfl dX8_readItem_324 ?_
              refine gi_iald (pc := 325) (lo := -1) (hi := 259) (len := 560) hv148 (ti_rfl l1) rfl (by omega) (by omega) (fun _ => rfl) dX8_readItem_325 (fun v151 v151l v151u v151w => ?_)
              have v151V : v151.toInt = V h148.2.1 91 l1.toInt := by rw [v151w]; rfl
              refine go_iload (pc := 326) rfl dX8_readItem_326 ?_
              refine gi_fst (pc := 328) (lo := -1) (hi := 259) (len := 260) hv148 (ti_rfl v151) e12 rfl (by omega) (by omega) (fun _ => rfl) (by omega) (by omega) (by omega) dX8_readItem_328 (fun h152 hv152 hv152e => ?_)
              refine go_aload_n (pc := 329) rfl dX8_readItem_329 ?_
              refine gi_getF (pc := 330) (q := 91) hv152 fL_X8_71 rfl (Nat.le_of_ble_eq_true rfl) rfl (hv152.rf (by decide)) dX8_readItem_330 ?_
              refine go_iload_n (pc := 333) rfl dX8_readItem_333 ?_
              refine go_iload (pc := 334) rfl dX8_readItem_334 ?_
              refine gi_fst (pc := 336) (lo := -1) (hi := 259) (len := 560) hv152 (ti_rfl l1) e12 rfl (by omega) (by omega) (fun _ => rfl) (by omega) (by omega) (by omega) dX8_readItem_336 (fun h153 hv153 hv153e => ?_)
              refine go_aload_n (pc := 337) rfl dX8_readItem_337 ?_
              refine go_dup (pc := 338) rfl dX8_readItem_338 ?_
              refine gi_get (pc := 339) (lo := 0) (hi := 500) hv153 fL_X8_163 rfl (Nat.le_of_ble_eq_true rfl) rfl rfl dX8_readItem_339 (fun v154 v154l v154u v154w => ?_)
              have v154r : u70_4 = h153.2.1 70 4 := (show u70_4 = h153.2.1 70 4 from by rw [hv153e]; exact (g_iI rfl (show u70_4 = h152.2.1 70 4 from by rw [hv152e]; exact (g_iI rfl (show u70_4 = h148.2.1 70 4 from by rw [hv148e]; exact (g_iI rfl (show u70_4 = h143.2.1 70 4 from by rw [hv143e]; exact (g_iI rfl (show u70_4 = h135.2.1 70 4 from by rw [hv135e]; exact (g_iI rfl (show u70_4 = h38.2.1 70 4 from by rw [hv38e]; exact (g_iI rfl (show u70_4 = h33.2.1 70 4 from by rw [hv33e]; exact (g_iI rfl (show u70_4 = h30.2.1 70 4 from by rw [hv30e]; exact (g_iI rfl (show u70_4 = h29.2.1 70 4 from by rw [hv29e]; exact (g_iI rfl (show u70_4 = h28.2.1 70 4 from by rw [hv28e]; exact (g_iI rfl (show u70_4 = h27.2.1 70 4 from by rw [hv27e]; exact (g_iI rfl (show u70_4 = h26.2.1 70 4 from by rw [hv26e]; exact (g_iI rfl (show u70_4 = h25.2.1 70 4 from by rw [hv25e]; exact (g_iI rfl (show u70_4 = h24.2.1 70 4 from by rw [hv24e]; exact (g_iI rfl (show u70_4 = h23.2.1 70 4 from by rw [hv23e]; exact (g_iI rfl (show u70_4 = h21.2.1 70 4 from by rw [hv21e]; exact (g_iI rfl (show u70_4 = h20.2.1 70 4 from by rw [hv20e]; exact (g_iI rfl (show u70_4 = h19.2.1 70 4 from by rw [hv19e]; exact (g_iI rfl (show u70_4 = h18.2.1 70 4 from by rw [hv18e]; exact (g_iI rfl (show u70_4 = h17.2.1 70 4 from by rw [hv17e]; exact (g_iI rfl u70_4w.symm).symm).symm).symm).symm).symm).symm).symm).symm).symm).symm).symm).symm).symm).symm).symm).symm).symm).symm).symm).symm).symm).symm).symm).symm).symm).symm).symm).symm).symm).symm).symm).symm).symm).symm).symm).symm).symm).symm).symm)
              have v154q : TI v154 u70_4.toInt := by rw [v154w.trans v154r.symm]; exact (ti_rfl u70_4)
              refine go_iconst (pc := 342) (v := 1) (by decide) dX8_readItem_342 ?_
              refine gf_iadd (pc := 343) v154q (ti_c (v := 1) (a := 1) (by decide)) (by omega) (by omega) dX8_readItem_343 (fun v155 e156 => ?_)
              have E153 : h153.2.1 = (w1 (w1 h148.2.1 87 v151.toInt (v11 : Int32)) 91 l1.toInt (v11 : Int32)) := by
                rw [hv153e, hv152e]
                rfl
              have oh153 : OH h.2.1 h153.2.1 S := by rw [E153]; exact ((oh148.trans (OH.w 130 rfl (by omega) (by omega) (by omega) (by omega))).trans (OH.w 280 rfl (by omega) (by omega) (by omega) (by omega)))
              have kp153 : KP h.2.1 h153.2.1 := by rw [E153]; exact ((kp148.trans (KP.w (by omega))).trans (KP.w (by omega)))
              have n73_153 : V h153.2.1 73 S = V h148.2.1 73 S := by rw [E153, V_ne (by omega), V_ne (by omega)]
              have n74_153 : V h153.2.1 74 S = V h148.2.1 74 S := by rw [E153, V_ne (by omega), V_ne (by omega)]
              have n75_153 : V h153.2.1 75 S = V h148.2.1 75 S := by rw [E153, V_ne (by omega), V_ne (by omega)]
              have ck153 : CKF h.2.1 → CKF h153.2.1 := fun z => by rw [E153]; exact (CKF.w (by omega) (CKF.w (by omega) (ck148 z)))
              refine gi_put (pc := 344) (lo := 0) (hi := 500) hv153 e156 (fP_X8_163 _) rfl (Nat.le_of_ble_eq_true rfl) rfl rfl (by omega) (by omega) rfl rfl (by decide) (by decide) (by decide) (by decide) dX8_readItem_344 (fun h157 hv157 hv157e => ?_)
              have ve157 : VE h153.2.1 h157.2.1 := VE.of hv153 hv157
              have oh157 : OH h.2.1 h157.2.1 S := oh153.trans (OH.of hv153 hv157 S)
              have kp157 : KP h.2.1 h157.2.1 := kp153.trans (KP.ve ve157)
              have ck157 : CKF h.2.1 → CKF h157.2.1 := fun z => CKF.ve ve157 (ck153 z)
              have n73_157 : V h157.2.1 73 S = V h153.2.1 73 S := ve157.v (by omega) (by omega)
              have n74_157 : V h157.2.1 74 S = V h153.2.1 74 S := ve157.v (by omega) (by omega)
              have n75_157 : V h157.2.1 75 S = V h153.2.1 75 S := ve157.v (by omega) (by omega)
              refine go_iload (pc := 347) rfl dX8_readItem_347 ?_
              refine gf_if_ne (pc := 349) (tgt := 363) (ti_rfl l5) (by decide) dX8_readItem_349 (fun q158 => ?_) (fun q158 => ?_)
              ·
                refine go_iload (pc := 363) rfl dX8_readItem_363 ?_
                refine go_iconst (pc := 365) (v := 2) (by decide) dX8_readItem_365 ?_
                refine gf_icmp_eq (pc := 366) (tgt := 375) (ti_rfl l5) (ti_c (v := 2) (a := 2) (by decide)) (by decide) dX8_readItem_366 (fun q159 => ?_) (fun q159 => ?_)
                ·
                  refine go_aload_n (pc := 375) rfl dX8_readItem_375 ?_
                  refine go_iload (pc := 376) rfl dX8_readItem_376 ?_
                  refine go_iload_n (pc := 378) rfl dX8_readItem_378 ?_
                  refine go_iload_n (pc := 379) rfl dX8_readItem_379 ?_
                  have EG : h153.2.1 = (w1 (w1 (w1 (w1 (w1 (w1 (w1 (w1 (w1 (w1 (w1 (w1 (w1 (w1 (w1 (w1 (w1 (w1 (w1 (w1 hx.2.1 73 S (v15 : Int32)) 77 (((130 * S) + v10.toInt)) (l5 : Int32)) 78 (((130 * S) + v10.toInt)) ((-1) : Int32)) 79 (((130 * S) + v10.toInt)) (l2 : Int32)) 80 (((130 * S) + v10.toInt)) (l3 : Int32)) 81 (((130 * S) + v10.toInt)) (v22 : Int32)) 82 (((130 * S) + v10.toInt)) (l4 : Int32)) 83 (((130 * S) + v10.toInt)) (0 : Int32)) 84 (((130 * S) + v10.toInt)) ((-2) : Int32)) 85 (((130 * S) + v10.toInt)) ((-1) : Int32)) 86 (((130 * S) + v10.toInt)) ((-1) : Int32)) 87 (((130 * S) + v10.toInt)) ((-1) : Int32)) 88 (((130 * S) + v10.toInt)) (l1 : Int32)) 89 ((2 * ((130 * S) + v10.toInt))) (0 : Int32)) 89 (((2 * ((130 * S) + v10.toInt)) + 1)) (0 : Int32)) 78 (((130 * S) + v10.toInt)) (v134 : Int32)) 93 (((40 * S) + v140.toInt)) (v11 : Int32)) 75 S (v146 : Int32)) 87 v151.toInt (v11 : Int32)) 91 l1.toInt (v11 : Int32)) := by rw [E153, E148, E143, E135, E38]
                  have z160 : (v15 : Int32).toInt = (v14.toInt + 1) := e16
                  have z161 : ((-1) : Int32).toInt = (-1) := (ti_c (v := (-1)) (a := (-1)) (by decide))
                  have z162 : (v22 : Int32).toInt = u70_4.toInt := v22q
                  have z163 : (0 : Int32).toInt = 0 := (ti_c (v := 0) (a := 0) (by decide))
                  have z164 : ((-2) : Int32).toInt = (-2) := (ti_c (v := (-2)) (a := (-2)) (by decide))
                  have z165 : (v11 : Int32).toInt = ((130 * v6.toInt) + v10.toInt) := e12
                  have z166 : (v146 : Int32).toInt = (v145.toInt + 1) := e147
                  have y73 : V hx.2.1 73 S = V h.2.1 73 S := xve.v (by omega) (by omega)
                  have y75 : V hx.2.1 75 S = V h.2.1 75 S := xve.v (by omega) (by omega)
                  have ni : NI h.2.1 h157.2.1 S l1.toInt a4.toInt (((130 * S) + v10.toInt)) l5.toInt l4.toInt := NI.cr01 (its := l5.toInt) (nm := l4.toInt) S0 xve EG ve157 (by omega) (by omega) (by omega) (by omega) (by first | omega | decide) (by omega) (by decide) (by decide) (by decide) (by omega) (by decide) (by decide) (by omega) (by omega) (by omega) (by omega) (by omega) (by omega) (by omega) (by omega) (by omega) (by omega) (by omega) (by omega) (by omega) (by omega) (by omega)
                  obtain ⟨i1, i2, i3, i4, i5, i6, i7, i8⟩ := ni (ht.1) (by rw [x1]; exact ht.2.1) (by rw [x1]; exact ht.2.2)
                  have ze : (v11 : Int32).toInt = ((130 * S) + v10.toInt) := by rw [show (v11 : Int32).toInt = ((130 * v6.toInt) + v10.toInt) from e12]; omega
                  have sM167 : (h157.2.1 70 6).toInt = S := (congrArg Int32.toInt oh157.side).trans hS.symm
                  have g168 : (0 : Int) ≤ (h157.2.1 70 4).toInt := (hv157.2.1 70 4).1
                  have g169 : (h157.2.1 70 4).toInt ≤ 500 := (hv157.2.1 70 4).2
                  have g170 : (-2147483648 : Int) ≤ (h157.2.1 70 5).toInt := (hv157.2.1 70 5).1
                  have g171 : (h157.2.1 70 5).toInt ≤ 2147483647 := (hv157.2.1 70 5).2
                  have g172 : (h157.2.1 70 5).toInt = u70_5.toInt := by rw [← (show u70_5 = h157.2.1 70 5 from (show u70_5 = h157.2.1 70 5 from by rw [hv157e]; exact (g_iI rfl (show u70_5 = h153.2.1 70 5 from by rw [hv153e]; exact (g_iI rfl (show u70_5 = h152.2.1 70 5 from by rw [hv152e]; exact (g_iI rfl (show u70_5 = h148.2.1 70 5 from by rw [hv148e]; exact (g_iI rfl (show u70_5 = h143.2.1 70 5 from by rw [hv143e]; exact (g_iI rfl (show u70_5 = h135.2.1 70 5 from by rw [hv135e]; exact (g_iI rfl (show u70_5 = h38.2.1 70 5 from by rw [hv38e]; exact (g_iI rfl (show u70_5 = h33.2.1 70 5 from by rw [hv33e]; exact (g_iI rfl (show u70_5 = h30.2.1 70 5 from by rw [hv30e]; exact (g_iI rfl (show u70_5 = h29.2.1 70 5 from by rw [hv29e]; exact (g_iI rfl (show u70_5 = h28.2.1 70 5 from by rw [hv28e]; exact (g_iI rfl (show u70_5 = h27.2.1 70 5 from by rw [hv27e]; exact (g_iI rfl (show u70_5 = h26.2.1 70 5 from by rw [hv26e]; exact (g_iI rfl (show u70_5 = h25.2.1 70 5 from by rw [hv25e]; exact (g_iI rfl (show u70_5 = h24.2.1 70 5 from by rw [hv24e]; exact (g_iI rfl (show u70_5 = h23.2.1 70 5 from by rw [hv23e]; exact (g_iI rfl (show u70_5 = h21.2.1 70 5 from by rw [hv21e]; exact (g_iI rfl (show u70_5 = h20.2.1 70 5 from by rw [hv20e]; exact (g_iI rfl (show u70_5 = h19.2.1 70 5 from by rw [hv19e]; exact (g_iI rfl (show u70_5 = h18.2.1 70 5 from by rw [hv18e]; exact (g_iI rfl (show u70_5 = h17.2.1 70 5 from by rw [hv17e]; exact (g_iI rfl u70_5w.symm).symm).symm).symm).symm).symm).symm).symm).symm).symm).symm).symm).symm).symm).symm).symm).symm).symm).symm).symm).symm).symm).symm).symm).symm).symm).symm).symm).symm).symm).symm).symm).symm).symm).symm).symm).symm).symm).symm).symm).symm).symm))] <;> exact (ti_rfl u70_5)
                  have g173 : (h157.2.1 70 4).toInt = (u70_4.toInt + 1) := by rw [← (show v155 = h157.2.1 70 4 from (show v155 = h157.2.1 70 4 from by rw [hv157e]; exact g_iS.symm))] <;> exact e156
                  refine go_invV (pc := 380) (sl := 0) (ihT hv157 v11 (by rw [show (v11 : Int32).toInt = ((130 * v6.toInt) + v10.toInt) from e12]; omega) (by rw [show (v11 : Int32).toInt = ((130 * v6.toInt) + v10.toInt) from e12]; omega) l2 (by rw [show (l2 : Int32).toInt = l2.toInt from (ti_rfl l2)]; omega) (by rw [show (l2 : Int32).toInt = l2.toInt from (ti_rfl l2)]; omega) l3 (by rw [show (l3 : Int32).toInt = l3.toInt from (ti_rfl l3)]; omega) (by rw [show (l3 : Int32).toInt = l3.toInt from (ti_rfl l3)]; omega) (by rw [sM167]; exact (by omega)) (by omega) (by rw [sM167]; exact (by omega)) (by rw [sM167]; exact ⟨i1, by omega, by omega, by rw [ze, x3]; exact i6, by rw [ze]; omega⟩) (by omega)) mL_X8_209 iM_X8_readTest sM_X8_readTest (hv157.sh rfl) rfl rfl rfl (Nat.le_of_ble_eq_true rfl) (show d + 4 + 1 ≤ d + 5 by omega) (show 8 + (4 + 11) + 40 * (d + 4) ≤ 40 * (d + 5) by omega) (g_c0 hv157.ln) (Nat.le_of_ble_eq_true rfl) dX8_readItem_380 ?_
                  intro r h174 hq _
                  obtain ⟨rfl, ⟨Q175, hv174, sq176⟩, f177, f178, f179, f180, f181, f182, f183⟩ := hq
                  rw [sM167] at f179
                  rw [sM167] at f180
                  rw [sM167] at f182
                  have oh174 : OH h.2.1 h174.2.1 S := oh157.trans f182
                  have kp174 : KP h.2.1 h174.2.1 := kp157.trans f181
                  have ck174 : CKF h.2.1 → CKF h174.2.1 := fun z => f183 (ck157 z)
                  obtain ⟨u184, u184w⟩ : ∃ v : Int32, v = h174.2.1 70 4 := ⟨_, rfl⟩
                  have u184e : (h174.2.1 70 4).toInt = u184.toInt := by rw [u184w]
                  have u184l : 0 ≤ u184.toInt := by rw [u184w]; exact (hv174.2.1 70 4).1
                  have u184u : u184.toInt ≤ 500 := by rw [u184w]; exact (hv174.2.1 70 4).2
                  obtain ⟨u185, u185w⟩ : ∃ v : Int32, v = h174.2.1 70 5 := ⟨_, rfl⟩
                  have u185e : (h174.2.1 70 5).toInt = u185.toInt := by rw [u185w]
                  have u185l : -2147483648 ≤ u185.toInt := by rw [u185w]; exact (hv174.2.1 70 5).1
                  have u185u : u185.toInt ≤ 2147483647 := by rw [u185w]; exact (hv174.2.1 70 5).2
                  refine go_goto (pc := 383) (tgt := 410) (by decide) dX8_readItem_383 ?_
                  have g186 : (0 : Int) ≤ (h174.2.1 70 4).toInt := (hv174.2.1 70 4).1
                  have g187 : (h174.2.1 70 4).toInt ≤ 500 := (hv174.2.1 70 4).2
                  have g188 : (-2147483648 : Int) ≤ (h174.2.1 70 5).toInt := (hv174.2.1 70 5).1
                  have g189 : (h174.2.1 70 5).toInt ≤ 2147483647 := (hv174.2.1 70 5).2
                  have g190 : (h174.2.1 70 4).toInt = u184.toInt := by rw [← (show u184 = h174.2.1 70 4 from u184w)] <;> exact (ti_rfl u184)
                  have g191 : (h174.2.1 70 5).toInt = u185.toInt := by rw [← (show u185 = h174.2.1 70 5 from u185w)] <;> exact (ti_rfl u185)
                  have pp192 : (h174.2.1 70 5).toInt = 0 → (h.2.1 70 5).toInt = 0 := (by omega)
                  have pp193 : (h.2.1 70 4).toInt ≤ (h174.2.1 70 4).toInt := (by omega)
                  have pp194 : (h174.2.1 70 5).toInt = 0 → (h.2.1 70 4).toInt + 1 ≤ (h174.2.1 70 4).toInt ∧ 6 * (V h174.2.1 73 S - V h174.2.1 75 S) - (h174.2.1 70 4).toInt ≤ 6 * (V h.2.1 73 S - V h.2.1 75 S) - (h.2.1 70 4).toInt ∧ 2 * V h174.2.1 74 S - (h174.2.1 70 4).toInt ≤ 2 * V h.2.1 74 S - (h.2.1 70 4).toInt := (by omega)
                  have pp195 : (h174.2.1 70 5).toInt = 0 → RI h.2.1 h174.2.1 S a2.toInt a4.toInt := (fun hg => by rw [← x1]; exact RI.of S0 ni (by rw [← ze, ← x3]; exact (f180 (by omega))))
                  subst hS
                  exact gi_vret (pc := 410) ⟨rfl, ⟨_, hv174, (MW.trans (MW.trans (MW.trans (MW.trans (MW.trans (MW.trans (MW.trans (MW.trans (MW.trans (MW.trans (MW.trans (MW.trans (MW.trans (MW.trans (MW.trans (MW.trans (MW.trans (MW.trans (MW.trans (MW.trans (MW.trans sqx (MW.mz _ _)) (MW.mz _ _)) (MW.mz _ _)) (MW.mz _ _)) (MW.mz _ _)) (MW.mz _ _)) (MW.mz _ _)) (MW.mz _ _)) (MW.mz _ _)) (MW.mz _ _)) (MW.mz _ _)) (MW.mz _ _)) (MW.mz _ _)) (MW.mz _ _)) (MW.mz _ _)) (MW.mz _ _)) (MW.mz _ _)) (MW.mz _ _)) (MW.mz _ _)) (MW.mz _ _)) sq176)⟩, pp192, pp193, pp194, pp195, kp174, oh174, ck174⟩ hv174 dX8_readItem_410
                ·
                  refine go_iload (pc := 369) rfl dX8_readItem_369 ?_
                  refine go_iconst (pc := 371) (v := 3) (by decide) dX8_readItem_371 ?_
                  refine gf_icmp_ne (pc := 372) (tgt := 386) (ti_rfl l5) (ti_c (v := 3) (a := 3) (by decide)) (by decide) dX8_readItem_372 (fun q196 => ?_) (fun q196 => ?_)
                  ·
                    refine go_iload (pc := 386) rfl dX8_readItem_386 ?_
                    refine go_bipush (pc := 388) (v := 6) (by decide) dX8_readItem_388 ?_
                    refine gf_icmp_ne (pc := 390) (tgt := 404) (ti_rfl l5) (ti_c (v := 6) (a := 6) (by decide)) (by decide) dX8_readItem_390 (fun q197 => ?_) (fun q197 => False.elim (by omega))
                    refine go_aload_n (pc := 404) rfl dX8_readItem_404 ?_
                    refine go_iload (pc := 405) rfl dX8_readItem_405 ?_
                    have EG : h153.2.1 = (w1 (w1 (w1 (w1 (w1 (w1 (w1 (w1 (w1 (w1 (w1 (w1 (w1 (w1 (w1 (w1 (w1 (w1 (w1 (w1 hx.2.1 73 S (v15 : Int32)) 77 (((130 * S) + v10.toInt)) (l5 : Int32)) 78 (((130 * S) + v10.toInt)) ((-1) : Int32)) 79 (((130 * S) + v10.toInt)) (l2 : Int32)) 80 (((130 * S) + v10.toInt)) (l3 : Int32)) 81 (((130 * S) + v10.toInt)) (v22 : Int32)) 82 (((130 * S) + v10.toInt)) (l4 : Int32)) 83 (((130 * S) + v10.toInt)) (0 : Int32)) 84 (((130 * S) + v10.toInt)) ((-2) : Int32)) 85 (((130 * S) + v10.toInt)) ((-1) : Int32)) 86 (((130 * S) + v10.toInt)) ((-1) : Int32)) 87 (((130 * S) + v10.toInt)) ((-1) : Int32)) 88 (((130 * S) + v10.toInt)) (l1 : Int32)) 89 ((2 * ((130 * S) + v10.toInt))) (0 : Int32)) 89 (((2 * ((130 * S) + v10.toInt)) + 1)) (0 : Int32)) 78 (((130 * S) + v10.toInt)) (v134 : Int32)) 93 (((40 * S) + v140.toInt)) (v11 : Int32)) 75 S (v146 : Int32)) 87 v151.toInt (v11 : Int32)) 91 l1.toInt (v11 : Int32)) := by rw [E153, E148, E143, E135, E38]
                    have z198 : (v15 : Int32).toInt = (v14.toInt + 1) := e16
                    have z199 : ((-1) : Int32).toInt = (-1) := (ti_c (v := (-1)) (a := (-1)) (by decide))
                    have z200 : (v22 : Int32).toInt = u70_4.toInt := v22q
                    have z201 : (0 : Int32).toInt = 0 := (ti_c (v := 0) (a := 0) (by decide))
                    have z202 : ((-2) : Int32).toInt = (-2) := (ti_c (v := (-2)) (a := (-2)) (by decide))
                    have z203 : (v11 : Int32).toInt = ((130 * v6.toInt) + v10.toInt) := e12
                    have z204 : (v146 : Int32).toInt = (v145.toInt + 1) := e147
                    have y73 : V hx.2.1 73 S = V h.2.1 73 S := xve.v (by omega) (by omega)
                    have y75 : V hx.2.1 75 S = V h.2.1 75 S := xve.v (by omega) (by omega)
                    have ni : NI h.2.1 h157.2.1 S l1.toInt a4.toInt (((130 * S) + v10.toInt)) l5.toInt l4.toInt := NI.cr01 (its := l5.toInt) (nm := l4.toInt) S0 xve EG ve157 (by omega) (by omega) (by omega) (by omega) (by first | omega | decide) (by omega) (by decide) (by decide) (by decide) (by omega) (by decide) (by decide) (by omega) (by omega) (by omega) (by omega) (by omega) (by omega) (by omega) (by omega) (by omega) (by omega) (by omega) (by omega) (by omega) (by omega) (by omega)
                    obtain ⟨i1, i2, i3, i4, i5, i6, i7, i8⟩ := ni (ht.1) (by rw [x1]; exact ht.2.1) (by rw [x1]; exact ht.2.2)
                    have ze : (v11 : Int32).toInt = ((130 * S) + v10.toInt) := by rw [show (v11 : Int32).toInt = ((130 * v6.toInt) + v10.toInt) from e12]; omega
                    have sM205 : (h157.2.1 70 6).toInt = S := (congrArg Int32.toInt oh157.side).trans hS.symm
                    have g206 : (0 : Int) ≤ (h157.2.1 70 4).toInt := (hv157.2.1 70 4).1
                    have g207 : (h157.2.1 70 4).toInt ≤ 500 := (hv157.2.1 70 4).2
                    have g208 : (-2147483648 : Int) ≤ (h157.2.1 70 5).toInt := (hv157.2.1 70 5).1
                    have g209 : (h157.2.1 70 5).toInt ≤ 2147483647 := (hv157.2.1 70 5).2
                    have g210 : (h157.2.1 70 5).toInt = u70_5.toInt := by rw [← (show u70_5 = h157.2.1 70 5 from (show u70_5 = h157.2.1 70 5 from by rw [hv157e]; exact (g_iI rfl (show u70_5 = h153.2.1 70 5 from by rw [hv153e]; exact (g_iI rfl (show u70_5 = h152.2.1 70 5 from by rw [hv152e]; exact (g_iI rfl (show u70_5 = h148.2.1 70 5 from by rw [hv148e]; exact (g_iI rfl (show u70_5 = h143.2.1 70 5 from by rw [hv143e]; exact (g_iI rfl (show u70_5 = h135.2.1 70 5 from by rw [hv135e]; exact (g_iI rfl (show u70_5 = h38.2.1 70 5 from by rw [hv38e]; exact (g_iI rfl (show u70_5 = h33.2.1 70 5 from by rw [hv33e]; exact (g_iI rfl (show u70_5 = h30.2.1 70 5 from by rw [hv30e]; exact (g_iI rfl (show u70_5 = h29.2.1 70 5 from by rw [hv29e]; exact (g_iI rfl (show u70_5 = h28.2.1 70 5 from by rw [hv28e]; exact (g_iI rfl (show u70_5 = h27.2.1 70 5 from by rw [hv27e]; exact (g_iI rfl (show u70_5 = h26.2.1 70 5 from by rw [hv26e]; exact (g_iI rfl (show u70_5 = h25.2.1 70 5 from by rw [hv25e]; exact (g_iI rfl (show u70_5 = h24.2.1 70 5 from by rw [hv24e]; exact (g_iI rfl (show u70_5 = h23.2.1 70 5 from by rw [hv23e]; exact (g_iI rfl (show u70_5 = h21.2.1 70 5 from by rw [hv21e]; exact (g_iI rfl (show u70_5 = h20.2.1 70 5 from by rw [hv20e]; exact (g_iI rfl (show u70_5 = h19.2.1 70 5 from by rw [hv19e]; exact (g_iI rfl (show u70_5 = h18.2.1 70 5 from by rw [hv18e]; exact (g_iI rfl (show u70_5 = h17.2.1 70 5 from by rw [hv17e]; exact (g_iI rfl u70_5w.symm).symm).symm).symm).symm).symm).symm).symm).symm).symm).symm).symm).symm).symm).symm).symm).symm).symm).symm).symm).symm).symm).symm).symm).symm).symm).symm).symm).symm).symm).symm).symm).symm).symm).symm).symm).symm).symm).symm).symm).symm).symm))] <;> exact (ti_rfl u70_5)
                    have g211 : (h157.2.1 70 4).toInt = (u70_4.toInt + 1) := by rw [← (show v155 = h157.2.1 70 4 from (show v155 = h157.2.1 70 4 from by rw [hv157e]; exact g_iS.symm))] <;> exact e156
                    refine go_invV (pc := 407) (sl := 0) (s_X8_readEnd l (d + 0) hv157 v11 (by rw [show (v11 : Int32).toInt = ((130 * v6.toInt) + v10.toInt) from e12]; omega) (by rw [show (v11 : Int32).toInt = ((130 * v6.toInt) + v10.toInt) from e12]; omega) (by rw [sM205]; exact (by omega))) mL_X8_215 iM_X8_readEnd sM_X8_readEnd (hv157.sh rfl) rfl rfl rfl (Nat.le_of_ble_eq_true rfl) (show d + 0 + 4 + 1 ≤ d + 5 by omega) (show 8 + (2 + 11) + 40 * (d + 0 + 4) ≤ 40 * (d + 5) by omega) (g_c0 hv157.ln) (Nat.le_of_ble_eq_true rfl) dX8_readItem_407 ?_
                    intro r h212 hq _
                    obtain ⟨rfl, ⟨Q213, hv212, sq214⟩, f215, f216, f217, f218, f219, f220, f221, f222, f223⟩ := hq
                    rw [sM205] at f217
                    rw [sM205] at f218
                    rw [sM205] at f219
                    rw [sM205] at f220
                    rw [sM205] at f222
                    have oh212 : OH h.2.1 h212.2.1 S := oh157.trans f222
                    have kp212 : KP h.2.1 h212.2.1 := kp157.trans f221
                    have ck212 : CKF h.2.1 → CKF h212.2.1 := fun z => f223 (ck157 z)
                    obtain ⟨u224, u224w⟩ : ∃ v : Int32, v = h212.2.1 70 4 := ⟨_, rfl⟩
                    have u224e : (h212.2.1 70 4).toInt = u224.toInt := by rw [u224w]
                    have u224l : 0 ≤ u224.toInt := by rw [u224w]; exact (hv212.2.1 70 4).1
                    have u224u : u224.toInt ≤ 500 := by rw [u224w]; exact (hv212.2.1 70 4).2
                    obtain ⟨u225, u225w⟩ : ∃ v : Int32, v = h212.2.1 70 5 := ⟨_, rfl⟩
                    have u225e : (h212.2.1 70 5).toInt = u225.toInt := by rw [u225w]
                    have u225l : -2147483648 ≤ u225.toInt := by rw [u225w]; exact (hv212.2.1 70 5).1
                    have u225u : u225.toInt ≤ 2147483647 := by rw [u225w]; exact (hv212.2.1 70 5).2
                    have g226 : (0 : Int) ≤ (h212.2.1 70 4).toInt := (hv212.2.1 70 4).1
                    have g227 : (h212.2.1 70 4).toInt ≤ 500 := (hv212.2.1 70 4).2
                    have g228 : (-2147483648 : Int) ≤ (h212.2.1 70 5).toInt := (hv212.2.1 70 5).1
                    have g229 : (h212.2.1 70 5).toInt ≤ 2147483647 := (hv212.2.1 70 5).2
                    have g230 : (h212.2.1 70 4).toInt = u224.toInt := by rw [← (show u224 = h212.2.1 70 4 from u224w)] <;> exact (ti_rfl u224)
                    have g231 : (h212.2.1 70 5).toInt = u225.toInt := by rw [← (show u225 = h212.2.1 70 5 from u225w)] <;> exact (ti_rfl u225)
                    have pp232 : (h212.2.1 70 5).toInt = 0 → (h.2.1 70 5).toInt = 0 := (by omega)
                    have pp233 : (h.2.1 70 4).toInt ≤ (h212.2.1 70 4).toInt := (by omega)
                    have pp234 : (h212.2.1 70 5).toInt = 0 → (h.2.1 70 4).toInt + 1 ≤ (h212.2.1 70 4).toInt ∧ 6 * (V h212.2.1 73 S - V h212.2.1 75 S) - (h212.2.1 70 4).toInt ≤ 6 * (V h.2.1 73 S - V h.2.1 75 S) - (h.2.1 70 4).toInt ∧ 2 * V h212.2.1 74 S - (h212.2.1 70 4).toInt ≤ 2 * V h.2.1 74 S - (h.2.1 70 4).toInt := (by omega)
                    have pp235 : (h212.2.1 70 5).toInt = 0 → RI h.2.1 h212.2.1 S a2.toInt a4.toInt := (fun hg => by rw [← x1]; exact RI.of S0 ni (by rw [← ze, ← x3]; exact (f220 (by omega) l3.toInt (by rw [ze]; omega) (by rw [ze]; omega) (by rw [ze]; omega))))
                    subst hS
                    exact gi_vret (pc := 410) ⟨rfl, ⟨_, hv212, (MW.trans (MW.trans (MW.trans (MW.trans (MW.trans (MW.trans (MW.trans (MW.trans (MW.trans (MW.trans (MW.trans (MW.trans (MW.trans (MW.trans (MW.trans (MW.trans (MW.trans (MW.trans (MW.trans (MW.trans (MW.trans sqx (MW.mz _ _)) (MW.mz _ _)) (MW.mz _ _)) (MW.mz _ _)) (MW.mz _ _)) (MW.mz _ _)) (MW.mz _ _)) (MW.mz _ _)) (MW.mz _ _)) (MW.mz _ _)) (MW.mz _ _)) (MW.mz _ _)) (MW.mz _ _)) (MW.mz _ _)) (MW.mz _ _)) (MW.mz _ _)) (MW.mz _ _)) (MW.mz _ _)) (MW.mz _ _)) (MW.mz _ _)) sq214)⟩, pp232, pp233, pp234, pp235, kp212, oh212, ck212⟩ hv212 dX8_readItem_410
                  ·
                    refine go_aload_n (pc := 375) rfl dX8_readItem_375 ?_
                    refine go_iload (pc := 376) rfl dX8_readItem_376 ?_
                    refine go_iload_n (pc := 378) rfl dX8_readItem_378 ?_
                    refine go_iload_n (pc := 379) rfl dX8_readItem_379 ?_
                    have EG : h153.2.1 = (w1 (w1 (w1 (w1 (w1 (w1 (w1 (w1 (w1 (w1 (w1 (w1 (w1 (w1 (w1 (w1 (w1 (w1 (w1 (w1 hx.2.1 73 S (v15 : Int32)) 77 (((130 * S) + v10.toInt)) (l5 : Int32)) 78 (((130 * S) + v10.toInt)) ((-1) : Int32)) 79 (((130 * S) + v10.toInt)) (l2 : Int32)) 80 (((130 * S) + v10.toInt)) (l3 : Int32)) 81 (((130 * S) + v10.toInt)) (v22 : Int32)) 82 (((130 * S) + v10.toInt)) (l4 : Int32)) 83 (((130 * S) + v10.toInt)) (0 : Int32)) 84 (((130 * S) + v10.toInt)) ((-2) : Int32)) 85 (((130 * S) + v10.toInt)) ((-1) : Int32)) 86 (((130 * S) + v10.toInt)) ((-1) : Int32)) 87 (((130 * S) + v10.toInt)) ((-1) : Int32)) 88 (((130 * S) + v10.toInt)) (l1 : Int32)) 89 ((2 * ((130 * S) + v10.toInt))) (0 : Int32)) 89 (((2 * ((130 * S) + v10.toInt)) + 1)) (0 : Int32)) 78 (((130 * S) + v10.toInt)) (v134 : Int32)) 93 (((40 * S) + v140.toInt)) (v11 : Int32)) 75 S (v146 : Int32)) 87 v151.toInt (v11 : Int32)) 91 l1.toInt (v11 : Int32)) := by rw [E153, E148, E143, E135, E38]
                    have z236 : (v15 : Int32).toInt = (v14.toInt + 1) := e16
                    have z237 : ((-1) : Int32).toInt = (-1) := (ti_c (v := (-1)) (a := (-1)) (by decide))
                    have z238 : (v22 : Int32).toInt = u70_4.toInt := v22q
                    have z239 : (0 : Int32).toInt = 0 := (ti_c (v := 0) (a := 0) (by decide))
                    have z240 : ((-2) : Int32).toInt = (-2) := (ti_c (v := (-2)) (a := (-2)) (by decide))
                    have z241 : (v11 : Int32).toInt = ((130 * v6.toInt) + v10.toInt) := e12
                    have z242 : (v146 : Int32).toInt = (v145.toInt + 1) := e147
                    have y73 : V hx.2.1 73 S = V h.2.1 73 S := xve.v (by omega) (by omega)
                    have y75 : V hx.2.1 75 S = V h.2.1 75 S := xve.v (by omega) (by omega)
                    have ni : NI h.2.1 h157.2.1 S l1.toInt a4.toInt (((130 * S) + v10.toInt)) l5.toInt l4.toInt := NI.cr01 (its := l5.toInt) (nm := l4.toInt) S0 xve EG ve157 (by omega) (by omega) (by omega) (by omega) (by first | omega | decide) (by omega) (by decide) (by decide) (by decide) (by omega) (by decide) (by decide) (by omega) (by omega) (by omega) (by omega) (by omega) (by omega) (by omega) (by omega) (by omega) (by omega) (by omega) (by omega) (by omega) (by omega) (by omega)
                    obtain ⟨i1, i2, i3, i4, i5, i6, i7, i8⟩ := ni (ht.1) (by rw [x1]; exact ht.2.1) (by rw [x1]; exact ht.2.2)
                    have ze : (v11 : Int32).toInt = ((130 * S) + v10.toInt) := by rw [show (v11 : Int32).toInt = ((130 * v6.toInt) + v10.toInt) from e12]; omega
                    have sM243 : (h157.2.1 70 6).toInt = S := (congrArg Int32.toInt oh157.side).trans hS.symm
                    have g244 : (0 : Int) ≤ (h157.2.1 70 4).toInt := (hv157.2.1 70 4).1
                    have g245 : (h157.2.1 70 4).toInt ≤ 500 := (hv157.2.1 70 4).2
                    have g246 : (-2147483648 : Int) ≤ (h157.2.1 70 5).toInt := (hv157.2.1 70 5).1
                    have g247 : (h157.2.1 70 5).toInt ≤ 2147483647 := (hv157.2.1 70 5).2
                    have g248 : (h157.2.1 70 5).toInt = u70_5.toInt := by rw [← (show u70_5 = h157.2.1 70 5 from (show u70_5 = h157.2.1 70 5 from by rw [hv157e]; exact (g_iI rfl (show u70_5 = h153.2.1 70 5 from by rw [hv153e]; exact (g_iI rfl (show u70_5 = h152.2.1 70 5 from by rw [hv152e]; exact (g_iI rfl (show u70_5 = h148.2.1 70 5 from by rw [hv148e]; exact (g_iI rfl (show u70_5 = h143.2.1 70 5 from by rw [hv143e]; exact (g_iI rfl (show u70_5 = h135.2.1 70 5 from by rw [hv135e]; exact (g_iI rfl (show u70_5 = h38.2.1 70 5 from by rw [hv38e]; exact (g_iI rfl (show u70_5 = h33.2.1 70 5 from by rw [hv33e]; exact (g_iI rfl (show u70_5 = h30.2.1 70 5 from by rw [hv30e]; exact (g_iI rfl (show u70_5 = h29.2.1 70 5 from by rw [hv29e]; exact (g_iI rfl (show u70_5 = h28.2.1 70 5 from by rw [hv28e]; exact (g_iI rfl (show u70_5 = h27.2.1 70 5 from by rw [hv27e]; exact (g_iI rfl (show u70_5 = h26.2.1 70 5 from by rw [hv26e]; exact (g_iI rfl (show u70_5 = h25.2.1 70 5 from by rw [hv25e]; exact (g_iI rfl (show u70_5 = h24.2.1 70 5 from by rw [hv24e]; exact (g_iI rfl (show u70_5 = h23.2.1 70 5 from by rw [hv23e]; exact (g_iI rfl (show u70_5 = h21.2.1 70 5 from by rw [hv21e]; exact (g_iI rfl (show u70_5 = h20.2.1 70 5 from by rw [hv20e]; exact (g_iI rfl (show u70_5 = h19.2.1 70 5 from by rw [hv19e]; exact (g_iI rfl (show u70_5 = h18.2.1 70 5 from by rw [hv18e]; exact (g_iI rfl (show u70_5 = h17.2.1 70 5 from by rw [hv17e]; exact (g_iI rfl u70_5w.symm).symm).symm).symm).symm).symm).symm).symm).symm).symm).symm).symm).symm).symm).symm).symm).symm).symm).symm).symm).symm).symm).symm).symm).symm).symm).symm).symm).symm).symm).symm).symm).symm).symm).symm).symm).symm).symm).symm).symm).symm).symm))] <;> exact (ti_rfl u70_5)
                    have g249 : (h157.2.1 70 4).toInt = (u70_4.toInt + 1) := by rw [← (show v155 = h157.2.1 70 4 from (show v155 = h157.2.1 70 4 from by rw [hv157e]; exact g_iS.symm))] <;> exact e156
                    refine go_invV (pc := 380) (sl := 0) (ihT hv157 v11 (by rw [show (v11 : Int32).toInt = ((130 * v6.toInt) + v10.toInt) from e12]; omega) (by rw [show (v11 : Int32).toInt = ((130 * v6.toInt) + v10.toInt) from e12]; omega) l2 (by rw [show (l2 : Int32).toInt = l2.toInt from (ti_rfl l2)]; omega) (by rw [show (l2 : Int32).toInt = l2.toInt from (ti_rfl l2)]; omega) l3 (by rw [show (l3 : Int32).toInt = l3.toInt from (ti_rfl l3)]; omega) (by rw [show (l3 : Int32).toInt = l3.toInt from (ti_rfl l3)]; omega) (by rw [sM243]; exact (by omega)) (by omega) (by rw [sM243]; exact (by omega)) (by rw [sM243]; exact ⟨i1, by omega, by omega, by rw [ze, x3]; exact i6, by rw [ze]; omega⟩) (by omega)) mL_X8_209 iM_X8_readTest sM_X8_readTest (hv157.sh rfl) rfl rfl rfl (Nat.le_of_ble_eq_true rfl) (show d + 4 + 1 ≤ d + 5 by omega) (show 8 + (4 + 11) + 40 * (d + 4) ≤ 40 * (d + 5) by omega) (g_c0 hv157.ln) (Nat.le_of_ble_eq_true rfl) dX8_readItem_380 ?_
                    intro r h250 hq _
                    obtain ⟨rfl, ⟨Q251, hv250, sq252⟩, f253, f254, f255, f256, f257, f258, f259⟩ := hq
                    rw [sM243] at f255
                    rw [sM243] at f256
                    rw [sM243] at f258
                    have oh250 : OH h.2.1 h250.2.1 S := oh157.trans f258
                    have kp250 : KP h.2.1 h250.2.1 := kp157.trans f257
                    have ck250 : CKF h.2.1 → CKF h250.2.1 := fun z => f259 (ck157 z)
                    obtain ⟨u260, u260w⟩ : ∃ v : Int32, v = h250.2.1 70 4 := ⟨_, rfl⟩
                    have u260e : (h250.2.1 70 4).toInt = u260.toInt := by rw [u260w]
                    have u260l : 0 ≤ u260.toInt := by rw [u260w]; exact (hv250.2.1 70 4).1
                    have u260u : u260.toInt ≤ 500 := by rw [u260w]; exact (hv250.2.1 70 4).2
                    obtain ⟨u261, u261w⟩ : ∃ v : Int32, v = h250.2.1 70 5 := ⟨_, rfl⟩
                    have u261e : (h250.2.1 70 5).toInt = u261.toInt := by rw [u261w]
                    have u261l : -2147483648 ≤ u261.toInt := by rw [u261w]; exact (hv250.2.1 70 5).1
                    have u261u : u261.toInt ≤ 2147483647 := by rw [u261w]; exact (hv250.2.1 70 5).2
                    refine go_goto (pc := 383) (tgt := 410) (by decide) dX8_readItem_383 ?_
                    have g262 : (0 : Int) ≤ (h250.2.1 70 4).toInt := (hv250.2.1 70 4).1
                    have g263 : (h250.2.1 70 4).toInt ≤ 500 := (hv250.2.1 70 4).2
                    have g264 : (-2147483648 : Int) ≤ (h250.2.1 70 5).toInt := (hv250.2.1 70 5).1
                    have g265 : (h250.2.1 70 5).toInt ≤ 2147483647 := (hv250.2.1 70 5).2
                    have g266 : (h250.2.1 70 4).toInt = u260.toInt := by rw [← (show u260 = h250.2.1 70 4 from u260w)] <;> exact (ti_rfl u260)
                    have g267 : (h250.2.1 70 5).toInt = u261.toInt := by rw [← (show u261 = h250.2.1 70 5 from u261w)] <;> exact (ti_rfl u261)
                    have pp268 : (h250.2.1 70 5).toInt = 0 → (h.2.1 70 5).toInt = 0 := (by omega)
                    have pp269 : (h.2.1 70 4).toInt ≤ (h250.2.1 70 4).toInt := (by omega)
                    have pp270 : (h250.2.1 70 5).toInt = 0 → (h.2.1 70 4).toInt + 1 ≤ (h250.2.1 70 4).toInt ∧ 6 * (V h250.2.1 73 S - V h250.2.1 75 S) - (h250.2.1 70 4).toInt ≤ 6 * (V h.2.1 73 S - V h.2.1 75 S) - (h.2.1 70 4).toInt ∧ 2 * V h250.2.1 74 S - (h250.2.1 70 4).toInt ≤ 2 * V h.2.1 74 S - (h.2.1 70 4).toInt := (by omega)
                    have pp271 : (h250.2.1 70 5).toInt = 0 → RI h.2.1 h250.2.1 S a2.toInt a4.toInt := (fun hg => by rw [← x1]; exact RI.of S0 ni (by rw [← ze, ← x3]; exact (f256 (by omega))))
                    subst hS
                    exact gi_vret (pc := 410) ⟨rfl, ⟨_, hv250, (MW.trans (MW.trans (MW.trans (MW.trans (MW.trans (MW.trans (MW.trans (MW.trans (MW.trans (MW.trans (MW.trans (MW.trans (MW.trans (MW.trans (MW.trans (MW.trans (MW.trans (MW.trans (MW.trans (MW.trans (MW.trans sqx (MW.mz _ _)) (MW.mz _ _)) (MW.mz _ _)) (MW.mz _ _)) (MW.mz _ _)) (MW.mz _ _)) (MW.mz _ _)) (MW.mz _ _)) (MW.mz _ _)) (MW.mz _ _)) (MW.mz _ _)) (MW.mz _ _)) (MW.mz _ _)) (MW.mz _ _)) (MW.mz _ _)) (MW.mz _ _)) (MW.mz _ _)) (MW.mz _ _)) (MW.mz _ _)) (MW.mz _ _)) sq252)⟩, pp268, pp269, pp270, pp271, kp250, oh250, ck250⟩ hv250 dX8_readItem_410
              ·
                refine go_aload_n (pc := 352) rfl dX8_readItem_352 ?_
                refine go_iload (pc := 353) rfl dX8_readItem_353 ?_
                refine go_iload (pc := 355) rfl dX8_readItem_355 ?_
                have EG : h153.2.1 = (w1 (w1 (w1 (w1 (w1 (w1 (w1 (w1 (w1 (w1 (w1 (w1 (w1 (w1 (w1 (w1 (w1 (w1 (w1 (w1 hx.2.1 73 S (v15 : Int32)) 77 (((130 * S) + v10.toInt)) (l5 : Int32)) 78 (((130 * S) + v10.toInt)) ((-1) : Int32)) 79 (((130 * S) + v10.toInt)) (l2 : Int32)) 80 (((130 * S) + v10.toInt)) (l3 : Int32)) 81 (((130 * S) + v10.toInt)) (v22 : Int32)) 82 (((130 * S) + v10.toInt)) (l4 : Int32)) 83 (((130 * S) + v10.toInt)) (0 : Int32)) 84 (((130 * S) + v10.toInt)) ((-2) : Int32)) 85 (((130 * S) + v10.toInt)) ((-1) : Int32)) 86 (((130 * S) + v10.toInt)) ((-1) : Int32)) 87 (((130 * S) + v10.toInt)) ((-1) : Int32)) 88 (((130 * S) + v10.toInt)) (l1 : Int32)) 89 ((2 * ((130 * S) + v10.toInt))) (0 : Int32)) 89 (((2 * ((130 * S) + v10.toInt)) + 1)) (0 : Int32)) 78 (((130 * S) + v10.toInt)) (v134 : Int32)) 93 (((40 * S) + v140.toInt)) (v11 : Int32)) 75 S (v146 : Int32)) 87 v151.toInt (v11 : Int32)) 91 l1.toInt (v11 : Int32)) := by rw [E153, E148, E143, E135, E38]
                have z272 : (v15 : Int32).toInt = (v14.toInt + 1) := e16
                have z273 : ((-1) : Int32).toInt = (-1) := (ti_c (v := (-1)) (a := (-1)) (by decide))
                have z274 : (v22 : Int32).toInt = u70_4.toInt := v22q
                have z275 : (0 : Int32).toInt = 0 := (ti_c (v := 0) (a := 0) (by decide))
                have z276 : ((-2) : Int32).toInt = (-2) := (ti_c (v := (-2)) (a := (-2)) (by decide))
                have z277 : (v11 : Int32).toInt = ((130 * v6.toInt) + v10.toInt) := e12
                have z278 : (v146 : Int32).toInt = (v145.toInt + 1) := e147
                have y73 : V hx.2.1 73 S = V h.2.1 73 S := xve.v (by omega) (by omega)
                have y75 : V hx.2.1 75 S = V h.2.1 75 S := xve.v (by omega) (by omega)
                have ni : NI h.2.1 h157.2.1 S l1.toInt a4.toInt (((130 * S) + v10.toInt)) l5.toInt l4.toInt := NI.cr01 (its := l5.toInt) (nm := l4.toInt) S0 xve EG ve157 (by omega) (by omega) (by omega) (by omega) (by first | omega | decide) (by omega) (by decide) (by decide) (by decide) (by omega) (by decide) (by decide) (by omega) (by omega) (by omega) (by omega) (by omega) (by omega) (by omega) (by omega) (by omega) (by omega) (by omega) (by omega) (by omega) (by omega) (by omega)
                obtain ⟨i1, i2, i3, i4, i5, i6, i7, i8⟩ := ni (ht.1) (by rw [x1]; exact ht.2.1) (by rw [x1]; exact ht.2.2)
                have ze : (v11 : Int32).toInt = ((130 * S) + v10.toInt) := by rw [show (v11 : Int32).toInt = ((130 * v6.toInt) + v10.toInt) from e12]; omega
                have sM279 : (h157.2.1 70 6).toInt = S := (congrArg Int32.toInt oh157.side).trans hS.symm
                have g280 : (0 : Int) ≤ (h157.2.1 70 4).toInt := (hv157.2.1 70 4).1
                have g281 : (h157.2.1 70 4).toInt ≤ 500 := (hv157.2.1 70 4).2
                have g282 : (-2147483648 : Int) ≤ (h157.2.1 70 5).toInt := (hv157.2.1 70 5).1
                have g283 : (h157.2.1 70 5).toInt ≤ 2147483647 := (hv157.2.1 70 5).2
                have g284 : (h157.2.1 70 5).toInt = u70_5.toInt := by rw [← (show u70_5 = h157.2.1 70 5 from (show u70_5 = h157.2.1 70 5 from by rw [hv157e]; exact (g_iI rfl (show u70_5 = h153.2.1 70 5 from by rw [hv153e]; exact (g_iI rfl (show u70_5 = h152.2.1 70 5 from by rw [hv152e]; exact (g_iI rfl (show u70_5 = h148.2.1 70 5 from by rw [hv148e]; exact (g_iI rfl (show u70_5 = h143.2.1 70 5 from by rw [hv143e]; exact (g_iI rfl (show u70_5 = h135.2.1 70 5 from by rw [hv135e]; exact (g_iI rfl (show u70_5 = h38.2.1 70 5 from by rw [hv38e]; exact (g_iI rfl (show u70_5 = h33.2.1 70 5 from by rw [hv33e]; exact (g_iI rfl (show u70_5 = h30.2.1 70 5 from by rw [hv30e]; exact (g_iI rfl (show u70_5 = h29.2.1 70 5 from by rw [hv29e]; exact (g_iI rfl (show u70_5 = h28.2.1 70 5 from by rw [hv28e]; exact (g_iI rfl (show u70_5 = h27.2.1 70 5 from by rw [hv27e]; exact (g_iI rfl (show u70_5 = h26.2.1 70 5 from by rw [hv26e]; exact (g_iI rfl (show u70_5 = h25.2.1 70 5 from by rw [hv25e]; exact (g_iI rfl (show u70_5 = h24.2.1 70 5 from by rw [hv24e]; exact (g_iI rfl (show u70_5 = h23.2.1 70 5 from by rw [hv23e]; exact (g_iI rfl (show u70_5 = h21.2.1 70 5 from by rw [hv21e]; exact (g_iI rfl (show u70_5 = h20.2.1 70 5 from by rw [hv20e]; exact (g_iI rfl (show u70_5 = h19.2.1 70 5 from by rw [hv19e]; exact (g_iI rfl (show u70_5 = h18.2.1 70 5 from by rw [hv18e]; exact (g_iI rfl (show u70_5 = h17.2.1 70 5 from by rw [hv17e]; exact (g_iI rfl u70_5w.symm).symm).symm).symm).symm).symm).symm).symm).symm).symm).symm).symm).symm).symm).symm).symm).symm).symm).symm).symm).symm).symm).symm).symm).symm).symm).symm).symm).symm).symm).symm).symm).symm).symm).symm).symm).symm).symm).symm).symm).symm).symm))] <;> exact (ti_rfl u70_5)
                have g285 : (h157.2.1 70 4).toInt = (u70_4.toInt + 1) := by rw [← (show v155 = h157.2.1 70 4 from (show v155 = h157.2.1 70 4 from by rw [hv157e]; exact g_iS.symm))] <;> exact e156
                refine go_invV (pc := 357) (sl := 0) (s_X8_readSet l (d + 0) hv157 v11 (by rw [show (v11 : Int32).toInt = ((130 * v6.toInt) + v10.toInt) from e12]; omega) (by rw [show (v11 : Int32).toInt = ((130 * v6.toInt) + v10.toInt) from e12]; omega) l4 (by rw [show (l4 : Int32).toInt = l4.toInt from (ti_rfl l4)]; omega) (by rw [show (l4 : Int32).toInt = l4.toInt from (ti_rfl l4)]; omega) (by rw [sM279]; exact (by omega))) mL_X8_205 iM_X8_readSet sM_X8_readSet (hv157.sh rfl) rfl rfl rfl (Nat.le_of_ble_eq_true rfl) (show d + 0 + 4 + 1 ≤ d + 5 by omega) (show 8 + (3 + 11) + 40 * (d + 0 + 4) ≤ 40 * (d + 5) by omega) (g_c0 hv157.ln) (Nat.le_of_ble_eq_true rfl) dX8_readItem_357 ?_
                intro r h286 hq _
                obtain ⟨rfl, ⟨Q287, hv286, sq288⟩, f289, f290, f291, f292, f293, f294, f295, f296, f297⟩ := hq
                rw [sM279] at f291
                rw [sM279] at f292
                rw [sM279] at f293
                rw [sM279] at f294
                rw [sM279] at f296
                have oh286 : OH h.2.1 h286.2.1 S := oh157.trans f296
                have kp286 : KP h.2.1 h286.2.1 := kp157.trans f295
                have ck286 : CKF h.2.1 → CKF h286.2.1 := fun z => f297 (ck157 z)
                obtain ⟨u298, u298w⟩ : ∃ v : Int32, v = h286.2.1 70 4 := ⟨_, rfl⟩
                have u298e : (h286.2.1 70 4).toInt = u298.toInt := by rw [u298w]
                have u298l : 0 ≤ u298.toInt := by rw [u298w]; exact (hv286.2.1 70 4).1
                have u298u : u298.toInt ≤ 500 := by rw [u298w]; exact (hv286.2.1 70 4).2
                obtain ⟨u299, u299w⟩ : ∃ v : Int32, v = h286.2.1 70 5 := ⟨_, rfl⟩
                have u299e : (h286.2.1 70 5).toInt = u299.toInt := by rw [u299w]
                have u299l : -2147483648 ≤ u299.toInt := by rw [u299w]; exact (hv286.2.1 70 5).1
                have u299u : u299.toInt ≤ 2147483647 := by rw [u299w]; exact (hv286.2.1 70 5).2
                refine go_goto (pc := 360) (tgt := 410) (by decide) dX8_readItem_360 ?_
                have g300 : (0 : Int) ≤ (h286.2.1 70 4).toInt := (hv286.2.1 70 4).1
                have g301 : (h286.2.1 70 4).toInt ≤ 500 := (hv286.2.1 70 4).2
                have g302 : (-2147483648 : Int) ≤ (h286.2.1 70 5).toInt := (hv286.2.1 70 5).1
                have g303 : (h286.2.1 70 5).toInt ≤ 2147483647 := (hv286.2.1 70 5).2
                have g304 : (h286.2.1 70 4).toInt = u298.toInt := by rw [← (show u298 = h286.2.1 70 4 from u298w)] <;> exact (ti_rfl u298)
                have g305 : (h286.2.1 70 5).toInt = u299.toInt := by rw [← (show u299 = h286.2.1 70 5 from u299w)] <;> exact (ti_rfl u299)
                have pp306 : (h286.2.1 70 5).toInt = 0 → (h.2.1 70 5).toInt = 0 := (by omega)
                have pp307 : (h.2.1 70 4).toInt ≤ (h286.2.1 70 4).toInt := (by omega)
                have pp308 : (h286.2.1 70 5).toInt = 0 → (h.2.1 70 4).toInt + 1 ≤ (h286.2.1 70 4).toInt ∧ 6 * (V h286.2.1 73 S - V h286.2.1 75 S) - (h286.2.1 70 4).toInt ≤ 6 * (V h.2.1 73 S - V h.2.1 75 S) - (h.2.1 70 4).toInt ∧ 2 * V h286.2.1 74 S - (h286.2.1 70 4).toInt ≤ 2 * V h.2.1 74 S - (h.2.1 70 4).toInt := (by omega)
                have pp309 : (h286.2.1 70 5).toInt = 0 → RI h.2.1 h286.2.1 S a2.toInt a4.toInt := (fun hg => by rw [← x1]; exact RI.of S0 ni (by rw [← ze, ← x3]; exact (f294 (by omega) l3.toInt (by rw [ze]; omega) (by rw [ze]; omega))))
                subst hS
                exact gi_vret (pc := 410) ⟨rfl, ⟨_, hv286, (MW.trans (MW.trans (MW.trans (MW.trans (MW.trans (MW.trans (MW.trans (MW.trans (MW.trans (MW.trans (MW.trans (MW.trans (MW.trans (MW.trans (MW.trans (MW.trans (MW.trans (MW.trans (MW.trans (MW.trans (MW.trans sqx (MW.mz _ _)) (MW.mz _ _)) (MW.mz _ _)) (MW.mz _ _)) (MW.mz _ _)) (MW.mz _ _)) (MW.mz _ _)) (MW.mz _ _)) (MW.mz _ _)) (MW.mz _ _)) (MW.mz _ _)) (MW.mz _ _)) (MW.mz _ _)) (MW.mz _ _)) (MW.mz _ _)) (MW.mz _ _)) (MW.mz _ _)) (MW.mz _ _)) (MW.mz _ _)) (MW.mz _ _)) sq288)⟩, pp306, pp307, pp308, pp309, kp286, oh286, ck286⟩ hv286 dX8_readItem_410
            ·
              refine go_aload_n (pc := 305) rfl dX8_readItem_305 ?_
              refine gi_getF (pc := 306) (q := 90) hv148 fL_X8_68 rfl (Nat.le_of_ble_eq_true rfl) rfl (hv148.rf (by decide)) dX8_readItem_306 ?_
              refine go_iload_n (pc := 309) rfl dX8_readItem_309 ?_
              refine go_iload (pc := 310) rfl dX8_readItem_310 ?_
              refine gi_fst (pc := 312) (lo := -1) (hi := 259) (len := 560) hv148 (ti_rfl l1) e12 rfl (by omega) (by omega) (fun _ => rfl) (by omega) (by omega) (by omega) dX8_readItem_312 (fun h310 hv310 hv310e => ?_)
              refine go_goto (pc := 313) (tgt := 329) (by decide) dX8_readItem_313 ?_
              refine go_aload_n (pc := 329) rfl dX8_readItem_329 ?_
              refine gi_getF (pc := 330) (q := 91) hv310 fL_X8_71 rfl (Nat.le_of_ble_eq_true rfl) rfl (hv310.rf (by decide)) dX8_readItem_330 ?_
              refine go_iload_n (pc := 333) rfl dX8_readItem_333 ?_
              refine go_iload (pc := 334) rfl dX8_readItem_334 ?_
              refine gi_fst (pc := 336) (lo := -1) (hi := 259) (len := 560) hv310 (ti_rfl l1) e12 rfl (by omega) (by omega) (fun _ => rfl) (by omega) (by omega) (by omega) dX8_readItem_336 (fun h311 hv311 hv311e => ?_)
              refine go_aload_n (pc := 337) rfl dX8_readItem_337 ?_
              refine go_dup (pc := 338) rfl dX8_readItem_338 ?_
              refine gi_get (pc := 339) (lo := 0) (hi := 500) hv311 fL_X8_163 rfl (Nat.le_of_ble_eq_true rfl) rfl rfl dX8_readItem_339 (fun v312 v312l v312u v312w => ?_)
              have v312r : u70_4 = h311.2.1 70 4 := (show u70_4 = h311.2.1 70 4 from by rw [hv311e]; exact (g_iI rfl (show u70_4 = h310.2.1 70 4 from by rw [hv310e]; exact (g_iI rfl (show u70_4 = h148.2.1 70 4 from by rw [hv148e]; exact (g_iI rfl (show u70_4 = h143.2.1 70 4 from by rw [hv143e]; exact (g_iI rfl (show u70_4 = h135.2.1 70 4 from by rw [hv135e]; exact (g_iI rfl (show u70_4 = h38.2.1 70 4 from by rw [hv38e]; exact (g_iI rfl (show u70_4 = h33.2.1 70 4 from by rw [hv33e]; exact (g_iI rfl (show u70_4 = h30.2.1 70 4 from by rw [hv30e]; exact (g_iI rfl (show u70_4 = h29.2.1 70 4 from by rw [hv29e]; exact (g_iI rfl (show u70_4 = h28.2.1 70 4 from by rw [hv28e]; exact (g_iI rfl (show u70_4 = h27.2.1 70 4 from by rw [hv27e]; exact (g_iI rfl (show u70_4 = h26.2.1 70 4 from by rw [hv26e]; exact (g_iI rfl (show u70_4 = h25.2.1 70 4 from by rw [hv25e]; exact (g_iI rfl (show u70_4 = h24.2.1 70 4 from by rw [hv24e]; exact (g_iI rfl (show u70_4 = h23.2.1 70 4 from by rw [hv23e]; exact (g_iI rfl (show u70_4 = h21.2.1 70 4 from by rw [hv21e]; exact (g_iI rfl (show u70_4 = h20.2.1 70 4 from by rw [hv20e]; exact (g_iI rfl (show u70_4 = h19.2.1 70 4 from by rw [hv19e]; exact (g_iI rfl (show u70_4 = h18.2.1 70 4 from by rw [hv18e]; exact (g_iI rfl (show u70_4 = h17.2.1 70 4 from by rw [hv17e]; exact (g_iI rfl u70_4w.symm).symm).symm).symm).symm).symm).symm).symm).symm).symm).symm).symm).symm).symm).symm).symm).symm).symm).symm).symm).symm).symm).symm).symm).symm).symm).symm).symm).symm).symm).symm).symm).symm).symm).symm).symm).symm).symm).symm).symm)
              have v312q : TI v312 u70_4.toInt := by rw [v312w.trans v312r.symm]; exact (ti_rfl u70_4)
              refine go_iconst (pc := 342) (v := 1) (by decide) dX8_readItem_342 ?_
              refine gf_iadd (pc := 343) v312q (ti_c (v := 1) (a := 1) (by decide)) (by omega) (by omega) dX8_readItem_343 (fun v313 e314 => ?_)
              have E311 : h311.2.1 = (w1 (w1 h148.2.1 90 l1.toInt (v11 : Int32)) 91 l1.toInt (v11 : Int32)) := by
                rw [hv311e, hv310e]
                rfl
              have oh311 : OH h.2.1 h311.2.1 S := by rw [E311]; exact ((oh148.trans (OH.w 280 rfl (by omega) (by omega) (by omega) (by omega))).trans (OH.w 280 rfl (by omega) (by omega) (by omega) (by omega)))
              have kp311 : KP h.2.1 h311.2.1 := by rw [E311]; exact ((kp148.trans (KP.w (by omega))).trans (KP.w (by omega)))
              have n73_311 : V h311.2.1 73 S = V h148.2.1 73 S := by rw [E311, V_ne (by omega), V_ne (by omega)]
              have n74_311 : V h311.2.1 74 S = V h148.2.1 74 S := by rw [E311, V_ne (by omega), V_ne (by omega)]
              have n75_311 : V h311.2.1 75 S = V h148.2.1 75 S := by rw [E311, V_ne (by omega), V_ne (by omega)]
              have ck311 : CKF h.2.1 → CKF h311.2.1 := fun z => by rw [E311]; exact (CKF.w (by omega) (CKF.w (by omega) (ck148 z)))
              refine gi_put (pc := 344) (lo := 0) (hi := 500) hv311 e314 (fP_X8_163 _) rfl (Nat.le_of_ble_eq_true rfl) rfl rfl (by omega) (by omega) rfl rfl (by decide) (by decide) (by decide) (by decide) dX8_readItem_344 (fun h315 hv315 hv315e => ?_)
              have ve315 : VE h311.2.1 h315.2.1 := VE.of hv311 hv315
              have oh315 : OH h.2.1 h315.2.1 S := oh311.trans (OH.of hv311 hv315 S)
              have kp315 : KP h.2.1 h315.2.1 := kp311.trans (KP.ve ve315)
              have ck315 : CKF h.2.1 → CKF h315.2.1 := fun z => CKF.ve ve315 (ck311 z)
              have n73_315 : V h315.2.1 73 S = V h311.2.1 73 S := ve315.v (by omega) (by omega)
              have n74_315 : V h315.2.1 74 S = V h311.2.1 74 S := ve315.v (by omega) (by omega)
              have n75_315 : V h315.2.1 75 S = V h311.2.1 75 S := ve315.v (by omega) (by omega)
              refine go_iload (pc := 347) rfl dX8_readItem_347 ?_
              refine gf_if_ne (pc := 349) (tgt := 363) (ti_rfl l5) (by decide) dX8_readItem_349 (fun q316 => ?_) (fun q316 => ?_)
              ·
                refine go_iload (pc := 363) rfl dX8_readItem_363 ?_
                refine go_iconst (pc := 365) (v := 2) (by decide) dX8_readItem_365 ?_
                refine gf_icmp_eq (pc := 366) (tgt := 375) (ti_rfl l5) (ti_c (v := 2) (a := 2) (by decide)) (by decide) dX8_readItem_366 (fun q317 => ?_) (fun q317 => ?_)
                ·
                  refine go_aload_n (pc := 375) rfl dX8_readItem_375 ?_
                  refine go_iload (pc := 376) rfl dX8_readItem_376 ?_
                  refine go_iload_n (pc := 378) rfl dX8_readItem_378 ?_
                  refine go_iload_n (pc := 379) rfl dX8_readItem_379 ?_
                  have EG : h311.2.1 = (w1 (w1 (w1 (w1 (w1 (w1 (w1 (w1 (w1 (w1 (w1 (w1 (w1 (w1 (w1 (w1 (w1 (w1 (w1 (w1 hx.2.1 73 S (v15 : Int32)) 77 (((130 * S) + v10.toInt)) (l5 : Int32)) 78 (((130 * S) + v10.toInt)) ((-1) : Int32)) 79 (((130 * S) + v10.toInt)) (l2 : Int32)) 80 (((130 * S) + v10.toInt)) (l3 : Int32)) 81 (((130 * S) + v10.toInt)) (v22 : Int32)) 82 (((130 * S) + v10.toInt)) (l4 : Int32)) 83 (((130 * S) + v10.toInt)) (0 : Int32)) 84 (((130 * S) + v10.toInt)) ((-2) : Int32)) 85 (((130 * S) + v10.toInt)) ((-1) : Int32)) 86 (((130 * S) + v10.toInt)) ((-1) : Int32)) 87 (((130 * S) + v10.toInt)) ((-1) : Int32)) 88 (((130 * S) + v10.toInt)) (l1 : Int32)) 89 ((2 * ((130 * S) + v10.toInt))) (0 : Int32)) 89 (((2 * ((130 * S) + v10.toInt)) + 1)) (0 : Int32)) 78 (((130 * S) + v10.toInt)) (v134 : Int32)) 93 (((40 * S) + v140.toInt)) (v11 : Int32)) 75 S (v146 : Int32)) 90 l1.toInt (v11 : Int32)) 91 l1.toInt (v11 : Int32)) := by rw [E311, E148, E143, E135, E38]
                  have z318 : (v15 : Int32).toInt = (v14.toInt + 1) := e16
                  have z319 : ((-1) : Int32).toInt = (-1) := (ti_c (v := (-1)) (a := (-1)) (by decide))
                  have z320 : (v22 : Int32).toInt = u70_4.toInt := v22q
                  have z321 : (0 : Int32).toInt = 0 := (ti_c (v := 0) (a := 0) (by decide))
                  have z322 : ((-2) : Int32).toInt = (-2) := (ti_c (v := (-2)) (a := (-2)) (by decide))
                  have z323 : (v11 : Int32).toInt = ((130 * v6.toInt) + v10.toInt) := e12
                  have z324 : (v146 : Int32).toInt = (v145.toInt + 1) := e147
                  have y73 : V hx.2.1 73 S = V h.2.1 73 S := xve.v (by omega) (by omega)
                  have y75 : V hx.2.1 75 S = V h.2.1 75 S := xve.v (by omega) (by omega)
                  have ni : NI h.2.1 h315.2.1 S l1.toInt a4.toInt (((130 * S) + v10.toInt)) l5.toInt l4.toInt := NI.cr00 (its := l5.toInt) (nm := l4.toInt) S0 xve EG ve315 (by omega) (by omega) (by omega) (by omega) (by first | omega | decide) (by omega) (by decide) (by decide) (by decide) (by omega) (by decide) (by decide) (by omega) (by omega) (by omega) (by omega) (by omega) (by omega) (by omega) (by omega) (by omega) (by omega) (by omega) (by omega)
                  obtain ⟨i1, i2, i3, i4, i5, i6, i7, i8⟩ := ni (ht.1) (by rw [x1]; exact ht.2.1) (by rw [x1]; exact ht.2.2)
                  have ze : (v11 : Int32).toInt = ((130 * S) + v10.toInt) := by rw [show (v11 : Int32).toInt = ((130 * v6.toInt) + v10.toInt) from e12]; omega
                  have sM325 : (h315.2.1 70 6).toInt = S := (congrArg Int32.toInt oh315.side).trans hS.symm
                  have g326 : (0 : Int) ≤ (h315.2.1 70 4).toInt := (hv315.2.1 70 4).1
                  have g327 : (h315.2.1 70 4).toInt ≤ 500 := (hv315.2.1 70 4).2
                  have g328 : (-2147483648 : Int) ≤ (h315.2.1 70 5).toInt := (hv315.2.1 70 5).1
                  have g329 : (h315.2.1 70 5).toInt ≤ 2147483647 := (hv315.2.1 70 5).2
                  have g330 : (h315.2.1 70 5).toInt = u70_5.toInt := by rw [← (show u70_5 = h315.2.1 70 5 from (show u70_5 = h315.2.1 70 5 from by rw [hv315e]; exact (g_iI rfl (show u70_5 = h311.2.1 70 5 from by rw [hv311e]; exact (g_iI rfl (show u70_5 = h310.2.1 70 5 from by rw [hv310e]; exact (g_iI rfl (show u70_5 = h148.2.1 70 5 from by rw [hv148e]; exact (g_iI rfl (show u70_5 = h143.2.1 70 5 from by rw [hv143e]; exact (g_iI rfl (show u70_5 = h135.2.1 70 5 from by rw [hv135e]; exact (g_iI rfl (show u70_5 = h38.2.1 70 5 from by rw [hv38e]; exact (g_iI rfl (show u70_5 = h33.2.1 70 5 from by rw [hv33e]; exact (g_iI rfl (show u70_5 = h30.2.1 70 5 from by rw [hv30e]; exact (g_iI rfl (show u70_5 = h29.2.1 70 5 from by rw [hv29e]; exact (g_iI rfl (show u70_5 = h28.2.1 70 5 from by rw [hv28e]; exact (g_iI rfl (show u70_5 = h27.2.1 70 5 from by rw [hv27e]; exact (g_iI rfl (show u70_5 = h26.2.1 70 5 from by rw [hv26e]; exact (g_iI rfl (show u70_5 = h25.2.1 70 5 from by rw [hv25e]; exact (g_iI rfl (show u70_5 = h24.2.1 70 5 from by rw [hv24e]; exact (g_iI rfl (show u70_5 = h23.2.1 70 5 from by rw [hv23e]; exact (g_iI rfl (show u70_5 = h21.2.1 70 5 from by rw [hv21e]; exact (g_iI rfl (show u70_5 = h20.2.1 70 5 from by rw [hv20e]; exact (g_iI rfl (show u70_5 = h19.2.1 70 5 from by rw [hv19e]; exact (g_iI rfl (show u70_5 = h18.2.1 70 5 from by rw [hv18e]; exact (g_iI rfl (show u70_5 = h17.2.1 70 5 from by rw [hv17e]; exact (g_iI rfl u70_5w.symm).symm).symm).symm).symm).symm).symm).symm).symm).symm).symm).symm).symm).symm).symm).symm).symm).symm).symm).symm).symm).symm).symm).symm).symm).symm).symm).symm).symm).symm).symm).symm).symm).symm).symm).symm).symm).symm).symm).symm).symm).symm))] <;> exact (ti_rfl u70_5)
                  have g331 : (h315.2.1 70 4).toInt = (u70_4.toInt + 1) := by rw [← (show v313 = h315.2.1 70 4 from (show v313 = h315.2.1 70 4 from by rw [hv315e]; exact g_iS.symm))] <;> exact e314
                  refine go_invV (pc := 380) (sl := 0) (ihT hv315 v11 (by rw [show (v11 : Int32).toInt = ((130 * v6.toInt) + v10.toInt) from e12]; omega) (by rw [show (v11 : Int32).toInt = ((130 * v6.toInt) + v10.toInt) from e12]; omega) l2 (by rw [show (l2 : Int32).toInt = l2.toInt from (ti_rfl l2)]; omega) (by rw [show (l2 : Int32).toInt = l2.toInt from (ti_rfl l2)]; omega) l3 (by rw [show (l3 : Int32).toInt = l3.toInt from (ti_rfl l3)]; omega) (by rw [show (l3 : Int32).toInt = l3.toInt from (ti_rfl l3)]; omega) (by rw [sM325]; exact (by omega)) (by omega) (by rw [sM325]; exact (by omega)) (by rw [sM325]; exact ⟨i1, by omega, by omega, by rw [ze, x3]; exact i6, by rw [ze]; omega⟩) (by omega)) mL_X8_209 iM_X8_readTest sM_X8_readTest (hv315.sh rfl) rfl rfl rfl (Nat.le_of_ble_eq_true rfl) (show d + 4 + 1 ≤ d + 5 by omega) (show 8 + (4 + 11) + 40 * (d + 4) ≤ 40 * (d + 5) by omega) (g_c0 hv315.ln) (Nat.le_of_ble_eq_true rfl) dX8_readItem_380 ?_
                  intro r h332 hq _
                  obtain ⟨rfl, ⟨Q333, hv332, sq334⟩, f335, f336, f337, f338, f339, f340, f341⟩ := hq
                  rw [sM325] at f337
                  rw [sM325] at f338
                  rw [sM325] at f340
                  have oh332 : OH h.2.1 h332.2.1 S := oh315.trans f340
                  have kp332 : KP h.2.1 h332.2.1 := kp315.trans f339
                  have ck332 : CKF h.2.1 → CKF h332.2.1 := fun z => f341 (ck315 z)
                  obtain ⟨u342, u342w⟩ : ∃ v : Int32, v = h332.2.1 70 4 := ⟨_, rfl⟩
                  have u342e : (h332.2.1 70 4).toInt = u342.toInt := by rw [u342w]
                  have u342l : 0 ≤ u342.toInt := by rw [u342w]; exact (hv332.2.1 70 4).1
                  have u342u : u342.toInt ≤ 500 := by rw [u342w]; exact (hv332.2.1 70 4).2
                  obtain ⟨u343, u343w⟩ : ∃ v : Int32, v = h332.2.1 70 5 := ⟨_, rfl⟩
                  have u343e : (h332.2.1 70 5).toInt = u343.toInt := by rw [u343w]
                  have u343l : -2147483648 ≤ u343.toInt := by rw [u343w]; exact (hv332.2.1 70 5).1
                  have u343u : u343.toInt ≤ 2147483647 := by rw [u343w]; exact (hv332.2.1 70 5).2
                  refine go_goto (pc := 383) (tgt := 410) (by decide) dX8_readItem_383 ?_
                  have g344 : (0 : Int) ≤ (h332.2.1 70 4).toInt := (hv332.2.1 70 4).1
                  have g345 : (h332.2.1 70 4).toInt ≤ 500 := (hv332.2.1 70 4).2
                  have g346 : (-2147483648 : Int) ≤ (h332.2.1 70 5).toInt := (hv332.2.1 70 5).1
                  have g347 : (h332.2.1 70 5).toInt ≤ 2147483647 := (hv332.2.1 70 5).2
                  have g348 : (h332.2.1 70 4).toInt = u342.toInt := by rw [← (show u342 = h332.2.1 70 4 from u342w)] <;> exact (ti_rfl u342)
                  have g349 : (h332.2.1 70 5).toInt = u343.toInt := by rw [← (show u343 = h332.2.1 70 5 from u343w)] <;> exact (ti_rfl u343)
                  have pp350 : (h332.2.1 70 5).toInt = 0 → (h.2.1 70 5).toInt = 0 := (by omega)
                  have pp351 : (h.2.1 70 4).toInt ≤ (h332.2.1 70 4).toInt := (by omega)
                  have pp352 : (h332.2.1 70 5).toInt = 0 → (h.2.1 70 4).toInt + 1 ≤ (h332.2.1 70 4).toInt ∧ 6 * (V h332.2.1 73 S - V h332.2.1 75 S) - (h332.2.1 70 4).toInt ≤ 6 * (V h.2.1 73 S - V h.2.1 75 S) - (h.2.1 70 4).toInt ∧ 2 * V h332.2.1 74 S - (h332.2.1 70 4).toInt ≤ 2 * V h.2.1 74 S - (h.2.1 70 4).toInt := (by omega)
                  have pp353 : (h332.2.1 70 5).toInt = 0 → RI h.2.1 h332.2.1 S a2.toInt a4.toInt := (fun hg => by rw [← x1]; exact RI.of S0 ni (by rw [← ze, ← x3]; exact (f338 (by omega))))
                  subst hS
                  exact gi_vret (pc := 410) ⟨rfl, ⟨_, hv332, (MW.trans (MW.trans (MW.trans (MW.trans (MW.trans (MW.trans (MW.trans (MW.trans (MW.trans (MW.trans (MW.trans (MW.trans (MW.trans (MW.trans (MW.trans (MW.trans (MW.trans (MW.trans (MW.trans (MW.trans (MW.trans sqx (MW.mz _ _)) (MW.mz _ _)) (MW.mz _ _)) (MW.mz _ _)) (MW.mz _ _)) (MW.mz _ _)) (MW.mz _ _)) (MW.mz _ _)) (MW.mz _ _)) (MW.mz _ _)) (MW.mz _ _)) (MW.mz _ _)) (MW.mz _ _)) (MW.mz _ _)) (MW.mz _ _)) (MW.mz _ _)) (MW.mz _ _)) (MW.mz _ _)) (MW.mz _ _)) (MW.mz _ _)) sq334)⟩, pp350, pp351, pp352, pp353, kp332, oh332, ck332⟩ hv332 dX8_readItem_410
                ·
                  refine go_iload (pc := 369) rfl dX8_readItem_369 ?_
                  refine go_iconst (pc := 371) (v := 3) (by decide) dX8_readItem_371 ?_
                  refine gf_icmp_ne (pc := 372) (tgt := 386) (ti_rfl l5) (ti_c (v := 3) (a := 3) (by decide)) (by decide) dX8_readItem_372 (fun q354 => ?_) (fun q354 => ?_)
                  ·
                    refine go_iload (pc := 386) rfl dX8_readItem_386 ?_
                    refine go_bipush (pc := 388) (v := 6) (by decide) dX8_readItem_388 ?_
                    refine gf_icmp_ne (pc := 390) (tgt := 404) (ti_rfl l5) (ti_c (v := 6) (a := 6) (by decide)) (by decide) dX8_readItem_390 (fun q355 => ?_) (fun q355 => False.elim (by omega))
                    refine go_aload_n (pc := 404) rfl dX8_readItem_404 ?_
                    refine go_iload (pc := 405) rfl dX8_readItem_405 ?_
                    have EG : h311.2.1 = (w1 (w1 (w1 (w1 (w1 (w1 (w1 (w1 (w1 (w1 (w1 (w1 (w1 (w1 (w1 (w1 (w1 (w1 (w1 (w1 hx.2.1 73 S (v15 : Int32)) 77 (((130 * S) + v10.toInt)) (l5 : Int32)) 78 (((130 * S) + v10.toInt)) ((-1) : Int32)) 79 (((130 * S) + v10.toInt)) (l2 : Int32)) 80 (((130 * S) + v10.toInt)) (l3 : Int32)) 81 (((130 * S) + v10.toInt)) (v22 : Int32)) 82 (((130 * S) + v10.toInt)) (l4 : Int32)) 83 (((130 * S) + v10.toInt)) (0 : Int32)) 84 (((130 * S) + v10.toInt)) ((-2) : Int32)) 85 (((130 * S) + v10.toInt)) ((-1) : Int32)) 86 (((130 * S) + v10.toInt)) ((-1) : Int32)) 87 (((130 * S) + v10.toInt)) ((-1) : Int32)) 88 (((130 * S) + v10.toInt)) (l1 : Int32)) 89 ((2 * ((130 * S) + v10.toInt))) (0 : Int32)) 89 (((2 * ((130 * S) + v10.toInt)) + 1)) (0 : Int32)) 78 (((130 * S) + v10.toInt)) (v134 : Int32)) 93 (((40 * S) + v140.toInt)) (v11 : Int32)) 75 S (v146 : Int32)) 90 l1.toInt (v11 : Int32)) 91 l1.toInt (v11 : Int32)) := by rw [E311, E148, E143, E135, E38]
                    have z356 : (v15 : Int32).toInt = (v14.toInt + 1) := e16
                    have z357 : ((-1) : Int32).toInt = (-1) := (ti_c (v := (-1)) (a := (-1)) (by decide))
                    have z358 : (v22 : Int32).toInt = u70_4.toInt := v22q
                    have z359 : (0 : Int32).toInt = 0 := (ti_c (v := 0) (a := 0) (by decide))
                    have z360 : ((-2) : Int32).toInt = (-2) := (ti_c (v := (-2)) (a := (-2)) (by decide))
                    have z361 : (v11 : Int32).toInt = ((130 * v6.toInt) + v10.toInt) := e12
                    have z362 : (v146 : Int32).toInt = (v145.toInt + 1) := e147
                    have y73 : V hx.2.1 73 S = V h.2.1 73 S := xve.v (by omega) (by omega)
                    have y75 : V hx.2.1 75 S = V h.2.1 75 S := xve.v (by omega) (by omega)
                    have ni : NI h.2.1 h315.2.1 S l1.toInt a4.toInt (((130 * S) + v10.toInt)) l5.toInt l4.toInt := NI.cr00 (its := l5.toInt) (nm := l4.toInt) S0 xve EG ve315 (by omega) (by omega) (by omega) (by omega) (by first | omega | decide) (by omega) (by decide) (by decide) (by decide) (by omega) (by decide) (by decide) (by omega) (by omega) (by omega) (by omega) (by omega) (by omega) (by omega) (by omega) (by omega) (by omega) (by omega) (by omega)
                    obtain ⟨i1, i2, i3, i4, i5, i6, i7, i8⟩ := ni (ht.1) (by rw [x1]; exact ht.2.1) (by rw [x1]; exact ht.2.2)
                    have ze : (v11 : Int32).toInt = ((130 * S) + v10.toInt) := by rw [show (v11 : Int32).toInt = ((130 * v6.toInt) + v10.toInt) from e12]; omega
                    have sM363 : (h315.2.1 70 6).toInt = S := (congrArg Int32.toInt oh315.side).trans hS.symm
                    have g364 : (0 : Int) ≤ (h315.2.1 70 4).toInt := (hv315.2.1 70 4).1
                    have g365 : (h315.2.1 70 4).toInt ≤ 500 := (hv315.2.1 70 4).2
                    have g366 : (-2147483648 : Int) ≤ (h315.2.1 70 5).toInt := (hv315.2.1 70 5).1
                    have g367 : (h315.2.1 70 5).toInt ≤ 2147483647 := (hv315.2.1 70 5).2
                    have g368 : (h315.2.1 70 5).toInt = u70_5.toInt := by rw [← (show u70_5 = h315.2.1 70 5 from (show u70_5 = h315.2.1 70 5 from by rw [hv315e]; exact (g_iI rfl (show u70_5 = h311.2.1 70 5 from by rw [hv311e]; exact (g_iI rfl (show u70_5 = h310.2.1 70 5 from by rw [hv310e]; exact (g_iI rfl (show u70_5 = h148.2.1 70 5 from by rw [hv148e]; exact (g_iI rfl (show u70_5 = h143.2.1 70 5 from by rw [hv143e]; exact (g_iI rfl (show u70_5 = h135.2.1 70 5 from by rw [hv135e]; exact (g_iI rfl (show u70_5 = h38.2.1 70 5 from by rw [hv38e]; exact (g_iI rfl (show u70_5 = h33.2.1 70 5 from by rw [hv33e]; exact (g_iI rfl (show u70_5 = h30.2.1 70 5 from by rw [hv30e]; exact (g_iI rfl (show u70_5 = h29.2.1 70 5 from by rw [hv29e]; exact (g_iI rfl (show u70_5 = h28.2.1 70 5 from by rw [hv28e]; exact (g_iI rfl (show u70_5 = h27.2.1 70 5 from by rw [hv27e]; exact (g_iI rfl (show u70_5 = h26.2.1 70 5 from by rw [hv26e]; exact (g_iI rfl (show u70_5 = h25.2.1 70 5 from by rw [hv25e]; exact (g_iI rfl (show u70_5 = h24.2.1 70 5 from by rw [hv24e]; exact (g_iI rfl (show u70_5 = h23.2.1 70 5 from by rw [hv23e]; exact (g_iI rfl (show u70_5 = h21.2.1 70 5 from by rw [hv21e]; exact (g_iI rfl (show u70_5 = h20.2.1 70 5 from by rw [hv20e]; exact (g_iI rfl (show u70_5 = h19.2.1 70 5 from by rw [hv19e]; exact (g_iI rfl (show u70_5 = h18.2.1 70 5 from by rw [hv18e]; exact (g_iI rfl (show u70_5 = h17.2.1 70 5 from by rw [hv17e]; exact (g_iI rfl u70_5w.symm).symm).symm).symm).symm).symm).symm).symm).symm).symm).symm).symm).symm).symm).symm).symm).symm).symm).symm).symm).symm).symm).symm).symm).symm).symm).symm).symm).symm).symm).symm).symm).symm).symm).symm).symm).symm).symm).symm).symm).symm).symm))] <;> exact (ti_rfl u70_5)
                    have g369 : (h315.2.1 70 4).toInt = (u70_4.toInt + 1) := by rw [← (show v313 = h315.2.1 70 4 from (show v313 = h315.2.1 70 4 from by rw [hv315e]; exact g_iS.symm))] <;> exact e314
                    refine go_invV (pc := 407) (sl := 0) (s_X8_readEnd l (d + 0) hv315 v11 (by rw [show (v11 : Int32).toInt = ((130 * v6.toInt) + v10.toInt) from e12]; omega) (by rw [show (v11 : Int32).toInt = ((130 * v6.toInt) + v10.toInt) from e12]; omega) (by rw [sM363]; exact (by omega))) mL_X8_215 iM_X8_readEnd sM_X8_readEnd (hv315.sh rfl) rfl rfl rfl (Nat.le_of_ble_eq_true rfl) (show d + 0 + 4 + 1 ≤ d + 5 by omega) (show 8 + (2 + 11) + 40 * (d + 0 + 4) ≤ 40 * (d + 5) by omega) (g_c0 hv315.ln) (Nat.le_of_ble_eq_true rfl) dX8_readItem_407 ?_
                    intro r h370 hq _
                    obtain ⟨rfl, ⟨Q371, hv370, sq372⟩, f373, f374, f375, f376, f377, f378, f379, f380, f381⟩ := hq
                    rw [sM363] at f375
                    rw [sM363] at f376
                    rw [sM363] at f377
                    rw [sM363] at f378
                    rw [sM363] at f380
                    have oh370 : OH h.2.1 h370.2.1 S := oh315.trans f380
                    have kp370 : KP h.2.1 h370.2.1 := kp315.trans f379
                    have ck370 : CKF h.2.1 → CKF h370.2.1 := fun z => f381 (ck315 z)
                    obtain ⟨u382, u382w⟩ : ∃ v : Int32, v = h370.2.1 70 4 := ⟨_, rfl⟩
                    have u382e : (h370.2.1 70 4).toInt = u382.toInt := by rw [u382w]
                    have u382l : 0 ≤ u382.toInt := by rw [u382w]; exact (hv370.2.1 70 4).1
                    have u382u : u382.toInt ≤ 500 := by rw [u382w]; exact (hv370.2.1 70 4).2
                    obtain ⟨u383, u383w⟩ : ∃ v : Int32, v = h370.2.1 70 5 := ⟨_, rfl⟩
                    have u383e : (h370.2.1 70 5).toInt = u383.toInt := by rw [u383w]
                    have u383l : -2147483648 ≤ u383.toInt := by rw [u383w]; exact (hv370.2.1 70 5).1
                    have u383u : u383.toInt ≤ 2147483647 := by rw [u383w]; exact (hv370.2.1 70 5).2
                    have g384 : (0 : Int) ≤ (h370.2.1 70 4).toInt := (hv370.2.1 70 4).1
                    have g385 : (h370.2.1 70 4).toInt ≤ 500 := (hv370.2.1 70 4).2
                    have g386 : (-2147483648 : Int) ≤ (h370.2.1 70 5).toInt := (hv370.2.1 70 5).1
                    have g387 : (h370.2.1 70 5).toInt ≤ 2147483647 := (hv370.2.1 70 5).2
                    have g388 : (h370.2.1 70 4).toInt = u382.toInt := by rw [← (show u382 = h370.2.1 70 4 from u382w)] <;> exact (ti_rfl u382)
                    have g389 : (h370.2.1 70 5).toInt = u383.toInt := by rw [← (show u383 = h370.2.1 70 5 from u383w)] <;> exact (ti_rfl u383)
                    have pp390 : (h370.2.1 70 5).toInt = 0 → (h.2.1 70 5).toInt = 0 := (by omega)
                    have pp391 : (h.2.1 70 4).toInt ≤ (h370.2.1 70 4).toInt := (by omega)
                    have pp392 : (h370.2.1 70 5).toInt = 0 → (h.2.1 70 4).toInt + 1 ≤ (h370.2.1 70 4).toInt ∧ 6 * (V h370.2.1 73 S - V h370.2.1 75 S) - (h370.2.1 70 4).toInt ≤ 6 * (V h.2.1 73 S - V h.2.1 75 S) - (h.2.1 70 4).toInt ∧ 2 * V h370.2.1 74 S - (h370.2.1 70 4).toInt ≤ 2 * V h.2.1 74 S - (h.2.1 70 4).toInt := (by omega)
                    have pp393 : (h370.2.1 70 5).toInt = 0 → RI h.2.1 h370.2.1 S a2.toInt a4.toInt := (fun hg => by rw [← x1]; exact RI.of S0 ni (by rw [← ze, ← x3]; exact (f378 (by omega) l3.toInt (by rw [ze]; omega) (by rw [ze]; omega) (by rw [ze]; omega))))
                    subst hS
                    exact gi_vret (pc := 410) ⟨rfl, ⟨_, hv370, (MW.trans (MW.trans (MW.trans (MW.trans (MW.trans (MW.trans (MW.trans (MW.trans (MW.trans (MW.trans (MW.trans (MW.trans (MW.trans (MW.trans (MW.trans (MW.trans (MW.trans (MW.trans (MW.trans (MW.trans (MW.trans sqx (MW.mz _ _)) (MW.mz _ _)) (MW.mz _ _)) (MW.mz _ _)) (MW.mz _ _)) (MW.mz _ _)) (MW.mz _ _)) (MW.mz _ _)) (MW.mz _ _)) (MW.mz _ _)) (MW.mz _ _)) (MW.mz _ _)) (MW.mz _ _)) (MW.mz _ _)) (MW.mz _ _)) (MW.mz _ _)) (MW.mz _ _)) (MW.mz _ _)) (MW.mz _ _)) (MW.mz _ _)) sq372)⟩, pp390, pp391, pp392, pp393, kp370, oh370, ck370⟩ hv370 dX8_readItem_410
                  ·
                    refine go_aload_n (pc := 375) rfl dX8_readItem_375 ?_
                    refine go_iload (pc := 376) rfl dX8_readItem_376 ?_
                    refine go_iload_n (pc := 378) rfl dX8_readItem_378 ?_
                    refine go_iload_n (pc := 379) rfl dX8_readItem_379 ?_
                    have EG : h311.2.1 = (w1 (w1 (w1 (w1 (w1 (w1 (w1 (w1 (w1 (w1 (w1 (w1 (w1 (w1 (w1 (w1 (w1 (w1 (w1 (w1 hx.2.1 73 S (v15 : Int32)) 77 (((130 * S) + v10.toInt)) (l5 : Int32)) 78 (((130 * S) + v10.toInt)) ((-1) : Int32)) 79 (((130 * S) + v10.toInt)) (l2 : Int32)) 80 (((130 * S) + v10.toInt)) (l3 : Int32)) 81 (((130 * S) + v10.toInt)) (v22 : Int32)) 82 (((130 * S) + v10.toInt)) (l4 : Int32)) 83 (((130 * S) + v10.toInt)) (0 : Int32)) 84 (((130 * S) + v10.toInt)) ((-2) : Int32)) 85 (((130 * S) + v10.toInt)) ((-1) : Int32)) 86 (((130 * S) + v10.toInt)) ((-1) : Int32)) 87 (((130 * S) + v10.toInt)) ((-1) : Int32)) 88 (((130 * S) + v10.toInt)) (l1 : Int32)) 89 ((2 * ((130 * S) + v10.toInt))) (0 : Int32)) 89 (((2 * ((130 * S) + v10.toInt)) + 1)) (0 : Int32)) 78 (((130 * S) + v10.toInt)) (v134 : Int32)) 93 (((40 * S) + v140.toInt)) (v11 : Int32)) 75 S (v146 : Int32)) 90 l1.toInt (v11 : Int32)) 91 l1.toInt (v11 : Int32)) := by rw [E311, E148, E143, E135, E38]
                    have z394 : (v15 : Int32).toInt = (v14.toInt + 1) := e16
                    have z395 : ((-1) : Int32).toInt = (-1) := (ti_c (v := (-1)) (a := (-1)) (by decide))
                    have z396 : (v22 : Int32).toInt = u70_4.toInt := v22q
                    have z397 : (0 : Int32).toInt = 0 := (ti_c (v := 0) (a := 0) (by decide))
                    have z398 : ((-2) : Int32).toInt = (-2) := (ti_c (v := (-2)) (a := (-2)) (by decide))
                    have z399 : (v11 : Int32).toInt = ((130 * v6.toInt) + v10.toInt) := e12
                    have z400 : (v146 : Int32).toInt = (v145.toInt + 1) := e147
                    have y73 : V hx.2.1 73 S = V h.2.1 73 S := xve.v (by omega) (by omega)
                    have y75 : V hx.2.1 75 S = V h.2.1 75 S := xve.v (by omega) (by omega)
                    have ni : NI h.2.1 h315.2.1 S l1.toInt a4.toInt (((130 * S) + v10.toInt)) l5.toInt l4.toInt := NI.cr00 (its := l5.toInt) (nm := l4.toInt) S0 xve EG ve315 (by omega) (by omega) (by omega) (by omega) (by first | omega | decide) (by omega) (by decide) (by decide) (by decide) (by omega) (by decide) (by decide) (by omega) (by omega) (by omega) (by omega) (by omega) (by omega) (by omega) (by omega) (by omega) (by omega) (by omega) (by omega)
                    obtain ⟨i1, i2, i3, i4, i5, i6, i7, i8⟩ := ni (ht.1) (by rw [x1]; exact ht.2.1) (by rw [x1]; exact ht.2.2)
                    have ze : (v11 : Int32).toInt = ((130 * S) + v10.toInt) := by rw [show (v11 : Int32).toInt = ((130 * v6.toInt) + v10.toInt) from e12]; omega
                    have sM401 : (h315.2.1 70 6).toInt = S := (congrArg Int32.toInt oh315.side).trans hS.symm
                    have g402 : (0 : Int) ≤ (h315.2.1 70 4).toInt := (hv315.2.1 70 4).1
                    have g403 : (h315.2.1 70 4).toInt ≤ 500 := (hv315.2.1 70 4).2
                    have g404 : (-2147483648 : Int) ≤ (h315.2.1 70 5).toInt := (hv315.2.1 70 5).1
                    have g405 : (h315.2.1 70 5).toInt ≤ 2147483647 := (hv315.2.1 70 5).2
                    have g406 : (h315.2.1 70 5).toInt = u70_5.toInt := by rw [← (show u70_5 = h315.2.1 70 5 from (show u70_5 = h315.2.1 70 5 from by rw [hv315e]; exact (g_iI rfl (show u70_5 = h311.2.1 70 5 from by rw [hv311e]; exact (g_iI rfl (show u70_5 = h310.2.1 70 5 from by rw [hv310e]; exact (g_iI rfl (show u70_5 = h148.2.1 70 5 from by rw [hv148e]; exact (g_iI rfl (show u70_5 = h143.2.1 70 5 from by rw [hv143e]; exact (g_iI rfl (show u70_5 = h135.2.1 70 5 from by rw [hv135e]; exact (g_iI rfl (show u70_5 = h38.2.1 70 5 from by rw [hv38e]; exact (g_iI rfl (show u70_5 = h33.2.1 70 5 from by rw [hv33e]; exact (g_iI rfl (show u70_5 = h30.2.1 70 5 from by rw [hv30e]; exact (g_iI rfl (show u70_5 = h29.2.1 70 5 from by rw [hv29e]; exact (g_iI rfl (show u70_5 = h28.2.1 70 5 from by rw [hv28e]; exact (g_iI rfl (show u70_5 = h27.2.1 70 5 from by rw [hv27e]; exact (g_iI rfl (show u70_5 = h26.2.1 70 5 from by rw [hv26e]; exact (g_iI rfl (show u70_5 = h25.2.1 70 5 from by rw [hv25e]; exact (g_iI rfl (show u70_5 = h24.2.1 70 5 from by rw [hv24e]; exact (g_iI rfl (show u70_5 = h23.2.1 70 5 from by rw [hv23e]; exact (g_iI rfl (show u70_5 = h21.2.1 70 5 from by rw [hv21e]; exact (g_iI rfl (show u70_5 = h20.2.1 70 5 from by rw [hv20e]; exact (g_iI rfl (show u70_5 = h19.2.1 70 5 from by rw [hv19e]; exact (g_iI rfl (show u70_5 = h18.2.1 70 5 from by rw [hv18e]; exact (g_iI rfl (show u70_5 = h17.2.1 70 5 from by rw [hv17e]; exact (g_iI rfl u70_5w.symm).symm).symm).symm).symm).symm).symm).symm).symm).symm).symm).symm).symm).symm).symm).symm).symm).symm).symm).symm).symm).symm).symm).symm).symm).symm).symm).symm).symm).symm).symm).symm).symm).symm).symm).symm).symm).symm).symm).symm).symm).symm))] <;> exact (ti_rfl u70_5)
                    have g407 : (h315.2.1 70 4).toInt = (u70_4.toInt + 1) := by rw [← (show v313 = h315.2.1 70 4 from (show v313 = h315.2.1 70 4 from by rw [hv315e]; exact g_iS.symm))] <;> exact e314
                    refine go_invV (pc := 380) (sl := 0) (ihT hv315 v11 (by rw [show (v11 : Int32).toInt = ((130 * v6.toInt) + v10.toInt) from e12]; omega) (by rw [show (v11 : Int32).toInt = ((130 * v6.toInt) + v10.toInt) from e12]; omega) l2 (by rw [show (l2 : Int32).toInt = l2.toInt from (ti_rfl l2)]; omega) (by rw [show (l2 : Int32).toInt = l2.toInt from (ti_rfl l2)]; omega) l3 (by rw [show (l3 : Int32).toInt = l3.toInt from (ti_rfl l3)]; omega) (by rw [show (l3 : Int32).toInt = l3.toInt from (ti_rfl l3)]; omega) (by rw [sM401]; exact (by omega)) (by omega) (by rw [sM401]; exact (by omega)) (by rw [sM401]; exact ⟨i1, by omega, by omega, by rw [ze, x3]; exact i6, by rw [ze]; omega⟩) (by omega)) mL_X8_209 iM_X8_readTest sM_X8_readTest (hv315.sh rfl) rfl rfl rfl (Nat.le_of_ble_eq_true rfl) (show d + 4 + 1 ≤ d + 5 by omega) (show 8 + (4 + 11) + 40 * (d + 4) ≤ 40 * (d + 5) by omega) (g_c0 hv315.ln) (Nat.le_of_ble_eq_true rfl) dX8_readItem_380 ?_
                    intro r h408 hq _
                    obtain ⟨rfl, ⟨Q409, hv408, sq410⟩, f411, f412, f413, f414, f415, f416, f417⟩ := hq
                    rw [sM401] at f413
                    rw [sM401] at f414
                    rw [sM401] at f416
                    have oh408 : OH h.2.1 h408.2.1 S := oh315.trans f416
                    have kp408 : KP h.2.1 h408.2.1 := kp315.trans f415
                    have ck408 : CKF h.2.1 → CKF h408.2.1 := fun z => f417 (ck315 z)
                    obtain ⟨u418, u418w⟩ : ∃ v : Int32, v = h408.2.1 70 4 := ⟨_, rfl⟩
                    have u418e : (h408.2.1 70 4).toInt = u418.toInt := by rw [u418w]
                    have u418l : 0 ≤ u418.toInt := by rw [u418w]; exact (hv408.2.1 70 4).1
                    have u418u : u418.toInt ≤ 500 := by rw [u418w]; exact (hv408.2.1 70 4).2
                    obtain ⟨u419, u419w⟩ : ∃ v : Int32, v = h408.2.1 70 5 := ⟨_, rfl⟩
                    have u419e : (h408.2.1 70 5).toInt = u419.toInt := by rw [u419w]
                    have u419l : -2147483648 ≤ u419.toInt := by rw [u419w]; exact (hv408.2.1 70 5).1
                    have u419u : u419.toInt ≤ 2147483647 := by rw [u419w]; exact (hv408.2.1 70 5).2
                    refine go_goto (pc := 383) (tgt := 410) (by decide) dX8_readItem_383 ?_
                    have g420 : (0 : Int) ≤ (h408.2.1 70 4).toInt := (hv408.2.1 70 4).1
                    have g421 : (h408.2.1 70 4).toInt ≤ 500 := (hv408.2.1 70 4).2
                    have g422 : (-2147483648 : Int) ≤ (h408.2.1 70 5).toInt := (hv408.2.1 70 5).1
                    have g423 : (h408.2.1 70 5).toInt ≤ 2147483647 := (hv408.2.1 70 5).2
                    have g424 : (h408.2.1 70 4).toInt = u418.toInt := by rw [← (show u418 = h408.2.1 70 4 from u418w)] <;> exact (ti_rfl u418)
                    have g425 : (h408.2.1 70 5).toInt = u419.toInt := by rw [← (show u419 = h408.2.1 70 5 from u419w)] <;> exact (ti_rfl u419)
                    have pp426 : (h408.2.1 70 5).toInt = 0 → (h.2.1 70 5).toInt = 0 := (by omega)
                    have pp427 : (h.2.1 70 4).toInt ≤ (h408.2.1 70 4).toInt := (by omega)
                    have pp428 : (h408.2.1 70 5).toInt = 0 → (h.2.1 70 4).toInt + 1 ≤ (h408.2.1 70 4).toInt ∧ 6 * (V h408.2.1 73 S - V h408.2.1 75 S) - (h408.2.1 70 4).toInt ≤ 6 * (V h.2.1 73 S - V h.2.1 75 S) - (h.2.1 70 4).toInt ∧ 2 * V h408.2.1 74 S - (h408.2.1 70 4).toInt ≤ 2 * V h.2.1 74 S - (h.2.1 70 4).toInt := (by omega)
                    have pp429 : (h408.2.1 70 5).toInt = 0 → RI h.2.1 h408.2.1 S a2.toInt a4.toInt := (fun hg => by rw [← x1]; exact RI.of S0 ni (by rw [← ze, ← x3]; exact (f414 (by omega))))
                    subst hS
                    exact gi_vret (pc := 410) ⟨rfl, ⟨_, hv408, (MW.trans (MW.trans (MW.trans (MW.trans (MW.trans (MW.trans (MW.trans (MW.trans (MW.trans (MW.trans (MW.trans (MW.trans (MW.trans (MW.trans (MW.trans (MW.trans (MW.trans (MW.trans (MW.trans (MW.trans (MW.trans sqx (MW.mz _ _)) (MW.mz _ _)) (MW.mz _ _)) (MW.mz _ _)) (MW.mz _ _)) (MW.mz _ _)) (MW.mz _ _)) (MW.mz _ _)) (MW.mz _ _)) (MW.mz _ _)) (MW.mz _ _)) (MW.mz _ _)) (MW.mz _ _)) (MW.mz _ _)) (MW.mz _ _)) (MW.mz _ _)) (MW.mz _ _)) (MW.mz _ _)) (MW.mz _ _)) (MW.mz _ _)) sq410)⟩, pp426, pp427, pp428, pp429, kp408, oh408, ck408⟩ hv408 dX8_readItem_410
              ·
                refine go_aload_n (pc := 352) rfl dX8_readItem_352 ?_
                refine go_iload (pc := 353) rfl dX8_readItem_353 ?_
                refine go_iload (pc := 355) rfl dX8_readItem_355 ?_
                have EG : h311.2.1 = (w1 (w1 (w1 (w1 (w1 (w1 (w1 (w1 (w1 (w1 (w1 (w1 (w1 (w1 (w1 (w1 (w1 (w1 (w1 (w1 hx.2.1 73 S (v15 : Int32)) 77 (((130 * S) + v10.toInt)) (l5 : Int32)) 78 (((130 * S) + v10.toInt)) ((-1) : Int32)) 79 (((130 * S) + v10.toInt)) (l2 : Int32)) 80 (((130 * S) + v10.toInt)) (l3 : Int32)) 81 (((130 * S) + v10.toInt)) (v22 : Int32)) 82 (((130 * S) + v10.toInt)) (l4 : Int32)) 83 (((130 * S) + v10.toInt)) (0 : Int32)) 84 (((130 * S) + v10.toInt)) ((-2) : Int32)) 85 (((130 * S) + v10.toInt)) ((-1) : Int32)) 86 (((130 * S) + v10.toInt)) ((-1) : Int32)) 87 (((130 * S) + v10.toInt)) ((-1) : Int32)) 88 (((130 * S) + v10.toInt)) (l1 : Int32)) 89 ((2 * ((130 * S) + v10.toInt))) (0 : Int32)) 89 (((2 * ((130 * S) + v10.toInt)) + 1)) (0 : Int32)) 78 (((130 * S) + v10.toInt)) (v134 : Int32)) 93 (((40 * S) + v140.toInt)) (v11 : Int32)) 75 S (v146 : Int32)) 90 l1.toInt (v11 : Int32)) 91 l1.toInt (v11 : Int32)) := by rw [E311, E148, E143, E135, E38]
                have z430 : (v15 : Int32).toInt = (v14.toInt + 1) := e16
                have z431 : ((-1) : Int32).toInt = (-1) := (ti_c (v := (-1)) (a := (-1)) (by decide))
                have z432 : (v22 : Int32).toInt = u70_4.toInt := v22q
                have z433 : (0 : Int32).toInt = 0 := (ti_c (v := 0) (a := 0) (by decide))
                have z434 : ((-2) : Int32).toInt = (-2) := (ti_c (v := (-2)) (a := (-2)) (by decide))
                have z435 : (v11 : Int32).toInt = ((130 * v6.toInt) + v10.toInt) := e12
                have z436 : (v146 : Int32).toInt = (v145.toInt + 1) := e147
                have y73 : V hx.2.1 73 S = V h.2.1 73 S := xve.v (by omega) (by omega)
                have y75 : V hx.2.1 75 S = V h.2.1 75 S := xve.v (by omega) (by omega)
                have ni : NI h.2.1 h315.2.1 S l1.toInt a4.toInt (((130 * S) + v10.toInt)) l5.toInt l4.toInt := NI.cr00 (its := l5.toInt) (nm := l4.toInt) S0 xve EG ve315 (by omega) (by omega) (by omega) (by omega) (by first | omega | decide) (by omega) (by decide) (by decide) (by decide) (by omega) (by decide) (by decide) (by omega) (by omega) (by omega) (by omega) (by omega) (by omega) (by omega) (by omega) (by omega) (by omega) (by omega) (by omega)
                obtain ⟨i1, i2, i3, i4, i5, i6, i7, i8⟩ := ni (ht.1) (by rw [x1]; exact ht.2.1) (by rw [x1]; exact ht.2.2)
                have ze : (v11 : Int32).toInt = ((130 * S) + v10.toInt) := by rw [show (v11 : Int32).toInt = ((130 * v6.toInt) + v10.toInt) from e12]; omega
                have sM437 : (h315.2.1 70 6).toInt = S := (congrArg Int32.toInt oh315.side).trans hS.symm
                have g438 : (0 : Int) ≤ (h315.2.1 70 4).toInt := (hv315.2.1 70 4).1
                have g439 : (h315.2.1 70 4).toInt ≤ 500 := (hv315.2.1 70 4).2
                have g440 : (-2147483648 : Int) ≤ (h315.2.1 70 5).toInt := (hv315.2.1 70 5).1
                have g441 : (h315.2.1 70 5).toInt ≤ 2147483647 := (hv315.2.1 70 5).2
                have g442 : (h315.2.1 70 5).toInt = u70_5.toInt := by rw [← (show u70_5 = h315.2.1 70 5 from (show u70_5 = h315.2.1 70 5 from by rw [hv315e]; exact (g_iI rfl (show u70_5 = h311.2.1 70 5 from by rw [hv311e]; exact (g_iI rfl (show u70_5 = h310.2.1 70 5 from by rw [hv310e]; exact (g_iI rfl (show u70_5 = h148.2.1 70 5 from by rw [hv148e]; exact (g_iI rfl (show u70_5 = h143.2.1 70 5 from by rw [hv143e]; exact (g_iI rfl (show u70_5 = h135.2.1 70 5 from by rw [hv135e]; exact (g_iI rfl (show u70_5 = h38.2.1 70 5 from by rw [hv38e]; exact (g_iI rfl (show u70_5 = h33.2.1 70 5 from by rw [hv33e]; exact (g_iI rfl (show u70_5 = h30.2.1 70 5 from by rw [hv30e]; exact (g_iI rfl (show u70_5 = h29.2.1 70 5 from by rw [hv29e]; exact (g_iI rfl (show u70_5 = h28.2.1 70 5 from by rw [hv28e]; exact (g_iI rfl (show u70_5 = h27.2.1 70 5 from by rw [hv27e]; exact (g_iI rfl (show u70_5 = h26.2.1 70 5 from by rw [hv26e]; exact (g_iI rfl (show u70_5 = h25.2.1 70 5 from by rw [hv25e]; exact (g_iI rfl (show u70_5 = h24.2.1 70 5 from by rw [hv24e]; exact (g_iI rfl (show u70_5 = h23.2.1 70 5 from by rw [hv23e]; exact (g_iI rfl (show u70_5 = h21.2.1 70 5 from by rw [hv21e]; exact (g_iI rfl (show u70_5 = h20.2.1 70 5 from by rw [hv20e]; exact (g_iI rfl (show u70_5 = h19.2.1 70 5 from by rw [hv19e]; exact (g_iI rfl (show u70_5 = h18.2.1 70 5 from by rw [hv18e]; exact (g_iI rfl (show u70_5 = h17.2.1 70 5 from by rw [hv17e]; exact (g_iI rfl u70_5w.symm).symm).symm).symm).symm).symm).symm).symm).symm).symm).symm).symm).symm).symm).symm).symm).symm).symm).symm).symm).symm).symm).symm).symm).symm).symm).symm).symm).symm).symm).symm).symm).symm).symm).symm).symm).symm).symm).symm).symm).symm).symm))] <;> exact (ti_rfl u70_5)
                have g443 : (h315.2.1 70 4).toInt = (u70_4.toInt + 1) := by rw [← (show v313 = h315.2.1 70 4 from (show v313 = h315.2.1 70 4 from by rw [hv315e]; exact g_iS.symm))] <;> exact e314
                refine go_invV (pc := 357) (sl := 0) (s_X8_readSet l (d + 0) hv315 v11 (by rw [show (v11 : Int32).toInt = ((130 * v6.toInt) + v10.toInt) from e12]; omega) (by rw [show (v11 : Int32).toInt = ((130 * v6.toInt) + v10.toInt) from e12]; omega) l4 (by rw [show (l4 : Int32).toInt = l4.toInt from (ti_rfl l4)]; omega) (by rw [show (l4 : Int32).toInt = l4.toInt from (ti_rfl l4)]; omega) (by rw [sM437]; exact (by omega))) mL_X8_205 iM_X8_readSet sM_X8_readSet (hv315.sh rfl) rfl rfl rfl (Nat.le_of_ble_eq_true rfl) (show d + 0 + 4 + 1 ≤ d + 5 by omega) (show 8 + (3 + 11) + 40 * (d + 0 + 4) ≤ 40 * (d + 5) by omega) (g_c0 hv315.ln) (Nat.le_of_ble_eq_true rfl) dX8_readItem_357 ?_
                intro r h444 hq _
                obtain ⟨rfl, ⟨Q445, hv444, sq446⟩, f447, f448, f449, f450, f451, f452, f453, f454, f455⟩ := hq
                rw [sM437] at f449
                rw [sM437] at f450
                rw [sM437] at f451
                rw [sM437] at f452
                rw [sM437] at f454
                have oh444 : OH h.2.1 h444.2.1 S := oh315.trans f454
                have kp444 : KP h.2.1 h444.2.1 := kp315.trans f453
                have ck444 : CKF h.2.1 → CKF h444.2.1 := fun z => f455 (ck315 z)
                obtain ⟨u456, u456w⟩ : ∃ v : Int32, v = h444.2.1 70 4 := ⟨_, rfl⟩
                have u456e : (h444.2.1 70 4).toInt = u456.toInt := by rw [u456w]
                have u456l : 0 ≤ u456.toInt := by rw [u456w]; exact (hv444.2.1 70 4).1
                have u456u : u456.toInt ≤ 500 := by rw [u456w]; exact (hv444.2.1 70 4).2
                obtain ⟨u457, u457w⟩ : ∃ v : Int32, v = h444.2.1 70 5 := ⟨_, rfl⟩
                have u457e : (h444.2.1 70 5).toInt = u457.toInt := by rw [u457w]
                have u457l : -2147483648 ≤ u457.toInt := by rw [u457w]; exact (hv444.2.1 70 5).1
                have u457u : u457.toInt ≤ 2147483647 := by rw [u457w]; exact (hv444.2.1 70 5).2
                refine go_goto (pc := 360) (tgt := 410) (by decide) dX8_readItem_360 ?_
                have g458 : (0 : Int) ≤ (h444.2.1 70 4).toInt := (hv444.2.1 70 4).1
                have g459 : (h444.2.1 70 4).toInt ≤ 500 := (hv444.2.1 70 4).2
                have g460 : (-2147483648 : Int) ≤ (h444.2.1 70 5).toInt := (hv444.2.1 70 5).1
                have g461 : (h444.2.1 70 5).toInt ≤ 2147483647 := (hv444.2.1 70 5).2
                have g462 : (h444.2.1 70 4).toInt = u456.toInt := by rw [← (show u456 = h444.2.1 70 4 from u456w)] <;> exact (ti_rfl u456)
                have g463 : (h444.2.1 70 5).toInt = u457.toInt := by rw [← (show u457 = h444.2.1 70 5 from u457w)] <;> exact (ti_rfl u457)
                have pp464 : (h444.2.1 70 5).toInt = 0 → (h.2.1 70 5).toInt = 0 := (by omega)
                have pp465 : (h.2.1 70 4).toInt ≤ (h444.2.1 70 4).toInt := (by omega)
                have pp466 : (h444.2.1 70 5).toInt = 0 → (h.2.1 70 4).toInt + 1 ≤ (h444.2.1 70 4).toInt ∧ 6 * (V h444.2.1 73 S - V h444.2.1 75 S) - (h444.2.1 70 4).toInt ≤ 6 * (V h.2.1 73 S - V h.2.1 75 S) - (h.2.1 70 4).toInt ∧ 2 * V h444.2.1 74 S - (h444.2.1 70 4).toInt ≤ 2 * V h.2.1 74 S - (h.2.1 70 4).toInt := (by omega)
                have pp467 : (h444.2.1 70 5).toInt = 0 → RI h.2.1 h444.2.1 S a2.toInt a4.toInt := (fun hg => by rw [← x1]; exact RI.of S0 ni (by rw [← ze, ← x3]; exact (f452 (by omega) l3.toInt (by rw [ze]; omega) (by rw [ze]; omega))))
                subst hS
                exact gi_vret (pc := 410) ⟨rfl, ⟨_, hv444, (MW.trans (MW.trans (MW.trans (MW.trans (MW.trans (MW.trans (MW.trans (MW.trans (MW.trans (MW.trans (MW.trans (MW.trans (MW.trans (MW.trans (MW.trans (MW.trans (MW.trans (MW.trans (MW.trans (MW.trans (MW.trans sqx (MW.mz _ _)) (MW.mz _ _)) (MW.mz _ _)) (MW.mz _ _)) (MW.mz _ _)) (MW.mz _ _)) (MW.mz _ _)) (MW.mz _ _)) (MW.mz _ _)) (MW.mz _ _)) (MW.mz _ _)) (MW.mz _ _)) (MW.mz _ _)) (MW.mz _ _)) (MW.mz _ _)) (MW.mz _ _)) (MW.mz _ _)) (MW.mz _ _)) (MW.mz _ _)) (MW.mz _ _)) sq446)⟩, pp464, pp465, pp466, pp467, kp444, oh444, ck444⟩ hv444 dX8_readItem_410
        ·
          have g468 : (0 : Int) ≤ (hx.2.1 70 4).toInt := (hvx.2.1 70 4).1
          have g469 : (hx.2.1 70 4).toInt ≤ 500 := (hvx.2.1 70 4).2
          have g470 : (-2147483648 : Int) ≤ (hx.2.1 70 5).toInt := (hvx.2.1 70 5).1
          have g471 : (hx.2.1 70 5).toInt ≤ 2147483647 := (hvx.2.1 70 5).2
          have g472 : (hx.2.1 70 4).toInt = u70_4.toInt := by rw [← (show u70_4 = hx.2.1 70 4 from u70_4w)] <;> exact (ti_rfl u70_4)
          have g473 : (hx.2.1 70 5).toInt = u70_5.toInt := by rw [← (show u70_5 = hx.2.1 70 5 from u70_5w)] <;> exact (ti_rfl u70_5)
          have pp474 : (hx.2.1 70 5).toInt = 0 → (h.2.1 70 5).toInt = 0 := (by omega)
          have pp475 : (h.2.1 70 4).toInt ≤ (hx.2.1 70 4).toInt := (by omega)
          have pp476 : (hx.2.1 70 5).toInt = 0 → (h.2.1 70 4).toInt + 1 ≤ (hx.2.1 70 4).toInt ∧ 6 * (V hx.2.1 73 S - V hx.2.1 75 S) - (hx.2.1 70 4).toInt ≤ 6 * (V h.2.1 73 S - V h.2.1 75 S) - (h.2.1 70 4).toInt ∧ 2 * V hx.2.1 74 S - (hx.2.1 70 4).toInt ≤ 2 * V h.2.1 74 S - (h.2.1 70 4).toInt := (by omega)
          have pp477 : (hx.2.1 70 5).toInt = 0 → RI h.2.1 hx.2.1 S a2.toInt a4.toInt := (fun hg => absurd hg (by omega))
          subst hS
          exact gi_vret (pc := 77) ⟨rfl, ⟨_, hvx, sqx⟩, pp474, pp475, pp476, pp477, kpx, ohx, ckx⟩ hvx dX8_readItem_77
  refine go_aload_n (pc := 0) rfl dX8_readItem_0 ?_
  refine go_iconst (pc := 1) (v := 1) (by decide) dX8_readItem_1 ?_
  have g478 : (0 : Int) ≤ (h.2.1 70 4).toInt := (hv.2.1 70 4).1
  have g479 : (h.2.1 70 4).toInt ≤ 500 := (hv.2.1 70 4).2
  have g480 : (-2147483648 : Int) ≤ (h.2.1 70 5).toInt := (hv.2.1 70 5).1
  have g481 : (h.2.1 70 5).toInt ≤ 2147483647 := (hv.2.1 70 5).2
  refine go_invV (pc := 2) (sl := 0) (s_X8_nameHere l (d + 2) hv 1 (by rw [show (1 : Int32).toInt = 1 from (ti_c (v := 1) (a := 1) (by decide))]; omega) (by rw [show (1 : Int32).toInt = 1 from (ti_c (v := 1) (a := 1) (by decide))]; omega)) mL_X8_183 iM_X8_nameHere sM_X8_nameHere (hv.sh rfl) rfl rfl rfl (Nat.le_of_ble_eq_true rfl) (show d + 2 + 2 + 1 ≤ d + 5 by omega) (show 8 + (3 + 11) + 40 * (d + 2 + 2) ≤ 40 * (d + 5) by omega) (g_c0 hv.ln) (Nat.le_of_ble_eq_true rfl) dX8_readItem_2 ?_
  intro r h482 hq _
  obtain ⟨v488, rfl, v488l, v488u, hv482, f483, f484, f485, f486, f487⟩ := hq
  try rw [show (1 : Int32).toInt = 1 from (ti_c (v := 1) (a := 1) (by decide))] at f483
  try rw [show (1 : Int32).toInt = 1 from (ti_c (v := 1) (a := 1) (by decide))] at f484
  try rw [show (1 : Int32).toInt = 1 from (ti_c (v := 1) (a := 1) (by decide))] at f485
  try rw [show (1 : Int32).toInt = 1 from (ti_c (v := 1) (a := 1) (by decide))] at f486
  try rw [show (1 : Int32).toInt = 1 from (ti_c (v := 1) (a := 1) (by decide))] at f487
  have ve482 : VE h.2.1 h482.2.1 := VE.of hv hv482
  have oh482 : OH h.2.1 h482.2.1 S := oh.trans (OH.of hv hv482 S)
  have kp482 : KP h.2.1 h482.2.1 := kp.trans (KP.ve ve482)
  have ck482 : CKF h.2.1 → CKF h482.2.1 := fun z => CKF.ve ve482 (ck z)
  have n73_482 : V h482.2.1 73 S = V h.2.1 73 S := ve482.v (by omega) (by omega)
  have n74_482 : V h482.2.1 74 S = V h.2.1 74 S := ve482.v (by omega) (by omega)
  have n75_482 : V h482.2.1 75 S = V h.2.1 75 S := ve482.v (by omega) (by omega)
  obtain ⟨u489, u489w⟩ : ∃ v : Int32, v = h482.2.1 70 4 := ⟨_, rfl⟩
  have u489e : (h482.2.1 70 4).toInt = u489.toInt := by rw [u489w]
  have u489l : 0 ≤ u489.toInt := by rw [u489w]; exact (hv482.2.1 70 4).1
  have u489u : u489.toInt ≤ 500 := by rw [u489w]; exact (hv482.2.1 70 4).2
  obtain ⟨u490, u490w⟩ : ∃ v : Int32, v = h482.2.1 70 5 := ⟨_, rfl⟩
  have u490e : (h482.2.1 70 5).toInt = u490.toInt := by rw [u490w]
  have u490l : -2147483648 ≤ u490.toInt := by rw [u490w]; exact (hv482.2.1 70 5).1
  have u490u : u490.toInt ≤ 2147483647 := by rw [u490w]; exact (hv482.2.1 70 5).2
  refine go_istore (pc := 5) (Nat.le_of_ble_eq_true rfl) dX8_readItem_5 (go_lv (lv2 := [(0, .ref 70), (1, .int a2), (2, .int a3), (3, .int a4), (4, .int v488)]) rfl ?_)
  refine go_iload (pc := 7) rfl dX8_readItem_7 ?_
  refine go_iconst (pc := 9) (v := (-1)) (by decide) dX8_readItem_9 ?_
  refine gf_icmp_eq (pc := 10) (tgt := 17) (ti_rfl v488) (ti_c (v := (-1)) (a := (-1)) (by decide)) (by decide) dX8_readItem_10 (fun q491 => ?_) (fun q491 => ?_)
  ·
    refine go_aload_n (pc := 17) rfl dX8_readItem_17 ?_
    have g492 : (0 : Int) ≤ (h482.2.1 70 4).toInt := (hv482.2.1 70 4).1
    have g493 : (h482.2.1 70 4).toInt ≤ 500 := (hv482.2.1 70 4).2
    have g494 : (-2147483648 : Int) ≤ (h482.2.1 70 5).toInt := (hv482.2.1 70 5).1
    have g495 : (h482.2.1 70 5).toInt ≤ 2147483647 := (hv482.2.1 70 5).2
    have g496 : (h482.2.1 70 4).toInt = u489.toInt := by rw [← (show u489 = h482.2.1 70 4 from u489w)] <;> exact (ti_rfl u489)
    have g497 : (h482.2.1 70 5).toInt = u490.toInt := by rw [← (show u490 = h482.2.1 70 5 from u490w)] <;> exact (ti_rfl u490)
    refine go_invV (pc := 18) (sl := 0) (s_X8_here l (d + 3) hv482 ) mL_X8_176 iM_X8_here sM_X8_here (hv482.sh rfl) rfl rfl rfl (Nat.le_of_ble_eq_true rfl) (show d + 3 + 1 + 1 ≤ d + 5 by omega) (show 8 + (1 + 11) + 40 * (d + 3 + 1) ≤ 40 * (d + 5) by omega) (g_c0 hv482.ln) (Nat.le_of_ble_eq_true rfl) dX8_readItem_18 ?_
    intro r h498 hq _
    obtain ⟨v503, rfl, v503l, v503u, hv498, f499, f500, f501, f502⟩ := hq
    have ve498 : VE h482.2.1 h498.2.1 := VE.of hv482 hv498
    have oh498 : OH h.2.1 h498.2.1 S := oh482.trans (OH.of hv482 hv498 S)
    have kp498 : KP h.2.1 h498.2.1 := kp482.trans (KP.ve ve498)
    have ck498 : CKF h.2.1 → CKF h498.2.1 := fun z => CKF.ve ve498 (ck482 z)
    have n73_498 : V h498.2.1 73 S = V h482.2.1 73 S := ve498.v (by omega) (by omega)
    have n74_498 : V h498.2.1 74 S = V h482.2.1 74 S := ve498.v (by omega) (by omega)
    have n75_498 : V h498.2.1 75 S = V h482.2.1 75 S := ve498.v (by omega) (by omega)
    obtain ⟨u504, u504w⟩ : ∃ v : Int32, v = h498.2.1 70 4 := ⟨_, rfl⟩
    have u504e : (h498.2.1 70 4).toInt = u504.toInt := by rw [u504w]
    have u504l : 0 ≤ u504.toInt := by rw [u504w]; exact (hv498.2.1 70 4).1
    have u504u : u504.toInt ≤ 500 := by rw [u504w]; exact (hv498.2.1 70 4).2
    obtain ⟨u505, u505w⟩ : ∃ v : Int32, v = h498.2.1 70 5 := ⟨_, rfl⟩
    have u505e : (h498.2.1 70 5).toInt = u505.toInt := by rw [u505w]
    have u505l : -2147483648 ≤ u505.toInt := by rw [u505w]; exact (hv498.2.1 70 5).1
    have u505u : u505.toInt ≤ 2147483647 := by rw [u505w]; exact (hv498.2.1 70 5).2
    refine go_invS (pc := 21) (sl := 0) (s_X8_kindOf l (d + 3) hv498 v503) mL_X8_201 iM_X8_kindOf rfl rfl (Nat.le_of_ble_eq_true rfl) (show d + 3 + 1 + 1 ≤ d + 5 by omega) (show 8 + (1 + 11) + 40 * (d + 3 + 1) ≤ 40 * (d + 5) by omega) (g_c0 hv498.ln) (Nat.le_of_ble_eq_true rfl) dX8_readItem_21 ?_
    intro r h506 hq _
    obtain ⟨v510, rfl, v510l, v510u, rfl, f507, f508, f509⟩ := hq
    refine go_istore (pc := 24) (Nat.le_of_ble_eq_true rfl) dX8_readItem_24 (go_lv (lv2 := [(0, .ref 70), (1, .int a2), (2, .int a3), (3, .int a4), (4, .int v488), (5, .int v510)]) rfl ?_)
    refine go_iload (pc := 26) rfl dX8_readItem_26 ?_
    refine go_iconst (pc := 28) (v := (-1)) (by decide) dX8_readItem_28 ?_
    refine gf_icmp_ne (pc := 29) (tgt := 37) (ti_rfl v510) (ti_c (v := (-1)) (a := (-1)) (by decide)) (by decide) dX8_readItem_29 (fun q511 => ?_) (fun q511 => ?_)
    ·
      refine go_aload_n (pc := 37) rfl dX8_readItem_37 ?_
      refine go_invV (pc := 38) (sl := 0) (s_X8_isGood l (d + 3) hv498 ) mL_X8_172 iM_X8_isGood sM_X8_isGood (hv498.sh rfl) rfl rfl rfl (Nat.le_of_ble_eq_true rfl) (show d + 3 + 1 + 1 ≤ d + 5 by omega) (show 8 + (1 + 11) + 40 * (d + 3 + 1) ≤ 40 * (d + 5) by omega) (g_c0 hv498.ln) (Nat.le_of_ble_eq_true rfl) dX8_readItem_38 ?_
      intro r h512 hq _
      obtain ⟨v515, rfl, v515l, v515u, rfl, f513, f514⟩ := hq
      refine gf_if_eq (pc := 41) (tgt := 70) (ti_rfl v515) (by decide) dX8_readItem_41 (fun q516 => ?_) (fun q516 => ?_)
      ·
        have g517 : (0 : Int) ≤ (h498.2.1 70 4).toInt := (hv498.2.1 70 4).1
        have g518 : (h498.2.1 70 4).toInt ≤ 500 := (hv498.2.1 70 4).2
        have g519 : (-2147483648 : Int) ≤ (h498.2.1 70 5).toInt := (hv498.2.1 70 5).1
        have g520 : (h498.2.1 70 5).toInt ≤ 2147483647 := (hv498.2.1 70 5).2
        have g521 : (h498.2.1 70 4).toInt = u504.toInt := by rw [← (show u504 = h498.2.1 70 4 from u504w)] <;> exact (ti_rfl u504)
        have g522 : (h498.2.1 70 5).toInt = u505.toInt := by rw [← (show u505 = h498.2.1 70 5 from u505w)] <;> exact (ti_rfl u505)
        exact go_lv rfl ((key 14) a2 a3 a4 v488 v510 _ h498 hv498 (MW.rfl _) (by omega) (by omega) (by omega) (by omega) (by omega) (by omega) (by omega) (by omega) (by omega) (by omega) (ve482.trans ve498) (by omega) (by omega) (by omega) (by omega) (by omega) oh498 ck498 kp498 (by omega) (by omega) (by omega) (by omega) (by omega))
      ·
        refine go_iload (pc := 44) rfl dX8_readItem_44 ?_
        refine go_bipush (pc := 46) (v := 6) (by decide) dX8_readItem_46 ?_
        refine gf_icmp_eq (pc := 48) (tgt := 70) (ti_rfl v510) (ti_c (v := 6) (a := 6) (by decide)) (by decide) dX8_readItem_48 (fun q523 => ?_) (fun q523 => ?_)
        ·
          have g524 : (0 : Int) ≤ (h498.2.1 70 4).toInt := (hv498.2.1 70 4).1
          have g525 : (h498.2.1 70 4).toInt ≤ 500 := (hv498.2.1 70 4).2
          have g526 : (-2147483648 : Int) ≤ (h498.2.1 70 5).toInt := (hv498.2.1 70 5).1
          have g527 : (h498.2.1 70 5).toInt ≤ 2147483647 := (hv498.2.1 70 5).2
          have g528 : (h498.2.1 70 4).toInt = u504.toInt := by rw [← (show u504 = h498.2.1 70 4 from u504w)] <;> exact (ti_rfl u504)
          have g529 : (h498.2.1 70 5).toInt = u505.toInt := by rw [← (show u505 = h498.2.1 70 5 from u505w)] <;> exact (ti_rfl u505)
          exact go_lv rfl ((key 14) a2 a3 a4 v488 v510 _ h498 hv498 (MW.rfl _) (by omega) (by omega) (by omega) (by omega) (by omega) (by omega) (by omega) (by omega) (by omega) (by omega) (ve482.trans ve498) (by omega) (by omega) (by omega) (by omega) (by omega) oh498 ck498 kp498 (by omega) (by omega) (by omega) (by omega) (by omega))
        ·
          refine go_aload_n (pc := 51) rfl dX8_readItem_51 ?_
          refine gi_getF (pc := 52) (q := 75) hv498 fL_X8_23 rfl (Nat.le_of_ble_eq_true rfl) rfl (hv498.rf (by decide)) dX8_readItem_52 ?_
          refine go_aload_n (pc := 55) rfl dX8_readItem_55 ?_
          refine gi_get (pc := 56) (lo := 0) (hi := 1) hv498 fL_X8_187 rfl (Nat.le_of_ble_eq_true rfl) rfl rfl dX8_readItem_56 (fun v530 v530l v530u v530w => ?_)
          have v530S : v530.toInt = S := by rw [v530w]; exact (congrArg Int32.toInt oh498.side).trans hS.symm
          refine gi_iald (pc := 59) (lo := 0) (hi := 40) (len := 2) hv498 (ti_rfl v530) rfl (by omega) (by omega) (fun _ => rfl) dX8_readItem_59 (fun v531 v531l v531u v531w => ?_)
          have v531V : v531.toInt = V h498.2.1 75 S := by rw [v531w, v530S]; rfl
          refine go_bipush (pc := 60) (v := 40) (by decide) dX8_readItem_60 ?_
          refine gf_icmp_ne (pc := 62) (tgt := 70) (ti_rfl v531) (ti_c (v := 40) (a := 40) (by decide)) (by decide) dX8_readItem_62 (fun q532 => ?_) (fun q532 => ?_)
          ·
            have g533 : (0 : Int) ≤ (h498.2.1 70 4).toInt := (hv498.2.1 70 4).1
            have g534 : (h498.2.1 70 4).toInt ≤ 500 := (hv498.2.1 70 4).2
            have g535 : (-2147483648 : Int) ≤ (h498.2.1 70 5).toInt := (hv498.2.1 70 5).1
            have g536 : (h498.2.1 70 5).toInt ≤ 2147483647 := (hv498.2.1 70 5).2
            have g537 : (h498.2.1 70 4).toInt = u504.toInt := by rw [← (show u504 = h498.2.1 70 4 from u504w)] <;> exact (ti_rfl u504)
            have g538 : (h498.2.1 70 5).toInt = u505.toInt := by rw [← (show u505 = h498.2.1 70 5 from u505w)] <;> exact (ti_rfl u505)
            exact go_lv rfl ((key 14) a2 a3 a4 v488 v510 _ h498 hv498 (MW.rfl _) (by omega) (by omega) (by omega) (by omega) (by omega) (by omega) (by omega) (by omega) (by omega) (by omega) (ve482.trans ve498) (by omega) (by omega) (by omega) (by omega) (by omega) oh498 ck498 kp498 (by omega) (by omega) (by omega) (by omega) (by omega))
          ·
            refine go_aload_n (pc := 65) rfl dX8_readItem_65 ?_
            refine go_iconst (pc := 66) (v := 4) (by decide) dX8_readItem_66 ?_
            have g539 : (0 : Int) ≤ (h498.2.1 70 4).toInt := (hv498.2.1 70 4).1
            have g540 : (h498.2.1 70 4).toInt ≤ 500 := (hv498.2.1 70 4).2
            have g541 : (-2147483648 : Int) ≤ (h498.2.1 70 5).toInt := (hv498.2.1 70 5).1
            have g542 : (h498.2.1 70 5).toInt ≤ 2147483647 := (hv498.2.1 70 5).2
            have g543 : (h498.2.1 70 4).toInt = u504.toInt := by rw [← (show u504 = h498.2.1 70 4 from u504w)] <;> exact (ti_rfl u504)
            have g544 : (h498.2.1 70 5).toInt = u505.toInt := by rw [← (show u505 = h498.2.1 70 5 from u505w)] <;> exact (ti_rfl u505)
            refine go_invV (pc := 67) (sl := 0) (s_X8_fails l (d + 3) hv498 4 (by rw [show (4 : Int32).toInt = 4 from (ti_c (v := 4) (a := 4) (by decide))]; omega) (by rw [show (4 : Int32).toInt = 4 from (ti_c (v := 4) (a := 4) (by decide))]; omega)) mL_X8_180 iM_X8_fails sM_X8_fails (hv498.sh rfl) rfl rfl rfl (Nat.le_of_ble_eq_true rfl) (show d + 3 + 1 + 1 ≤ d + 5 by omega) (show 8 + (2 + 11) + 40 * (d + 3 + 1) ≤ 40 * (d + 5) by omega) (g_c0 hv498.ln) (Nat.le_of_ble_eq_true rfl) dX8_readItem_67 ?_
            intro r h545 hq _
            obtain ⟨rfl, hv545, f546, f547⟩ := hq
            try rw [show (4 : Int32).toInt = 4 from (ti_c (v := 4) (a := 4) (by decide))] at f546
            try rw [show (4 : Int32).toInt = 4 from (ti_c (v := 4) (a := 4) (by decide))] at f547
            have ve545 : VE h498.2.1 h545.2.1 := VE.of hv498 hv545
            have oh545 : OH h.2.1 h545.2.1 S := oh498.trans (OH.of hv498 hv545 S)
            have kp545 : KP h.2.1 h545.2.1 := kp498.trans (KP.ve ve545)
            have ck545 : CKF h.2.1 → CKF h545.2.1 := fun z => CKF.ve ve545 (ck498 z)
            have n73_545 : V h545.2.1 73 S = V h498.2.1 73 S := ve545.v (by omega) (by omega)
            have n74_545 : V h545.2.1 74 S = V h498.2.1 74 S := ve545.v (by omega) (by omega)
            have n75_545 : V h545.2.1 75 S = V h498.2.1 75 S := ve545.v (by omega) (by omega)
            obtain ⟨u548, u548w⟩ : ∃ v : Int32, v = h545.2.1 70 4 := ⟨_, rfl⟩
            have u548e : (h545.2.1 70 4).toInt = u548.toInt := by rw [u548w]
            have u548l : 0 ≤ u548.toInt := by rw [u548w]; exact (hv545.2.1 70 4).1
            have u548u : u548.toInt ≤ 500 := by rw [u548w]; exact (hv545.2.1 70 4).2
            obtain ⟨u549, u549w⟩ : ∃ v : Int32, v = h545.2.1 70 5 := ⟨_, rfl⟩
            have u549e : (h545.2.1 70 5).toInt = u549.toInt := by rw [u549w]
            have u549l : -2147483648 ≤ u549.toInt := by rw [u549w]; exact (hv545.2.1 70 5).1
            have u549u : u549.toInt ≤ 2147483647 := by rw [u549w]; exact (hv545.2.1 70 5).2
            have g550 : (0 : Int) ≤ (h545.2.1 70 4).toInt := (hv545.2.1 70 4).1
            have g551 : (h545.2.1 70 4).toInt ≤ 500 := (hv545.2.1 70 4).2
            have g552 : (-2147483648 : Int) ≤ (h545.2.1 70 5).toInt := (hv545.2.1 70 5).1
            have g553 : (h545.2.1 70 5).toInt ≤ 2147483647 := (hv545.2.1 70 5).2
            have g554 : (h545.2.1 70 4).toInt = u548.toInt := by rw [← (show u548 = h545.2.1 70 4 from u548w)] <;> exact (ti_rfl u548)
            have g555 : (h545.2.1 70 5).toInt = u549.toInt := by rw [← (show u549 = h545.2.1 70 5 from u549w)] <;> exact (ti_rfl u549)
            exact go_lv rfl ((key 14) a2 a3 a4 v488 v510 _ h545 hv545 (MW.rfl _) (by omega) (by omega) (by omega) (by omega) (by omega) (by omega) (by omega) (by omega) (by omega) (by omega) ((ve482.trans ve498).trans ve545) (by omega) (by omega) (by omega) (by omega) (by omega) oh545 ck545 kp545 (by omega) (by omega) (by omega) (by omega) (by omega))
    ·
      refine go_aload_n (pc := 32) rfl dX8_readItem_32 ?_
      refine go_iconst (pc := 33) (v := 1) (by decide) dX8_readItem_33 ?_
      have g556 : (0 : Int) ≤ (h498.2.1 70 4).toInt := (hv498.2.1 70 4).1
      have g557 : (h498.2.1 70 4).toInt ≤ 500 := (hv498.2.1 70 4).2
      have g558 : (-2147483648 : Int) ≤ (h498.2.1 70 5).toInt := (hv498.2.1 70 5).1
      have g559 : (h498.2.1 70 5).toInt ≤ 2147483647 := (hv498.2.1 70 5).2
      have g560 : (h498.2.1 70 4).toInt = u504.toInt := by rw [← (show u504 = h498.2.1 70 4 from u504w)] <;> exact (ti_rfl u504)
      have g561 : (h498.2.1 70 5).toInt = u505.toInt := by rw [← (show u505 = h498.2.1 70 5 from u505w)] <;> exact (ti_rfl u505)
      refine go_invV (pc := 34) (sl := 0) (s_X8_fails l (d + 3) hv498 1 (by rw [show (1 : Int32).toInt = 1 from (ti_c (v := 1) (a := 1) (by decide))]; omega) (by rw [show (1 : Int32).toInt = 1 from (ti_c (v := 1) (a := 1) (by decide))]; omega)) mL_X8_180 iM_X8_fails sM_X8_fails (hv498.sh rfl) rfl rfl rfl (Nat.le_of_ble_eq_true rfl) (show d + 3 + 1 + 1 ≤ d + 5 by omega) (show 8 + (2 + 11) + 40 * (d + 3 + 1) ≤ 40 * (d + 5) by omega) (g_c0 hv498.ln) (Nat.le_of_ble_eq_true rfl) dX8_readItem_34 ?_
      intro r h562 hq _
      obtain ⟨rfl, hv562, f563, f564⟩ := hq
      try rw [show (1 : Int32).toInt = 1 from (ti_c (v := 1) (a := 1) (by decide))] at f563
      try rw [show (1 : Int32).toInt = 1 from (ti_c (v := 1) (a := 1) (by decide))] at f564
      have ve562 : VE h498.2.1 h562.2.1 := VE.of hv498 hv562
      have oh562 : OH h.2.1 h562.2.1 S := oh498.trans (OH.of hv498 hv562 S)
      have kp562 : KP h.2.1 h562.2.1 := kp498.trans (KP.ve ve562)
      have ck562 : CKF h.2.1 → CKF h562.2.1 := fun z => CKF.ve ve562 (ck498 z)
      have n73_562 : V h562.2.1 73 S = V h498.2.1 73 S := ve562.v (by omega) (by omega)
      have n74_562 : V h562.2.1 74 S = V h498.2.1 74 S := ve562.v (by omega) (by omega)
      have n75_562 : V h562.2.1 75 S = V h498.2.1 75 S := ve562.v (by omega) (by omega)
      obtain ⟨u565, u565w⟩ : ∃ v : Int32, v = h562.2.1 70 4 := ⟨_, rfl⟩
      have u565e : (h562.2.1 70 4).toInt = u565.toInt := by rw [u565w]
      have u565l : 0 ≤ u565.toInt := by rw [u565w]; exact (hv562.2.1 70 4).1
      have u565u : u565.toInt ≤ 500 := by rw [u565w]; exact (hv562.2.1 70 4).2
      obtain ⟨u566, u566w⟩ : ∃ v : Int32, v = h562.2.1 70 5 := ⟨_, rfl⟩
      have u566e : (h562.2.1 70 5).toInt = u566.toInt := by rw [u566w]
      have u566l : -2147483648 ≤ u566.toInt := by rw [u566w]; exact (hv562.2.1 70 5).1
      have u566u : u566.toInt ≤ 2147483647 := by rw [u566w]; exact (hv562.2.1 70 5).2
      refine go_aload_n (pc := 37) rfl dX8_readItem_37 ?_
      refine go_invV (pc := 38) (sl := 0) (s_X8_isGood l (d + 3) hv562 ) mL_X8_172 iM_X8_isGood sM_X8_isGood (hv562.sh rfl) rfl rfl rfl (Nat.le_of_ble_eq_true rfl) (show d + 3 + 1 + 1 ≤ d + 5 by omega) (show 8 + (1 + 11) + 40 * (d + 3 + 1) ≤ 40 * (d + 5) by omega) (g_c0 hv562.ln) (Nat.le_of_ble_eq_true rfl) dX8_readItem_38 ?_
      intro r h567 hq _
      obtain ⟨v570, rfl, v570l, v570u, rfl, f568, f569⟩ := hq
      refine gf_if_eq (pc := 41) (tgt := 70) (ti_rfl v570) (by decide) dX8_readItem_41 (fun q571 => ?_) (fun q571 => ?_)
      ·
        have g572 : (0 : Int) ≤ (h562.2.1 70 4).toInt := (hv562.2.1 70 4).1
        have g573 : (h562.2.1 70 4).toInt ≤ 500 := (hv562.2.1 70 4).2
        have g574 : (-2147483648 : Int) ≤ (h562.2.1 70 5).toInt := (hv562.2.1 70 5).1
        have g575 : (h562.2.1 70 5).toInt ≤ 2147483647 := (hv562.2.1 70 5).2
        have g576 : (h562.2.1 70 4).toInt = u565.toInt := by rw [← (show u565 = h562.2.1 70 4 from u565w)] <;> exact (ti_rfl u565)
        have g577 : (h562.2.1 70 5).toInt = u566.toInt := by rw [← (show u566 = h562.2.1 70 5 from u566w)] <;> exact (ti_rfl u566)
        exact go_lv rfl ((key 14) a2 a3 a4 v488 v510 _ h562 hv562 (MW.rfl _) (by omega) (by omega) (by omega) (by omega) (by omega) (by omega) (by omega) (by omega) (by omega) (by omega) ((ve482.trans ve498).trans ve562) (by omega) (by omega) (by omega) (by omega) (by omega) oh562 ck562 kp562 (by omega) (by omega) (by omega) (by omega) (by omega))
      ·
        refine go_iload (pc := 44) rfl dX8_readItem_44 ?_
        refine go_bipush (pc := 46) (v := 6) (by decide) dX8_readItem_46 ?_
        refine gf_icmp_eq (pc := 48) (tgt := 70) (ti_rfl v510) (ti_c (v := 6) (a := 6) (by decide)) (by decide) dX8_readItem_48 (fun q578 => False.elim (by omega)) (fun q578 => ?_)
        refine go_aload_n (pc := 51) rfl dX8_readItem_51 ?_
        refine gi_getF (pc := 52) (q := 75) hv562 fL_X8_23 rfl (Nat.le_of_ble_eq_true rfl) rfl (hv562.rf (by decide)) dX8_readItem_52 ?_
        refine go_aload_n (pc := 55) rfl dX8_readItem_55 ?_
        refine gi_get (pc := 56) (lo := 0) (hi := 1) hv562 fL_X8_187 rfl (Nat.le_of_ble_eq_true rfl) rfl rfl dX8_readItem_56 (fun v579 v579l v579u v579w => ?_)
        have v579S : v579.toInt = S := by rw [v579w]; exact (congrArg Int32.toInt oh562.side).trans hS.symm
        refine gi_iald (pc := 59) (lo := 0) (hi := 40) (len := 2) hv562 (ti_rfl v579) rfl (by omega) (by omega) (fun _ => rfl) dX8_readItem_59 (fun v580 v580l v580u v580w => ?_)
        have v580V : v580.toInt = V h562.2.1 75 S := by rw [v580w, v579S]; rfl
        refine go_bipush (pc := 60) (v := 40) (by decide) dX8_readItem_60 ?_
        refine gf_icmp_ne (pc := 62) (tgt := 70) (ti_rfl v580) (ti_c (v := 40) (a := 40) (by decide)) (by decide) dX8_readItem_62 (fun q581 => ?_) (fun q581 => ?_)
        ·
          have g582 : (0 : Int) ≤ (h562.2.1 70 4).toInt := (hv562.2.1 70 4).1
          have g583 : (h562.2.1 70 4).toInt ≤ 500 := (hv562.2.1 70 4).2
          have g584 : (-2147483648 : Int) ≤ (h562.2.1 70 5).toInt := (hv562.2.1 70 5).1
          have g585 : (h562.2.1 70 5).toInt ≤ 2147483647 := (hv562.2.1 70 5).2
          have g586 : (h562.2.1 70 4).toInt = u565.toInt := by rw [← (show u565 = h562.2.1 70 4 from u565w)] <;> exact (ti_rfl u565)
          have g587 : (h562.2.1 70 5).toInt = u566.toInt := by rw [← (show u566 = h562.2.1 70 5 from u566w)] <;> exact (ti_rfl u566)
          exact go_lv rfl ((key 14) a2 a3 a4 v488 v510 _ h562 hv562 (MW.rfl _) (by omega) (by omega) (by omega) (by omega) (by omega) (by omega) (by omega) (by omega) (by omega) (by omega) ((ve482.trans ve498).trans ve562) (by omega) (by omega) (by omega) (by omega) (by omega) oh562 ck562 kp562 (by omega) (by omega) (by omega) (by omega) (by omega))
        ·
          refine go_aload_n (pc := 65) rfl dX8_readItem_65 ?_
          refine go_iconst (pc := 66) (v := 4) (by decide) dX8_readItem_66 ?_
          have g588 : (0 : Int) ≤ (h562.2.1 70 4).toInt := (hv562.2.1 70 4).1
          have g589 : (h562.2.1 70 4).toInt ≤ 500 := (hv562.2.1 70 4).2
          have g590 : (-2147483648 : Int) ≤ (h562.2.1 70 5).toInt := (hv562.2.1 70 5).1
          have g591 : (h562.2.1 70 5).toInt ≤ 2147483647 := (hv562.2.1 70 5).2
          have g592 : (h562.2.1 70 4).toInt = u565.toInt := by rw [← (show u565 = h562.2.1 70 4 from u565w)] <;> exact (ti_rfl u565)
          have g593 : (h562.2.1 70 5).toInt = u566.toInt := by rw [← (show u566 = h562.2.1 70 5 from u566w)] <;> exact (ti_rfl u566)
          refine go_invV (pc := 67) (sl := 0) (s_X8_fails l (d + 3) hv562 4 (by rw [show (4 : Int32).toInt = 4 from (ti_c (v := 4) (a := 4) (by decide))]; omega) (by rw [show (4 : Int32).toInt = 4 from (ti_c (v := 4) (a := 4) (by decide))]; omega)) mL_X8_180 iM_X8_fails sM_X8_fails (hv562.sh rfl) rfl rfl rfl (Nat.le_of_ble_eq_true rfl) (show d + 3 + 1 + 1 ≤ d + 5 by omega) (show 8 + (2 + 11) + 40 * (d + 3 + 1) ≤ 40 * (d + 5) by omega) (g_c0 hv562.ln) (Nat.le_of_ble_eq_true rfl) dX8_readItem_67 ?_
          intro r h594 hq _
          obtain ⟨rfl, hv594, f595, f596⟩ := hq
          try rw [show (4 : Int32).toInt = 4 from (ti_c (v := 4) (a := 4) (by decide))] at f595
          try rw [show (4 : Int32).toInt = 4 from (ti_c (v := 4) (a := 4) (by decide))] at f596
          have ve594 : VE h562.2.1 h594.2.1 := VE.of hv562 hv594
          have oh594 : OH h.2.1 h594.2.1 S := oh562.trans (OH.of hv562 hv594 S)
          have kp594 : KP h.2.1 h594.2.1 := kp562.trans (KP.ve ve594)
          have ck594 : CKF h.2.1 → CKF h594.2.1 := fun z => CKF.ve ve594 (ck562 z)
          have n73_594 : V h594.2.1 73 S = V h562.2.1 73 S := ve594.v (by omega) (by omega)
          have n74_594 : V h594.2.1 74 S = V h562.2.1 74 S := ve594.v (by omega) (by omega)
          have n75_594 : V h594.2.1 75 S = V h562.2.1 75 S := ve594.v (by omega) (by omega)
          obtain ⟨u597, u597w⟩ : ∃ v : Int32, v = h594.2.1 70 4 := ⟨_, rfl⟩
          have u597e : (h594.2.1 70 4).toInt = u597.toInt := by rw [u597w]
          have u597l : 0 ≤ u597.toInt := by rw [u597w]; exact (hv594.2.1 70 4).1
          have u597u : u597.toInt ≤ 500 := by rw [u597w]; exact (hv594.2.1 70 4).2
          obtain ⟨u598, u598w⟩ : ∃ v : Int32, v = h594.2.1 70 5 := ⟨_, rfl⟩
          have u598e : (h594.2.1 70 5).toInt = u598.toInt := by rw [u598w]
          have u598l : -2147483648 ≤ u598.toInt := by rw [u598w]; exact (hv594.2.1 70 5).1
          have u598u : u598.toInt ≤ 2147483647 := by rw [u598w]; exact (hv594.2.1 70 5).2
          have g599 : (0 : Int) ≤ (h594.2.1 70 4).toInt := (hv594.2.1 70 4).1
          have g600 : (h594.2.1 70 4).toInt ≤ 500 := (hv594.2.1 70 4).2
          have g601 : (-2147483648 : Int) ≤ (h594.2.1 70 5).toInt := (hv594.2.1 70 5).1
          have g602 : (h594.2.1 70 5).toInt ≤ 2147483647 := (hv594.2.1 70 5).2
          have g603 : (h594.2.1 70 4).toInt = u597.toInt := by rw [← (show u597 = h594.2.1 70 4 from u597w)] <;> exact (ti_rfl u597)
          have g604 : (h594.2.1 70 5).toInt = u598.toInt := by rw [← (show u598 = h594.2.1 70 5 from u598w)] <;> exact (ti_rfl u598)
          exact go_lv rfl ((key 14) a2 a3 a4 v488 v510 _ h594 hv594 (MW.rfl _) (by omega) (by omega) (by omega) (by omega) (by omega) (by omega) (by omega) (by omega) (by omega) (by omega) (((ve482.trans ve498).trans ve562).trans ve594) (by omega) (by omega) (by omega) (by omega) (by omega) oh594 ck594 kp594 (by omega) (by omega) (by omega) (by omega) (by omega))
  ·
    refine go_iconst (pc := 13) (v := 0) (by decide) dX8_readItem_13 ?_
    refine go_goto (pc := 14) (tgt := 24) (by decide) dX8_readItem_14 ?_
    refine go_istore (pc := 24) (Nat.le_of_ble_eq_true rfl) dX8_readItem_24 (go_lv (lv2 := [(0, .ref 70), (1, .int a2), (2, .int a3), (3, .int a4), (4, .int v488), (5, .int 0)]) rfl ?_)
    refine go_iload (pc := 26) rfl dX8_readItem_26 ?_
    refine go_iconst (pc := 28) (v := (-1)) (by decide) dX8_readItem_28 ?_
    refine gf_icmp_ne (pc := 29) (tgt := 37) (ti_c (v := 0) (a := 0) (by decide)) (ti_c (v := (-1)) (a := (-1)) (by decide)) (by decide) dX8_readItem_29 (fun q605 => ?_) (fun q605 => False.elim (by omega))
    refine go_aload_n (pc := 37) rfl dX8_readItem_37 ?_
    refine go_invV (pc := 38) (sl := 0) (s_X8_isGood l (d + 3) hv482 ) mL_X8_172 iM_X8_isGood sM_X8_isGood (hv482.sh rfl) rfl rfl rfl (Nat.le_of_ble_eq_true rfl) (show d + 3 + 1 + 1 ≤ d + 5 by omega) (show 8 + (1 + 11) + 40 * (d + 3 + 1) ≤ 40 * (d + 5) by omega) (g_c0 hv482.ln) (Nat.le_of_ble_eq_true rfl) dX8_readItem_38 ?_
    intro r h606 hq _
    obtain ⟨v609, rfl, v609l, v609u, rfl, f607, f608⟩ := hq
    refine gf_if_eq (pc := 41) (tgt := 70) (ti_rfl v609) (by decide) dX8_readItem_41 (fun q610 => ?_) (fun q610 => ?_)
    ·
      have z611 : (0 : Int32).toInt = 0 := (ti_c (v := 0) (a := 0) (by decide))
      have g612 : (0 : Int) ≤ (h482.2.1 70 4).toInt := (hv482.2.1 70 4).1
      have g613 : (h482.2.1 70 4).toInt ≤ 500 := (hv482.2.1 70 4).2
      have g614 : (-2147483648 : Int) ≤ (h482.2.1 70 5).toInt := (hv482.2.1 70 5).1
      have g615 : (h482.2.1 70 5).toInt ≤ 2147483647 := (hv482.2.1 70 5).2
      have g616 : (h482.2.1 70 4).toInt = u489.toInt := by rw [← (show u489 = h482.2.1 70 4 from u489w)] <;> exact (ti_rfl u489)
      have g617 : (h482.2.1 70 5).toInt = u490.toInt := by rw [← (show u490 = h482.2.1 70 5 from u490w)] <;> exact (ti_rfl u490)
      exact go_lv rfl ((key 14) a2 a3 a4 v488 0 _ h482 hv482 (MW.rfl _) (by omega) (by omega) (by omega) (by omega) (by omega) (by omega) (by omega) (by omega) (by omega) (by omega) ve482 (by omega) (by omega) (by omega) (by omega) (by omega) oh482 ck482 kp482 (by omega) (by omega) (by omega) (by omega) (by omega))
    ·
      refine go_iload (pc := 44) rfl dX8_readItem_44 ?_
      refine go_bipush (pc := 46) (v := 6) (by decide) dX8_readItem_46 ?_
      refine gf_icmp_eq (pc := 48) (tgt := 70) (ti_c (v := 0) (a := 0) (by decide)) (ti_c (v := 6) (a := 6) (by decide)) (by decide) dX8_readItem_48 (fun q618 => False.elim (by omega)) (fun q618 => ?_)
      refine go_aload_n (pc := 51) rfl dX8_readItem_51 ?_
      refine gi_getF (pc := 52) (q := 75) hv482 fL_X8_23 rfl (Nat.le_of_ble_eq_true rfl) rfl (hv482.rf (by decide)) dX8_readItem_52 ?_
      refine go_aload_n (pc := 55) rfl dX8_readItem_55 ?_
      refine gi_get (pc := 56) (lo := 0) (hi := 1) hv482 fL_X8_187 rfl (Nat.le_of_ble_eq_true rfl) rfl rfl dX8_readItem_56 (fun v619 v619l v619u v619w => ?_)
      have v619S : v619.toInt = S := by rw [v619w]; exact (congrArg Int32.toInt oh482.side).trans hS.symm
      refine gi_iald (pc := 59) (lo := 0) (hi := 40) (len := 2) hv482 (ti_rfl v619) rfl (by omega) (by omega) (fun _ => rfl) dX8_readItem_59 (fun v620 v620l v620u v620w => ?_)
      have v620V : v620.toInt = V h482.2.1 75 S := by rw [v620w, v619S]; rfl
      refine go_bipush (pc := 60) (v := 40) (by decide) dX8_readItem_60 ?_
      refine gf_icmp_ne (pc := 62) (tgt := 70) (ti_rfl v620) (ti_c (v := 40) (a := 40) (by decide)) (by decide) dX8_readItem_62 (fun q621 => ?_) (fun q621 => ?_)
      ·
        have z622 : (0 : Int32).toInt = 0 := (ti_c (v := 0) (a := 0) (by decide))
        have g623 : (0 : Int) ≤ (h482.2.1 70 4).toInt := (hv482.2.1 70 4).1
        have g624 : (h482.2.1 70 4).toInt ≤ 500 := (hv482.2.1 70 4).2
        have g625 : (-2147483648 : Int) ≤ (h482.2.1 70 5).toInt := (hv482.2.1 70 5).1
        have g626 : (h482.2.1 70 5).toInt ≤ 2147483647 := (hv482.2.1 70 5).2
        have g627 : (h482.2.1 70 4).toInt = u489.toInt := by rw [← (show u489 = h482.2.1 70 4 from u489w)] <;> exact (ti_rfl u489)
        have g628 : (h482.2.1 70 5).toInt = u490.toInt := by rw [← (show u490 = h482.2.1 70 5 from u490w)] <;> exact (ti_rfl u490)
        exact go_lv rfl ((key 14) a2 a3 a4 v488 0 _ h482 hv482 (MW.rfl _) (by omega) (by omega) (by omega) (by omega) (by omega) (by omega) (by omega) (by omega) (by omega) (by omega) ve482 (by omega) (by omega) (by omega) (by omega) (by omega) oh482 ck482 kp482 (by omega) (by omega) (by omega) (by omega) (by omega))
      ·
        refine go_aload_n (pc := 65) rfl dX8_readItem_65 ?_
        refine go_iconst (pc := 66) (v := 4) (by decide) dX8_readItem_66 ?_
        have g629 : (0 : Int) ≤ (h482.2.1 70 4).toInt := (hv482.2.1 70 4).1
        have g630 : (h482.2.1 70 4).toInt ≤ 500 := (hv482.2.1 70 4).2
        have g631 : (-2147483648 : Int) ≤ (h482.2.1 70 5).toInt := (hv482.2.1 70 5).1
        have g632 : (h482.2.1 70 5).toInt ≤ 2147483647 := (hv482.2.1 70 5).2
        have g633 : (h482.2.1 70 4).toInt = u489.toInt := by rw [← (show u489 = h482.2.1 70 4 from u489w)] <;> exact (ti_rfl u489)
        have g634 : (h482.2.1 70 5).toInt = u490.toInt := by rw [← (show u490 = h482.2.1 70 5 from u490w)] <;> exact (ti_rfl u490)
        refine go_invV (pc := 67) (sl := 0) (s_X8_fails l (d + 3) hv482 4 (by rw [show (4 : Int32).toInt = 4 from (ti_c (v := 4) (a := 4) (by decide))]; omega) (by rw [show (4 : Int32).toInt = 4 from (ti_c (v := 4) (a := 4) (by decide))]; omega)) mL_X8_180 iM_X8_fails sM_X8_fails (hv482.sh rfl) rfl rfl rfl (Nat.le_of_ble_eq_true rfl) (show d + 3 + 1 + 1 ≤ d + 5 by omega) (show 8 + (2 + 11) + 40 * (d + 3 + 1) ≤ 40 * (d + 5) by omega) (g_c0 hv482.ln) (Nat.le_of_ble_eq_true rfl) dX8_readItem_67 ?_
        intro r h635 hq _
        obtain ⟨rfl, hv635, f636, f637⟩ := hq
        try rw [show (4 : Int32).toInt = 4 from (ti_c (v := 4) (a := 4) (by decide))] at f636
        try rw [show (4 : Int32).toInt = 4 from (ti_c (v := 4) (a := 4) (by decide))] at f637
        have ve635 : VE h482.2.1 h635.2.1 := VE.of hv482 hv635
        have oh635 : OH h.2.1 h635.2.1 S := oh482.trans (OH.of hv482 hv635 S)
        have kp635 : KP h.2.1 h635.2.1 := kp482.trans (KP.ve ve635)
        have ck635 : CKF h.2.1 → CKF h635.2.1 := fun z => CKF.ve ve635 (ck482 z)
        have n73_635 : V h635.2.1 73 S = V h482.2.1 73 S := ve635.v (by omega) (by omega)
        have n74_635 : V h635.2.1 74 S = V h482.2.1 74 S := ve635.v (by omega) (by omega)
        have n75_635 : V h635.2.1 75 S = V h482.2.1 75 S := ve635.v (by omega) (by omega)
        obtain ⟨u638, u638w⟩ : ∃ v : Int32, v = h635.2.1 70 4 := ⟨_, rfl⟩
        have u638e : (h635.2.1 70 4).toInt = u638.toInt := by rw [u638w]
        have u638l : 0 ≤ u638.toInt := by rw [u638w]; exact (hv635.2.1 70 4).1
        have u638u : u638.toInt ≤ 500 := by rw [u638w]; exact (hv635.2.1 70 4).2
        obtain ⟨u639, u639w⟩ : ∃ v : Int32, v = h635.2.1 70 5 := ⟨_, rfl⟩
        have u639e : (h635.2.1 70 5).toInt = u639.toInt := by rw [u639w]
        have u639l : -2147483648 ≤ u639.toInt := by rw [u639w]; exact (hv635.2.1 70 5).1
        have u639u : u639.toInt ≤ 2147483647 := by rw [u639w]; exact (hv635.2.1 70 5).2
        have z640 : (0 : Int32).toInt = 0 := (ti_c (v := 0) (a := 0) (by decide))
        have g641 : (0 : Int) ≤ (h635.2.1 70 4).toInt := (hv635.2.1 70 4).1
        have g642 : (h635.2.1 70 4).toInt ≤ 500 := (hv635.2.1 70 4).2
        have g643 : (-2147483648 : Int) ≤ (h635.2.1 70 5).toInt := (hv635.2.1 70 5).1
        have g644 : (h635.2.1 70 5).toInt ≤ 2147483647 := (hv635.2.1 70 5).2
        have g645 : (h635.2.1 70 4).toInt = u638.toInt := by rw [← (show u638 = h635.2.1 70 4 from u638w)] <;> exact (ti_rfl u638)
        have g646 : (h635.2.1 70 5).toInt = u639.toInt := by rw [← (show u639 = h635.2.1 70 5 from u639w)] <;> exact (ti_rfl u639)
        exact go_lv rfl ((key 14) a2 a3 a4 v488 0 _ h635 hv635 (MW.rfl _) (by omega) (by omega) (by omega) (by omega) (by omega) (by omega) (by omega) (by omega) (by omega) (by omega) (ve482.trans ve635) (by omega) (by omega) (by omega) (by omega) (by omega) oh635 ck635 kp635 (by omega) (by omega) (by omega) (by omega) (by omega))
