theorem dL_law_0 : decode cL_law 0 = .ok (.new 7, 3) := by decide +kernel
theorem dL_law_3 : decode cL_law 3 = .ok (.dup, 1) := by decide +kernel
theorem dL_law_4 : decode cL_law 4 = .ok (.invokespecial 9, 3) := by decide +kernel
theorem dL_law_7 : decode cL_law 7 = .ok (.astore_n 1, 1) := by decide +kernel
theorem dL_law_8 : decode cL_law 8 = .ok (.new 10, 3) := by decide +kernel
theorem dL_law_11 : decode cL_law 11 = .ok (.dup, 1) := by decide +kernel
theorem dL_law_12 : decode cL_law 12 = .ok (.invokespecial 12, 3) := by decide +kernel
theorem dL_law_15 : decode cL_law 15 = .ok (.astore_n 2, 1) := by decide +kernel
theorem dL_law_16 : decode cL_law 16 = .ok (.iconst 0, 1) := by decide +kernel
theorem dL_law_17 : decode cL_law 17 = .ok (.istore_n 3, 1) := by decide +kernel
theorem dL_law_18 : decode cL_law 18 = .ok (.iload_n 3, 1) := by decide +kernel
theorem dL_law_19 : decode cL_law 19 = .ok (.aload_n 0, 1) := by decide +kernel
theorem dL_law_20 : decode cL_law 20 = .ok (.arraylength, 1) := by decide +kernel
theorem dL_law_21 : decode cL_law 21 = .ok (.bipush 6, 2) := by decide +kernel
theorem dL_law_23 : decode cL_law 23 = .ok (.isub, 1) := by decide +kernel
theorem dL_law_24 : decode cL_law 24 = .ok (.if_icmp .gt 636, 3) := by decide +kernel
theorem dL_law_27 : decode cL_law 27 = .ok (.aload_n 0, 1) := by decide +kernel
theorem dL_law_28 : decode cL_law 28 = .ok (.iload_n 3, 1) := by decide +kernel
theorem dL_law_29 : decode cL_law 29 = .ok (.iaload, 1) := by decide +kernel
theorem dL_law_30 : decode cL_law 30 = .ok (.bipush 31, 2) := by decide +kernel
theorem dL_law_32 : decode cL_law 32 = .ok (.iand, 1) := by decide +kernel
theorem dL_law_33 : decode cL_law 33 = .ok (.tableswitch 621 0 17 #[87, 150, 173, 186, 199, 222, 255, 288, 311, 354, 377, 400, 433, 466, 489, 522, 565, 588], 87) := by decide +kernel
theorem dL_law_120 : decode cL_law 120 = .ok (.aload_n 1, 1) := by decide +kernel
theorem dL_law_121 : decode cL_law 121 = .ok (.aload_n 0, 1) := by decide +kernel
theorem dL_law_122 : decode cL_law 122 = .ok (.iload_n 3, 1) := by decide +kernel
theorem dL_law_123 : decode cL_law 123 = .ok (.iconst 1, 1) := by decide +kernel
theorem dL_law_124 : decode cL_law 124 = .ok (.iadd, 1) := by decide +kernel
theorem dL_law_125 : decode cL_law 125 = .ok (.iaload, 1) := by decide +kernel
theorem dL_law_126 : decode cL_law 126 = .ok (.aload_n 0, 1) := by decide +kernel
theorem dL_law_127 : decode cL_law 127 = .ok (.iload_n 3, 1) := by decide +kernel
theorem dL_law_128 : decode cL_law 128 = .ok (.iconst 2, 1) := by decide +kernel
theorem dL_law_129 : decode cL_law 129 = .ok (.iadd, 1) := by decide +kernel
theorem dL_law_130 : decode cL_law 130 = .ok (.iaload, 1) := by decide +kernel
theorem dL_law_131 : decode cL_law 131 = .ok (.aload_n 0, 1) := by decide +kernel
theorem dL_law_132 : decode cL_law 132 = .ok (.iload_n 3, 1) := by decide +kernel
theorem dL_law_133 : decode cL_law 133 = .ok (.iconst 3, 1) := by decide +kernel
theorem dL_law_134 : decode cL_law 134 = .ok (.iadd, 1) := by decide +kernel
theorem dL_law_135 : decode cL_law 135 = .ok (.iaload, 1) := by decide +kernel
theorem dL_law_136 : decode cL_law 136 = .ok (.aload_n 0, 1) := by decide +kernel
theorem dL_law_137 : decode cL_law 137 = .ok (.iload_n 3, 1) := by decide +kernel
theorem dL_law_138 : decode cL_law 138 = .ok (.iconst 4, 1) := by decide +kernel
theorem dL_law_139 : decode cL_law 139 = .ok (.iadd, 1) := by decide +kernel
theorem dL_law_140 : decode cL_law 140 = .ok (.iaload, 1) := by decide +kernel
theorem dL_law_141 : decode cL_law 141 = .ok (.aload_n 0, 1) := by decide +kernel
theorem dL_law_142 : decode cL_law 142 = .ok (.iload_n 3, 1) := by decide +kernel
theorem dL_law_143 : decode cL_law 143 = .ok (.iconst 5, 1) := by decide +kernel
theorem dL_law_144 : decode cL_law 144 = .ok (.iadd, 1) := by decide +kernel
theorem dL_law_145 : decode cL_law 145 = .ok (.iaload, 1) := by decide +kernel
theorem dL_law_146 : decode cL_law 146 = .ok (.invokevirtual 13, 3) := by decide +kernel
theorem dL_law_149 : decode cL_law 149 = .ok (.pop, 1) := by decide +kernel
theorem dL_law_150 : decode cL_law 150 = .ok (.aload_n 2, 1) := by decide +kernel
theorem dL_law_151 : decode cL_law 151 = .ok (.aload_n 0, 1) := by decide +kernel
theorem dL_law_152 : decode cL_law 152 = .ok (.iload_n 3, 1) := by decide +kernel
theorem dL_law_153 : decode cL_law 153 = .ok (.iconst 1, 1) := by decide +kernel
theorem dL_law_154 : decode cL_law 154 = .ok (.iadd, 1) := by decide +kernel
theorem dL_law_155 : decode cL_law 155 = .ok (.iaload, 1) := by decide +kernel
theorem dL_law_156 : decode cL_law 156 = .ok (.aload_n 0, 1) := by decide +kernel
theorem dL_law_157 : decode cL_law 157 = .ok (.iload_n 3, 1) := by decide +kernel
theorem dL_law_158 : decode cL_law 158 = .ok (.iconst 2, 1) := by decide +kernel
theorem dL_law_159 : decode cL_law 159 = .ok (.iadd, 1) := by decide +kernel
theorem dL_law_160 : decode cL_law 160 = .ok (.iaload, 1) := by decide +kernel
theorem dL_law_161 : decode cL_law 161 = .ok (.aload_n 0, 1) := by decide +kernel
theorem dL_law_162 : decode cL_law 162 = .ok (.iload_n 3, 1) := by decide +kernel
theorem dL_law_163 : decode cL_law 163 = .ok (.iconst 3, 1) := by decide +kernel
theorem dL_law_164 : decode cL_law 164 = .ok (.iadd, 1) := by decide +kernel
theorem dL_law_165 : decode cL_law 165 = .ok (.iaload, 1) := by decide +kernel
theorem dL_law_166 : decode cL_law 166 = .ok (.aload_n 0, 1) := by decide +kernel
theorem dL_law_167 : decode cL_law 167 = .ok (.iload_n 3, 1) := by decide +kernel
theorem dL_law_168 : decode cL_law 168 = .ok (.iconst 4, 1) := by decide +kernel
theorem dL_law_169 : decode cL_law 169 = .ok (.iadd, 1) := by decide +kernel
theorem dL_law_170 : decode cL_law 170 = .ok (.iaload, 1) := by decide +kernel
theorem dL_law_171 : decode cL_law 171 = .ok (.aload_n 0, 1) := by decide +kernel
theorem dL_law_172 : decode cL_law 172 = .ok (.iload_n 3, 1) := by decide +kernel
theorem dL_law_173 : decode cL_law 173 = .ok (.iconst 5, 1) := by decide +kernel
theorem dL_law_174 : decode cL_law 174 = .ok (.iadd, 1) := by decide +kernel
theorem dL_law_175 : decode cL_law 175 = .ok (.iaload, 1) := by decide +kernel
theorem dL_law_176 : decode cL_law 176 = .ok (.invokevirtual 17, 3) := by decide +kernel
theorem dL_law_179 : decode cL_law 179 = .ok (.pop, 1) := by decide +kernel
theorem dL_law_180 : decode cL_law 180 = .ok (.goto 474, 3) := by decide +kernel
theorem dL_law_183 : decode cL_law 183 = .ok (.aload_n 1, 1) := by decide +kernel
theorem dL_law_184 : decode cL_law 184 = .ok (.aload_n 0, 1) := by decide +kernel
theorem dL_law_185 : decode cL_law 185 = .ok (.iload_n 3, 1) := by decide +kernel
theorem dL_law_186 : decode cL_law 186 = .ok (.iconst 1, 1) := by decide +kernel
theorem dL_law_187 : decode cL_law 187 = .ok (.iadd, 1) := by decide +kernel
theorem dL_law_188 : decode cL_law 188 = .ok (.iaload, 1) := by decide +kernel
theorem dL_law_189 : decode cL_law 189 = .ok (.invokevirtual 18, 3) := by decide +kernel
theorem dL_law_192 : decode cL_law 192 = .ok (.pop, 1) := by decide +kernel
theorem dL_law_193 : decode cL_law 193 = .ok (.aload_n 2, 1) := by decide +kernel
theorem dL_law_194 : decode cL_law 194 = .ok (.aload_n 0, 1) := by decide +kernel
theorem dL_law_195 : decode cL_law 195 = .ok (.iload_n 3, 1) := by decide +kernel
theorem dL_law_196 : decode cL_law 196 = .ok (.iconst 1, 1) := by decide +kernel
theorem dL_law_197 : decode cL_law 197 = .ok (.iadd, 1) := by decide +kernel
theorem dL_law_198 : decode cL_law 198 = .ok (.iaload, 1) := by decide +kernel
theorem dL_law_199 : decode cL_law 199 = .ok (.invokevirtual 22, 3) := by decide +kernel
theorem dL_law_202 : decode cL_law 202 = .ok (.pop, 1) := by decide +kernel
theorem dL_law_203 : decode cL_law 203 = .ok (.goto 451, 3) := by decide +kernel
theorem dL_law_206 : decode cL_law 206 = .ok (.aload_n 1, 1) := by decide +kernel
theorem dL_law_207 : decode cL_law 207 = .ok (.invokevirtual 23, 3) := by decide +kernel
theorem dL_law_210 : decode cL_law 210 = .ok (.pop, 1) := by decide +kernel
theorem dL_law_211 : decode cL_law 211 = .ok (.aload_n 2, 1) := by decide +kernel
theorem dL_law_212 : decode cL_law 212 = .ok (.invokevirtual 27, 3) := by decide +kernel
theorem dL_law_215 : decode cL_law 215 = .ok (.pop, 1) := by decide +kernel
theorem dL_law_216 : decode cL_law 216 = .ok (.goto 438, 3) := by decide +kernel
theorem dL_law_219 : decode cL_law 219 = .ok (.aload_n 1, 1) := by decide +kernel
theorem dL_law_220 : decode cL_law 220 = .ok (.invokevirtual 28, 3) := by decide +kernel
theorem dL_law_223 : decode cL_law 223 = .ok (.pop, 1) := by decide +kernel
theorem dL_law_224 : decode cL_law 224 = .ok (.aload_n 2, 1) := by decide +kernel
theorem dL_law_225 : decode cL_law 225 = .ok (.invokevirtual 31, 3) := by decide +kernel
theorem dL_law_228 : decode cL_law 228 = .ok (.pop, 1) := by decide +kernel
theorem dL_law_229 : decode cL_law 229 = .ok (.goto 425, 3) := by decide +kernel
theorem dL_law_232 : decode cL_law 232 = .ok (.aload_n 1, 1) := by decide +kernel
theorem dL_law_233 : decode cL_law 233 = .ok (.aload_n 0, 1) := by decide +kernel
theorem dL_law_234 : decode cL_law 234 = .ok (.iload_n 3, 1) := by decide +kernel
theorem dL_law_235 : decode cL_law 235 = .ok (.iconst 1, 1) := by decide +kernel
theorem dL_law_236 : decode cL_law 236 = .ok (.iadd, 1) := by decide +kernel
theorem dL_law_237 : decode cL_law 237 = .ok (.iaload, 1) := by decide +kernel
theorem dL_law_238 : decode cL_law 238 = .ok (.invokevirtual 32, 3) := by decide +kernel
theorem dL_law_241 : decode cL_law 241 = .ok (.pop, 1) := by decide +kernel
theorem dL_law_242 : decode cL_law 242 = .ok (.aload_n 2, 1) := by decide +kernel
theorem dL_law_243 : decode cL_law 243 = .ok (.aload_n 0, 1) := by decide +kernel
theorem dL_law_244 : decode cL_law 244 = .ok (.iload_n 3, 1) := by decide +kernel
theorem dL_law_245 : decode cL_law 245 = .ok (.iconst 1, 1) := by decide +kernel
theorem dL_law_246 : decode cL_law 246 = .ok (.iadd, 1) := by decide +kernel
theorem dL_law_247 : decode cL_law 247 = .ok (.iaload, 1) := by decide +kernel
theorem dL_law_248 : decode cL_law 248 = .ok (.invokevirtual 36, 3) := by decide +kernel
theorem dL_law_251 : decode cL_law 251 = .ok (.pop, 1) := by decide +kernel
theorem dL_law_252 : decode cL_law 252 = .ok (.goto 402, 3) := by decide +kernel
theorem dL_law_255 : decode cL_law 255 = .ok (.aload_n 1, 1) := by decide +kernel
theorem dL_law_256 : decode cL_law 256 = .ok (.aload_n 0, 1) := by decide +kernel
theorem dL_law_257 : decode cL_law 257 = .ok (.iload_n 3, 1) := by decide +kernel
theorem dL_law_258 : decode cL_law 258 = .ok (.iconst 1, 1) := by decide +kernel
theorem dL_law_259 : decode cL_law 259 = .ok (.iadd, 1) := by decide +kernel
theorem dL_law_260 : decode cL_law 260 = .ok (.iaload, 1) := by decide +kernel
theorem dL_law_261 : decode cL_law 261 = .ok (.aload_n 0, 1) := by decide +kernel
theorem dL_law_262 : decode cL_law 262 = .ok (.iload_n 3, 1) := by decide +kernel
theorem dL_law_263 : decode cL_law 263 = .ok (.iconst 2, 1) := by decide +kernel
theorem dL_law_264 : decode cL_law 264 = .ok (.iadd, 1) := by decide +kernel
theorem dL_law_265 : decode cL_law 265 = .ok (.iaload, 1) := by decide +kernel
theorem dL_law_266 : decode cL_law 266 = .ok (.invokevirtual 37, 3) := by decide +kernel
theorem dL_law_269 : decode cL_law 269 = .ok (.pop, 1) := by decide +kernel
theorem dL_law_270 : decode cL_law 270 = .ok (.aload_n 2, 1) := by decide +kernel
theorem dL_law_271 : decode cL_law 271 = .ok (.aload_n 0, 1) := by decide +kernel
theorem dL_law_272 : decode cL_law 272 = .ok (.iload_n 3, 1) := by decide +kernel
theorem dL_law_273 : decode cL_law 273 = .ok (.iconst 1, 1) := by decide +kernel
theorem dL_law_274 : decode cL_law 274 = .ok (.iadd, 1) := by decide +kernel
theorem dL_law_275 : decode cL_law 275 = .ok (.iaload, 1) := by decide +kernel
theorem dL_law_276 : decode cL_law 276 = .ok (.aload_n 0, 1) := by decide +kernel
theorem dL_law_277 : decode cL_law 277 = .ok (.iload_n 3, 1) := by decide +kernel
theorem dL_law_278 : decode cL_law 278 = .ok (.iconst 2, 1) := by decide +kernel
theorem dL_law_279 : decode cL_law 279 = .ok (.iadd, 1) := by decide +kernel
theorem dL_law_280 : decode cL_law 280 = .ok (.iaload, 1) := by decide +kernel
theorem dL_law_281 : decode cL_law 281 = .ok (.invokevirtual 41, 3) := by decide +kernel
theorem dL_law_284 : decode cL_law 284 = .ok (.pop, 1) := by decide +kernel
theorem dL_law_285 : decode cL_law 285 = .ok (.goto 369, 3) := by decide +kernel
theorem dL_law_288 : decode cL_law 288 = .ok (.aload_n 1, 1) := by decide +kernel
theorem dL_law_289 : decode cL_law 289 = .ok (.aload_n 0, 1) := by decide +kernel
theorem dL_law_290 : decode cL_law 290 = .ok (.iload_n 3, 1) := by decide +kernel
theorem dL_law_291 : decode cL_law 291 = .ok (.iconst 1, 1) := by decide +kernel
theorem dL_law_292 : decode cL_law 292 = .ok (.iadd, 1) := by decide +kernel
theorem dL_law_293 : decode cL_law 293 = .ok (.iaload, 1) := by decide +kernel
theorem dL_law_294 : decode cL_law 294 = .ok (.aload_n 0, 1) := by decide +kernel
theorem dL_law_295 : decode cL_law 295 = .ok (.iload_n 3, 1) := by decide +kernel
theorem dL_law_296 : decode cL_law 296 = .ok (.iconst 2, 1) := by decide +kernel
theorem dL_law_297 : decode cL_law 297 = .ok (.iadd, 1) := by decide +kernel
theorem dL_law_298 : decode cL_law 298 = .ok (.iaload, 1) := by decide +kernel
theorem dL_law_299 : decode cL_law 299 = .ok (.invokevirtual 42, 3) := by decide +kernel
theorem dL_law_302 : decode cL_law 302 = .ok (.pop, 1) := by decide +kernel
theorem dL_law_303 : decode cL_law 303 = .ok (.aload_n 2, 1) := by decide +kernel
theorem dL_law_304 : decode cL_law 304 = .ok (.aload_n 0, 1) := by decide +kernel
theorem dL_law_305 : decode cL_law 305 = .ok (.iload_n 3, 1) := by decide +kernel
theorem dL_law_306 : decode cL_law 306 = .ok (.iconst 1, 1) := by decide +kernel
theorem dL_law_307 : decode cL_law 307 = .ok (.iadd, 1) := by decide +kernel
theorem dL_law_308 : decode cL_law 308 = .ok (.iaload, 1) := by decide +kernel
theorem dL_law_309 : decode cL_law 309 = .ok (.aload_n 0, 1) := by decide +kernel
theorem dL_law_310 : decode cL_law 310 = .ok (.iload_n 3, 1) := by decide +kernel
theorem dL_law_311 : decode cL_law 311 = .ok (.iconst 2, 1) := by decide +kernel
theorem dL_law_312 : decode cL_law 312 = .ok (.iadd, 1) := by decide +kernel
theorem dL_law_313 : decode cL_law 313 = .ok (.iaload, 1) := by decide +kernel
theorem dL_law_314 : decode cL_law 314 = .ok (.invokevirtual 45, 3) := by decide +kernel
theorem dL_law_317 : decode cL_law 317 = .ok (.pop, 1) := by decide +kernel
theorem dL_law_318 : decode cL_law 318 = .ok (.goto 336, 3) := by decide +kernel
theorem dL_law_321 : decode cL_law 321 = .ok (.aload_n 1, 1) := by decide +kernel
theorem dL_law_322 : decode cL_law 322 = .ok (.aload_n 0, 1) := by decide +kernel
theorem dL_law_323 : decode cL_law 323 = .ok (.iload_n 3, 1) := by decide +kernel
theorem dL_law_324 : decode cL_law 324 = .ok (.iconst 1, 1) := by decide +kernel
theorem dL_law_325 : decode cL_law 325 = .ok (.iadd, 1) := by decide +kernel
theorem dL_law_326 : decode cL_law 326 = .ok (.iaload, 1) := by decide +kernel
theorem dL_law_327 : decode cL_law 327 = .ok (.invokevirtual 46, 3) := by decide +kernel
theorem dL_law_330 : decode cL_law 330 = .ok (.pop2, 1) := by decide +kernel
theorem dL_law_331 : decode cL_law 331 = .ok (.aload_n 2, 1) := by decide +kernel
theorem dL_law_332 : decode cL_law 332 = .ok (.aload_n 0, 1) := by decide +kernel
theorem dL_law_333 : decode cL_law 333 = .ok (.iload_n 3, 1) := by decide +kernel
theorem dL_law_334 : decode cL_law 334 = .ok (.iconst 1, 1) := by decide +kernel
theorem dL_law_335 : decode cL_law 335 = .ok (.iadd, 1) := by decide +kernel
theorem dL_law_336 : decode cL_law 336 = .ok (.iaload, 1) := by decide +kernel
theorem dL_law_337 : decode cL_law 337 = .ok (.invokevirtual 50, 3) := by decide +kernel
theorem dL_law_340 : decode cL_law 340 = .ok (.pop2, 1) := by decide +kernel
theorem dL_law_341 : decode cL_law 341 = .ok (.goto 313, 3) := by decide +kernel
theorem dL_law_344 : decode cL_law 344 = .ok (.aload_n 1, 1) := by decide +kernel
theorem dL_law_345 : decode cL_law 345 = .ok (.aload_n 0, 1) := by decide +kernel
theorem dL_law_346 : decode cL_law 346 = .ok (.iload_n 3, 1) := by decide +kernel
theorem dL_law_347 : decode cL_law 347 = .ok (.iconst 1, 1) := by decide +kernel
theorem dL_law_348 : decode cL_law 348 = .ok (.iadd, 1) := by decide +kernel
theorem dL_law_349 : decode cL_law 349 = .ok (.iaload, 1) := by decide +kernel
theorem dL_law_350 : decode cL_law 350 = .ok (.aload_n 0, 1) := by decide +kernel
theorem dL_law_351 : decode cL_law 351 = .ok (.iload_n 3, 1) := by decide +kernel
theorem dL_law_352 : decode cL_law 352 = .ok (.iconst 2, 1) := by decide +kernel
theorem dL_law_353 : decode cL_law 353 = .ok (.iadd, 1) := by decide +kernel
theorem dL_law_354 : decode cL_law 354 = .ok (.iaload, 1) := by decide +kernel
theorem dL_law_355 : decode cL_law 355 = .ok (.aload_n 0, 1) := by decide +kernel
theorem dL_law_356 : decode cL_law 356 = .ok (.iload_n 3, 1) := by decide +kernel
theorem dL_law_357 : decode cL_law 357 = .ok (.iconst 3, 1) := by decide +kernel
theorem dL_law_358 : decode cL_law 358 = .ok (.iadd, 1) := by decide +kernel
theorem dL_law_359 : decode cL_law 359 = .ok (.iaload, 1) := by decide +kernel
theorem dL_law_360 : decode cL_law 360 = .ok (.invokevirtual 51, 3) := by decide +kernel
theorem dL_law_363 : decode cL_law 363 = .ok (.pop, 1) := by decide +kernel
theorem dL_law_364 : decode cL_law 364 = .ok (.aload_n 2, 1) := by decide +kernel
theorem dL_law_365 : decode cL_law 365 = .ok (.aload_n 0, 1) := by decide +kernel
theorem dL_law_366 : decode cL_law 366 = .ok (.iload_n 3, 1) := by decide +kernel
theorem dL_law_367 : decode cL_law 367 = .ok (.iconst 1, 1) := by decide +kernel
theorem dL_law_368 : decode cL_law 368 = .ok (.iadd, 1) := by decide +kernel
theorem dL_law_369 : decode cL_law 369 = .ok (.iaload, 1) := by decide +kernel
theorem dL_law_370 : decode cL_law 370 = .ok (.aload_n 0, 1) := by decide +kernel
theorem dL_law_371 : decode cL_law 371 = .ok (.iload_n 3, 1) := by decide +kernel
theorem dL_law_372 : decode cL_law 372 = .ok (.iconst 2, 1) := by decide +kernel
theorem dL_law_373 : decode cL_law 373 = .ok (.iadd, 1) := by decide +kernel
theorem dL_law_374 : decode cL_law 374 = .ok (.iaload, 1) := by decide +kernel
theorem dL_law_375 : decode cL_law 375 = .ok (.aload_n 0, 1) := by decide +kernel
theorem dL_law_376 : decode cL_law 376 = .ok (.iload_n 3, 1) := by decide +kernel
theorem dL_law_377 : decode cL_law 377 = .ok (.iconst 3, 1) := by decide +kernel
theorem dL_law_378 : decode cL_law 378 = .ok (.iadd, 1) := by decide +kernel
theorem dL_law_379 : decode cL_law 379 = .ok (.iaload, 1) := by decide +kernel
theorem dL_law_380 : decode cL_law 380 = .ok (.invokevirtual 55, 3) := by decide +kernel
theorem dL_law_383 : decode cL_law 383 = .ok (.pop, 1) := by decide +kernel
theorem dL_law_384 : decode cL_law 384 = .ok (.goto 270, 3) := by decide +kernel
theorem dL_law_387 : decode cL_law 387 = .ok (.aload_n 1, 1) := by decide +kernel
theorem dL_law_388 : decode cL_law 388 = .ok (.aload_n 0, 1) := by decide +kernel
theorem dL_law_389 : decode cL_law 389 = .ok (.iload_n 3, 1) := by decide +kernel
theorem dL_law_390 : decode cL_law 390 = .ok (.iconst 1, 1) := by decide +kernel
theorem dL_law_391 : decode cL_law 391 = .ok (.iadd, 1) := by decide +kernel
theorem dL_law_392 : decode cL_law 392 = .ok (.iaload, 1) := by decide +kernel
theorem dL_law_393 : decode cL_law 393 = .ok (.invokevirtual 56, 3) := by decide +kernel
theorem dL_law_396 : decode cL_law 396 = .ok (.pop2, 1) := by decide +kernel
theorem dL_law_397 : decode cL_law 397 = .ok (.aload_n 2, 1) := by decide +kernel
theorem dL_law_398 : decode cL_law 398 = .ok (.aload_n 0, 1) := by decide +kernel
theorem dL_law_399 : decode cL_law 399 = .ok (.iload_n 3, 1) := by decide +kernel
theorem dL_law_400 : decode cL_law 400 = .ok (.iconst 1, 1) := by decide +kernel
theorem dL_law_401 : decode cL_law 401 = .ok (.iadd, 1) := by decide +kernel
theorem dL_law_402 : decode cL_law 402 = .ok (.iaload, 1) := by decide +kernel
theorem dL_law_403 : decode cL_law 403 = .ok (.invokevirtual 59, 3) := by decide +kernel
theorem dL_law_406 : decode cL_law 406 = .ok (.pop2, 1) := by decide +kernel
theorem dL_law_407 : decode cL_law 407 = .ok (.goto 247, 3) := by decide +kernel
theorem dL_law_410 : decode cL_law 410 = .ok (.aload_n 1, 1) := by decide +kernel
theorem dL_law_411 : decode cL_law 411 = .ok (.aload_n 0, 1) := by decide +kernel
theorem dL_law_412 : decode cL_law 412 = .ok (.iload_n 3, 1) := by decide +kernel
theorem dL_law_413 : decode cL_law 413 = .ok (.iconst 1, 1) := by decide +kernel
theorem dL_law_414 : decode cL_law 414 = .ok (.iadd, 1) := by decide +kernel
theorem dL_law_415 : decode cL_law 415 = .ok (.iaload, 1) := by decide +kernel
theorem dL_law_416 : decode cL_law 416 = .ok (.invokevirtual 60, 3) := by decide +kernel
theorem dL_law_419 : decode cL_law 419 = .ok (.pop2, 1) := by decide +kernel
theorem dL_law_420 : decode cL_law 420 = .ok (.aload_n 2, 1) := by decide +kernel
theorem dL_law_421 : decode cL_law 421 = .ok (.aload_n 0, 1) := by decide +kernel
theorem dL_law_422 : decode cL_law 422 = .ok (.iload_n 3, 1) := by decide +kernel
theorem dL_law_423 : decode cL_law 423 = .ok (.iconst 1, 1) := by decide +kernel
theorem dL_law_424 : decode cL_law 424 = .ok (.iadd, 1) := by decide +kernel
theorem dL_law_425 : decode cL_law 425 = .ok (.iaload, 1) := by decide +kernel
theorem dL_law_426 : decode cL_law 426 = .ok (.invokevirtual 63, 3) := by decide +kernel
theorem dL_law_429 : decode cL_law 429 = .ok (.pop2, 1) := by decide +kernel
theorem dL_law_430 : decode cL_law 430 = .ok (.goto 224, 3) := by decide +kernel
theorem dL_law_433 : decode cL_law 433 = .ok (.aload_n 1, 1) := by decide +kernel
theorem dL_law_434 : decode cL_law 434 = .ok (.aload_n 0, 1) := by decide +kernel
theorem dL_law_435 : decode cL_law 435 = .ok (.iload_n 3, 1) := by decide +kernel
theorem dL_law_436 : decode cL_law 436 = .ok (.iconst 1, 1) := by decide +kernel
theorem dL_law_437 : decode cL_law 437 = .ok (.iadd, 1) := by decide +kernel
theorem dL_law_438 : decode cL_law 438 = .ok (.iaload, 1) := by decide +kernel
theorem dL_law_439 : decode cL_law 439 = .ok (.aload_n 0, 1) := by decide +kernel
theorem dL_law_440 : decode cL_law 440 = .ok (.iload_n 3, 1) := by decide +kernel
theorem dL_law_441 : decode cL_law 441 = .ok (.iconst 2, 1) := by decide +kernel
theorem dL_law_442 : decode cL_law 442 = .ok (.iadd, 1) := by decide +kernel
theorem dL_law_443 : decode cL_law 443 = .ok (.iaload, 1) := by decide +kernel
theorem dL_law_444 : decode cL_law 444 = .ok (.invokevirtual 64, 3) := by decide +kernel
theorem dL_law_447 : decode cL_law 447 = .ok (.pop2, 1) := by decide +kernel
theorem dL_law_448 : decode cL_law 448 = .ok (.aload_n 2, 1) := by decide +kernel
theorem dL_law_449 : decode cL_law 449 = .ok (.aload_n 0, 1) := by decide +kernel
theorem dL_law_450 : decode cL_law 450 = .ok (.iload_n 3, 1) := by decide +kernel
theorem dL_law_451 : decode cL_law 451 = .ok (.iconst 1, 1) := by decide +kernel
theorem dL_law_452 : decode cL_law 452 = .ok (.iadd, 1) := by decide +kernel
theorem dL_law_453 : decode cL_law 453 = .ok (.iaload, 1) := by decide +kernel
theorem dL_law_454 : decode cL_law 454 = .ok (.aload_n 0, 1) := by decide +kernel
theorem dL_law_455 : decode cL_law 455 = .ok (.iload_n 3, 1) := by decide +kernel
theorem dL_law_456 : decode cL_law 456 = .ok (.iconst 2, 1) := by decide +kernel
theorem dL_law_457 : decode cL_law 457 = .ok (.iadd, 1) := by decide +kernel
theorem dL_law_458 : decode cL_law 458 = .ok (.iaload, 1) := by decide +kernel
theorem dL_law_459 : decode cL_law 459 = .ok (.invokevirtual 68, 3) := by decide +kernel
theorem dL_law_462 : decode cL_law 462 = .ok (.pop2, 1) := by decide +kernel
theorem dL_law_463 : decode cL_law 463 = .ok (.goto 191, 3) := by decide +kernel
theorem dL_law_466 : decode cL_law 466 = .ok (.aload_n 1, 1) := by decide +kernel
theorem dL_law_467 : decode cL_law 467 = .ok (.aload_n 0, 1) := by decide +kernel
theorem dL_law_468 : decode cL_law 468 = .ok (.iload_n 3, 1) := by decide +kernel
theorem dL_law_469 : decode cL_law 469 = .ok (.iconst 1, 1) := by decide +kernel
theorem dL_law_470 : decode cL_law 470 = .ok (.iadd, 1) := by decide +kernel
theorem dL_law_471 : decode cL_law 471 = .ok (.iaload, 1) := by decide +kernel
theorem dL_law_472 : decode cL_law 472 = .ok (.aload_n 0, 1) := by decide +kernel
theorem dL_law_473 : decode cL_law 473 = .ok (.iload_n 3, 1) := by decide +kernel
theorem dL_law_474 : decode cL_law 474 = .ok (.iconst 2, 1) := by decide +kernel
theorem dL_law_475 : decode cL_law 475 = .ok (.iadd, 1) := by decide +kernel
theorem dL_law_476 : decode cL_law 476 = .ok (.iaload, 1) := by decide +kernel
theorem dL_law_477 : decode cL_law 477 = .ok (.invokevirtual 69, 3) := by decide +kernel
theorem dL_law_480 : decode cL_law 480 = .ok (.pop2, 1) := by decide +kernel
theorem dL_law_481 : decode cL_law 481 = .ok (.aload_n 2, 1) := by decide +kernel
theorem dL_law_482 : decode cL_law 482 = .ok (.aload_n 0, 1) := by decide +kernel
theorem dL_law_483 : decode cL_law 483 = .ok (.iload_n 3, 1) := by decide +kernel
theorem dL_law_484 : decode cL_law 484 = .ok (.iconst 1, 1) := by decide +kernel
theorem dL_law_485 : decode cL_law 485 = .ok (.iadd, 1) := by decide +kernel
theorem dL_law_486 : decode cL_law 486 = .ok (.iaload, 1) := by decide +kernel
theorem dL_law_487 : decode cL_law 487 = .ok (.aload_n 0, 1) := by decide +kernel
theorem dL_law_488 : decode cL_law 488 = .ok (.iload_n 3, 1) := by decide +kernel
theorem dL_law_489 : decode cL_law 489 = .ok (.iconst 2, 1) := by decide +kernel
theorem dL_law_490 : decode cL_law 490 = .ok (.iadd, 1) := by decide +kernel
theorem dL_law_491 : decode cL_law 491 = .ok (.iaload, 1) := by decide +kernel
theorem dL_law_492 : decode cL_law 492 = .ok (.invokevirtual 72, 3) := by decide +kernel
theorem dL_law_495 : decode cL_law 495 = .ok (.pop2, 1) := by decide +kernel
theorem dL_law_496 : decode cL_law 496 = .ok (.goto 158, 3) := by decide +kernel
theorem dL_law_499 : decode cL_law 499 = .ok (.aload_n 1, 1) := by decide +kernel
theorem dL_law_500 : decode cL_law 500 = .ok (.aload_n 0, 1) := by decide +kernel
theorem dL_law_501 : decode cL_law 501 = .ok (.iload_n 3, 1) := by decide +kernel
theorem dL_law_502 : decode cL_law 502 = .ok (.iconst 1, 1) := by decide +kernel
theorem dL_law_503 : decode cL_law 503 = .ok (.iadd, 1) := by decide +kernel
theorem dL_law_504 : decode cL_law 504 = .ok (.iaload, 1) := by decide +kernel
theorem dL_law_505 : decode cL_law 505 = .ok (.invokevirtual 73, 3) := by decide +kernel
theorem dL_law_508 : decode cL_law 508 = .ok (.pop2, 1) := by decide +kernel
theorem dL_law_509 : decode cL_law 509 = .ok (.aload_n 2, 1) := by decide +kernel
theorem dL_law_510 : decode cL_law 510 = .ok (.aload_n 0, 1) := by decide +kernel
theorem dL_law_511 : decode cL_law 511 = .ok (.iload_n 3, 1) := by decide +kernel
theorem dL_law_512 : decode cL_law 512 = .ok (.iconst 1, 1) := by decide +kernel
theorem dL_law_513 : decode cL_law 513 = .ok (.iadd, 1) := by decide +kernel
theorem dL_law_514 : decode cL_law 514 = .ok (.iaload, 1) := by decide +kernel
theorem dL_law_515 : decode cL_law 515 = .ok (.invokevirtual 76, 3) := by decide +kernel
theorem dL_law_518 : decode cL_law 518 = .ok (.pop2, 1) := by decide +kernel
theorem dL_law_519 : decode cL_law 519 = .ok (.goto 135, 3) := by decide +kernel
theorem dL_law_522 : decode cL_law 522 = .ok (.aload_n 1, 1) := by decide +kernel
theorem dL_law_523 : decode cL_law 523 = .ok (.aload_n 0, 1) := by decide +kernel
theorem dL_law_524 : decode cL_law 524 = .ok (.iload_n 3, 1) := by decide +kernel
theorem dL_law_525 : decode cL_law 525 = .ok (.iconst 1, 1) := by decide +kernel
theorem dL_law_526 : decode cL_law 526 = .ok (.iadd, 1) := by decide +kernel
theorem dL_law_527 : decode cL_law 527 = .ok (.iaload, 1) := by decide +kernel
theorem dL_law_528 : decode cL_law 528 = .ok (.aload_n 0, 1) := by decide +kernel
theorem dL_law_529 : decode cL_law 529 = .ok (.iload_n 3, 1) := by decide +kernel
theorem dL_law_530 : decode cL_law 530 = .ok (.iconst 2, 1) := by decide +kernel
theorem dL_law_531 : decode cL_law 531 = .ok (.iadd, 1) := by decide +kernel
theorem dL_law_532 : decode cL_law 532 = .ok (.iaload, 1) := by decide +kernel
theorem dL_law_533 : decode cL_law 533 = .ok (.invokevirtual 77, 3) := by decide +kernel
theorem dL_law_536 : decode cL_law 536 = .ok (.aload_n 2, 1) := by decide +kernel
theorem dL_law_537 : decode cL_law 537 = .ok (.aload_n 0, 1) := by decide +kernel
theorem dL_law_538 : decode cL_law 538 = .ok (.iload_n 3, 1) := by decide +kernel
theorem dL_law_539 : decode cL_law 539 = .ok (.iconst 1, 1) := by decide +kernel
theorem dL_law_540 : decode cL_law 540 = .ok (.iadd, 1) := by decide +kernel
theorem dL_law_541 : decode cL_law 541 = .ok (.iaload, 1) := by decide +kernel
theorem dL_law_542 : decode cL_law 542 = .ok (.aload_n 0, 1) := by decide +kernel
theorem dL_law_543 : decode cL_law 543 = .ok (.iload_n 3, 1) := by decide +kernel
theorem dL_law_544 : decode cL_law 544 = .ok (.iconst 2, 1) := by decide +kernel
theorem dL_law_545 : decode cL_law 545 = .ok (.iadd, 1) := by decide +kernel
theorem dL_law_546 : decode cL_law 546 = .ok (.iaload, 1) := by decide +kernel
theorem dL_law_547 : decode cL_law 547 = .ok (.invokevirtual 80, 3) := by decide +kernel
theorem dL_law_550 : decode cL_law 550 = .ok (.if_icmp .eq 104, 3) := by decide +kernel
theorem dL_law_555 : decode cL_law 555 = .ok (.aload_n 1, 1) := by decide +kernel
theorem dL_law_556 : decode cL_law 556 = .ok (.aload_n 0, 1) := by decide +kernel
theorem dL_law_557 : decode cL_law 557 = .ok (.iload_n 3, 1) := by decide +kernel
theorem dL_law_558 : decode cL_law 558 = .ok (.iconst 1, 1) := by decide +kernel
theorem dL_law_559 : decode cL_law 559 = .ok (.iadd, 1) := by decide +kernel
theorem dL_law_560 : decode cL_law 560 = .ok (.iaload, 1) := by decide +kernel
theorem dL_law_561 : decode cL_law 561 = .ok (.aload_n 0, 1) := by decide +kernel
theorem dL_law_562 : decode cL_law 562 = .ok (.iload_n 3, 1) := by decide +kernel
theorem dL_law_563 : decode cL_law 563 = .ok (.iconst 2, 1) := by decide +kernel
theorem dL_law_564 : decode cL_law 564 = .ok (.iadd, 1) := by decide +kernel
theorem dL_law_565 : decode cL_law 565 = .ok (.iaload, 1) := by decide +kernel
theorem dL_law_566 : decode cL_law 566 = .ok (.aload_n 0, 1) := by decide +kernel
theorem dL_law_567 : decode cL_law 567 = .ok (.iload_n 3, 1) := by decide +kernel
theorem dL_law_568 : decode cL_law 568 = .ok (.iconst 3, 1) := by decide +kernel
theorem dL_law_569 : decode cL_law 569 = .ok (.iadd, 1) := by decide +kernel
theorem dL_law_570 : decode cL_law 570 = .ok (.iaload, 1) := by decide +kernel
theorem dL_law_571 : decode cL_law 571 = .ok (.invokevirtual 81, 3) := by decide +kernel
theorem dL_law_574 : decode cL_law 574 = .ok (.pop, 1) := by decide +kernel
theorem dL_law_575 : decode cL_law 575 = .ok (.aload_n 2, 1) := by decide +kernel
theorem dL_law_576 : decode cL_law 576 = .ok (.aload_n 0, 1) := by decide +kernel
theorem dL_law_577 : decode cL_law 577 = .ok (.iload_n 3, 1) := by decide +kernel
theorem dL_law_578 : decode cL_law 578 = .ok (.iconst 1, 1) := by decide +kernel
theorem dL_law_579 : decode cL_law 579 = .ok (.iadd, 1) := by decide +kernel
theorem dL_law_580 : decode cL_law 580 = .ok (.iaload, 1) := by decide +kernel
theorem dL_law_581 : decode cL_law 581 = .ok (.aload_n 0, 1) := by decide +kernel
theorem dL_law_582 : decode cL_law 582 = .ok (.iload_n 3, 1) := by decide +kernel
theorem dL_law_583 : decode cL_law 583 = .ok (.iconst 2, 1) := by decide +kernel
theorem dL_law_584 : decode cL_law 584 = .ok (.iadd, 1) := by decide +kernel
theorem dL_law_585 : decode cL_law 585 = .ok (.iaload, 1) := by decide +kernel
theorem dL_law_586 : decode cL_law 586 = .ok (.aload_n 0, 1) := by decide +kernel
theorem dL_law_587 : decode cL_law 587 = .ok (.iload_n 3, 1) := by decide +kernel
theorem dL_law_588 : decode cL_law 588 = .ok (.iconst 3, 1) := by decide +kernel
theorem dL_law_589 : decode cL_law 589 = .ok (.iadd, 1) := by decide +kernel
theorem dL_law_590 : decode cL_law 590 = .ok (.iaload, 1) := by decide +kernel
theorem dL_law_591 : decode cL_law 591 = .ok (.invokevirtual 85, 3) := by decide +kernel
theorem dL_law_594 : decode cL_law 594 = .ok (.pop, 1) := by decide +kernel
theorem dL_law_595 : decode cL_law 595 = .ok (.goto 59, 3) := by decide +kernel
theorem dL_law_598 : decode cL_law 598 = .ok (.aload_n 1, 1) := by decide +kernel
theorem dL_law_599 : decode cL_law 599 = .ok (.aload_n 0, 1) := by decide +kernel
theorem dL_law_600 : decode cL_law 600 = .ok (.iload_n 3, 1) := by decide +kernel
theorem dL_law_601 : decode cL_law 601 = .ok (.iconst 1, 1) := by decide +kernel
theorem dL_law_602 : decode cL_law 602 = .ok (.iadd, 1) := by decide +kernel
theorem dL_law_603 : decode cL_law 603 = .ok (.iaload, 1) := by decide +kernel
theorem dL_law_604 : decode cL_law 604 = .ok (.invokevirtual 86, 3) := by decide +kernel
theorem dL_law_607 : decode cL_law 607 = .ok (.pop, 1) := by decide +kernel
theorem dL_law_608 : decode cL_law 608 = .ok (.aload_n 2, 1) := by decide +kernel
theorem dL_law_609 : decode cL_law 609 = .ok (.aload_n 0, 1) := by decide +kernel
theorem dL_law_610 : decode cL_law 610 = .ok (.iload_n 3, 1) := by decide +kernel
theorem dL_law_611 : decode cL_law 611 = .ok (.iconst 1, 1) := by decide +kernel
theorem dL_law_612 : decode cL_law 612 = .ok (.iadd, 1) := by decide +kernel
theorem dL_law_613 : decode cL_law 613 = .ok (.iaload, 1) := by decide +kernel
theorem dL_law_614 : decode cL_law 614 = .ok (.invokevirtual 89, 3) := by decide +kernel
theorem dL_law_617 : decode cL_law 617 = .ok (.pop, 1) := by decide +kernel
theorem dL_law_618 : decode cL_law 618 = .ok (.goto 36, 3) := by decide +kernel
theorem dL_law_621 : decode cL_law 621 = .ok (.aload_n 1, 1) := by decide +kernel
theorem dL_law_622 : decode cL_law 622 = .ok (.aload_n 0, 1) := by decide +kernel
theorem dL_law_623 : decode cL_law 623 = .ok (.iload_n 3, 1) := by decide +kernel
theorem dL_law_624 : decode cL_law 624 = .ok (.iconst 1, 1) := by decide +kernel
theorem dL_law_625 : decode cL_law 625 = .ok (.iadd, 1) := by decide +kernel
theorem dL_law_626 : decode cL_law 626 = .ok (.iaload, 1) := by decide +kernel
theorem dL_law_627 : decode cL_law 627 = .ok (.aload_n 0, 1) := by decide +kernel
theorem dL_law_628 : decode cL_law 628 = .ok (.iload_n 3, 1) := by decide +kernel
theorem dL_law_629 : decode cL_law 629 = .ok (.iconst 2, 1) := by decide +kernel
theorem dL_law_630 : decode cL_law 630 = .ok (.iadd, 1) := by decide +kernel
theorem dL_law_631 : decode cL_law 631 = .ok (.iaload, 1) := by decide +kernel
theorem dL_law_632 : decode cL_law 632 = .ok (.invokevirtual 90, 3) := by decide +kernel
theorem dL_law_635 : decode cL_law 635 = .ok (.pop, 1) := by decide +kernel
theorem dL_law_636 : decode cL_law 636 = .ok (.aload_n 2, 1) := by decide +kernel
theorem dL_law_637 : decode cL_law 637 = .ok (.aload_n 0, 1) := by decide +kernel
theorem dL_law_638 : decode cL_law 638 = .ok (.iload_n 3, 1) := by decide +kernel
theorem dL_law_639 : decode cL_law 639 = .ok (.iconst 1, 1) := by decide +kernel
theorem dL_law_640 : decode cL_law 640 = .ok (.iadd, 1) := by decide +kernel
theorem dL_law_641 : decode cL_law 641 = .ok (.iaload, 1) := by decide +kernel
theorem dL_law_642 : decode cL_law 642 = .ok (.aload_n 0, 1) := by decide +kernel
theorem dL_law_643 : decode cL_law 643 = .ok (.iload_n 3, 1) := by decide +kernel
theorem dL_law_644 : decode cL_law 644 = .ok (.iconst 2, 1) := by decide +kernel
theorem dL_law_645 : decode cL_law 645 = .ok (.iadd, 1) := by decide +kernel
theorem dL_law_646 : decode cL_law 646 = .ok (.iaload, 1) := by decide +kernel
theorem dL_law_647 : decode cL_law 647 = .ok (.invokevirtual 93, 3) := by decide +kernel
theorem dL_law_650 : decode cL_law 650 = .ok (.pop, 1) := by decide +kernel
theorem dL_law_651 : decode cL_law 651 = .ok (.goto 3, 3) := by decide +kernel
theorem dL_law_654 : decode cL_law 654 = .ok (.iinc 3 6, 3) := by decide +kernel
theorem dL_law_657 : decode cL_law 657 = .ok (.goto (-639), 3) := by decide +kernel
theorem dL_law_660 : decode cL_law 660 = .ok (.iconst 1, 1) := by decide +kernel
theorem dL_law_661 : decode cL_law 661 = .ok (.ireturn, 1) := by decide +kernel
theorem g_cl {h : HP} {n m c : Nat} (e : h.1.length = n) (q : n + m ≤ c) : h.1.length - 0 + m ≤ c := by omega
theorem go_pop2 {l : Launch} {own : String} {cc : ByteArray} {nL : Nat} {R : Room} {nm : String} {rt : Option FieldType} {n0 mc ms : Nat} {Xf : Nat → State → Prop} {Qf : Option Value → HP → Prop} {sl pc : Nat} {lv : List (Nat × Value)} {st : List Value} {h : HP} {v : Int64} (hd : decode cc pc = .ok (.pop2, 1)) (k : Go l own cc nL R nm rt n0 mc ms Xf Qf sl (pc + 1) lv st h) : Go l own cc nL R nm rt n0 mc ms Xf Qf sl pc lv (.long v :: st) h := by
  intro p e s m args below meth c D cy zb Q H locs ls C E hP hS hn hl
  exact lv_pop2_2 C.1 C.2.1 hd rfl (k p e s m args below meth c D cy zb Q H locs ls C E hP hS hn hl)
/-- ints of a new object: 0, but one -/
def ZP (h : HP) : Prop := ∀ c j, h.2.1 c j = 0 ∨ (c = 64 ∧ j = 6 ∧ h.2.1 c j = -1)
theorem ZP.N {h : HP} {k n : Nat} (H : ZP h) : ZP (hN h k n) := fun c j => by
  show (if c = h.1.length then 0 else h.2.1 c j) = 0 ∨ (c = 64 ∧ j = 6 ∧ (if c = h.1.length then 0 else h.2.1 c j) = -1)
  by_cases q : c = h.1.length
  · rw [if_pos q]; exact Or.inl rfl
  · rw [if_neg q]; exact H c j
theorem ZP.R {h : HP} {c j : Nat} {x : Value} (H : ZP h) : ZP (hR h c j x) := H
theorem ZP.L {h : HP} {c j : Nat} {x : Int64} (H : ZP h) : ZP (hL h c j x) := H
theorem ZP.I {h : HP} {c' j' : Nat} (H : ZP h) : ZP (hI h c' j' 0) := fun c j => by
  show (if c = c' ∧ j = j' then 0 else h.2.1 c j) = 0 ∨ (c = 64 ∧ j = 6 ∧ (if c = c' ∧ j = j' then 0 else h.2.1 c j) = -1)
  by_cases q : c = c' ∧ j = j'
  · rw [if_pos q]; exact Or.inl rfl
  · rw [if_neg q]; exact H c j
theorem ZP.J {h : HP} (H : ZP h) : ZP (hI h 64 6 (-1)) := fun c j => by
  show (if c = 64 ∧ j = 6 then -1 else h.2.1 c j) = 0 ∨ (c = 64 ∧ j = 6 ∧ (if c = 64 ∧ j = 6 then -1 else h.2.1 c j) = -1)
  by_cases q : c = 64 ∧ j = 6
  · rw [if_pos q]; exact Or.inr ⟨q.1, q.2, rfl⟩
  · rw [if_neg q]; exact H c j
theorem ZP.E : ZP hpE := fun _ _ => Or.inl rfl
theorem rg0 (c j : Nat) : (rg c j).1 ≤ 0 ∧ 0 ≤ (rg c j).2 := by
  unfold rg
  split <;> first | decide | (split <;> decide)
theorem zp_1 : ZP hz1 := (ZP.R (ZP.N (ZP.R (ZP.N (ZP.R (ZP.N (ZP.R (ZP.N (ZP.R (ZP.N (ZP.R (ZP.N (ZP.R (ZP.N (ZP.R (ZP.N (ZP.R (ZP.N (ZP.R (ZP.N (ZP.R (ZP.N (ZP.R (ZP.N (ZP.R (ZP.N (ZP.R (ZP.N (ZP.R (ZP.N (ZP.I (ZP.I (ZP.L (ZP.I (ZP.I (ZP.N (ZP.I (ZP.I (ZP.R (ZP.N (ZP.N ZP.E)))))))))))))))))))))))))))))))))))))))))
theorem zp_2 : ZP hz2 := (ZP.R (ZP.N (ZP.R (ZP.N (ZP.R (ZP.N (ZP.R (ZP.N (ZP.R (ZP.N (ZP.R (ZP.N (ZP.R (ZP.N (ZP.R (ZP.N (ZP.R (ZP.N (ZP.R (ZP.N (ZP.R (ZP.N (ZP.R (ZP.N (ZP.R (ZP.N (ZP.R (ZP.N (ZP.R (ZP.N (ZP.I (ZP.I (ZP.L (ZP.I (ZP.I (ZP.N (ZP.R zp_1)))))))))))))))))))))))))))))))))))))
theorem zp_3 : ZP hz3 := (ZP.R (ZP.N (ZP.R (ZP.N (ZP.R (ZP.N (ZP.R (ZP.N (ZP.R (ZP.N (ZP.R (ZP.N (ZP.R (ZP.N (ZP.R (ZP.N (ZP.I (ZP.N (ZP.I (ZP.I (ZP.I (ZP.R (ZP.N (ZP.N (ZP.R zp_2)))))))))))))))))))))))))
theorem zp_5 : ZP hz5 := (ZP.R (ZP.R (ZP.R (ZP.N (ZP.R (ZP.R (ZP.N (ZP.R (ZP.N (ZP.R (ZP.N (ZP.I (ZP.R zp_3)))))))))))))
theorem zp_6 : ZP hz6 := (ZP.R (ZP.R (ZP.N (ZP.R (ZP.N (ZP.R (ZP.N (ZP.R (ZP.N (ZP.R (ZP.N (ZP.R (ZP.N (ZP.N (ZP.L (ZP.R (ZP.N (ZP.L (ZP.R (ZP.N (ZP.I (ZP.R (ZP.N (ZP.R (ZP.N (ZP.R (ZP.N (ZP.R (ZP.N (ZP.R (ZP.N (ZP.I (ZP.N (ZP.R zp_5))))))))))))))))))))))))))))))))))
theorem zp_7 : ZP hz7 := (ZP.R (ZP.R zp_6))
theorem zp_8 : ZP hz8 := (ZP.R (ZP.L (ZP.I (ZP.R (ZP.N (ZP.R (ZP.N (ZP.I (ZP.J (ZP.I (ZP.I (ZP.I (ZP.R (ZP.N (ZP.R (ZP.N (ZP.R (ZP.N (ZP.N (ZP.R zp_7))))))))))))))))))))
theorem zp_9 : ZP hz9 := (ZP.R zp_8)
theorem zp_10 : ZP hz10 := (ZP.R (ZP.N (ZP.R (ZP.N (ZP.R (ZP.N (ZP.R (ZP.N (ZP.R (ZP.N (ZP.R (ZP.N (ZP.R (ZP.N (ZP.R (ZP.N (ZP.R (ZP.N (ZP.R (ZP.N (ZP.R (ZP.N (ZP.R (ZP.N (ZP.R (ZP.N (ZP.R (ZP.N (ZP.R (ZP.N (ZP.R (ZP.N (ZP.R (ZP.N (ZP.R (ZP.N (ZP.R (ZP.N (ZP.R (ZP.N (ZP.R (ZP.N (ZP.R (ZP.N (ZP.R (ZP.N (ZP.R (ZP.N (ZP.R (ZP.N (ZP.R (ZP.N (ZP.R (ZP.N (ZP.R (ZP.N (ZP.R (ZP.N (ZP.R (ZP.N (ZP.R (ZP.N (ZP.R (ZP.N (ZP.R (ZP.N (ZP.R (ZP.N (ZP.R (ZP.N (ZP.R (ZP.N (ZP.R (ZP.N (ZP.R (ZP.N (ZP.R (ZP.N (ZP.R (ZP.N (ZP.R (ZP.N (ZP.R (ZP.N (ZP.R (ZP.N (ZP.R (ZP.N (ZP.R (ZP.N (ZP.R (ZP.N (ZP.N zp_9)))))))))))))))))))))))))))))))))))))))))))))))))))))))))))))))))))))))))))))))))))))))))))))
theorem hz_sh : hz10.1 = sh0 := by decide +kernel
theorem hz_rf : ∀ e ∈ rfs, hz10.2.2.2 e.1 e.2.1 = .ref e.2.2 := by decide +kernel
theorem hz_rc : ∀ e ∈ rcs, hz10.2.2.2 e.1 e.2 = .ref 2 ∨ hz10.2.2.2 e.1 e.2 = .ref 18 := by decide +kernel
theorem hz_x : hz10.2.2.2 0 3 = .ref 2 := by decide +kernel
theorem hz_0 {c j : Nat} (h : ¬ (c = 64 ∧ j = 6)) : hz10.2.1 c j = 0 := by
  rcases zp_10 c j with q | q
  · exact q
  · exact absurd ⟨q.1, q.2.1⟩ h
theorem iv0 : Iv (0, 0, hz10.2.1, 2, hz10.2.1) hz10 := by
  refine ⟨hz_sh, fun c j => ?_, hz_rf, hz_rc, fun q => ?_, fun c hc j q => ?_, hz_0 (by omega), hz_0 (by omega), fun c _ j => rfl, hz_x, fun c j _ => rfl⟩
  · by_cases e : c = 64 ∧ j = 6
    · rcases zp_10 c j with q | q
      · rw [q]; exact rg0 c j
      · rw [q.2.2, e.1, e.2]; decide
    · rw [hz_0 e]; exact rg0 c j
  · rw [hz_0 (by omega)] at q; exact absurd q (by decide)
  · rw [hz_0 (by omega)] at q; exact absurd q (by decide)
/-- the law's state: as much is taped on both sides; the reference's tree stands -/
def LF (P : PP) : Prop := CKF P.2.2.2.2 ∧ LV P.2.2.2.2
def LSt (P : PP) : Prop := P.1.toInt = P.2.1.toInt ∧ LF P
theorem ls0g {F : FN} (h7 : ∀ j, F 77 j = 0) (h3 : F 70 30 = 0) : LSt (0, 0, F, 2, F) := by
  refine ⟨rfl, fun j q => ?_, fun q => ?_⟩
  · have e : (F 77 j).toInt = 1 := q
    rw [h7] at e; exact absurd e (by decide)
  · have e : (F 70 30).toInt = 1 := q
    rw [h3] at e; exact absurd e (by decide)
theorem ls0 : LSt (0, 0, hz10.2.1, 2, hz10.2.1) := ls0g (fun j => hz_0 (by omega)) (hz_0 (by omega))
theorem FZE {P : PP} {h : HP} (hv : Iv P h) : VE P.2.2.2.2 h.2.1 := fun c j a b => hv.fz a b
theorem LF.ck {P : PP} {h : HP} (s : LF P) (hv : Iv P h) : CKF h.2.1 := CKF.ve (FZE hv) s.1
theorem LF.lv {P : PP} {h : HP} (s : LF P) (hv : Iv P h) : LV h.2.1 := LV.cong (FZE hv) (hv.fy (by omega)) (hv.fy (by omega)) s.2
theorem LF.cp {P : PP} (s : LF P) : CK P := s.1
theorem LF.cong {P Q : PP} (s : LF P) (e : Q.2.2.2.2 = P.2.2.2.2) : LF Q := by unfold LF; rw [e]; exact s
theorem LF.ogs {P : PP} (s : LF P) : LF (gs P) := by
  have v : VE P.2.2.2.2 (gs P).2.2.2.2 := fun c j a b => by
    show (if c = 70 ∧ j = 6 then P.2.2.2.2 70 29 else P.2.2.2.2 c j) = _
    rw [if_neg (by omega)]
  refine ⟨CKF.ve v s.1, LV.cong v ?_ ?_ s.2⟩
  · show (if 70 = 70 ∧ 29 = 6 then P.2.2.2.2 70 29 else P.2.2.2.2 70 29) = _
    rw [if_neg (by omega)]
  · show (if 70 = 70 ∧ 30 = 6 then P.2.2.2.2 70 29 else P.2.2.2.2 70 30) = _
    rw [if_neg (by omega)]
theorem LF.of {P : PP} {h : HP} (hv : Iv P h) (c : CKF h.2.1) (l : LV h.2.1) : LF P := by
  have v : VE h.2.1 P.2.2.2.2 := fun c j a b => (hv.fz a b).symm
  exact ⟨CKF.ve v c, LV.cong v (hv.fy (by omega)).symm (hv.fy (by omega)).symm l⟩
theorem LSt.ogs {P : PP} (s : LSt P) : LSt (gs P) := ⟨s.1, s.2.ogs⟩
theorem LSt.sq {P Q : PP} (s : LSt P) (q : SQ P Q) : LSt Q := by
  rcases q with rfl | rfl
  · exact s
  · exact s.ogs
theorem LH.fx {K : Nat → Nat → Prop} {h g : HP} (f : FX K h g) (k : ∀ c j, (c = 0 ∧ (j = 1 ∨ j = 2)) ∨ c = 1 ∨ c = 71 ∨ (c = 70 ∧ j = 5) → K c j) (l : LHs (st h)) : LHs (st g) := by
  have e : ∀ c j, ((c = 0 ∧ (j = 1 ∨ j = 2)) ∨ c = 1 ∨ c = 71 ∨ (c = 70 ∧ j = 5)) → (st g).1 c j = (st h).1 c j := fun c j z => congrArg Int32.toInt (f c j (k c j z)).1
  refine ⟨fun j q => ?_, ?_⟩
  · rw [e 0 1 (by omega)] at q
    rw [e 1 j (by omega), e 71 j (by omega)]
    exact l.1 j q
  · rw [e 0 2 (by omega), e 70 5 (by omega)]
    exact l.2
theorem LH.kac {h g : HP} (f : FX KAc h g) (l : LHs (st h)) : LHs (st g) := LH.fx f (fun c j z => by unfold KAc; omega) l
theorem LH.kar {h g : HP} (f : FX KAr h g) (l : LHs (st h)) : LHs (st g) := LH.fx f (fun c j z => by unfold KAr; omega) l
theorem lh0g {h : HP} (z : ∀ c j, ¬ (c = 64 ∧ j = 6) → h.2.1 c j = 0) : LHs (st h) := by
  refine ⟨fun j _ => ?_, ?_⟩
  · show (h.2.1 1 j).toInt = (h.2.1 71 j).toInt
    rw [z 1 j (by omega), z 71 j (by omega)]
  · show (h.2.1 0 2).toInt = (h.2.1 70 5).toInt
    rw [z 0 2 (by omega), z 70 5 (by omega)]
theorem lh0 : LHs (st hz10) := lh0g (fun _ _ y => hz_0 y)
theorem hz_x4 : hz10.2.2.2 0 4 = .ref 18 := by decide +kernel
theorem hz_l2 : hz10.2.2.1 2 2 = 0 := by decide +kernel
theorem hi0 : HIS (st hz10) := his0 (fun _ _ y => hz_0 y) hz_l2 hz_x hz_x4
theorem tx0 : TXV (st hz10) := txv0 (fun _ _ y => hz_0 y)
theorem LX {x y : Int32} {a : Int} {xs : Nat → Int32} (e : TI x a) (f : TI y a) : (xs y.toNatClampNeg).toInt = (xs x.toNatClampNeg).toInt := by
  have q : y.toInt = x.toInt := (show y.toInt = a from f).trans (show x.toInt = a from e).symm
  rw [Int32.toInt_inj.mp q]
theorem LH.feed {P : PP} {h g k : HP} {u v a b c d e a' b' c' d' e' : Int} (hv : Iv P h) (tq : P.1.toInt = P.2.1.toInt) (l : LHs (st h)) (e1 : (st g, u) = f_X7_feed (st h) a b c d e) (e2 : (st k, v) = f_X8_feed (st g) a' b' c' d' e') (ha : a' = a) (hb : b' = b) (hc : c' = c) (hd : d' = d) (he : e' = e) : LHs (st k) := by
  subst ha hb hc hd he
  exact tp_feed e1 e2 (show (h.2.1 0 1).toInt = (h.2.1 70 2).toInt by rw [hv.t0, hv.t1]; exact tq) (hv.2.1 0 1).1 l
theorem LH.end_ {h g k : HP} {u v a a' : Int} (l : LHs (st h)) (e1 : (st g, u) = f_X7_end (st h) a) (e2 : (st k, v) = f_X8_end (st g) a') (ha : a' = a) : LHs (st k) := by
  subst ha
  exact tp_end e1 e2 l
theorem LH.prog {P Q W : PP} {h g k : HP} {u v : Int32} (hv : Iv P h) (hg : Iv Q g) (hk : Iv W k) (tq : P.1.toInt = P.2.1.toInt) (r0 : W.1.toInt = 0) (l : LHs (st h)) (e1 : (st g, u.toInt) = f_X7_program (st h)) (fx1 : FX KC h g) (xp : ∃ c, (c = 2 ∨ c = 18) ∧ h.2.2.2 0 4 = .ref c ∧ ((f_X3_read (sI (st h) 0 1 0) (h.2.1 0 1).toInt c).2 = 0 → g.2.2.2 0 3 = .ref c)) (fx2 : FX KR g k) (pa : ∃ t, PgS g t (1 - (g.2.1 70 29).toInt) ∧ PgQ t k (1 - (g.2.1 70 29).toInt) v.toInt) : u.toInt = v.toInt ∧ LHs (st k) := by
  obtain ⟨c, hc, x1, x2⟩ := xp
  obtain ⟨t, ⟨s1, s2, s3, s4, s5, s6, s7, s8, s9⟩, q⟩ := pa
  have b0 : 0 ≤ (h.2.1 0 1).toInt := (hv.2.1 0 1).1
  have b5 : (h.2.1 0 1).toInt ≤ 500 := (hv.2.1 0 1).2
  have lv : (g.2.1 70 29).toInt ≤ 1 := (hg.2.1 70 29).2
  have t0 : (h.2.1 0 1).toInt = P.1.toInt := congrArg Int32.toInt hv.t0
  have t1 : (h.2.1 70 2).toInt = P.2.1.toInt := congrArg Int32.toInt hv.t1
  have kt : (k.2.1 0 1).toInt = W.1.toInt := congrArg Int32.toInt hk.t0
  have g2 : (g.2.1 70 2).toInt = (h.2.1 70 2).toInt := congrArg Int32.toInt (fx1 70 2 (by unfold KC; omega)).1
  have tx : TX ((sI (st h) 0 1 0).1 1) (t.1 72) (h.2.1 0 1).toInt := fun j y => by
    rw [sI_nc (show (1 : Nat) ≠ 0 by omega), s5 j (by omega)]
    show (h.2.1 1 j).toInt = (g.2.1 71 j).toInt
    rw [(fx1 71 j (by unfold KC; omega)).1]
    exact l.1 j y
  have A := prog_same (s := sI (st h) 0 1 0) (a := (h.2.1 0 1).toInt) hc (show 0 ≤ 1 - (g.2.1 70 29).toInt by omega) b0 b5 s1 (by rw [s2, g2]; omega) s3 s4 tx s6 s7 s8 s9 q
  have B : (st g).1 0 2 = (f_X3_read (sI (st h) 0 1 0) (h.2.1 0 1).toInt c).2 ∧ ((f_X3_read (sI (st h) 0 1 0) (h.2.1 0 1).toInt c).2 = 0 → u.toInt = (f_X3_read (sI (st h) 0 1 0) (h.2.1 0 1).toInt c).1.1 c 0) ∧ ((f_X3_read (sI (st h) 0 1 0) (h.2.1 0 1).toInt c).2 ≠ 0 → u.toInt = -2) := tp_prog (s := st h) hc e1 (st_c x1) (fun z => st_c (x2 z))
  have k02 : (st k).1 0 2 = (st g).1 0 2 := congrArg Int32.toInt (fx2 0 2 (by unfold KR; omega)).1
  generalize f_X3_read (sI (st h) 0 1 0) (h.2.1 0 1).toInt c = R at A B
  refine ⟨?_, fun j y => ?_, ?_⟩
  · by_cases z : R.2 = 0
    · rw [B.2.1 z, A.2.1 z]
    · rw [B.2.2 z, A.2.2 z]
  · exfalso
    have y2 : (j : Int) < (k.2.1 0 1).toInt := y
    omega
  · exact k02.trans (B.1.trans A.1)
set_option maxHeartbeats 40000000 in
set_option maxRecDepth 100000 in
theorem law_all (l : Launch) (nm : String) (L : Nat) (hL : L ≤ 3072) (xs : Nat → Int32) : Go l RL cL_law 4 room_1 nm (some .boolean) 0 117 7302250 (fun b s => va_X b L xs s s.heap ∧ b < s.heap.size) (fun r _ => r = some (.int 1)) 0 0 [(0, .retAddr 0)] [] hpE := by
  have tL : TI (Int32.ofNat L) (L : Int) := Int32.toInt_ofNat_of_lt (by omega)
  have key : ∀ n : Nat, ∀ (l3 : Int32) (P : PP) (hx : HP), Iv P hx → LSt P → LHs (st hx) → HIS (st hx) → TXV (st hx) → 0 ≤ l3.toInt → l3.toInt ≤ 3072 → (4000 - l3.toInt : Int) < n → Go l RL cL_law 4 room_1 nm (some .boolean) 0 117 7302250 (fun b s => va_X b L xs s s.heap ∧ b < s.heap.size) (fun r _ => r = some (.int 1)) 32419 18 [(0, .retAddr 0), (1, .ref 0), (2, .ref 70), (3, .int l3)] [] hx := by
    intro n
    induction n with
    | zero => intros; omega
    | succ n ih =>
      intro l3 P hx hvx ls lh hi tx l3l l3u hm
      have lf := ls.2
      have ls1 := ls.1
      refine go_iload_n (pc := 18) rfl dL_law_18 ?_
      refine go_aload_nS (pc := 19) rfl dL_law_19 ?_
      refine go_slen (pc := 20) (L := L) (fun b s q => q) rfl dL_law_20 ?_
      refine go_bipush (pc := 21) (v := 6) (by decide) dL_law_21 ?_
      refine gf_isub (pc := 23) tL (ti_c (v := 6) (a := 6) (by decide)) (by omega) (by omega) dL_law_23 (fun w0 e0 => ?_)
      refine gf_icmp_gt (pc := 24) (tgt := 660) (ti_rfl l3) e0 (by decide) dL_law_24 (fun q0 => ?_) (fun q0 => ?_)
      ·
        refine go_iconst (pc := 660) (v := 1) (by decide) dL_law_660 ?_
        exact go_iret (pc := 661) rfl rfl hvx.ln (Nat.le_of_ble_eq_true rfl) dL_law_661
      refine go_aload_nS (pc := 27) rfl dL_law_27 ?_
      refine go_iload_n (pc := 28) rfl dL_law_28 ?_
      refine go_sld (pc := 29) (L := L) (i := l3) (fun b s q => q) rfl (ti_in (ti_rfl l3) (by omega) (by omega)) dL_law_29 ?_
      refine go_bipush (pc := 30) (v := 31) (by decide) dL_law_30 ?_
      refine gf_iand (pc := 32) (ti_c (v := 31) (a := 31) (by decide)) (by omega) dL_law_32 (fun w1 w1l w1u => ?_)
      by_cases q1 : w1.toInt = 0
      ·
        refine go_tableIn (pc := 33) (tgt := 120) (off := 87) (by omega) (by omega) (by rw [q1]; rfl) (by decide) dL_law_33 ?_
        refine go_aload_n (pc := 120) rfl dL_law_120 ?_
        refine go_aload_nS (pc := 121) rfl dL_law_121 ?_
        refine go_iload_n (pc := 122) rfl dL_law_122 ?_
        refine go_iconst (pc := 123) (v := 1) (by decide) dL_law_123 ?_
        refine gf_iadd (pc := 124) (ti_rfl l3) (ti_c (v := 1) (a := 1) (by decide)) (by omega) (by omega) dL_law_124 (fun v2 e3 => ?_)
        refine go_sld (pc := 125) (L := L) (i := v2) (fun b s q => q) rfl (ti_in e3 (by omega) (by omega)) dL_law_125 ?_
        refine go_aload_nS (pc := 126) rfl dL_law_126 ?_
        refine go_iload_n (pc := 127) rfl dL_law_127 ?_
        refine go_iconst (pc := 128) (v := 2) (by decide) dL_law_128 ?_
        refine gf_iadd (pc := 129) (ti_rfl l3) (ti_c (v := 2) (a := 2) (by decide)) (by omega) (by omega) dL_law_129 (fun v4 e5 => ?_)
        refine go_sld (pc := 130) (L := L) (i := v4) (fun b s q => q) rfl (ti_in e5 (by omega) (by omega)) dL_law_130 ?_
        refine go_aload_nS (pc := 131) rfl dL_law_131 ?_
        refine go_iload_n (pc := 132) rfl dL_law_132 ?_
        refine go_iconst (pc := 133) (v := 3) (by decide) dL_law_133 ?_
        refine gf_iadd (pc := 134) (ti_rfl l3) (ti_c (v := 3) (a := 3) (by decide)) (by omega) (by omega) dL_law_134 (fun v6 e7 => ?_)
        refine go_sld (pc := 135) (L := L) (i := v6) (fun b s q => q) rfl (ti_in e7 (by omega) (by omega)) dL_law_135 ?_
        refine go_aload_nS (pc := 136) rfl dL_law_136 ?_
        refine go_iload_n (pc := 137) rfl dL_law_137 ?_
        refine go_iconst (pc := 138) (v := 4) (by decide) dL_law_138 ?_
        refine gf_iadd (pc := 139) (ti_rfl l3) (ti_c (v := 4) (a := 4) (by decide)) (by omega) (by omega) dL_law_139 (fun v8 e9 => ?_)
        refine go_sld (pc := 140) (L := L) (i := v8) (fun b s q => q) rfl (ti_in e9 (by omega) (by omega)) dL_law_140 ?_
        refine go_aload_nS (pc := 141) rfl dL_law_141 ?_
        refine go_iload_n (pc := 142) rfl dL_law_142 ?_
        refine go_iconst (pc := 143) (v := 5) (by decide) dL_law_143 ?_
        refine gf_iadd (pc := 144) (ti_rfl l3) (ti_c (v := 5) (a := 5) (by decide)) (by omega) (by omega) dL_law_144 (fun v10 e11 => ?_)
        refine go_sld (pc := 145) (L := L) (i := v10) (fun b s q => q) rfl (ti_in e11 (by omega) (by omega)) dL_law_145 ?_
        refine go_invV (pc := 146) (sl := 32419) (s_X7_feed_f l 0 hvx (xs v2.toNatClampNeg) (xs v4.toNatClampNeg) (xs v6.toNatClampNeg) (xs v8.toNatClampNeg) (xs v10.toNatClampNeg)) mL_L_13 iM_X7_feed sM_X7_feed (hvx.sh rfl) rfl rfl rfl (Nat.le_of_ble_eq_true rfl) (Nat.le_of_ble_eq_true rfl) (Nat.le_of_ble_eq_true rfl) (g_cl hvx.ln (Nat.le_of_ble_eq_true rfl)) (Nat.le_of_ble_eq_true rfl) dL_law_146 ?_
        intro r h12 hq _
        obtain ⟨v17, rfl, v17l, v17u, ⟨Q13, hv12, r14, r15⟩, f16⟩ := hq
        have lf18 : LF Q13 := (LF.cong lf (by rw [r15]))
        refine go_pop (pc := 149) rfl dL_law_149 ?_
        refine go_aload_n (pc := 150) rfl dL_law_150 ?_
        refine go_aload_nS (pc := 151) rfl dL_law_151 ?_
        refine go_iload_n (pc := 152) rfl dL_law_152 ?_
        refine go_iconst (pc := 153) (v := 1) (by decide) dL_law_153 ?_
        refine gf_iadd (pc := 154) (ti_rfl l3) (ti_c (v := 1) (a := 1) (by decide)) (by omega) (by omega) dL_law_154 (fun v19 e20 => ?_)
        refine go_sld (pc := 155) (L := L) (i := v19) (fun b s q => q) rfl (ti_in e20 (by omega) (by omega)) dL_law_155 ?_
        refine go_aload_nS (pc := 156) rfl dL_law_156 ?_
        refine go_iload_n (pc := 157) rfl dL_law_157 ?_
        refine go_iconst (pc := 158) (v := 2) (by decide) dL_law_158 ?_
        refine gf_iadd (pc := 159) (ti_rfl l3) (ti_c (v := 2) (a := 2) (by decide)) (by omega) (by omega) dL_law_159 (fun v21 e22 => ?_)
        refine go_sld (pc := 160) (L := L) (i := v21) (fun b s q => q) rfl (ti_in e22 (by omega) (by omega)) dL_law_160 ?_
        refine go_aload_nS (pc := 161) rfl dL_law_161 ?_
        refine go_iload_n (pc := 162) rfl dL_law_162 ?_
        refine go_iconst (pc := 163) (v := 3) (by decide) dL_law_163 ?_
        refine gf_iadd (pc := 164) (ti_rfl l3) (ti_c (v := 3) (a := 3) (by decide)) (by omega) (by omega) dL_law_164 (fun v23 e24 => ?_)
        refine go_sld (pc := 165) (L := L) (i := v23) (fun b s q => q) rfl (ti_in e24 (by omega) (by omega)) dL_law_165 ?_
        refine go_aload_nS (pc := 166) rfl dL_law_166 ?_
        refine go_iload_n (pc := 167) rfl dL_law_167 ?_
        refine go_iconst (pc := 168) (v := 4) (by decide) dL_law_168 ?_
        refine gf_iadd (pc := 169) (ti_rfl l3) (ti_c (v := 4) (a := 4) (by decide)) (by omega) (by omega) dL_law_169 (fun v25 e26 => ?_)
        refine go_sld (pc := 170) (L := L) (i := v25) (fun b s q => q) rfl (ti_in e26 (by omega) (by omega)) dL_law_170 ?_
        refine go_aload_nS (pc := 171) rfl dL_law_171 ?_
        refine go_iload_n (pc := 172) rfl dL_law_172 ?_
        refine go_iconst (pc := 173) (v := 5) (by decide) dL_law_173 ?_
        refine gf_iadd (pc := 174) (ti_rfl l3) (ti_c (v := 5) (a := 5) (by decide)) (by omega) (by omega) dL_law_174 (fun v27 e28 => ?_)
        refine go_sld (pc := 175) (L := L) (i := v27) (fun b s q => q) rfl (ti_in e28 (by omega) (by omega)) dL_law_175 ?_
        refine go_invV (pc := 176) (sl := 32419) (s_X8_feed_f l 0 hv12 (xs v19.toNatClampNeg) (xs v21.toNatClampNeg) (xs v23.toNatClampNeg) (xs v25.toNatClampNeg) (xs v27.toNatClampNeg)) mL_L_17 iM_X8_feed sM_X8_feed (hv12.sh rfl) rfl rfl rfl (Nat.le_of_ble_eq_true rfl) (Nat.le_of_ble_eq_true rfl) (Nat.le_of_ble_eq_true rfl) (g_cl hv12.ln (Nat.le_of_ble_eq_true rfl)) (Nat.le_of_ble_eq_true rfl) dL_law_176 ?_
        intro r h29 hq _
        obtain ⟨v35, rfl, v35l, v35u, ⟨Q30, hv29, r31, r32, r33⟩, f34⟩ := hq
        have lf36 : LF Q30 := (LF.cong lf18 (by rw [r33]))
        have lh37 : LHs (st h29) := LH.feed hvx ls1 lh f16 f34 (LX e3 e20) (LX e5 e22) (LX e7 e24) (LX e9 e26) (LX e11 e28)
        have hi38 : HIS (st h29) := his_feed f16 f34 hi
        have tx39 : TXV (st h29) := txv_feed2 f16 f34 hi tx
        refine go_pop (pc := 179) rfl dL_law_179 ?_
        refine go_goto (pc := 180) (tgt := 654) (by decide) dL_law_180 ?_
        have t1 : (P.1.toInt ≤ 480 → v17.toInt = P.1.toInt + 20 ∧ Q13.1.toInt = P.1.toInt + 20) ∧ (480 < P.1.toInt → v17.toInt = -1 ∧ Q13.1.toInt = P.1.toInt) := r14
        have t2 : (Q13.2.1.toInt ≤ 480 → v35.toInt = Q13.2.1.toInt + 20 ∧ Q30.2.1.toInt = Q13.2.1.toInt + 20) ∧ (480 < Q13.2.1.toInt → v35.toInt = -1 ∧ Q30.2.1.toInt = Q13.2.1.toInt) := r31
        have t3 : Q13.2.1 = P.2.1 := by rw [r15]
        have t4 : Q30.1 = Q13.1 := r32
        rw [t3] at t2
        have ls2 : LSt Q30 := ⟨by rw [t4]; omega, lf36⟩
        refine gf_iinc (pc := 654) (Nat.le_of_ble_eq_true rfl) rfl (ti_rfl l3) (ti_c (by decide)) (by omega) (by omega) dL_law_654 (fun v40 e41 => ?_)
        refine go_lv (lv2 := [(0, .retAddr 0), (1, .ref 0), (2, .ref 70), (3, .int v40)]) rfl ?_
        refine go_goto (pc := 657) (tgt := 18) (by decide) dL_law_657 ?_
        have zv40 : v40.toInt = l3.toInt + 6 := e41
        exact go_lv rfl (ih v40 _ h29 hv29 ls2 lh37 hi38 tx39 (by omega) (by omega) (by omega))
      by_cases q42 : w1.toInt = 1
      ·
        refine go_tableIn (pc := 33) (tgt := 183) (off := 150) (by omega) (by omega) (by rw [q42]; rfl) (by decide) dL_law_33 ?_
        refine go_aload_n (pc := 183) rfl dL_law_183 ?_
        refine go_aload_nS (pc := 184) rfl dL_law_184 ?_
        refine go_iload_n (pc := 185) rfl dL_law_185 ?_
        refine go_iconst (pc := 186) (v := 1) (by decide) dL_law_186 ?_
        refine gf_iadd (pc := 187) (ti_rfl l3) (ti_c (v := 1) (a := 1) (by decide)) (by omega) (by omega) dL_law_187 (fun v43 e44 => ?_)
        refine go_sld (pc := 188) (L := L) (i := v43) (fun b s q => q) rfl (ti_in e44 (by omega) (by omega)) dL_law_188 ?_
        refine go_invV (pc := 189) (sl := 32419) (s_X7_end_f l 0 hvx (xs v43.toNatClampNeg)) mL_L_18 iM_X7_end sM_X7_end (hvx.sh rfl) rfl rfl rfl (Nat.le_of_ble_eq_true rfl) (Nat.le_of_ble_eq_true rfl) (Nat.le_of_ble_eq_true rfl) (g_cl hvx.ln (Nat.le_of_ble_eq_true rfl)) (Nat.le_of_ble_eq_true rfl) dL_law_189 ?_
        intro r h45 hq _
        obtain ⟨v50, rfl, v50l, v50u, ⟨Q46, hv45, r47, r48⟩, f49⟩ := hq
        have lf51 : LF Q46 := (LF.cong lf (by rw [r48]))
        refine go_pop (pc := 192) rfl dL_law_192 ?_
        refine go_aload_n (pc := 193) rfl dL_law_193 ?_
        refine go_aload_nS (pc := 194) rfl dL_law_194 ?_
        refine go_iload_n (pc := 195) rfl dL_law_195 ?_
        refine go_iconst (pc := 196) (v := 1) (by decide) dL_law_196 ?_
        refine gf_iadd (pc := 197) (ti_rfl l3) (ti_c (v := 1) (a := 1) (by decide)) (by omega) (by omega) dL_law_197 (fun v52 e53 => ?_)
        refine go_sld (pc := 198) (L := L) (i := v52) (fun b s q => q) rfl (ti_in e53 (by omega) (by omega)) dL_law_198 ?_
        refine go_invV (pc := 199) (sl := 32419) (s_X8_end_f l 0 hv45 (xs v52.toNatClampNeg)) mL_L_22 iM_X8_end sM_X8_end (hv45.sh rfl) rfl rfl rfl (Nat.le_of_ble_eq_true rfl) (Nat.le_of_ble_eq_true rfl) (Nat.le_of_ble_eq_true rfl) (g_cl hv45.ln (Nat.le_of_ble_eq_true rfl)) (Nat.le_of_ble_eq_true rfl) dL_law_199 ?_
        intro r h54 hq _
        obtain ⟨v60, rfl, v60l, v60u, ⟨Q55, hv54, r56, r57, r58⟩, f59⟩ := hq
        have lf61 : LF Q55 := (LF.cong lf51 (by rw [r58]))
        have lh62 : LHs (st h54) := LH.end_ lh f49 f59 (LX e44 e53)
        have hi63 : HIS (st h54) := his_end f49 f59 hi
        have tx64 : TXV (st h54) := txv_end f49 f59 hi tx
        refine go_pop (pc := 202) rfl dL_law_202 ?_
        refine go_goto (pc := 203) (tgt := 654) (by decide) dL_law_203 ?_
        have t1 := r47
        have t2 := r56
        have t3 : Q46.2.1 = P.2.1 := by rw [r48]
        have t4 : Q55.1 = Q46.1 := r57
        have t5 : v52.toNatClampNeg = v43.toNatClampNeg := by rw [Int32.toInt_inj.mp (show v52.toInt = v43.toInt by rw [show v52.toInt = l3.toInt + 1 from e53, show v43.toInt = l3.toInt + 1 from e44])]
        rw [t3, t5] at t2
        have ls65 : LSt Q55 := ⟨by rw [t4]; omega, lf61⟩
        refine gf_iinc (pc := 654) (Nat.le_of_ble_eq_true rfl) rfl (ti_rfl l3) (ti_c (by decide)) (by omega) (by omega) dL_law_654 (fun v66 e67 => ?_)
        refine go_lv (lv2 := [(0, .retAddr 0), (1, .ref 0), (2, .ref 70), (3, .int v66)]) rfl ?_
        refine go_goto (pc := 657) (tgt := 18) (by decide) dL_law_657 ?_
        have zv66 : v66.toInt = l3.toInt + 6 := e67
        exact go_lv rfl (ih v66 _ h54 hv54 ls65 lh62 hi63 tx64 (by omega) (by omega) (by omega))
      by_cases q68 : w1.toInt = 2
      ·
        refine go_tableIn (pc := 33) (tgt := 206) (off := 173) (by omega) (by omega) (by rw [q68]; rfl) (by decide) dL_law_33 ?_
        refine go_aload_n (pc := 206) rfl dL_law_206 ?_
        refine go_invV (pc := 207) (sl := 32419) (s_X7_program_f l 0 hvx ) mL_L_23 iM_X7_program sM_X7_program (hvx.sh rfl) rfl rfl rfl (Nat.le_of_ble_eq_true rfl) (Nat.le_of_ble_eq_true rfl) (Nat.le_of_ble_eq_true rfl) (g_cl hvx.ln (Nat.le_of_ble_eq_true rfl)) (Nat.le_of_ble_eq_true rfl) dL_law_207 ?_
        intro r h69 hq _
        obtain ⟨v77, rfl, v77l, v77u, ⟨Q70, hv69, r71, r72, r73⟩, f74, f75, f76⟩ := hq
        have lf78 : LF Q70 := (LF.cong lf r73)
        refine go_pop (pc := 210) rfl dL_law_210 ?_
        refine go_aload_n (pc := 211) rfl dL_law_211 ?_
        refine go_invV (pc := 212) (sl := 32419) (s_X8_program_f l 0 hv69 (LF.ck lf78 hv69) (LF.lv lf78 hv69)) mL_L_27 iM_X8_program sM_X8_program (hv69.sh rfl) rfl rfl rfl (Nat.le_of_ble_eq_true rfl) (Nat.le_of_ble_eq_true rfl) (Nat.le_of_ble_eq_true rfl) (g_cl hv69.ln (Nat.le_of_ble_eq_true rfl)) (Nat.le_of_ble_eq_true rfl) dL_law_212 ?_
        intro r h79 hq _
        obtain ⟨v89, rfl, v89l, v89u, ⟨Q80, hv79, sq81⟩, f82, f83, f84, f85, f86, f87, f88⟩ := hq
        have lf90 : LF Q80 := LF.of hv79 f82 f83
        have lp91 := LH.prog hvx hv69 hv79 ls1 (by rw [sq81.1]; exact r71) lh f74 f75 f76 f84 f85
        have lpe := lp91.1
        have hi92 : HIS (st h79) := HIS.prog hvx hv69 ls1 lh hi f74 f75 f84 f85 f86
        have tx93 : TXV (st h79) := TXV.prog hvx hv69 ls1 lh hi hi92 (fun j => (hv79.2.1 74 j).2) (fun q j z => by rcases z with rfl | rfl; exact hv79.2.1 101 j; exact hv79.2.1 102 j) tx f74 f75 f84 f85 f86 f87 f88
        refine go_pop (pc := 215) rfl dL_law_215 ?_
        refine go_goto (pc := 216) (tgt := 654) (by decide) dL_law_216 ?_
        have t1 : Q70.1.toInt = 0 := r71
        have ls94 : LSt Q80 := ⟨by rw [sq81.1, sq81.2.1]; exact t1, lf90⟩
        refine gf_iinc (pc := 654) (Nat.le_of_ble_eq_true rfl) rfl (ti_rfl l3) (ti_c (by decide)) (by omega) (by omega) dL_law_654 (fun v95 e96 => ?_)
        refine go_lv (lv2 := [(0, .retAddr 0), (1, .ref 0), (2, .ref 70), (3, .int v95)]) rfl ?_
        refine go_goto (pc := 657) (tgt := 18) (by decide) dL_law_657 ?_
        have zv95 : v95.toInt = l3.toInt + 6 := e96
        exact go_lv rfl (ih v95 _ h79 hv79 ls94 lp91.2 hi92 tx93 (by omega) (by omega) (by omega))
      by_cases q97 : w1.toInt = 3
      ·
        refine go_tableIn (pc := 33) (tgt := 219) (off := 186) (by omega) (by omega) (by rw [q97]; rfl) (by decide) dL_law_33 ?_
        refine go_aload_n (pc := 219) rfl dL_law_219 ?_
        refine go_invV (pc := 220) (sl := 32419) (s_X7_fault_f l 0 hvx ) mL_L_28 iM_X7_fault sM_X7_fault (hvx.sh rfl) rfl rfl rfl (Nat.le_of_ble_eq_true rfl) (Nat.le_of_ble_eq_true rfl) (Nat.le_of_ble_eq_true rfl) (g_cl hvx.ln (Nat.le_of_ble_eq_true rfl)) (Nat.le_of_ble_eq_true rfl) dL_law_220 ?_
        intro r h98 hq _
        obtain ⟨v100, rfl, v100l, v100u, rfl, f99⟩ := hq
        refine go_pop (pc := 223) rfl dL_law_223 ?_
        refine go_aload_n (pc := 224) rfl dL_law_224 ?_
        refine go_invV (pc := 225) (sl := 32419) (s_X8_fault_f l 0 hvx ) mL_L_31 iM_X8_fault sM_X8_fault (hvx.sh rfl) rfl rfl rfl (Nat.le_of_ble_eq_true rfl) (Nat.le_of_ble_eq_true rfl) (Nat.le_of_ble_eq_true rfl) (g_cl hvx.ln (Nat.le_of_ble_eq_true rfl)) (Nat.le_of_ble_eq_true rfl) dL_law_225 ?_
        intro r h101 hq _
        obtain ⟨v103, rfl, v103l, v103u, rfl, f102⟩ := hq
        refine go_pop (pc := 228) rfl dL_law_228 ?_
        refine go_goto (pc := 229) (tgt := 654) (by decide) dL_law_229 ?_
        refine gf_iinc (pc := 654) (Nat.le_of_ble_eq_true rfl) rfl (ti_rfl l3) (ti_c (by decide)) (by omega) (by omega) dL_law_654 (fun v104 e105 => ?_)
        refine go_lv (lv2 := [(0, .retAddr 0), (1, .ref 0), (2, .ref 70), (3, .int v104)]) rfl ?_
        refine go_goto (pc := 657) (tgt := 18) (by decide) dL_law_657 ?_
        have zv104 : v104.toInt = l3.toInt + 6 := e105
        exact go_lv rfl (ih v104 _ hx hvx ls lh hi tx (by omega) (by omega) (by omega))
      by_cases q106 : w1.toInt = 4
      ·
        refine go_tableIn (pc := 33) (tgt := 232) (off := 199) (by omega) (by omega) (by rw [q106]; rfl) (by decide) dL_law_33 ?_
        refine go_aload_n (pc := 232) rfl dL_law_232 ?_
        refine go_aload_nS (pc := 233) rfl dL_law_233 ?_
        refine go_iload_n (pc := 234) rfl dL_law_234 ?_
        refine go_iconst (pc := 235) (v := 1) (by decide) dL_law_235 ?_
        refine gf_iadd (pc := 236) (ti_rfl l3) (ti_c (v := 1) (a := 1) (by decide)) (by omega) (by omega) dL_law_236 (fun v107 e108 => ?_)
        refine go_sld (pc := 237) (L := L) (i := v107) (fun b s q => q) rfl (ti_in e108 (by omega) (by omega)) dL_law_237 ?_
        refine go_invV (pc := 238) (sl := 32419) (s_X7_count l 0 hvx (xs v107.toNatClampNeg)) mL_L_32 iM_X7_count sM_X7_count (hvx.sh rfl) rfl rfl rfl (Nat.le_of_ble_eq_true rfl) (Nat.le_of_ble_eq_true rfl) (Nat.le_of_ble_eq_true rfl) (g_cl hvx.ln (Nat.le_of_ble_eq_true rfl)) (Nat.le_of_ble_eq_true rfl) dL_law_238 ?_
        intro r h109 hq _
        obtain ⟨v110, rfl, v110l, v110u, rfl⟩ := hq
        refine go_pop (pc := 241) rfl dL_law_241 ?_
        refine go_aload_n (pc := 242) rfl dL_law_242 ?_
        refine go_aload_nS (pc := 243) rfl dL_law_243 ?_
        refine go_iload_n (pc := 244) rfl dL_law_244 ?_
        refine go_iconst (pc := 245) (v := 1) (by decide) dL_law_245 ?_
        refine gf_iadd (pc := 246) (ti_rfl l3) (ti_c (v := 1) (a := 1) (by decide)) (by omega) (by omega) dL_law_246 (fun v111 e112 => ?_)
        refine go_sld (pc := 247) (L := L) (i := v111) (fun b s q => q) rfl (ti_in e112 (by omega) (by omega)) dL_law_247 ?_
        refine go_invV (pc := 248) (sl := 32419) (s_X8_count2_f l 0 hvx (xs v111.toNatClampNeg)) mL_L_36 iM_X8_count sM_X8_count (hvx.sh rfl) rfl rfl rfl (Nat.le_of_ble_eq_true rfl) (Nat.le_of_ble_eq_true rfl) (Nat.le_of_ble_eq_true rfl) (g_cl hvx.ln (Nat.le_of_ble_eq_true rfl)) (Nat.le_of_ble_eq_true rfl) dL_law_248 ?_
        intro r h113 hq _
        obtain ⟨v115, rfl, v115l, v115u, hv113, f114⟩ := hq
        have lf116 := LF.ogs lf
        have ls117 := LSt.ogs ls
        have lh118 : LHs (st h113) := LH.kar (FX.mono (fun c j z => by unfold KAr at z; unfold KAq; omega) f114) lh
        have hi119 : HIS (st h113) := HIS.kar (FX.mono (fun c j z => by unfold KAr at z; unfold KAq; omega) f114) hi
        have tx120 : TXV (st h113) := TXV.kaq f114 hi tx
        refine go_pop (pc := 251) rfl dL_law_251 ?_
        refine go_goto (pc := 252) (tgt := 654) (by decide) dL_law_252 ?_
        refine gf_iinc (pc := 654) (Nat.le_of_ble_eq_true rfl) rfl (ti_rfl l3) (ti_c (by decide)) (by omega) (by omega) dL_law_654 (fun v121 e122 => ?_)
        refine go_lv (lv2 := [(0, .retAddr 0), (1, .ref 0), (2, .ref 70), (3, .int v121)]) rfl ?_
        refine go_goto (pc := 657) (tgt := 18) (by decide) dL_law_657 ?_
        have zv121 : v121.toInt = l3.toInt + 6 := e122
        exact go_lv rfl (ih v121 _ h113 hv113 ls117 lh118 hi119 tx120 (by omega) (by omega) (by omega))
      by_cases q123 : w1.toInt = 5
      ·
        refine go_tableIn (pc := 33) (tgt := 255) (off := 222) (by omega) (by omega) (by rw [q123]; rfl) (by decide) dL_law_33 ?_
        refine go_aload_n (pc := 255) rfl dL_law_255 ?_
        refine go_aload_nS (pc := 256) rfl dL_law_256 ?_
        refine go_iload_n (pc := 257) rfl dL_law_257 ?_
        refine go_iconst (pc := 258) (v := 1) (by decide) dL_law_258 ?_
        refine gf_iadd (pc := 259) (ti_rfl l3) (ti_c (v := 1) (a := 1) (by decide)) (by omega) (by omega) dL_law_259 (fun v124 e125 => ?_)
        refine go_sld (pc := 260) (L := L) (i := v124) (fun b s q => q) rfl (ti_in e125 (by omega) (by omega)) dL_law_260 ?_
        refine go_aload_nS (pc := 261) rfl dL_law_261 ?_
        refine go_iload_n (pc := 262) rfl dL_law_262 ?_
        refine go_iconst (pc := 263) (v := 2) (by decide) dL_law_263 ?_
        refine gf_iadd (pc := 264) (ti_rfl l3) (ti_c (v := 2) (a := 2) (by decide)) (by omega) (by omega) dL_law_264 (fun v126 e127 => ?_)
        refine go_sld (pc := 265) (L := L) (i := v126) (fun b s q => q) rfl (ti_in e127 (by omega) (by omega)) dL_law_265 ?_
        refine go_invV (pc := 266) (sl := 32419) (s_X7_of_f l 0 hvx (xs v124.toNatClampNeg) (xs v126.toNatClampNeg)) mL_L_37 iM_X7_of sM_X7_of (hvx.sh rfl) rfl rfl rfl (Nat.le_of_ble_eq_true rfl) (Nat.le_of_ble_eq_true rfl) (Nat.le_of_ble_eq_true rfl) (g_cl hvx.ln (Nat.le_of_ble_eq_true rfl)) (Nat.le_of_ble_eq_true rfl) dL_law_266 ?_
        intro r h128 hq _
        obtain ⟨v130, rfl, v130l, v130u, rfl, f129⟩ := hq
        refine go_pop (pc := 269) rfl dL_law_269 ?_
        refine go_aload_n (pc := 270) rfl dL_law_270 ?_
        refine go_aload_nS (pc := 271) rfl dL_law_271 ?_
        refine go_iload_n (pc := 272) rfl dL_law_272 ?_
        refine go_iconst (pc := 273) (v := 1) (by decide) dL_law_273 ?_
        refine gf_iadd (pc := 274) (ti_rfl l3) (ti_c (v := 1) (a := 1) (by decide)) (by omega) (by omega) dL_law_274 (fun v131 e132 => ?_)
        refine go_sld (pc := 275) (L := L) (i := v131) (fun b s q => q) rfl (ti_in e132 (by omega) (by omega)) dL_law_275 ?_
        refine go_aload_nS (pc := 276) rfl dL_law_276 ?_
        refine go_iload_n (pc := 277) rfl dL_law_277 ?_
        refine go_iconst (pc := 278) (v := 2) (by decide) dL_law_278 ?_
        refine gf_iadd (pc := 279) (ti_rfl l3) (ti_c (v := 2) (a := 2) (by decide)) (by omega) (by omega) dL_law_279 (fun v133 e134 => ?_)
        refine go_sld (pc := 280) (L := L) (i := v133) (fun b s q => q) rfl (ti_in e134 (by omega) (by omega)) dL_law_280 ?_
        refine go_invV (pc := 281) (sl := 32419) (s_X8_of2_f l 0 hvx (xs v131.toNatClampNeg) (xs v133.toNatClampNeg) (LF.ck lf hvx) (LF.lv lf hvx)) mL_L_41 iM_X8_of sM_X8_of (hvx.sh rfl) rfl rfl rfl (Nat.le_of_ble_eq_true rfl) (Nat.le_of_ble_eq_true rfl) (Nat.le_of_ble_eq_true rfl) (g_cl hvx.ln (Nat.le_of_ble_eq_true rfl)) (Nat.le_of_ble_eq_true rfl) dL_law_281 ?_
        intro r h135 hq _
        obtain ⟨v138, rfl, v138l, v138u, hv135, f136, f137⟩ := hq
        have lf139 := LF.ogs lf
        have ls140 := LSt.ogs ls
        have lh141 : LHs (st h135) := LH.kar (FX.mono (fun c j z => by unfold KAr at z; unfold KAq; omega) f137) lh
        have hi142 : HIS (st h135) := HIS.kar (FX.mono (fun c j z => by unfold KAr at z; unfold KAq; omega) f137) hi
        have tx143 : TXV (st h135) := TXV.kaq f137 hi tx
        refine go_pop (pc := 284) rfl dL_law_284 ?_
        refine go_goto (pc := 285) (tgt := 654) (by decide) dL_law_285 ?_
        refine gf_iinc (pc := 654) (Nat.le_of_ble_eq_true rfl) rfl (ti_rfl l3) (ti_c (by decide)) (by omega) (by omega) dL_law_654 (fun v144 e145 => ?_)
        refine go_lv (lv2 := [(0, .retAddr 0), (1, .ref 0), (2, .ref 70), (3, .int v144)]) rfl ?_
        refine go_goto (pc := 657) (tgt := 18) (by decide) dL_law_657 ?_
        have zv144 : v144.toInt = l3.toInt + 6 := e145
        exact go_lv rfl (ih v144 _ h135 hv135 ls140 lh141 hi142 tx143 (by omega) (by omega) (by omega))
      by_cases q146 : w1.toInt = 6
      ·
        refine go_tableIn (pc := 33) (tgt := 288) (off := 255) (by omega) (by omega) (by rw [q146]; rfl) (by decide) dL_law_33 ?_
        refine go_aload_n (pc := 288) rfl dL_law_288 ?_
        refine go_aload_nS (pc := 289) rfl dL_law_289 ?_
        refine go_iload_n (pc := 290) rfl dL_law_290 ?_
        refine go_iconst (pc := 291) (v := 1) (by decide) dL_law_291 ?_
        refine gf_iadd (pc := 292) (ti_rfl l3) (ti_c (v := 1) (a := 1) (by decide)) (by omega) (by omega) dL_law_292 (fun v147 e148 => ?_)
        refine go_sld (pc := 293) (L := L) (i := v147) (fun b s q => q) rfl (ti_in e148 (by omega) (by omega)) dL_law_293 ?_
        refine go_aload_nS (pc := 294) rfl dL_law_294 ?_
        refine go_iload_n (pc := 295) rfl dL_law_295 ?_
        refine go_iconst (pc := 296) (v := 2) (by decide) dL_law_296 ?_
        refine gf_iadd (pc := 297) (ti_rfl l3) (ti_c (v := 2) (a := 2) (by decide)) (by omega) (by omega) dL_law_297 (fun v149 e150 => ?_)
        refine go_sld (pc := 298) (L := L) (i := v149) (fun b s q => q) rfl (ti_in e150 (by omega) (by omega)) dL_law_298 ?_
        refine go_invV (pc := 299) (sl := 32419) (s_X7_hangs2_f l 0 hvx (xs v147.toNatClampNeg) (xs v149.toNatClampNeg)) mL_L_42 iM_X7_hangs sM_X7_hangs (hvx.sh rfl) rfl rfl rfl (Nat.le_of_ble_eq_true rfl) (Nat.le_of_ble_eq_true rfl) (Nat.le_of_ble_eq_true rfl) (g_cl hvx.ln (Nat.le_of_ble_eq_true rfl)) (Nat.le_of_ble_eq_true rfl) dL_law_299 ?_
        intro r h151 hq _
        obtain ⟨v154, rfl, v154l, v154u, hv151, f152, f153⟩ := hq
        have lh155 : LHs (st h151) := LH.kac f153 lh
        have hi156 : HIS (st h151) := HIS.kac f153 hi
        have tx157 : TXV (st h151) := (by have z : TXV (f_X7_hangs2 (st hx) ((xs v147.toNatClampNeg)).toInt ((xs v149.toNatClampNeg)).toInt).1 := TXV.pq (fun j => (hvx.2.1 74 j).2) hi tx pqf_X7_hangs2; rw [← f152] at z; exact z)
        refine go_pop (pc := 302) rfl dL_law_302 ?_
        refine go_aload_n (pc := 303) rfl dL_law_303 ?_
        refine go_aload_nS (pc := 304) rfl dL_law_304 ?_
        refine go_iload_n (pc := 305) rfl dL_law_305 ?_
        refine go_iconst (pc := 306) (v := 1) (by decide) dL_law_306 ?_
        refine gf_iadd (pc := 307) (ti_rfl l3) (ti_c (v := 1) (a := 1) (by decide)) (by omega) (by omega) dL_law_307 (fun v158 e159 => ?_)
        refine go_sld (pc := 308) (L := L) (i := v158) (fun b s q => q) rfl (ti_in e159 (by omega) (by omega)) dL_law_308 ?_
        refine go_aload_nS (pc := 309) rfl dL_law_309 ?_
        refine go_iload_n (pc := 310) rfl dL_law_310 ?_
        refine go_iconst (pc := 311) (v := 2) (by decide) dL_law_311 ?_
        refine gf_iadd (pc := 312) (ti_rfl l3) (ti_c (v := 2) (a := 2) (by decide)) (by omega) (by omega) dL_law_312 (fun v160 e161 => ?_)
        refine go_sld (pc := 313) (L := L) (i := v160) (fun b s q => q) rfl (ti_in e161 (by omega) (by omega)) dL_law_313 ?_
        refine go_invV (pc := 314) (sl := 32419) (s_X8_hangs2_f l 0 hv151 (xs v158.toNatClampNeg) (xs v160.toNatClampNeg)) mL_L_45 iM_X8_hangs sM_X8_hangs (hv151.sh rfl) rfl rfl rfl (Nat.le_of_ble_eq_true rfl) (Nat.le_of_ble_eq_true rfl) (Nat.le_of_ble_eq_true rfl) (g_cl hv151.ln (Nat.le_of_ble_eq_true rfl)) (Nat.le_of_ble_eq_true rfl) dL_law_314 ?_
        intro r h162 hq _
        obtain ⟨v164, rfl, v164l, v164u, rfl, f163⟩ := hq
        refine go_pop (pc := 317) rfl dL_law_317 ?_
        refine go_goto (pc := 318) (tgt := 654) (by decide) dL_law_318 ?_
        refine gf_iinc (pc := 654) (Nat.le_of_ble_eq_true rfl) rfl (ti_rfl l3) (ti_c (by decide)) (by omega) (by omega) dL_law_654 (fun v165 e166 => ?_)
        refine go_lv (lv2 := [(0, .retAddr 0), (1, .ref 0), (2, .ref 70), (3, .int v165)]) rfl ?_
        refine go_goto (pc := 657) (tgt := 18) (by decide) dL_law_657 ?_
        have zv165 : v165.toInt = l3.toInt + 6 := e166
        exact go_lv rfl (ih v165 _ h151 hv151 ls lh155 hi156 tx157 (by omega) (by omega) (by omega))
      by_cases q167 : w1.toInt = 7
      ·
        refine go_tableIn (pc := 33) (tgt := 321) (off := 288) (by omega) (by omega) (by rw [q167]; rfl) (by decide) dL_law_33 ?_
        refine go_aload_n (pc := 321) rfl dL_law_321 ?_
        refine go_aload_nS (pc := 322) rfl dL_law_322 ?_
        refine go_iload_n (pc := 323) rfl dL_law_323 ?_
        refine go_iconst (pc := 324) (v := 1) (by decide) dL_law_324 ?_
        refine gf_iadd (pc := 325) (ti_rfl l3) (ti_c (v := 1) (a := 1) (by decide)) (by omega) (by omega) dL_law_325 (fun v168 e169 => ?_)
        refine go_sld (pc := 326) (L := L) (i := v168) (fun b s q => q) rfl (ti_in e169 (by omega) (by omega)) dL_law_326 ?_
        refine go_invV (pc := 327) (sl := 32419) (s_X7_begun2_f l 0 hvx (xs v168.toNatClampNeg)) mL_L_46 iM_X7_begun sM_X7_begun (hvx.sh rfl) rfl rfl rfl (Nat.le_of_ble_eq_true rfl) (Nat.le_of_ble_eq_true rfl) (Nat.le_of_ble_eq_true rfl) (g_cl hvx.ln (Nat.le_of_ble_eq_true rfl)) (Nat.le_of_ble_eq_true rfl) dL_law_327 ?_
        intro r h170 hq _
        obtain ⟨v173, rfl, hv170, f171, f172⟩ := hq
        have lh174 : LHs (st h170) := LH.kac f172 lh
        have hi175 : HIS (st h170) := HIS.kac f172 hi
        have tx176 : TXV (st h170) := (by have z : TXV (f_X7_begun2 (st hx) ((xs v168.toNatClampNeg)).toInt).1 := TXV.pq (fun j => (hvx.2.1 74 j).2) hi tx pqf_X7_begun2; rw [← f171] at z; exact z)
        refine go_pop2 (pc := 330) dL_law_330 ?_
        refine go_aload_n (pc := 331) rfl dL_law_331 ?_
        refine go_aload_nS (pc := 332) rfl dL_law_332 ?_
        refine go_iload_n (pc := 333) rfl dL_law_333 ?_
        refine go_iconst (pc := 334) (v := 1) (by decide) dL_law_334 ?_
        refine gf_iadd (pc := 335) (ti_rfl l3) (ti_c (v := 1) (a := 1) (by decide)) (by omega) (by omega) dL_law_335 (fun v177 e178 => ?_)
        refine go_sld (pc := 336) (L := L) (i := v177) (fun b s q => q) rfl (ti_in e178 (by omega) (by omega)) dL_law_336 ?_
        refine go_invV (pc := 337) (sl := 32419) (s_X8_begun2_f l 0 hv170 (xs v177.toNatClampNeg)) mL_L_50 iM_X8_begun sM_X8_begun (hv170.sh rfl) rfl rfl rfl (Nat.le_of_ble_eq_true rfl) (Nat.le_of_ble_eq_true rfl) (Nat.le_of_ble_eq_true rfl) (g_cl hv170.ln (Nat.le_of_ble_eq_true rfl)) (Nat.le_of_ble_eq_true rfl) dL_law_337 ?_
        intro r h179 hq _
        obtain ⟨v181, rfl, rfl, f180⟩ := hq
        refine go_pop2 (pc := 340) dL_law_340 ?_
        refine go_goto (pc := 341) (tgt := 654) (by decide) dL_law_341 ?_
        refine gf_iinc (pc := 654) (Nat.le_of_ble_eq_true rfl) rfl (ti_rfl l3) (ti_c (by decide)) (by omega) (by omega) dL_law_654 (fun v182 e183 => ?_)
        refine go_lv (lv2 := [(0, .retAddr 0), (1, .ref 0), (2, .ref 70), (3, .int v182)]) rfl ?_
        refine go_goto (pc := 657) (tgt := 18) (by decide) dL_law_657 ?_
        have zv182 : v182.toInt = l3.toInt + 6 := e183
        exact go_lv rfl (ih v182 _ h170 hv170 ls lh174 hi175 tx176 (by omega) (by omega) (by omega))
      by_cases q184 : w1.toInt = 8
      ·
        refine go_tableIn (pc := 33) (tgt := 344) (off := 311) (by omega) (by omega) (by rw [q184]; rfl) (by decide) dL_law_33 ?_
        refine go_aload_n (pc := 344) rfl dL_law_344 ?_
        refine go_aload_nS (pc := 345) rfl dL_law_345 ?_
        refine go_iload_n (pc := 346) rfl dL_law_346 ?_
        refine go_iconst (pc := 347) (v := 1) (by decide) dL_law_347 ?_
        refine gf_iadd (pc := 348) (ti_rfl l3) (ti_c (v := 1) (a := 1) (by decide)) (by omega) (by omega) dL_law_348 (fun v185 e186 => ?_)
        refine go_sld (pc := 349) (L := L) (i := v185) (fun b s q => q) rfl (ti_in e186 (by omega) (by omega)) dL_law_349 ?_
        refine go_aload_nS (pc := 350) rfl dL_law_350 ?_
        refine go_iload_n (pc := 351) rfl dL_law_351 ?_
        refine go_iconst (pc := 352) (v := 2) (by decide) dL_law_352 ?_
        refine gf_iadd (pc := 353) (ti_rfl l3) (ti_c (v := 2) (a := 2) (by decide)) (by omega) (by omega) dL_law_353 (fun v187 e188 => ?_)
        refine go_sld (pc := 354) (L := L) (i := v187) (fun b s q => q) rfl (ti_in e188 (by omega) (by omega)) dL_law_354 ?_
        refine go_aload_nS (pc := 355) rfl dL_law_355 ?_
        refine go_iload_n (pc := 356) rfl dL_law_356 ?_
        refine go_iconst (pc := 357) (v := 3) (by decide) dL_law_357 ?_
        refine gf_iadd (pc := 358) (ti_rfl l3) (ti_c (v := 3) (a := 3) (by decide)) (by omega) (by omega) dL_law_358 (fun v189 e190 => ?_)
        refine go_sld (pc := 359) (L := L) (i := v189) (fun b s q => q) rfl (ti_in e190 (by omega) (by omega)) dL_law_359 ?_
        refine go_invV (pc := 360) (sl := 32419) (s_X7_summary2_f l 0 hvx (xs v185.toNatClampNeg) (xs v187.toNatClampNeg) (xs v189.toNatClampNeg)) mL_L_51 iM_X7_summary sM_X7_summary (hvx.sh rfl) rfl rfl rfl (Nat.le_of_ble_eq_true rfl) (Nat.le_of_ble_eq_true rfl) (Nat.le_of_ble_eq_true rfl) (g_cl hvx.ln (Nat.le_of_ble_eq_true rfl)) (Nat.le_of_ble_eq_true rfl) dL_law_360 ?_
        intro r h191 hq _
        obtain ⟨v194, rfl, v194l, v194u, hv191, f192, f193⟩ := hq
        have lh195 : LHs (st h191) := LH.kac f193 lh
        have hi196 : HIS (st h191) := HIS.kac f193 hi
        have tx197 : TXV (st h191) := (by have z : TXV (f_X7_summary2 (st hx) ((xs v185.toNatClampNeg)).toInt ((xs v187.toNatClampNeg)).toInt ((xs v189.toNatClampNeg)).toInt).1 := TXV.pq (fun j => (hvx.2.1 74 j).2) hi tx pqf_X7_summary2; rw [← f192] at z; exact z)
        refine go_pop (pc := 363) rfl dL_law_363 ?_
        refine go_aload_n (pc := 364) rfl dL_law_364 ?_
        refine go_aload_nS (pc := 365) rfl dL_law_365 ?_
        refine go_iload_n (pc := 366) rfl dL_law_366 ?_
        refine go_iconst (pc := 367) (v := 1) (by decide) dL_law_367 ?_
        refine gf_iadd (pc := 368) (ti_rfl l3) (ti_c (v := 1) (a := 1) (by decide)) (by omega) (by omega) dL_law_368 (fun v198 e199 => ?_)
        refine go_sld (pc := 369) (L := L) (i := v198) (fun b s q => q) rfl (ti_in e199 (by omega) (by omega)) dL_law_369 ?_
        refine go_aload_nS (pc := 370) rfl dL_law_370 ?_
        refine go_iload_n (pc := 371) rfl dL_law_371 ?_
        refine go_iconst (pc := 372) (v := 2) (by decide) dL_law_372 ?_
        refine gf_iadd (pc := 373) (ti_rfl l3) (ti_c (v := 2) (a := 2) (by decide)) (by omega) (by omega) dL_law_373 (fun v200 e201 => ?_)
        refine go_sld (pc := 374) (L := L) (i := v200) (fun b s q => q) rfl (ti_in e201 (by omega) (by omega)) dL_law_374 ?_
        refine go_aload_nS (pc := 375) rfl dL_law_375 ?_
        refine go_iload_n (pc := 376) rfl dL_law_376 ?_
        refine go_iconst (pc := 377) (v := 3) (by decide) dL_law_377 ?_
        refine gf_iadd (pc := 378) (ti_rfl l3) (ti_c (v := 3) (a := 3) (by decide)) (by omega) (by omega) dL_law_378 (fun v202 e203 => ?_)
        refine go_sld (pc := 379) (L := L) (i := v202) (fun b s q => q) rfl (ti_in e203 (by omega) (by omega)) dL_law_379 ?_
        refine go_invV (pc := 380) (sl := 32419) (s_X8_summary2_f l 0 hv191 (xs v198.toNatClampNeg) (xs v200.toNatClampNeg) (xs v202.toNatClampNeg) (LF.cp lf)) mL_L_55 iM_X8_summary sM_X8_summary (hv191.sh rfl) rfl rfl rfl (Nat.le_of_ble_eq_true rfl) (Nat.le_of_ble_eq_true rfl) (Nat.le_of_ble_eq_true rfl) (g_cl hv191.ln (Nat.le_of_ble_eq_true rfl)) (Nat.le_of_ble_eq_true rfl) dL_law_380 ?_
        intro r h204 hq _
        obtain ⟨v207, rfl, v207l, v207u, hv204, f205, f206⟩ := hq
        have lf208 := LF.ogs lf
        have ls209 := LSt.ogs ls
        have lh210 : LHs (st h204) := LH.kar (FX.mono (fun c j z => by unfold KAr at z; unfold KAq; omega) f206) lh195
        have hi211 : HIS (st h204) := HIS.kar (FX.mono (fun c j z => by unfold KAr at z; unfold KAq; omega) f206) hi196
        have tx212 : TXV (st h204) := TXV.kaq f206 hi196 tx197
        refine go_pop (pc := 383) rfl dL_law_383 ?_
        refine go_goto (pc := 384) (tgt := 654) (by decide) dL_law_384 ?_
        refine gf_iinc (pc := 654) (Nat.le_of_ble_eq_true rfl) rfl (ti_rfl l3) (ti_c (by decide)) (by omega) (by omega) dL_law_654 (fun v213 e214 => ?_)
        refine go_lv (lv2 := [(0, .retAddr 0), (1, .ref 0), (2, .ref 70), (3, .int v213)]) rfl ?_
        refine go_goto (pc := 657) (tgt := 18) (by decide) dL_law_657 ?_
        have zv213 : v213.toInt = l3.toInt + 6 := e214
        exact go_lv rfl (ih v213 _ h204 hv204 ls209 lh210 hi211 tx212 (by omega) (by omega) (by omega))
      by_cases q215 : w1.toInt = 9
      ·
        refine go_tableIn (pc := 33) (tgt := 387) (off := 354) (by omega) (by omega) (by rw [q215]; rfl) (by decide) dL_law_33 ?_
        refine go_aload_n (pc := 387) rfl dL_law_387 ?_
        refine go_aload_nS (pc := 388) rfl dL_law_388 ?_
        refine go_iload_n (pc := 389) rfl dL_law_389 ?_
        refine go_iconst (pc := 390) (v := 1) (by decide) dL_law_390 ?_
        refine gf_iadd (pc := 391) (ti_rfl l3) (ti_c (v := 1) (a := 1) (by decide)) (by omega) (by omega) dL_law_391 (fun v216 e217 => ?_)
        refine go_sld (pc := 392) (L := L) (i := v216) (fun b s q => q) rfl (ti_in e217 (by omega) (by omega)) dL_law_392 ?_
        refine go_invV (pc := 393) (sl := 32419) (s_X7_back2_f l 0 hvx (xs v216.toNatClampNeg)) mL_L_56 iM_X7_back sM_X7_back (hvx.sh rfl) rfl rfl rfl (Nat.le_of_ble_eq_true rfl) (Nat.le_of_ble_eq_true rfl) (Nat.le_of_ble_eq_true rfl) (g_cl hvx.ln (Nat.le_of_ble_eq_true rfl)) (Nat.le_of_ble_eq_true rfl) dL_law_393 ?_
        intro r h218 hq _
        obtain ⟨v221, rfl, hv218, f219, f220⟩ := hq
        have lh222 : LHs (st h218) := LH.kac f220 lh
        have hi223 : HIS (st h218) := HIS.kac f220 hi
        have tx224 : TXV (st h218) := (by have z : TXV (f_X7_back2 (st hx) ((xs v216.toNatClampNeg)).toInt).1 := TXV.pq (fun j => (hvx.2.1 74 j).2) hi tx pqf_X7_back2; rw [← f219] at z; exact z)
        refine go_pop2 (pc := 396) dL_law_396 ?_
        refine go_aload_n (pc := 397) rfl dL_law_397 ?_
        refine go_aload_nS (pc := 398) rfl dL_law_398 ?_
        refine go_iload_n (pc := 399) rfl dL_law_399 ?_
        refine go_iconst (pc := 400) (v := 1) (by decide) dL_law_400 ?_
        refine gf_iadd (pc := 401) (ti_rfl l3) (ti_c (v := 1) (a := 1) (by decide)) (by omega) (by omega) dL_law_401 (fun v225 e226 => ?_)
        refine go_sld (pc := 402) (L := L) (i := v225) (fun b s q => q) rfl (ti_in e226 (by omega) (by omega)) dL_law_402 ?_
        refine go_invV (pc := 403) (sl := 32419) (s_X8_back2_f l 0 hv218 (xs v225.toNatClampNeg)) mL_L_59 iM_X8_back sM_X8_back (hv218.sh rfl) rfl rfl rfl (Nat.le_of_ble_eq_true rfl) (Nat.le_of_ble_eq_true rfl) (Nat.le_of_ble_eq_true rfl) (g_cl hv218.ln (Nat.le_of_ble_eq_true rfl)) (Nat.le_of_ble_eq_true rfl) dL_law_403 ?_
        intro r h227 hq _
        obtain ⟨v229, rfl, rfl, f228⟩ := hq
        refine go_pop2 (pc := 406) dL_law_406 ?_
        refine go_goto (pc := 407) (tgt := 654) (by decide) dL_law_407 ?_
        refine gf_iinc (pc := 654) (Nat.le_of_ble_eq_true rfl) rfl (ti_rfl l3) (ti_c (by decide)) (by omega) (by omega) dL_law_654 (fun v230 e231 => ?_)
        refine go_lv (lv2 := [(0, .retAddr 0), (1, .ref 0), (2, .ref 70), (3, .int v230)]) rfl ?_
        refine go_goto (pc := 657) (tgt := 18) (by decide) dL_law_657 ?_
        have zv230 : v230.toInt = l3.toInt + 6 := e231
        exact go_lv rfl (ih v230 _ h218 hv218 ls lh222 hi223 tx224 (by omega) (by omega) (by omega))
      by_cases q232 : w1.toInt = 10
      ·
        refine go_tableIn (pc := 33) (tgt := 410) (off := 377) (by omega) (by omega) (by rw [q232]; rfl) (by decide) dL_law_33 ?_
        refine go_aload_n (pc := 410) rfl dL_law_410 ?_
        refine go_aload_nS (pc := 411) rfl dL_law_411 ?_
        refine go_iload_n (pc := 412) rfl dL_law_412 ?_
        refine go_iconst (pc := 413) (v := 1) (by decide) dL_law_413 ?_
        refine gf_iadd (pc := 414) (ti_rfl l3) (ti_c (v := 1) (a := 1) (by decide)) (by omega) (by omega) dL_law_414 (fun v233 e234 => ?_)
        refine go_sld (pc := 415) (L := L) (i := v233) (fun b s q => q) rfl (ti_in e234 (by omega) (by omega)) dL_law_415 ?_
        refine go_invV (pc := 416) (sl := 32419) (s_X7_forth2_f l 0 hvx (xs v233.toNatClampNeg)) mL_L_60 iM_X7_forth sM_X7_forth (hvx.sh rfl) rfl rfl rfl (Nat.le_of_ble_eq_true rfl) (Nat.le_of_ble_eq_true rfl) (Nat.le_of_ble_eq_true rfl) (g_cl hvx.ln (Nat.le_of_ble_eq_true rfl)) (Nat.le_of_ble_eq_true rfl) dL_law_416 ?_
        intro r h235 hq _
        obtain ⟨v238, rfl, hv235, f236, f237⟩ := hq
        have lh239 : LHs (st h235) := LH.kac f237 lh
        have hi240 : HIS (st h235) := HIS.kac f237 hi
        have tx241 : TXV (st h235) := (by have z : TXV (f_X7_forth2 (st hx) ((xs v233.toNatClampNeg)).toInt).1 := TXV.pq (fun j => (hvx.2.1 74 j).2) hi tx pqf_X7_forth2; rw [← f236] at z; exact z)
        refine go_pop2 (pc := 419) dL_law_419 ?_
        refine go_aload_n (pc := 420) rfl dL_law_420 ?_
        refine go_aload_nS (pc := 421) rfl dL_law_421 ?_
        refine go_iload_n (pc := 422) rfl dL_law_422 ?_
        refine go_iconst (pc := 423) (v := 1) (by decide) dL_law_423 ?_
        refine gf_iadd (pc := 424) (ti_rfl l3) (ti_c (v := 1) (a := 1) (by decide)) (by omega) (by omega) dL_law_424 (fun v242 e243 => ?_)
        refine go_sld (pc := 425) (L := L) (i := v242) (fun b s q => q) rfl (ti_in e243 (by omega) (by omega)) dL_law_425 ?_
        refine go_invV (pc := 426) (sl := 32419) (s_X8_forth2_f l 0 hv235 (xs v242.toNatClampNeg)) mL_L_63 iM_X8_forth sM_X8_forth (hv235.sh rfl) rfl rfl rfl (Nat.le_of_ble_eq_true rfl) (Nat.le_of_ble_eq_true rfl) (Nat.le_of_ble_eq_true rfl) (g_cl hv235.ln (Nat.le_of_ble_eq_true rfl)) (Nat.le_of_ble_eq_true rfl) dL_law_426 ?_
        intro r h244 hq _
        obtain ⟨v246, rfl, rfl, f245⟩ := hq
        refine go_pop2 (pc := 429) dL_law_429 ?_
        refine go_goto (pc := 430) (tgt := 654) (by decide) dL_law_430 ?_
        refine gf_iinc (pc := 654) (Nat.le_of_ble_eq_true rfl) rfl (ti_rfl l3) (ti_c (by decide)) (by omega) (by omega) dL_law_654 (fun v247 e248 => ?_)
        refine go_lv (lv2 := [(0, .retAddr 0), (1, .ref 0), (2, .ref 70), (3, .int v247)]) rfl ?_
        refine go_goto (pc := 657) (tgt := 18) (by decide) dL_law_657 ?_
        have zv247 : v247.toInt = l3.toInt + 6 := e248
        exact go_lv rfl (ih v247 _ h235 hv235 ls lh239 hi240 tx241 (by omega) (by omega) (by omega))
      by_cases q249 : w1.toInt = 11
      ·
        refine go_tableIn (pc := 33) (tgt := 433) (off := 400) (by omega) (by omega) (by rw [q249]; rfl) (by decide) dL_law_33 ?_
        refine go_aload_n (pc := 433) rfl dL_law_433 ?_
        refine go_aload_nS (pc := 434) rfl dL_law_434 ?_
        refine go_iload_n (pc := 435) rfl dL_law_435 ?_
        refine go_iconst (pc := 436) (v := 1) (by decide) dL_law_436 ?_
        refine gf_iadd (pc := 437) (ti_rfl l3) (ti_c (v := 1) (a := 1) (by decide)) (by omega) (by omega) dL_law_437 (fun v250 e251 => ?_)
        refine go_sld (pc := 438) (L := L) (i := v250) (fun b s q => q) rfl (ti_in e251 (by omega) (by omega)) dL_law_438 ?_
        refine go_aload_nS (pc := 439) rfl dL_law_439 ?_
        refine go_iload_n (pc := 440) rfl dL_law_440 ?_
        refine go_iconst (pc := 441) (v := 2) (by decide) dL_law_441 ?_
        refine gf_iadd (pc := 442) (ti_rfl l3) (ti_c (v := 2) (a := 2) (by decide)) (by omega) (by omega) dL_law_442 (fun v252 e253 => ?_)
        refine go_sld (pc := 443) (L := L) (i := v252) (fun b s q => q) rfl (ti_in e253 (by omega) (by omega)) dL_law_443 ?_
        refine go_invV (pc := 444) (sl := 32419) (s_X7_between2_f l 0 hvx (xs v250.toNatClampNeg) (xs v252.toNatClampNeg)) mL_L_64 iM_X7_between sM_X7_between (hvx.sh rfl) rfl rfl rfl (Nat.le_of_ble_eq_true rfl) (Nat.le_of_ble_eq_true rfl) (Nat.le_of_ble_eq_true rfl) (g_cl hvx.ln (Nat.le_of_ble_eq_true rfl)) (Nat.le_of_ble_eq_true rfl) dL_law_444 ?_
        intro r h254 hq _
        obtain ⟨v257, rfl, hv254, f255, f256⟩ := hq
        have lh258 : LHs (st h254) := LH.kac f256 lh
        have hi259 : HIS (st h254) := HIS.kac f256 hi
        have tx260 : TXV (st h254) := (by have z : TXV (f_X7_between2 (st hx) ((xs v250.toNatClampNeg)).toInt ((xs v252.toNatClampNeg)).toInt).1 := TXV.pq (fun j => (hvx.2.1 74 j).2) hi tx pqf_X7_between2; rw [← f255] at z; exact z)
        refine go_pop2 (pc := 447) dL_law_447 ?_
        refine go_aload_n (pc := 448) rfl dL_law_448 ?_
        refine go_aload_nS (pc := 449) rfl dL_law_449 ?_
        refine go_iload_n (pc := 450) rfl dL_law_450 ?_
        refine go_iconst (pc := 451) (v := 1) (by decide) dL_law_451 ?_
        refine gf_iadd (pc := 452) (ti_rfl l3) (ti_c (v := 1) (a := 1) (by decide)) (by omega) (by omega) dL_law_452 (fun v261 e262 => ?_)
        refine go_sld (pc := 453) (L := L) (i := v261) (fun b s q => q) rfl (ti_in e262 (by omega) (by omega)) dL_law_453 ?_
        refine go_aload_nS (pc := 454) rfl dL_law_454 ?_
        refine go_iload_n (pc := 455) rfl dL_law_455 ?_
        refine go_iconst (pc := 456) (v := 2) (by decide) dL_law_456 ?_
        refine gf_iadd (pc := 457) (ti_rfl l3) (ti_c (v := 2) (a := 2) (by decide)) (by omega) (by omega) dL_law_457 (fun v263 e264 => ?_)
        refine go_sld (pc := 458) (L := L) (i := v263) (fun b s q => q) rfl (ti_in e264 (by omega) (by omega)) dL_law_458 ?_
        refine go_invV (pc := 459) (sl := 32419) (s_X8_between2_f l 0 hv254 (xs v261.toNatClampNeg) (xs v263.toNatClampNeg)) mL_L_68 iM_X8_between sM_X8_between (hv254.sh rfl) rfl rfl rfl (Nat.le_of_ble_eq_true rfl) (Nat.le_of_ble_eq_true rfl) (Nat.le_of_ble_eq_true rfl) (g_cl hv254.ln (Nat.le_of_ble_eq_true rfl)) (Nat.le_of_ble_eq_true rfl) dL_law_459 ?_
        intro r h265 hq _
        obtain ⟨v267, rfl, rfl, f266⟩ := hq
        refine go_pop2 (pc := 462) dL_law_462 ?_
        refine go_goto (pc := 463) (tgt := 654) (by decide) dL_law_463 ?_
        refine gf_iinc (pc := 654) (Nat.le_of_ble_eq_true rfl) rfl (ti_rfl l3) (ti_c (by decide)) (by omega) (by omega) dL_law_654 (fun v268 e269 => ?_)
        refine go_lv (lv2 := [(0, .retAddr 0), (1, .ref 0), (2, .ref 70), (3, .int v268)]) rfl ?_
        refine go_goto (pc := 657) (tgt := 18) (by decide) dL_law_657 ?_
        have zv268 : v268.toInt = l3.toInt + 6 := e269
        exact go_lv rfl (ih v268 _ h254 hv254 ls lh258 hi259 tx260 (by omega) (by omega) (by omega))
      by_cases q270 : w1.toInt = 12
      ·
        refine go_tableIn (pc := 33) (tgt := 466) (off := 433) (by omega) (by omega) (by rw [q270]; rfl) (by decide) dL_law_33 ?_
        refine go_aload_n (pc := 466) rfl dL_law_466 ?_
        refine go_aload_nS (pc := 467) rfl dL_law_467 ?_
        refine go_iload_n (pc := 468) rfl dL_law_468 ?_
        refine go_iconst (pc := 469) (v := 1) (by decide) dL_law_469 ?_
        refine gf_iadd (pc := 470) (ti_rfl l3) (ti_c (v := 1) (a := 1) (by decide)) (by omega) (by omega) dL_law_470 (fun v271 e272 => ?_)
        refine go_sld (pc := 471) (L := L) (i := v271) (fun b s q => q) rfl (ti_in e272 (by omega) (by omega)) dL_law_471 ?_
        refine go_aload_nS (pc := 472) rfl dL_law_472 ?_
        refine go_iload_n (pc := 473) rfl dL_law_473 ?_
        refine go_iconst (pc := 474) (v := 2) (by decide) dL_law_474 ?_
        refine gf_iadd (pc := 475) (ti_rfl l3) (ti_c (v := 2) (a := 2) (by decide)) (by omega) (by omega) dL_law_475 (fun v273 e274 => ?_)
        refine go_sld (pc := 476) (L := L) (i := v273) (fun b s q => q) rfl (ti_in e274 (by omega) (by omega)) dL_law_476 ?_
        refine go_invV (pc := 477) (sl := 32419) (s_X7_backOf2_f l 0 hvx (xs v271.toNatClampNeg) (xs v273.toNatClampNeg)) mL_L_69 iM_X7_backOf sM_X7_backOf (hvx.sh rfl) rfl rfl rfl (Nat.le_of_ble_eq_true rfl) (Nat.le_of_ble_eq_true rfl) (Nat.le_of_ble_eq_true rfl) (g_cl hvx.ln (Nat.le_of_ble_eq_true rfl)) (Nat.le_of_ble_eq_true rfl) dL_law_477 ?_
        intro r h275 hq _
        obtain ⟨v278, rfl, hv275, f276, f277⟩ := hq
        have lh279 : LHs (st h275) := LH.kac f277 lh
        have hi280 : HIS (st h275) := HIS.kac f277 hi
        have tx281 : TXV (st h275) := (by have z : TXV (f_X7_backOf2 (st hx) ((xs v271.toNatClampNeg)).toInt ((xs v273.toNatClampNeg)).toInt).1 := TXV.pq (fun j => (hvx.2.1 74 j).2) hi tx pqf_X7_backOf2; rw [← f276] at z; exact z)
        refine go_pop2 (pc := 480) dL_law_480 ?_
        refine go_aload_n (pc := 481) rfl dL_law_481 ?_
        refine go_aload_nS (pc := 482) rfl dL_law_482 ?_
        refine go_iload_n (pc := 483) rfl dL_law_483 ?_
        refine go_iconst (pc := 484) (v := 1) (by decide) dL_law_484 ?_
        refine gf_iadd (pc := 485) (ti_rfl l3) (ti_c (v := 1) (a := 1) (by decide)) (by omega) (by omega) dL_law_485 (fun v282 e283 => ?_)
        refine go_sld (pc := 486) (L := L) (i := v282) (fun b s q => q) rfl (ti_in e283 (by omega) (by omega)) dL_law_486 ?_
        refine go_aload_nS (pc := 487) rfl dL_law_487 ?_
        refine go_iload_n (pc := 488) rfl dL_law_488 ?_
        refine go_iconst (pc := 489) (v := 2) (by decide) dL_law_489 ?_
        refine gf_iadd (pc := 490) (ti_rfl l3) (ti_c (v := 2) (a := 2) (by decide)) (by omega) (by omega) dL_law_490 (fun v284 e285 => ?_)
        refine go_sld (pc := 491) (L := L) (i := v284) (fun b s q => q) rfl (ti_in e285 (by omega) (by omega)) dL_law_491 ?_
        refine go_invV (pc := 492) (sl := 32419) (s_X8_backOf2_f l 0 hv275 (xs v282.toNatClampNeg) (xs v284.toNatClampNeg) (LF.ck lf hv275)) mL_L_72 iM_X8_backOf sM_X8_backOf (hv275.sh rfl) rfl rfl rfl (Nat.le_of_ble_eq_true rfl) (Nat.le_of_ble_eq_true rfl) (Nat.le_of_ble_eq_true rfl) (g_cl hv275.ln (Nat.le_of_ble_eq_true rfl)) (Nat.le_of_ble_eq_true rfl) dL_law_492 ?_
        intro r h286 hq _
        obtain ⟨v289, rfl, hv286, f287, f288⟩ := hq
        have lf290 := LF.ogs lf
        have ls291 := LSt.ogs ls
        have lh292 : LHs (st h286) := LH.kar (FX.mono (fun c j z => by unfold KAr at z; unfold KAq; omega) f288) lh279
        have hi293 : HIS (st h286) := HIS.kar (FX.mono (fun c j z => by unfold KAr at z; unfold KAq; omega) f288) hi280
        have tx294 : TXV (st h286) := TXV.kaq f288 hi280 tx281
        refine go_pop2 (pc := 495) dL_law_495 ?_
        refine go_goto (pc := 496) (tgt := 654) (by decide) dL_law_496 ?_
        refine gf_iinc (pc := 654) (Nat.le_of_ble_eq_true rfl) rfl (ti_rfl l3) (ti_c (by decide)) (by omega) (by omega) dL_law_654 (fun v295 e296 => ?_)
        refine go_lv (lv2 := [(0, .retAddr 0), (1, .ref 0), (2, .ref 70), (3, .int v295)]) rfl ?_
        refine go_goto (pc := 657) (tgt := 18) (by decide) dL_law_657 ?_
        have zv295 : v295.toInt = l3.toInt + 6 := e296
        exact go_lv rfl (ih v295 _ h286 hv286 ls291 lh292 hi293 tx294 (by omega) (by omega) (by omega))
      by_cases q297 : w1.toInt = 13
      ·
        refine go_tableIn (pc := 33) (tgt := 499) (off := 466) (by omega) (by omega) (by rw [q297]; rfl) (by decide) dL_law_33 ?_
        refine go_aload_n (pc := 499) rfl dL_law_499 ?_
        refine go_aload_nS (pc := 500) rfl dL_law_500 ?_
        refine go_iload_n (pc := 501) rfl dL_law_501 ?_
        refine go_iconst (pc := 502) (v := 1) (by decide) dL_law_502 ?_
        refine gf_iadd (pc := 503) (ti_rfl l3) (ti_c (v := 1) (a := 1) (by decide)) (by omega) (by omega) dL_law_503 (fun v298 e299 => ?_)
        refine go_sld (pc := 504) (L := L) (i := v298) (fun b s q => q) rfl (ti_in e299 (by omega) (by omega)) dL_law_504 ?_
        refine go_invV (pc := 505) (sl := 32419) (s_X7_kept2_f l 0 hvx (xs v298.toNatClampNeg)) mL_L_73 iM_X7_kept sM_X7_kept (hvx.sh rfl) rfl rfl rfl (Nat.le_of_ble_eq_true rfl) (Nat.le_of_ble_eq_true rfl) (Nat.le_of_ble_eq_true rfl) (g_cl hvx.ln (Nat.le_of_ble_eq_true rfl)) (Nat.le_of_ble_eq_true rfl) dL_law_505 ?_
        intro r h300 hq _
        obtain ⟨v303, rfl, hv300, f301, f302⟩ := hq
        have lh304 : LHs (st h300) := LH.kac f301 lh
        have hi305 : HIS (st h300) := HIS.kac f301 hi
        have tx306 : TXV (st h300) := TXV.kp (fun j => (hvx.2.1 74 j).2) hi hi305 tx f302
        refine go_pop2 (pc := 508) dL_law_508 ?_
        refine go_aload_n (pc := 509) rfl dL_law_509 ?_
        refine go_aload_nS (pc := 510) rfl dL_law_510 ?_
        refine go_iload_n (pc := 511) rfl dL_law_511 ?_
        refine go_iconst (pc := 512) (v := 1) (by decide) dL_law_512 ?_
        refine gf_iadd (pc := 513) (ti_rfl l3) (ti_c (v := 1) (a := 1) (by decide)) (by omega) (by omega) dL_law_513 (fun v307 e308 => ?_)
        refine go_sld (pc := 514) (L := L) (i := v307) (fun b s q => q) rfl (ti_in e308 (by omega) (by omega)) dL_law_514 ?_
        refine go_invV (pc := 515) (sl := 32419) (s_X8_kept2_f l 0 hv300 (xs v307.toNatClampNeg) (LF.ck lf hv300)) mL_L_76 iM_X8_kept sM_X8_kept (hv300.sh rfl) rfl rfl rfl (Nat.le_of_ble_eq_true rfl) (Nat.le_of_ble_eq_true rfl) (Nat.le_of_ble_eq_true rfl) (g_cl hv300.ln (Nat.le_of_ble_eq_true rfl)) (Nat.le_of_ble_eq_true rfl) dL_law_515 ?_
        intro r h309 hq _
        obtain ⟨v313, rfl, ⟨Q310, hv309, sq311⟩, f312⟩ := hq
        have ls314 := LSt.sq ls sq311
        have lh315 : LHs (st h309) := LH.kar (FX.mono (fun c j z => by unfold KAr at z; unfold KAq; omega) f312) lh304
        have hi316 : HIS (st h309) := HIS.kar (FX.mono (fun c j z => by unfold KAr at z; unfold KAq; omega) f312) hi305
        have tx317 : TXV (st h309) := TXV.kaq f312 hi305 tx306
        refine go_pop2 (pc := 518) dL_law_518 ?_
        refine go_goto (pc := 519) (tgt := 654) (by decide) dL_law_519 ?_
        refine gf_iinc (pc := 654) (Nat.le_of_ble_eq_true rfl) rfl (ti_rfl l3) (ti_c (by decide)) (by omega) (by omega) dL_law_654 (fun v318 e319 => ?_)
        refine go_lv (lv2 := [(0, .retAddr 0), (1, .ref 0), (2, .ref 70), (3, .int v318)]) rfl ?_
        refine go_goto (pc := 657) (tgt := 18) (by decide) dL_law_657 ?_
        have zv318 : v318.toInt = l3.toInt + 6 := e319
        exact go_lv rfl (ih v318 _ h309 hv309 ls314 lh315 hi316 tx317 (by omega) (by omega) (by omega))
      by_cases q320 : w1.toInt = 14
      ·
        refine go_tableIn (pc := 33) (tgt := 522) (off := 489) (by omega) (by omega) (by rw [q320]; rfl) (by decide) dL_law_33 ?_
        refine go_aload_n (pc := 522) rfl dL_law_522 ?_
        refine go_aload_nS (pc := 523) rfl dL_law_523 ?_
        refine go_iload_n (pc := 524) rfl dL_law_524 ?_
        refine go_iconst (pc := 525) (v := 1) (by decide) dL_law_525 ?_
        refine gf_iadd (pc := 526) (ti_rfl l3) (ti_c (v := 1) (a := 1) (by decide)) (by omega) (by omega) dL_law_526 (fun v321 e322 => ?_)
        refine go_sld (pc := 527) (L := L) (i := v321) (fun b s q => q) rfl (ti_in e322 (by omega) (by omega)) dL_law_527 ?_
        refine go_aload_nS (pc := 528) rfl dL_law_528 ?_
        refine go_iload_n (pc := 529) rfl dL_law_529 ?_
        refine go_iconst (pc := 530) (v := 2) (by decide) dL_law_530 ?_
        refine gf_iadd (pc := 531) (ti_rfl l3) (ti_c (v := 2) (a := 2) (by decide)) (by omega) (by omega) dL_law_531 (fun v323 e324 => ?_)
        refine go_sld (pc := 532) (L := L) (i := v323) (fun b s q => q) rfl (ti_in e324 (by omega) (by omega)) dL_law_532 ?_
        refine go_invV (pc := 533) (sl := 32419) (s_X7_run2_f l 0 hvx (xs v321.toNatClampNeg) (xs v323.toNatClampNeg)) mL_L_77 iM_X7_run sM_X7_run (hvx.sh rfl) rfl rfl rfl (Nat.le_of_ble_eq_true rfl) (Nat.le_of_ble_eq_true rfl) (Nat.le_of_ble_eq_true rfl) (g_cl hvx.ln (Nat.le_of_ble_eq_true rfl)) (Nat.le_of_ble_eq_true rfl) dL_law_533 ?_
        intro r h325 hq _
        obtain ⟨v328, rfl, v328l, v328u, hv325, f326, f327⟩ := hq
        have lh329 : LHs (st h325) := LH.kac (FX.mono (fun c j z => by unfold KAc at z; unfold KAm; omega) f327) lh
        have hi330 : HIS (st h325) := HIS.kac (FX.mono (fun c j z => by unfold KAc at z; unfold KAm; omega) f327) hi
        have tx331 : TXV (st h325) := TXV.kam f327 hi tx
        refine go_aload_n (pc := 536) rfl dL_law_536 ?_
        refine go_aload_nS (pc := 537) rfl dL_law_537 ?_
        refine go_iload_n (pc := 538) rfl dL_law_538 ?_
        refine go_iconst (pc := 539) (v := 1) (by decide) dL_law_539 ?_
        refine gf_iadd (pc := 540) (ti_rfl l3) (ti_c (v := 1) (a := 1) (by decide)) (by omega) (by omega) dL_law_540 (fun v332 e333 => ?_)
        refine go_sld (pc := 541) (L := L) (i := v332) (fun b s q => q) rfl (ti_in e333 (by omega) (by omega)) dL_law_541 ?_
        refine go_aload_nS (pc := 542) rfl dL_law_542 ?_
        refine go_iload_n (pc := 543) rfl dL_law_543 ?_
        refine go_iconst (pc := 544) (v := 2) (by decide) dL_law_544 ?_
        refine gf_iadd (pc := 545) (ti_rfl l3) (ti_c (v := 2) (a := 2) (by decide)) (by omega) (by omega) dL_law_545 (fun v334 e335 => ?_)
        refine go_sld (pc := 546) (L := L) (i := v334) (fun b s q => q) rfl (ti_in e335 (by omega) (by omega)) dL_law_546 ?_
        refine go_invV (pc := 547) (sl := 32419) (s_X8_run_f l 0 hv325 (xs v332.toNatClampNeg) (xs v334.toNatClampNeg) (LF.ck lf hv325) (LF.lv lf hv325)) mL_L_80 iM_X8_run sM_X8_run (hv325.sh rfl) rfl rfl rfl (Nat.le_of_ble_eq_true rfl) (Nat.le_of_ble_eq_true rfl) (Nat.le_of_ble_eq_true rfl) (g_cl hv325.ln (Nat.le_of_ble_eq_true rfl)) (Nat.le_of_ble_eq_true rfl) dL_law_547 ?_
        intro r h336 hq _
        obtain ⟨v341, rfl, v341l, v341u, ⟨Q337, hv336, sq338⟩, f339, f340⟩ := hq
        have ls342 := LSt.sq ls sq338
        have lh343 : LHs (st h336) := LH.kar (FX.mono (fun c j z => by unfold KAr at z; unfold KAq; omega) f340) lh329
        have hi344 : HIS (st h336) := HIS.kar (FX.mono (fun c j z => by unfold KAr at z; unfold KAq; omega) f340) hi330
        have tx345 : TXV (st h336) := TXV.kaq f340 hi330 tx331
        have lpe : v328.toInt = v341.toInt := run_law (fun j => (hvx.2.1 74 j).2) (fun j => (hvx.2.1 82 j).2) (hv336.2.1 70 53).2 hi f327 f326 f339 (LX e322 e333) (LX e324 e335)
        refine gf_icmp_eq (pc := 550) (tgt := 654) (ti_rfl v328) (ti_rfl v341) (by decide) dL_law_550 (fun q9 => ?_) (fun q9 => False.elim (by omega))
        refine gf_iinc (pc := 654) (Nat.le_of_ble_eq_true rfl) rfl (ti_rfl l3) (ti_c (by decide)) (by omega) (by omega) dL_law_654 (fun v346 e347 => ?_)
        refine go_lv (lv2 := [(0, .retAddr 0), (1, .ref 0), (2, .ref 70), (3, .int v346)]) rfl ?_
        refine go_goto (pc := 657) (tgt := 18) (by decide) dL_law_657 ?_
        have zv346 : v346.toInt = l3.toInt + 6 := e347
        exact go_lv rfl (ih v346 _ h336 hv336 ls342 lh343 hi344 tx345 (by omega) (by omega) (by omega))
      by_cases q348 : w1.toInt = 15
      ·
        refine go_tableIn (pc := 33) (tgt := 555) (off := 522) (by omega) (by omega) (by rw [q348]; rfl) (by decide) dL_law_33 ?_
        refine go_aload_n (pc := 555) rfl dL_law_555 ?_
        refine go_aload_nS (pc := 556) rfl dL_law_556 ?_
        refine go_iload_n (pc := 557) rfl dL_law_557 ?_
        refine go_iconst (pc := 558) (v := 1) (by decide) dL_law_558 ?_
        refine gf_iadd (pc := 559) (ti_rfl l3) (ti_c (v := 1) (a := 1) (by decide)) (by omega) (by omega) dL_law_559 (fun v349 e350 => ?_)
        refine go_sld (pc := 560) (L := L) (i := v349) (fun b s q => q) rfl (ti_in e350 (by omega) (by omega)) dL_law_560 ?_
        refine go_aload_nS (pc := 561) rfl dL_law_561 ?_
        refine go_iload_n (pc := 562) rfl dL_law_562 ?_
        refine go_iconst (pc := 563) (v := 2) (by decide) dL_law_563 ?_
        refine gf_iadd (pc := 564) (ti_rfl l3) (ti_c (v := 2) (a := 2) (by decide)) (by omega) (by omega) dL_law_564 (fun v351 e352 => ?_)
        refine go_sld (pc := 565) (L := L) (i := v351) (fun b s q => q) rfl (ti_in e352 (by omega) (by omega)) dL_law_565 ?_
        refine go_aload_nS (pc := 566) rfl dL_law_566 ?_
        refine go_iload_n (pc := 567) rfl dL_law_567 ?_
        refine go_iconst (pc := 568) (v := 3) (by decide) dL_law_568 ?_
        refine gf_iadd (pc := 569) (ti_rfl l3) (ti_c (v := 3) (a := 3) (by decide)) (by omega) (by omega) dL_law_569 (fun v353 e354 => ?_)
        refine go_sld (pc := 570) (L := L) (i := v353) (fun b s q => q) rfl (ti_in e354 (by omega) (by omega)) dL_law_570 ?_
        refine go_invV (pc := 571) (sl := 32419) (s_X7_runKept2_f l 0 hvx (xs v349.toNatClampNeg) (xs v351.toNatClampNeg) (xs v353.toNatClampNeg)) mL_L_81 iM_X7_runKept sM_X7_runKept (hvx.sh rfl) rfl rfl rfl (Nat.le_of_ble_eq_true rfl) (Nat.le_of_ble_eq_true rfl) (Nat.le_of_ble_eq_true rfl) (g_cl hvx.ln (Nat.le_of_ble_eq_true rfl)) (Nat.le_of_ble_eq_true rfl) dL_law_571 ?_
        intro r h355 hq _
        obtain ⟨v358, rfl, v358l, v358u, hv355, f356, f357⟩ := hq
        have lh359 : LHs (st h355) := LH.kac f356 lh
        have hi360 : HIS (st h355) := HIS.kac f356 hi
        have tx361 : TXV (st h355) := TXV.kp (fun j => (hvx.2.1 74 j).2) hi hi360 tx f357
        refine go_pop (pc := 574) rfl dL_law_574 ?_
        refine go_aload_n (pc := 575) rfl dL_law_575 ?_
        refine go_aload_nS (pc := 576) rfl dL_law_576 ?_
        refine go_iload_n (pc := 577) rfl dL_law_577 ?_
        refine go_iconst (pc := 578) (v := 1) (by decide) dL_law_578 ?_
        refine gf_iadd (pc := 579) (ti_rfl l3) (ti_c (v := 1) (a := 1) (by decide)) (by omega) (by omega) dL_law_579 (fun v362 e363 => ?_)
        refine go_sld (pc := 580) (L := L) (i := v362) (fun b s q => q) rfl (ti_in e363 (by omega) (by omega)) dL_law_580 ?_
        refine go_aload_nS (pc := 581) rfl dL_law_581 ?_
        refine go_iload_n (pc := 582) rfl dL_law_582 ?_
        refine go_iconst (pc := 583) (v := 2) (by decide) dL_law_583 ?_
        refine gf_iadd (pc := 584) (ti_rfl l3) (ti_c (v := 2) (a := 2) (by decide)) (by omega) (by omega) dL_law_584 (fun v364 e365 => ?_)
        refine go_sld (pc := 585) (L := L) (i := v364) (fun b s q => q) rfl (ti_in e365 (by omega) (by omega)) dL_law_585 ?_
        refine go_aload_nS (pc := 586) rfl dL_law_586 ?_
        refine go_iload_n (pc := 587) rfl dL_law_587 ?_
        refine go_iconst (pc := 588) (v := 3) (by decide) dL_law_588 ?_
        refine gf_iadd (pc := 589) (ti_rfl l3) (ti_c (v := 3) (a := 3) (by decide)) (by omega) (by omega) dL_law_589 (fun v366 e367 => ?_)
        refine go_sld (pc := 590) (L := L) (i := v366) (fun b s q => q) rfl (ti_in e367 (by omega) (by omega)) dL_law_590 ?_
        refine go_invV (pc := 591) (sl := 32419) (s_X8_runKept2_f l 0 hv355 (xs v362.toNatClampNeg) (xs v364.toNatClampNeg) (xs v366.toNatClampNeg) (LF.ck lf hv355) (LF.lv lf hv355)) mL_L_85 iM_X8_runKept sM_X8_runKept (hv355.sh rfl) rfl rfl rfl (Nat.le_of_ble_eq_true rfl) (Nat.le_of_ble_eq_true rfl) (Nat.le_of_ble_eq_true rfl) (g_cl hv355.ln (Nat.le_of_ble_eq_true rfl)) (Nat.le_of_ble_eq_true rfl) dL_law_591 ?_
        intro r h368 hq _
        obtain ⟨v372, rfl, v372l, v372u, ⟨Q369, hv368, sq370⟩, f371⟩ := hq
        have ls373 := LSt.sq ls sq370
        have lh374 : LHs (st h368) := LH.kar (FX.mono (fun c j z => by unfold KAr at z; unfold KAq; omega) f371) lh359
        have hi375 : HIS (st h368) := HIS.kar (FX.mono (fun c j z => by unfold KAr at z; unfold KAq; omega) f371) hi360
        have tx376 : TXV (st h368) := TXV.kaq f371 hi360 tx361
        refine go_pop (pc := 594) rfl dL_law_594 ?_
        refine go_goto (pc := 595) (tgt := 654) (by decide) dL_law_595 ?_
        refine gf_iinc (pc := 654) (Nat.le_of_ble_eq_true rfl) rfl (ti_rfl l3) (ti_c (by decide)) (by omega) (by omega) dL_law_654 (fun v377 e378 => ?_)
        refine go_lv (lv2 := [(0, .retAddr 0), (1, .ref 0), (2, .ref 70), (3, .int v377)]) rfl ?_
        refine go_goto (pc := 657) (tgt := 18) (by decide) dL_law_657 ?_
        have zv377 : v377.toInt = l3.toInt + 6 := e378
        exact go_lv rfl (ih v377 _ h368 hv368 ls373 lh374 hi375 tx376 (by omega) (by omega) (by omega))
      by_cases q379 : w1.toInt = 16
      ·
        refine go_tableIn (pc := 33) (tgt := 598) (off := 565) (by omega) (by omega) (by rw [q379]; rfl) (by decide) dL_law_33 ?_
        refine go_aload_n (pc := 598) rfl dL_law_598 ?_
        refine go_aload_nS (pc := 599) rfl dL_law_599 ?_
        refine go_iload_n (pc := 600) rfl dL_law_600 ?_
        refine go_iconst (pc := 601) (v := 1) (by decide) dL_law_601 ?_
        refine gf_iadd (pc := 602) (ti_rfl l3) (ti_c (v := 1) (a := 1) (by decide)) (by omega) (by omega) dL_law_602 (fun v380 e381 => ?_)
        refine go_sld (pc := 603) (L := L) (i := v380) (fun b s q => q) rfl (ti_in e381 (by omega) (by omega)) dL_law_603 ?_
        refine go_invV (pc := 604) (sl := 32419) (s_X7_ended l 0 hvx (xs v380.toNatClampNeg)) mL_L_86 iM_X7_ended sM_X7_ended (hvx.sh rfl) rfl rfl rfl (Nat.le_of_ble_eq_true rfl) (Nat.le_of_ble_eq_true rfl) (Nat.le_of_ble_eq_true rfl) (g_cl hvx.ln (Nat.le_of_ble_eq_true rfl)) (Nat.le_of_ble_eq_true rfl) dL_law_604 ?_
        intro r h382 hq _
        obtain ⟨v383, rfl, v383l, v383u, rfl⟩ := hq
        refine go_pop (pc := 607) rfl dL_law_607 ?_
        refine go_aload_n (pc := 608) rfl dL_law_608 ?_
        refine go_aload_nS (pc := 609) rfl dL_law_609 ?_
        refine go_iload_n (pc := 610) rfl dL_law_610 ?_
        refine go_iconst (pc := 611) (v := 1) (by decide) dL_law_611 ?_
        refine gf_iadd (pc := 612) (ti_rfl l3) (ti_c (v := 1) (a := 1) (by decide)) (by omega) (by omega) dL_law_612 (fun v384 e385 => ?_)
        refine go_sld (pc := 613) (L := L) (i := v384) (fun b s q => q) rfl (ti_in e385 (by omega) (by omega)) dL_law_613 ?_
        refine go_invV (pc := 614) (sl := 32419) (s_X8_ended l 0 hvx (xs v384.toNatClampNeg)) mL_L_89 iM_X8_ended sM_X8_ended (hvx.sh rfl) rfl rfl rfl (Nat.le_of_ble_eq_true rfl) (Nat.le_of_ble_eq_true rfl) (Nat.le_of_ble_eq_true rfl) (g_cl hvx.ln (Nat.le_of_ble_eq_true rfl)) (Nat.le_of_ble_eq_true rfl) dL_law_614 ?_
        intro r h386 hq _
        obtain ⟨v387, rfl, v387l, v387u, rfl⟩ := hq
        refine go_pop (pc := 617) rfl dL_law_617 ?_
        refine go_goto (pc := 618) (tgt := 654) (by decide) dL_law_618 ?_
        refine gf_iinc (pc := 654) (Nat.le_of_ble_eq_true rfl) rfl (ti_rfl l3) (ti_c (by decide)) (by omega) (by omega) dL_law_654 (fun v388 e389 => ?_)
        refine go_lv (lv2 := [(0, .retAddr 0), (1, .ref 0), (2, .ref 70), (3, .int v388)]) rfl ?_
        refine go_goto (pc := 657) (tgt := 18) (by decide) dL_law_657 ?_
        have zv388 : v388.toInt = l3.toInt + 6 := e389
        exact go_lv rfl (ih v388 _ hx hvx ls lh hi tx (by omega) (by omega) (by omega))
      by_cases q390 : w1.toInt = 17
      ·
        refine go_tableIn (pc := 33) (tgt := 621) (off := 588) (by omega) (by omega) (by rw [q390]; rfl) (by decide) dL_law_33 ?_
        refine go_aload_n (pc := 621) rfl dL_law_621 ?_
        refine go_aload_nS (pc := 622) rfl dL_law_622 ?_
        refine go_iload_n (pc := 623) rfl dL_law_623 ?_
        refine go_iconst (pc := 624) (v := 1) (by decide) dL_law_624 ?_
        refine gf_iadd (pc := 625) (ti_rfl l3) (ti_c (v := 1) (a := 1) (by decide)) (by omega) (by omega) dL_law_625 (fun v391 e392 => ?_)
        refine go_sld (pc := 626) (L := L) (i := v391) (fun b s q => q) rfl (ti_in e392 (by omega) (by omega)) dL_law_626 ?_
        refine go_aload_nS (pc := 627) rfl dL_law_627 ?_
        refine go_iload_n (pc := 628) rfl dL_law_628 ?_
        refine go_iconst (pc := 629) (v := 2) (by decide) dL_law_629 ?_
        refine gf_iadd (pc := 630) (ti_rfl l3) (ti_c (v := 2) (a := 2) (by decide)) (by omega) (by omega) dL_law_630 (fun v393 e394 => ?_)
        refine go_sld (pc := 631) (L := L) (i := v393) (fun b s q => q) rfl (ti_in e394 (by omega) (by omega)) dL_law_631 ?_
        refine go_invV (pc := 632) (sl := 32419) (s_X7_saw l 0 hvx (xs v391.toNatClampNeg) (xs v393.toNatClampNeg)) mL_L_90 iM_X7_saw sM_X7_saw (hvx.sh rfl) rfl rfl rfl (Nat.le_of_ble_eq_true rfl) (Nat.le_of_ble_eq_true rfl) (Nat.le_of_ble_eq_true rfl) (g_cl hvx.ln (Nat.le_of_ble_eq_true rfl)) (Nat.le_of_ble_eq_true rfl) dL_law_632 ?_
        intro r h395 hq _
        obtain ⟨v396, rfl, v396l, v396u, rfl⟩ := hq
        refine go_pop (pc := 635) rfl dL_law_635 ?_
        refine go_aload_n (pc := 636) rfl dL_law_636 ?_
        refine go_aload_nS (pc := 637) rfl dL_law_637 ?_
        refine go_iload_n (pc := 638) rfl dL_law_638 ?_
        refine go_iconst (pc := 639) (v := 1) (by decide) dL_law_639 ?_
        refine gf_iadd (pc := 640) (ti_rfl l3) (ti_c (v := 1) (a := 1) (by decide)) (by omega) (by omega) dL_law_640 (fun v397 e398 => ?_)
        refine go_sld (pc := 641) (L := L) (i := v397) (fun b s q => q) rfl (ti_in e398 (by omega) (by omega)) dL_law_641 ?_
        refine go_aload_nS (pc := 642) rfl dL_law_642 ?_
        refine go_iload_n (pc := 643) rfl dL_law_643 ?_
        refine go_iconst (pc := 644) (v := 2) (by decide) dL_law_644 ?_
        refine gf_iadd (pc := 645) (ti_rfl l3) (ti_c (v := 2) (a := 2) (by decide)) (by omega) (by omega) dL_law_645 (fun v399 e400 => ?_)
        refine go_sld (pc := 646) (L := L) (i := v399) (fun b s q => q) rfl (ti_in e400 (by omega) (by omega)) dL_law_646 ?_
        refine go_invV (pc := 647) (sl := 32419) (s_X8_saw l 0 hvx (xs v397.toNatClampNeg) (xs v399.toNatClampNeg)) mL_L_93 iM_X8_saw sM_X8_saw (hvx.sh rfl) rfl rfl rfl (Nat.le_of_ble_eq_true rfl) (Nat.le_of_ble_eq_true rfl) (Nat.le_of_ble_eq_true rfl) (g_cl hvx.ln (Nat.le_of_ble_eq_true rfl)) (Nat.le_of_ble_eq_true rfl) dL_law_647 ?_
        intro r h401 hq _
        obtain ⟨v402, rfl, v402l, v402u, rfl⟩ := hq
        refine go_pop (pc := 650) rfl dL_law_650 ?_
        refine go_goto (pc := 651) (tgt := 654) (by decide) dL_law_651 ?_
        refine gf_iinc (pc := 654) (Nat.le_of_ble_eq_true rfl) rfl (ti_rfl l3) (ti_c (by decide)) (by omega) (by omega) dL_law_654 (fun v403 e404 => ?_)
        refine go_lv (lv2 := [(0, .retAddr 0), (1, .ref 0), (2, .ref 70), (3, .int v403)]) rfl ?_
        refine go_goto (pc := 657) (tgt := 18) (by decide) dL_law_657 ?_
        have zv403 : v403.toInt = l3.toInt + 6 := e404
        exact go_lv rfl (ih v403 _ hx hvx ls lh hi tx (by omega) (by omega) (by omega))
      refine go_tableOut (pc := 33) (tgt := 654) (by omega) (by decide) dL_law_33 ?_
      refine gf_iinc (pc := 654) (Nat.le_of_ble_eq_true rfl) rfl (ti_rfl l3) (ti_c (by decide)) (by omega) (by omega) dL_law_654 (fun v405 e406 => ?_)
      refine go_lv (lv2 := [(0, .retAddr 0), (1, .ref 0), (2, .ref 70), (3, .int v405)]) rfl ?_
      refine go_goto (pc := 657) (tgt := 18) (by decide) dL_law_657 ?_
      have zv405 : v405.toInt = l3.toInt + 6 := e406
      exact go_lv rfl (ih v405 _ hx hvx ls lh hi tx (by omega) (by omega) (by omega))
  refine go_new (pc := 0) (sl := 0) (ci := 7) rfl cL_L_7 oC_X7 nC_X7 (Nat.le_of_ble_eq_true rfl) (Nat.le_of_ble_eq_true rfl) dL_law_0 ?_
  refine go_dup (pc := 3) rfl dL_law_3 ?_
  refine go_invI (pc := 4) (sl := 8) (k9_X7_init l) mL_L_9 iM_X7_init rfl rfl rfl (Nat.le_of_ble_eq_true rfl) (Nat.le_of_ble_eq_true rfl) (Nat.le_of_ble_eq_true rfl) (Nat.le_of_ble_eq_true rfl) (Nat.le_of_ble_eq_true rfl) dL_law_4 ?_
  intro r h' hq _
  obtain ⟨rfl, rfl⟩ := hq
  refine go_astore_n (pc := 7) (Nat.le_of_ble_eq_true rfl) dL_law_7 (go_lv (lv2 := [(0, .retAddr 0), (1, .ref 0)]) rfl ?_)
  refine go_new (pc := 8) (sl := 12382) (ci := 8) rfl cL_L_10 oC_X8 nC_X8 (Nat.le_of_ble_eq_true rfl) (Nat.le_of_ble_eq_true rfl) dL_law_8 ?_
  refine go_dup (pc := 11) rfl dL_law_11 ?_
  refine go_invI (pc := 12) (sl := 12442) (k10_X8_init l) mL_L_12 iM_X8_init rfl rfl rfl (Nat.le_of_ble_eq_true rfl) (Nat.le_of_ble_eq_true rfl) (Nat.le_of_ble_eq_true rfl) (Nat.le_of_ble_eq_true rfl) (Nat.le_of_ble_eq_true rfl) dL_law_12 ?_
  intro r h' hq _
  obtain ⟨rfl, rfl⟩ := hq
  refine go_astore_n (pc := 15) (Nat.le_of_ble_eq_true rfl) dL_law_15 (go_lv (lv2 := [(0, .retAddr 0), (1, .ref 0), (2, .ref 70)]) rfl ?_)
  refine go_iconst (pc := 16) (v := 0) (by decide) dL_law_16 ?_
  refine go_istore_n (pc := 17) (Nat.le_of_ble_eq_true rfl) dL_law_17 (go_lv (lv2 := [(0, .retAddr 0), (1, .ref 0), (2, .ref 70), (3, .int 0)]) rfl ?_)
  exact key 5000 0 _ hz10 iv0 ls0 lh0 hi0 tx0 (by decide) (by decide) (by decide)



