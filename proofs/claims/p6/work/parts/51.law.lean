theorem dL_law_0 : decode cL_law 0 = .ok (.new 7, 3) := by decide +kernel
theorem dL_law_3 : decode cL_law 3 = .ok (.dup, 1) := by decide +kernel
theorem dL_law_4 : decode cL_law 4 = .ok (.invokespecial 9, 3) := by decide +kernel
theorem dL_law_7 : decode cL_law 7 = .ok (.astore_n 1, 1) := by decide +kernel
theorem dL_law_8 : decode cL_law 8 = .ok (.new 10, 3) := by decide +kernel
theorem dL_law_11 : decode cL_law 11 = .ok (.dup, 1) := by decide +kernel
theorem dL_law_12 : decode cL_law 12 = .ok (.invokespecial 12, 3) := by decide +kernel
theorem dL_law_15 : decode cL_law 15 = .ok (.astore_n 2, 1) := by decide +kernel
theorem dL_law_16 : decode cL_law 16 = .ok (.iconst 0, 1) := by decide +kernel
theorem dL_law_17 : decode cL_law 17 = .ok (.istore_n 3, 1) := by decide +kernel
theorem dL_law_18 : decode cL_law 18 = .ok (.iload_n 3, 1) := by decide +kernel
theorem dL_law_19 : decode cL_law 19 = .ok (.aload_n 0, 1) := by decide +kernel
theorem dL_law_20 : decode cL_law 20 = .ok (.arraylength, 1) := by decide +kernel
theorem dL_law_21 : decode cL_law 21 = .ok (.bipush 6, 2) := by decide +kernel
theorem dL_law_23 : decode cL_law 23 = .ok (.isub, 1) := by decide +kernel
theorem dL_law_24 : decode cL_law 24 = .ok (.if_icmp .gt 636, 3) := by decide +kernel
theorem dL_law_27 : decode cL_law 27 = .ok (.aload_n 0, 1) := by decide +kernel
theorem dL_law_28 : decode cL_law 28 = .ok (.iload_n 3, 1) := by decide +kernel
theorem dL_law_29 : decode cL_law 29 = .ok (.iaload, 1) := by decide +kernel
theorem dL_law_30 : decode cL_law 30 = .ok (.bipush 31, 2) := by decide +kernel
theorem dL_law_32 : decode cL_law 32 = .ok (.iand, 1) := by decide +kernel
theorem dL_law_33 : decode cL_law 33 = .ok (.tableswitch 621 0 17 #[87, 150, 173, 186, 199, 222, 255, 288, 311, 354, 377, 400, 433, 466, 489, 522, 565, 588], 87) := by decide +kernel
theorem dL_law_120 : decode cL_law 120 = .ok (.aload_n 1, 1) := by decide +kernel
theorem dL_law_121 : decode cL_law 121 = .ok (.aload_n 0, 1) := by decide +kernel
theorem dL_law_122 : decode cL_law 122 = .ok (.iload_n 3, 1) := by decide +kernel
theorem dL_law_123 : decode cL_law 123 = .ok (.iconst 1, 1) := by decide +kernel
theorem dL_law_124 : decode cL_law 124 = .ok (.iadd, 1) := by decide +kernel
theorem dL_law_125 : decode cL_law 125 = .ok (.iaload, 1) := by decide +kernel
theorem dL_law_126 : decode cL_law 126 = .ok (.aload_n 0, 1) := by decide +kernel
theorem dL_law_127 : decode cL_law 127 = .ok (.iload_n 3, 1) := by decide +kernel
theorem dL_law_128 : decode cL_law 128 = .ok (.iconst 2, 1) := by decide +kernel
theorem dL_law_129 : decode cL_law 129 = .ok (.iadd, 1) := by decide +kernel
theorem dL_law_130 : decode cL_law 130 = .ok (.iaload, 1) := by decide +kernel
theorem dL_law_131 : decode cL_law 131 = .ok (.aload_n 0, 1) := by decide +kernel
theorem dL_law_132 : decode cL_law 132 = .ok (.iload_n 3, 1) := by decide +kernel
theorem dL_law_133 : decode cL_law 133 = .ok (.iconst 3, 1) := by decide +kernel
theorem dL_law_134 : decode cL_law 134 = .ok (.iadd, 1) := by decide +kernel
theorem dL_law_135 : decode cL_law 135 = .ok (.iaload, 1) := by decide +kernel
theorem dL_law_136 : decode cL_law 136 = .ok (.aload_n 0, 1) := by decide +kernel
theorem dL_law_137 : decode cL_law 137 = .ok (.iload_n 3, 1) := by decide +kernel
theorem dL_law_138 : decode cL_law 138 = .ok (.iconst 4, 1) := by decide +kernel
theorem dL_law_139 : decode cL_law 139 = .ok (.iadd, 1) := by decide +kernel
theorem dL_law_140 : decode cL_law 140 = .ok (.iaload, 1) := by decide +kernel
theorem dL_law_141 : decode cL_law 141 = .ok (.aload_n 0, 1) := by decide +kernel
theorem dL_law_142 : decode cL_law 142 = .ok (.iload_n 3, 1) := by decide +kernel
theorem dL_law_143 : decode cL_law 143 = .ok (.iconst 5, 1) := by decide +kernel
theorem dL_law_144 : decode cL_law 144 = .ok (.iadd, 1) := by decide +kernel
theorem dL_law_145 : decode cL_law 145 = .ok (.iaload, 1) := by decide +kernel
theorem dL_law_146 : decode cL_law 146 = .ok (.invokevirtual 13, 3) := by decide +kernel
theorem dL_law_149 : decode cL_law 149 = .ok (.pop, 1) := by decide +kernel
theorem dL_law_150 : decode cL_law 150 = .ok (.aload_n 2, 1) := by decide +kernel
theorem dL_law_151 : decode cL_law 151 = .ok (.aload_n 0, 1) := by decide +kernel
theorem dL_law_152 : decode cL_law 152 = .ok (.iload_n 3, 1) := by decide +kernel
theorem dL_law_153 : decode cL_law 153 = .ok (.iconst 1, 1) := by decide +kernel
theorem dL_law_154 : decode cL_law 154 = .ok (.iadd, 1) := by decide +kernel
theorem dL_law_155 : decode cL_law 155 = .ok (.iaload, 1) := by decide +kernel
theorem dL_law_156 : decode cL_law 156 = .ok (.aload_n 0, 1) := by decide +kernel
theorem dL_law_157 : decode cL_law 157 = .ok (.iload_n 3, 1) := by decide +kernel
theorem dL_law_158 : decode cL_law 158 = .ok (.iconst 2, 1) := by decide +kernel
theorem dL_law_159 : decode cL_law 159 = .ok (.iadd, 1) := by decide +kernel
theorem dL_law_160 : decode cL_law 160 = .ok (.iaload, 1) := by decide +kernel
theorem dL_law_161 : decode cL_law 161 = .ok (.aload_n 0, 1) := by decide +kernel
theorem dL_law_162 : decode cL_law 162 = .ok (.iload_n 3, 1) := by decide +kernel
theorem dL_law_163 : decode cL_law 163 = .ok (.iconst 3, 1) := by decide +kernel
theorem dL_law_164 : decode cL_law 164 = .ok (.iadd, 1) := by decide +kernel
theorem dL_law_165 : decode cL_law 165 = .ok (.iaload, 1) := by decide +kernel
theorem dL_law_166 : decode cL_law 166 = .ok (.aload_n 0, 1) := by decide +kernel
theorem dL_law_167 : decode cL_law 167 = .ok (.iload_n 3, 1) := by decide +kernel
theorem dL_law_168 : decode cL_law 168 = .ok (.iconst 4, 1) := by decide +kernel
theorem dL_law_169 : decode cL_law 169 = .ok (.iadd, 1) := by decide +kernel
theorem dL_law_170 : decode cL_law 170 = .ok (.iaload, 1) := by decide +kernel
theorem dL_law_171 : decode cL_law 171 = .ok (.aload_n 0, 1) := by decide +kernel
theorem dL_law_172 : decode cL_law 172 = .ok (.iload_n 3, 1) := by decide +kernel
theorem dL_law_173 : decode cL_law 173 = .ok (.iconst 5, 1) := by decide +kernel
theorem dL_law_174 : decode cL_law 174 = .ok (.iadd, 1) := by decide +kernel
theorem dL_law_175 : decode cL_law 175 = .ok (.iaload, 1) := by decide +kernel
theorem dL_law_176 : decode cL_law 176 = .ok (.invokevirtual 17, 3) := by decide +kernel
theorem dL_law_179 : decode cL_law 179 = .ok (.pop, 1) := by decide +kernel
theorem dL_law_180 : decode cL_law 180 = .ok (.goto 474, 3) := by decide +kernel
theorem dL_law_183 : decode cL_law 183 = .ok (.aload_n 1, 1) := by decide +kernel
theorem dL_law_184 : decode cL_law 184 = .ok (.aload_n 0, 1) := by decide +kernel
theorem dL_law_185 : decode cL_law 185 = .ok (.iload_n 3, 1) := by decide +kernel
theorem dL_law_186 : decode cL_law 186 = .ok (.iconst 1, 1) := by decide +kernel
theorem dL_law_187 : decode cL_law 187 = .ok (.iadd, 1) := by decide +kernel
theorem dL_law_188 : decode cL_law 188 = .ok (.iaload, 1) := by decide +kernel
theorem dL_law_189 : decode cL_law 189 = .ok (.invokevirtual 18, 3) := by decide +kernel
theorem dL_law_192 : decode cL_law 192 = .ok (.pop, 1) := by decide +kernel
theorem dL_law_193 : decode cL_law 193 = .ok (.aload_n 2, 1) := by decide +kernel
theorem dL_law_194 : decode cL_law 194 = .ok (.aload_n 0, 1) := by decide +kernel
theorem dL_law_195 : decode cL_law 195 = .ok (.iload_n 3, 1) := by decide +kernel
theorem dL_law_196 : decode cL_law 196 = .ok (.iconst 1, 1) := by decide +kernel
theorem dL_law_197 : decode cL_law 197 = .ok (.iadd, 1) := by decide +kernel
theorem dL_law_198 : decode cL_law 198 = .ok (.iaload, 1) := by decide +kernel
theorem dL_law_199 : decode cL_law 199 = .ok (.invokevirtual 22, 3) := by decide +kernel
theorem dL_law_202 : decode cL_law 202 = .ok (.pop, 1) := by decide +kernel
theorem dL_law_203 : decode cL_law 203 = .ok (.goto 451, 3) := by decide +kernel
theorem dL_law_206 : decode cL_law 206 = .ok (.aload_n 1, 1) := by decide +kernel
theorem dL_law_207 : decode cL_law 207 = .ok (.invokevirtual 23, 3) := by decide +kernel
theorem dL_law_210 : decode cL_law 210 = .ok (.pop, 1) := by decide +kernel
theorem dL_law_211 : decode cL_law 211 = .ok (.aload_n 2, 1) := by decide +kernel
theorem dL_law_212 : decode cL_law 212 = .ok (.invokevirtual 27, 3) := by decide +kernel
theorem dL_law_215 : decode cL_law 215 = .ok (.pop, 1) := by decide +kernel
theorem dL_law_216 : decode cL_law 216 = .ok (.goto 438, 3) := by decide +kernel
theorem dL_law_219 : decode cL_law 219 = .ok (.aload_n 1, 1) := by decide +kernel
theorem dL_law_220 : decode cL_law 220 = .ok (.invokevirtual 28, 3) := by decide +kernel
theorem dL_law_223 : decode cL_law 223 = .ok (.pop, 1) := by decide +kernel
theorem dL_law_224 : decode cL_law 224 = .ok (.aload_n 2, 1) := by decide +kernel
theorem dL_law_225 : decode cL_law 225 = .ok (.invokevirtual 31, 3) := by decide +kernel
theorem dL_law_228 : decode cL_law 228 = .ok (.pop, 1) := by decide +kernel
theorem dL_law_229 : decode cL_law 229 = .ok (.goto 425, 3) := by decide +kernel
theorem dL_law_232 : decode cL_law 232 = .ok (.aload_n 1, 1) := by decide +kernel
theorem dL_law_233 : decode cL_law 233 = .ok (.aload_n 0, 1) := by decide +kernel
theorem dL_law_234 : decode cL_law 234 = .ok (.iload_n 3, 1) := by decide +kernel
theorem dL_law_235 : decode cL_law 235 = .ok (.iconst 1, 1) := by decide +kernel
theorem dL_law_236 : decode cL_law 236 = .ok (.iadd, 1) := by decide +kernel
theorem dL_law_237 : decode cL_law 237 = .ok (.iaload, 1) := by decide +kernel
theorem dL_law_238 : decode cL_law 238 = .ok (.invokevirtual 32, 3) := by decide +kernel
theorem dL_law_241 : decode cL_law 241 = .ok (.aload_n 2, 1) := by decide +kernel
theorem dL_law_242 : decode cL_law 242 = .ok (.aload_n 0, 1) := by decide +kernel
theorem dL_law_243 : decode cL_law 243 = .ok (.iload_n 3, 1) := by decide +kernel
theorem dL_law_244 : decode cL_law 244 = .ok (.iconst 1, 1) := by decide +kernel
theorem dL_law_245 : decode cL_law 245 = .ok (.iadd, 1) := by decide +kernel
theorem dL_law_246 : decode cL_law 246 = .ok (.iaload, 1) := by decide +kernel
theorem dL_law_247 : decode cL_law 247 = .ok (.invokevirtual 36, 3) := by decide +kernel
theorem dL_law_250 : decode cL_law 250 = .ok (.if_icmp .eq 404, 3) := by decide +kernel
theorem dL_law_255 : decode cL_law 255 = .ok (.aload_n 1, 1) := by decide +kernel
theorem dL_law_256 : decode cL_law 256 = .ok (.aload_n 0, 1) := by decide +kernel
theorem dL_law_257 : decode cL_law 257 = .ok (.iload_n 3, 1) := by decide +kernel
theorem dL_law_258 : decode cL_law 258 = .ok (.iconst 1, 1) := by decide +kernel
theorem dL_law_259 : decode cL_law 259 = .ok (.iadd, 1) := by decide +kernel
theorem dL_law_260 : decode cL_law 260 = .ok (.iaload, 1) := by decide +kernel
theorem dL_law_261 : decode cL_law 261 = .ok (.aload_n 0, 1) := by decide +kernel
theorem dL_law_262 : decode cL_law 262 = .ok (.iload_n 3, 1) := by decide +kernel
theorem dL_law_263 : decode cL_law 263 = .ok (.iconst 2, 1) := by decide +kernel
theorem dL_law_264 : decode cL_law 264 = .ok (.iadd, 1) := by decide +kernel
theorem dL_law_265 : decode cL_law 265 = .ok (.iaload, 1) := by decide +kernel
theorem dL_law_266 : decode cL_law 266 = .ok (.invokevirtual 37, 3) := by decide +kernel
theorem dL_law_269 : decode cL_law 269 = .ok (.pop, 1) := by decide +kernel
theorem dL_law_270 : decode cL_law 270 = .ok (.aload_n 2, 1) := by decide +kernel
theorem dL_law_271 : decode cL_law 271 = .ok (.aload_n 0, 1) := by decide +kernel
theorem dL_law_272 : decode cL_law 272 = .ok (.iload_n 3, 1) := by decide +kernel
theorem dL_law_273 : decode cL_law 273 = .ok (.iconst 1, 1) := by decide +kernel
theorem dL_law_274 : decode cL_law 274 = .ok (.iadd, 1) := by decide +kernel
theorem dL_law_275 : decode cL_law 275 = .ok (.iaload, 1) := by decide +kernel
theorem dL_law_276 : decode cL_law 276 = .ok (.aload_n 0, 1) := by decide +kernel
theorem dL_law_277 : decode cL_law 277 = .ok (.iload_n 3, 1) := by decide +kernel
theorem dL_law_278 : decode cL_law 278 = .ok (.iconst 2, 1) := by decide +kernel
theorem dL_law_279 : decode cL_law 279 = .ok (.iadd, 1) := by decide +kernel
theorem dL_law_280 : decode cL_law 280 = .ok (.iaload, 1) := by decide +kernel
theorem dL_law_281 : decode cL_law 281 = .ok (.invokevirtual 41, 3) := by decide +kernel
theorem dL_law_284 : decode cL_law 284 = .ok (.pop, 1) := by decide +kernel
theorem dL_law_285 : decode cL_law 285 = .ok (.goto 369, 3) := by decide +kernel
theorem dL_law_288 : decode cL_law 288 = .ok (.aload_n 1, 1) := by decide +kernel
theorem dL_law_289 : decode cL_law 289 = .ok (.aload_n 0, 1) := by decide +kernel
theorem dL_law_290 : decode cL_law 290 = .ok (.iload_n 3, 1) := by decide +kernel
theorem dL_law_291 : decode cL_law 291 = .ok (.iconst 1, 1) := by decide +kernel
theorem dL_law_292 : decode cL_law 292 = .ok (.iadd, 1) := by decide +kernel
theorem dL_law_293 : decode cL_law 293 = .ok (.iaload, 1) := by decide +kernel
theorem dL_law_294 : decode cL_law 294 = .ok (.aload_n 0, 1) := by decide +kernel
theorem dL_law_295 : decode cL_law 295 = .ok (.iload_n 3, 1) := by decide +kernel
theorem dL_law_296 : decode cL_law 296 = .ok (.iconst 2, 1) := by decide +kernel
theorem dL_law_297 : decode cL_law 297 = .ok (.iadd, 1) := by decide +kernel
theorem dL_law_298 : decode cL_law 298 = .ok (.iaload, 1) := by decide +kernel
theorem dL_law_299 : decode cL_law 299 = .ok (.invokevirtual 42, 3) := by decide +kernel
theorem dL_law_302 : decode cL_law 302 = .ok (.pop, 1) := by decide +kernel
theorem dL_law_303 : decode cL_law 303 = .ok (.aload_n 2, 1) := by decide +kernel
theorem dL_law_304 : decode cL_law 304 = .ok (.aload_n 0, 1) := by decide +kernel
theorem dL_law_305 : decode cL_law 305 = .ok (.iload_n 3, 1) := by decide +kernel
theorem dL_law_306 : decode cL_law 306 = .ok (.iconst 1, 1) := by decide +kernel
theorem dL_law_307 : decode cL_law 307 = .ok (.iadd, 1) := by decide +kernel
theorem dL_law_308 : decode cL_law 308 = .ok (.iaload, 1) := by decide +kernel
theorem dL_law_309 : decode cL_law 309 = .ok (.aload_n 0, 1) := by decide +kernel
theorem dL_law_310 : decode cL_law 310 = .ok (.iload_n 3, 1) := by decide +kernel
theorem dL_law_311 : decode cL_law 311 = .ok (.iconst 2, 1) := by decide +kernel
theorem dL_law_312 : decode cL_law 312 = .ok (.iadd, 1) := by decide +kernel
theorem dL_law_313 : decode cL_law 313 = .ok (.iaload, 1) := by decide +kernel
theorem dL_law_314 : decode cL_law 314 = .ok (.invokevirtual 45, 3) := by decide +kernel
theorem dL_law_317 : decode cL_law 317 = .ok (.pop, 1) := by decide +kernel
theorem dL_law_318 : decode cL_law 318 = .ok (.goto 336, 3) := by decide +kernel
theorem dL_law_321 : decode cL_law 321 = .ok (.aload_n 1, 1) := by decide +kernel
theorem dL_law_322 : decode cL_law 322 = .ok (.aload_n 0, 1) := by decide +kernel
theorem dL_law_323 : decode cL_law 323 = .ok (.iload_n 3, 1) := by decide +kernel
theorem dL_law_324 : decode cL_law 324 = .ok (.iconst 1, 1) := by decide +kernel
theorem dL_law_325 : decode cL_law 325 = .ok (.iadd, 1) := by decide +kernel
theorem dL_law_326 : decode cL_law 326 = .ok (.iaload, 1) := by decide +kernel
theorem dL_law_327 : decode cL_law 327 = .ok (.invokevirtual 46, 3) := by decide +kernel
theorem dL_law_330 : decode cL_law 330 = .ok (.pop2, 1) := by decide +kernel
theorem dL_law_331 : decode cL_law 331 = .ok (.aload_n 2, 1) := by decide +kernel
theorem dL_law_332 : decode cL_law 332 = .ok (.aload_n 0, 1) := by decide +kernel
theorem dL_law_333 : decode cL_law 333 = .ok (.iload_n 3, 1) := by decide +kernel
theorem dL_law_334 : decode cL_law 334 = .ok (.iconst 1, 1) := by decide +kernel
theorem dL_law_335 : decode cL_law 335 = .ok (.iadd, 1) := by decide +kernel
theorem dL_law_336 : decode cL_law 336 = .ok (.iaload, 1) := by decide +kernel
theorem dL_law_337 : decode cL_law 337 = .ok (.invokevirtual 50, 3) := by decide +kernel
theorem dL_law_340 : decode cL_law 340 = .ok (.pop2, 1) := by decide +kernel
theorem dL_law_341 : decode cL_law 341 = .ok (.goto 313, 3) := by decide +kernel
theorem dL_law_344 : decode cL_law 344 = .ok (.aload_n 1, 1) := by decide +kernel
theorem dL_law_345 : decode cL_law 345 = .ok (.aload_n 0, 1) := by decide +kernel
theorem dL_law_346 : decode cL_law 346 = .ok (.iload_n 3, 1) := by decide +kernel
theorem dL_law_347 : decode cL_law 347 = .ok (.iconst 1, 1) := by decide +kernel
theorem dL_law_348 : decode cL_law 348 = .ok (.iadd, 1) := by decide +kernel
theorem dL_law_349 : decode cL_law 349 = .ok (.iaload, 1) := by decide +kernel
theorem dL_law_350 : decode cL_law 350 = .ok (.aload_n 0, 1) := by decide +kernel
theorem dL_law_351 : decode cL_law 351 = .ok (.iload_n 3, 1) := by decide +kernel
theorem dL_law_352 : decode cL_law 352 = .ok (.iconst 2, 1) := by decide +kernel
theorem dL_law_353 : decode cL_law 353 = .ok (.iadd, 1) := by decide +kernel
theorem dL_law_354 : decode cL_law 354 = .ok (.iaload, 1) := by decide +kernel
theorem dL_law_355 : decode cL_law 355 = .ok (.aload_n 0, 1) := by decide +kernel
theorem dL_law_356 : decode cL_law 356 = .ok (.iload_n 3, 1) := by decide +kernel
theorem dL_law_357 : decode cL_law 357 = .ok (.iconst 3, 1) := by decide +kernel
theorem dL_law_358 : decode cL_law 358 = .ok (.iadd, 1) := by decide +kernel
theorem dL_law_359 : decode cL_law 359 = .ok (.iaload, 1) := by decide +kernel
theorem dL_law_360 : decode cL_law 360 = .ok (.invokevirtual 51, 3) := by decide +kernel
theorem dL_law_363 : decode cL_law 363 = .ok (.pop, 1) := by decide +kernel
theorem dL_law_364 : decode cL_law 364 = .ok (.aload_n 2, 1) := by decide +kernel
theorem dL_law_365 : decode cL_law 365 = .ok (.aload_n 0, 1) := by decide +kernel
theorem dL_law_366 : decode cL_law 366 = .ok (.iload_n 3, 1) := by decide +kernel
theorem dL_law_367 : decode cL_law 367 = .ok (.iconst 1, 1) := by decide +kernel
theorem dL_law_368 : decode cL_law 368 = .ok (.iadd, 1) := by decide +kernel
theorem dL_law_369 : decode cL_law 369 = .ok (.iaload, 1) := by decide +kernel
theorem dL_law_370 : decode cL_law 370 = .ok (.aload_n 0, 1) := by decide +kernel
theorem dL_law_371 : decode cL_law 371 = .ok (.iload_n 3, 1) := by decide +kernel
theorem dL_law_372 : decode cL_law 372 = .ok (.iconst 2, 1) := by decide +kernel
theorem dL_law_373 : decode cL_law 373 = .ok (.iadd, 1) := by decide +kernel
theorem dL_law_374 : decode cL_law 374 = .ok (.iaload, 1) := by decide +kernel
theorem dL_law_375 : decode cL_law 375 = .ok (.aload_n 0, 1) := by decide +kernel
theorem dL_law_376 : decode cL_law 376 = .ok (.iload_n 3, 1) := by decide +kernel
theorem dL_law_377 : decode cL_law 377 = .ok (.iconst 3, 1) := by decide +kernel
theorem dL_law_378 : decode cL_law 378 = .ok (.iadd, 1) := by decide +kernel
theorem dL_law_379 : decode cL_law 379 = .ok (.iaload, 1) := by decide +kernel
theorem dL_law_380 : decode cL_law 380 = .ok (.invokevirtual 55, 3) := by decide +kernel
theorem dL_law_383 : decode cL_law 383 = .ok (.pop, 1) := by decide +kernel
theorem dL_law_384 : decode cL_law 384 = .ok (.goto 270, 3) := by decide +kernel
theorem dL_law_387 : decode cL_law 387 = .ok (.aload_n 1, 1) := by decide +kernel
theorem dL_law_388 : decode cL_law 388 = .ok (.aload_n 0, 1) := by decide +kernel
theorem dL_law_389 : decode cL_law 389 = .ok (.iload_n 3, 1) := by decide +kernel
theorem dL_law_390 : decode cL_law 390 = .ok (.iconst 1, 1) := by decide +kernel
theorem dL_law_391 : decode cL_law 391 = .ok (.iadd, 1) := by decide +kernel
theorem dL_law_392 : decode cL_law 392 = .ok (.iaload, 1) := by decide +kernel
theorem dL_law_393 : decode cL_law 393 = .ok (.invokevirtual 56, 3) := by decide +kernel
theorem dL_law_396 : decode cL_law 396 = .ok (.pop2, 1) := by decide +kernel
theorem dL_law_397 : decode cL_law 397 = .ok (.aload_n 2, 1) := by decide +kernel
theorem dL_law_398 : decode cL_law 398 = .ok (.aload_n 0, 1) := by decide +kernel
theorem dL_law_399 : decode cL_law 399 = .ok (.iload_n 3, 1) := by decide +kernel
theorem dL_law_400 : decode cL_law 400 = .ok (.iconst 1, 1) := by decide +kernel
theorem dL_law_401 : decode cL_law 401 = .ok (.iadd, 1) := by decide +kernel
theorem dL_law_402 : decode cL_law 402 = .ok (.iaload, 1) := by decide +kernel
theorem dL_law_403 : decode cL_law 403 = .ok (.invokevirtual 59, 3) := by decide +kernel
theorem dL_law_406 : decode cL_law 406 = .ok (.pop2, 1) := by decide +kernel
theorem dL_law_407 : decode cL_law 407 = .ok (.goto 247, 3) := by decide +kernel
theorem dL_law_410 : decode cL_law 410 = .ok (.aload_n 1, 1) := by decide +kernel
theorem dL_law_411 : decode cL_law 411 = .ok (.aload_n 0, 1) := by decide +kernel
theorem dL_law_412 : decode cL_law 412 = .ok (.iload_n 3, 1) := by decide +kernel
theorem dL_law_413 : decode cL_law 413 = .ok (.iconst 1, 1) := by decide +kernel
theorem dL_law_414 : decode cL_law 414 = .ok (.iadd, 1) := by decide +kernel
theorem dL_law_415 : decode cL_law 415 = .ok (.iaload, 1) := by decide +kernel
theorem dL_law_416 : decode cL_law 416 = .ok (.invokevirtual 60, 3) := by decide +kernel
theorem dL_law_419 : decode cL_law 419 = .ok (.pop2, 1) := by decide +kernel
theorem dL_law_420 : decode cL_law 420 = .ok (.aload_n 2, 1) := by decide +kernel
theorem dL_law_421 : decode cL_law 421 = .ok (.aload_n 0, 1) := by decide +kernel
theorem dL_law_422 : decode cL_law 422 = .ok (.iload_n 3, 1) := by decide +kernel
theorem dL_law_423 : decode cL_law 423 = .ok (.iconst 1, 1) := by decide +kernel
theorem dL_law_424 : decode cL_law 424 = .ok (.iadd, 1) := by decide +kernel
theorem dL_law_425 : decode cL_law 425 = .ok (.iaload, 1) := by decide +kernel
theorem dL_law_426 : decode cL_law 426 = .ok (.invokevirtual 63, 3) := by decide +kernel
theorem dL_law_429 : decode cL_law 429 = .ok (.pop2, 1) := by decide +kernel
theorem dL_law_430 : decode cL_law 430 = .ok (.goto 224, 3) := by decide +kernel
theorem dL_law_433 : decode cL_law 433 = .ok (.aload_n 1, 1) := by decide +kernel
theorem dL_law_434 : decode cL_law 434 = .ok (.aload_n 0, 1) := by decide +kernel
theorem dL_law_435 : decode cL_law 435 = .ok (.iload_n 3, 1) := by decide +kernel
theorem dL_law_436 : decode cL_law 436 = .ok (.iconst 1, 1) := by decide +kernel
theorem dL_law_437 : decode cL_law 437 = .ok (.iadd, 1) := by decide +kernel
theorem dL_law_438 : decode cL_law 438 = .ok (.iaload, 1) := by decide +kernel
theorem dL_law_439 : decode cL_law 439 = .ok (.aload_n 0, 1) := by decide +kernel
theorem dL_law_440 : decode cL_law 440 = .ok (.iload_n 3, 1) := by decide +kernel
theorem dL_law_441 : decode cL_law 441 = .ok (.iconst 2, 1) := by decide +kernel
theorem dL_law_442 : decode cL_law 442 = .ok (.iadd, 1) := by decide +kernel
theorem dL_law_443 : decode cL_law 443 = .ok (.iaload, 1) := by decide +kernel
theorem dL_law_444 : decode cL_law 444 = .ok (.invokevirtual 64, 3) := by decide +kernel
theorem dL_law_447 : decode cL_law 447 = .ok (.pop2, 1) := by decide +kernel
theorem dL_law_448 : decode cL_law 448 = .ok (.aload_n 2, 1) := by decide +kernel
theorem dL_law_449 : decode cL_law 449 = .ok (.aload_n 0, 1) := by decide +kernel
theorem dL_law_450 : decode cL_law 450 = .ok (.iload_n 3, 1) := by decide +kernel
theorem dL_law_451 : decode cL_law 451 = .ok (.iconst 1, 1) := by decide +kernel
theorem dL_law_452 : decode cL_law 452 = .ok (.iadd, 1) := by decide +kernel
theorem dL_law_453 : decode cL_law 453 = .ok (.iaload, 1) := by decide +kernel
theorem dL_law_454 : decode cL_law 454 = .ok (.aload_n 0, 1) := by decide +kernel
theorem dL_law_455 : decode cL_law 455 = .ok (.iload_n 3, 1) := by decide +kernel
theorem dL_law_456 : decode cL_law 456 = .ok (.iconst 2, 1) := by decide +kernel
theorem dL_law_457 : decode cL_law 457 = .ok (.iadd, 1) := by decide +kernel
theorem dL_law_458 : decode cL_law 458 = .ok (.iaload, 1) := by decide +kernel
theorem dL_law_459 : decode cL_law 459 = .ok (.invokevirtual 68, 3) := by decide +kernel
theorem dL_law_462 : decode cL_law 462 = .ok (.pop2, 1) := by decide +kernel
theorem dL_law_463 : decode cL_law 463 = .ok (.goto 191, 3) := by decide +kernel
theorem dL_law_466 : decode cL_law 466 = .ok (.aload_n 1, 1) := by decide +kernel
theorem dL_law_467 : decode cL_law 467 = .ok (.aload_n 0, 1) := by decide +kernel
theorem dL_law_468 : decode cL_law 468 = .ok (.iload_n 3, 1) := by decide +kernel
theorem dL_law_469 : decode cL_law 469 = .ok (.iconst 1, 1) := by decide +kernel
theorem dL_law_470 : decode cL_law 470 = .ok (.iadd, 1) := by decide +kernel
theorem dL_law_471 : decode cL_law 471 = .ok (.iaload, 1) := by decide +kernel
theorem dL_law_472 : decode cL_law 472 = .ok (.aload_n 0, 1) := by decide +kernel
theorem dL_law_473 : decode cL_law 473 = .ok (.iload_n 3, 1) := by decide +kernel
theorem dL_law_474 : decode cL_law 474 = .ok (.iconst 2, 1) := by decide +kernel
theorem dL_law_475 : decode cL_law 475 = .ok (.iadd, 1) := by decide +kernel
theorem dL_law_476 : decode cL_law 476 = .ok (.iaload, 1) := by decide +kernel
theorem dL_law_477 : decode cL_law 477 = .ok (.invokevirtual 69, 3) := by decide +kernel
theorem dL_law_480 : decode cL_law 480 = .ok (.pop2, 1) := by decide +kernel
theorem dL_law_481 : decode cL_law 481 = .ok (.aload_n 2, 1) := by decide +kernel
theorem dL_law_482 : decode cL_law 482 = .ok (.aload_n 0, 1) := by decide +kernel
theorem dL_law_483 : decode cL_law 483 = .ok (.iload_n 3, 1) := by decide +kernel
theorem dL_law_484 : decode cL_law 484 = .ok (.iconst 1, 1) := by decide +kernel
theorem dL_law_485 : decode cL_law 485 = .ok (.iadd, 1) := by decide +kernel
theorem dL_law_486 : decode cL_law 486 = .ok (.iaload, 1) := by decide +kernel
theorem dL_law_487 : decode cL_law 487 = .ok (.aload_n 0, 1) := by decide +kernel
theorem dL_law_488 : decode cL_law 488 = .ok (.iload_n 3, 1) := by decide +kernel
theorem dL_law_489 : decode cL_law 489 = .ok (.iconst 2, 1) := by decide +kernel
theorem dL_law_490 : decode cL_law 490 = .ok (.iadd, 1) := by decide +kernel
theorem dL_law_491 : decode cL_law 491 = .ok (.iaload, 1) := by decide +kernel
theorem dL_law_492 : decode cL_law 492 = .ok (.invokevirtual 72, 3) := by decide +kernel
theorem dL_law_495 : decode cL_law 495 = .ok (.pop2, 1) := by decide +kernel
theorem dL_law_496 : decode cL_law 496 = .ok (.goto 158, 3) := by decide +kernel
theorem dL_law_499 : decode cL_law 499 = .ok (.aload_n 1, 1) := by decide +kernel
theorem dL_law_500 : decode cL_law 500 = .ok (.aload_n 0, 1) := by decide +kernel
theorem dL_law_501 : decode cL_law 501 = .ok (.iload_n 3, 1) := by decide +kernel
theorem dL_law_502 : decode cL_law 502 = .ok (.iconst 1, 1) := by decide +kernel
theorem dL_law_503 : decode cL_law 503 = .ok (.iadd, 1) := by decide +kernel
theorem dL_law_504 : decode cL_law 504 = .ok (.iaload, 1) := by decide +kernel
theorem dL_law_505 : decode cL_law 505 = .ok (.invokevirtual 73, 3) := by decide +kernel
theorem dL_law_508 : decode cL_law 508 = .ok (.pop2, 1) := by decide +kernel
theorem dL_law_509 : decode cL_law 509 = .ok (.aload_n 2, 1) := by decide +kernel
theorem dL_law_510 : decode cL_law 510 = .ok (.aload_n 0, 1) := by decide +kernel
theorem dL_law_511 : decode cL_law 511 = .ok (.iload_n 3, 1) := by decide +kernel
theorem dL_law_512 : decode cL_law 512 = .ok (.iconst 1, 1) := by decide +kernel
theorem dL_law_513 : decode cL_law 513 = .ok (.iadd, 1) := by decide +kernel
theorem dL_law_514 : decode cL_law 514 = .ok (.iaload, 1) := by decide +kernel
theorem dL_law_515 : decode cL_law 515 = .ok (.invokevirtual 76, 3) := by decide +kernel
theorem dL_law_518 : decode cL_law 518 = .ok (.pop2, 1) := by decide +kernel
theorem dL_law_519 : decode cL_law 519 = .ok (.goto 135, 3) := by decide +kernel
theorem dL_law_522 : decode cL_law 522 = .ok (.aload_n 1, 1) := by decide +kernel
theorem dL_law_523 : decode cL_law 523 = .ok (.aload_n 0, 1) := by decide +kernel
theorem dL_law_524 : decode cL_law 524 = .ok (.iload_n 3, 1) := by decide +kernel
theorem dL_law_525 : decode cL_law 525 = .ok (.iconst 1, 1) := by decide +kernel
theorem dL_law_526 : decode cL_law 526 = .ok (.iadd, 1) := by decide +kernel
theorem dL_law_527 : decode cL_law 527 = .ok (.iaload, 1) := by decide +kernel
theorem dL_law_528 : decode cL_law 528 = .ok (.aload_n 0, 1) := by decide +kernel
theorem dL_law_529 : decode cL_law 529 = .ok (.iload_n 3, 1) := by decide +kernel
theorem dL_law_530 : decode cL_law 530 = .ok (.iconst 2, 1) := by decide +kernel
theorem dL_law_531 : decode cL_law 531 = .ok (.iadd, 1) := by decide +kernel
theorem dL_law_532 : decode cL_law 532 = .ok (.iaload, 1) := by decide +kernel
theorem dL_law_533 : decode cL_law 533 = .ok (.invokevirtual 77, 3) := by decide +kernel
theorem dL_law_536 : decode cL_law 536 = .ok (.pop, 1) := by decide +kernel
theorem dL_law_537 : decode cL_law 537 = .ok (.aload_n 2, 1) := by decide +kernel
theorem dL_law_538 : decode cL_law 538 = .ok (.aload_n 0, 1) := by decide +kernel
theorem dL_law_539 : decode cL_law 539 = .ok (.iload_n 3, 1) := by decide +kernel
theorem dL_law_540 : decode cL_law 540 = .ok (.iconst 1, 1) := by decide +kernel
theorem dL_law_541 : decode cL_law 541 = .ok (.iadd, 1) := by decide +kernel
theorem dL_law_542 : decode cL_law 542 = .ok (.iaload, 1) := by decide +kernel
theorem dL_law_543 : decode cL_law 543 = .ok (.aload_n 0, 1) := by decide +kernel
theorem dL_law_544 : decode cL_law 544 = .ok (.iload_n 3, 1) := by decide +kernel
theorem dL_law_545 : decode cL_law 545 = .ok (.iconst 2, 1) := by decide +kernel
theorem dL_law_546 : decode cL_law 546 = .ok (.iadd, 1) := by decide +kernel
theorem dL_law_547 : decode cL_law 547 = .ok (.iaload, 1) := by decide +kernel
theorem dL_law_548 : decode cL_law 548 = .ok (.invokevirtual 80, 3) := by decide +kernel
theorem dL_law_551 : decode cL_law 551 = .ok (.pop, 1) := by decide +kernel
theorem dL_law_552 : decode cL_law 552 = .ok (.goto 102, 3) := by decide +kernel
theorem dL_law_555 : decode cL_law 555 = .ok (.aload_n 1, 1) := by decide +kernel
theorem dL_law_556 : decode cL_law 556 = .ok (.aload_n 0, 1) := by decide +kernel
theorem dL_law_557 : decode cL_law 557 = .ok (.iload_n 3, 1) := by decide +kernel
theorem dL_law_558 : decode cL_law 558 = .ok (.iconst 1, 1) := by decide +kernel
theorem dL_law_559 : decode cL_law 559 = .ok (.iadd, 1) := by decide +kernel
theorem dL_law_560 : decode cL_law 560 = .ok (.iaload, 1) := by decide +kernel
theorem dL_law_561 : decode cL_law 561 = .ok (.aload_n 0, 1) := by decide +kernel
theorem dL_law_562 : decode cL_law 562 = .ok (.iload_n 3, 1) := by decide +kernel
theorem dL_law_563 : decode cL_law 563 = .ok (.iconst 2, 1) := by decide +kernel
theorem dL_law_564 : decode cL_law 564 = .ok (.iadd, 1) := by decide +kernel
theorem dL_law_565 : decode cL_law 565 = .ok (.iaload, 1) := by decide +kernel
theorem dL_law_566 : decode cL_law 566 = .ok (.aload_n 0, 1) := by decide +kernel
theorem dL_law_567 : decode cL_law 567 = .ok (.iload_n 3, 1) := by decide +kernel
theorem dL_law_568 : decode cL_law 568 = .ok (.iconst 3, 1) := by decide +kernel
theorem dL_law_569 : decode cL_law 569 = .ok (.iadd, 1) := by decide +kernel
theorem dL_law_570 : decode cL_law 570 = .ok (.iaload, 1) := by decide +kernel
theorem dL_law_571 : decode cL_law 571 = .ok (.invokevirtual 81, 3) := by decide +kernel
theorem dL_law_574 : decode cL_law 574 = .ok (.pop, 1) := by decide +kernel
theorem dL_law_575 : decode cL_law 575 = .ok (.aload_n 2, 1) := by decide +kernel
theorem dL_law_576 : decode cL_law 576 = .ok (.aload_n 0, 1) := by decide +kernel
theorem dL_law_577 : decode cL_law 577 = .ok (.iload_n 3, 1) := by decide +kernel
theorem dL_law_578 : decode cL_law 578 = .ok (.iconst 1, 1) := by decide +kernel
theorem dL_law_579 : decode cL_law 579 = .ok (.iadd, 1) := by decide +kernel
theorem dL_law_580 : decode cL_law 580 = .ok (.iaload, 1) := by decide +kernel
theorem dL_law_581 : decode cL_law 581 = .ok (.aload_n 0, 1) := by decide +kernel
theorem dL_law_582 : decode cL_law 582 = .ok (.iload_n 3, 1) := by decide +kernel
theorem dL_law_583 : decode cL_law 583 = .ok (.iconst 2, 1) := by decide +kernel
theorem dL_law_584 : decode cL_law 584 = .ok (.iadd, 1) := by decide +kernel
theorem dL_law_585 : decode cL_law 585 = .ok (.iaload, 1) := by decide +kernel
theorem dL_law_586 : decode cL_law 586 = .ok (.aload_n 0, 1) := by decide +kernel
theorem dL_law_587 : decode cL_law 587 = .ok (.iload_n 3, 1) := by decide +kernel
theorem dL_law_588 : decode cL_law 588 = .ok (.iconst 3, 1) := by decide +kernel
theorem dL_law_589 : decode cL_law 589 = .ok (.iadd, 1) := by decide +kernel
theorem dL_law_590 : decode cL_law 590 = .ok (.iaload, 1) := by decide +kernel
theorem dL_law_591 : decode cL_law 591 = .ok (.invokevirtual 85, 3) := by decide +kernel
theorem dL_law_594 : decode cL_law 594 = .ok (.pop, 1) := by decide +kernel
theorem dL_law_595 : decode cL_law 595 = .ok (.goto 59, 3) := by decide +kernel
theorem dL_law_598 : decode cL_law 598 = .ok (.aload_n 1, 1) := by decide +kernel
theorem dL_law_599 : decode cL_law 599 = .ok (.aload_n 0, 1) := by decide +kernel
theorem dL_law_600 : decode cL_law 600 = .ok (.iload_n 3, 1) := by decide +kernel
theorem dL_law_601 : decode cL_law 601 = .ok (.iconst 1, 1) := by decide +kernel
theorem dL_law_602 : decode cL_law 602 = .ok (.iadd, 1) := by decide +kernel
theorem dL_law_603 : decode cL_law 603 = .ok (.iaload, 1) := by decide +kernel
theorem dL_law_604 : decode cL_law 604 = .ok (.invokevirtual 86, 3) := by decide +kernel
theorem dL_law_607 : decode cL_law 607 = .ok (.pop, 1) := by decide +kernel
theorem dL_law_608 : decode cL_law 608 = .ok (.aload_n 2, 1) := by decide +kernel
theorem dL_law_609 : decode cL_law 609 = .ok (.aload_n 0, 1) := by decide +kernel
theorem dL_law_610 : decode cL_law 610 = .ok (.iload_n 3, 1) := by decide +kernel
theorem dL_law_611 : decode cL_law 611 = .ok (.iconst 1, 1) := by decide +kernel
theorem dL_law_612 : decode cL_law 612 = .ok (.iadd, 1) := by decide +kernel
theorem dL_law_613 : decode cL_law 613 = .ok (.iaload, 1) := by decide +kernel
theorem dL_law_614 : decode cL_law 614 = .ok (.invokevirtual 89, 3) := by decide +kernel
theorem dL_law_617 : decode cL_law 617 = .ok (.pop, 1) := by decide +kernel
theorem dL_law_618 : decode cL_law 618 = .ok (.goto 36, 3) := by decide +kernel
theorem dL_law_621 : decode cL_law 621 = .ok (.aload_n 1, 1) := by decide +kernel
theorem dL_law_622 : decode cL_law 622 = .ok (.aload_n 0, 1) := by decide +kernel
theorem dL_law_623 : decode cL_law 623 = .ok (.iload_n 3, 1) := by decide +kernel
theorem dL_law_624 : decode cL_law 624 = .ok (.iconst 1, 1) := by decide +kernel
theorem dL_law_625 : decode cL_law 625 = .ok (.iadd, 1) := by decide +kernel
theorem dL_law_626 : decode cL_law 626 = .ok (.iaload, 1) := by decide +kernel
theorem dL_law_627 : decode cL_law 627 = .ok (.aload_n 0, 1) := by decide +kernel
theorem dL_law_628 : decode cL_law 628 = .ok (.iload_n 3, 1) := by decide +kernel
theorem dL_law_629 : decode cL_law 629 = .ok (.iconst 2, 1) := by decide +kernel
theorem dL_law_630 : decode cL_law 630 = .ok (.iadd, 1) := by decide +kernel
theorem dL_law_631 : decode cL_law 631 = .ok (.iaload, 1) := by decide +kernel
theorem dL_law_632 : decode cL_law 632 = .ok (.invokevirtual 90, 3) := by decide +kernel
theorem dL_law_635 : decode cL_law 635 = .ok (.pop, 1) := by decide +kernel
theorem dL_law_636 : decode cL_law 636 = .ok (.aload_n 2, 1) := by decide +kernel
theorem dL_law_637 : decode cL_law 637 = .ok (.aload_n 0, 1) := by decide +kernel
theorem dL_law_638 : decode cL_law 638 = .ok (.iload_n 3, 1) := by decide +kernel
theorem dL_law_639 : decode cL_law 639 = .ok (.iconst 1, 1) := by decide +kernel
theorem dL_law_640 : decode cL_law 640 = .ok (.iadd, 1) := by decide +kernel
theorem dL_law_641 : decode cL_law 641 = .ok (.iaload, 1) := by decide +kernel
theorem dL_law_642 : decode cL_law 642 = .ok (.aload_n 0, 1) := by decide +kernel
theorem dL_law_643 : decode cL_law 643 = .ok (.iload_n 3, 1) := by decide +kernel
theorem dL_law_644 : decode cL_law 644 = .ok (.iconst 2, 1) := by decide +kernel
theorem dL_law_645 : decode cL_law 645 = .ok (.iadd, 1) := by decide +kernel
theorem dL_law_646 : decode cL_law 646 = .ok (.iaload, 1) := by decide +kernel
theorem dL_law_647 : decode cL_law 647 = .ok (.invokevirtual 93, 3) := by decide +kernel
theorem dL_law_650 : decode cL_law 650 = .ok (.pop, 1) := by decide +kernel
theorem dL_law_651 : decode cL_law 651 = .ok (.goto 3, 3) := by decide +kernel
theorem dL_law_654 : decode cL_law 654 = .ok (.iinc 3 6, 3) := by decide +kernel
theorem dL_law_657 : decode cL_law 657 = .ok (.goto (-639), 3) := by decide +kernel
theorem dL_law_660 : decode cL_law 660 = .ok (.iconst 1, 1) := by decide +kernel
theorem dL_law_661 : decode cL_law 661 = .ok (.ireturn, 1) := by decide +kernel
theorem g_cl {h : HP} {n m c : Nat} (e : h.1.length = n) (q : n + m ≤ c) : h.1.length - 0 + m ≤ c := by omega
theorem go_pop2 {l : Launch} {own : String} {cc : ByteArray} {nL : Nat} {R : Room} {nm : String} {rt : Option FieldType} {n0 mc ms : Nat} {Xf : Nat → State → Prop} {Qf : Option Value → HP → Prop} {sl pc : Nat} {lv : List (Nat × Value)} {st : List Value} {h : HP} {v : Int64} (hd : decode cc pc = .ok (.pop2, 1)) (k : Go l own cc nL R nm rt n0 mc ms Xf Qf sl (pc + 1) lv st h) : Go l own cc nL R nm rt n0 mc ms Xf Qf sl pc lv (.long v :: st) h := by
  intro p e s m args below meth c D cy zb Q H locs ls C E hP hS hn hl
  exact lv_pop2_2 C.1 C.2.1 hd rfl (k p e s m args below meth c D cy zb Q H locs ls C E hP hS hn hl)
/-- ints of a new object: 0, but one -/
def ZP (h : HP) : Prop := ∀ c j, h.2.1 c j = 0 ∨ (c = 64 ∧ j = 6 ∧ h.2.1 c j = -1)
theorem ZP.N {h : HP} {k n : Nat} (H : ZP h) : ZP (hN h k n) := fun c j => by
  show (if c = h.1.length then 0 else h.2.1 c j) = 0 ∨ (c = 64 ∧ j = 6 ∧ (if c = h.1.length then 0 else h.2.1 c j) = -1)
  by_cases q : c = h.1.length
  · rw [if_pos q]; exact Or.inl rfl
  · rw [if_neg q]; exact H c j
theorem ZP.R {h : HP} {c j : Nat} {x : Value} (H : ZP h) : ZP (hR h c j x) := H
theorem ZP.L {h : HP} {c j : Nat} {x : Int64} (H : ZP h) : ZP (hL h c j x) := H
theorem ZP.I {h : HP} {c' j' : Nat} (H : ZP h) : ZP (hI h c' j' 0) := fun c j => by
  show (if c = c' ∧ j = j' then 0 else h.2.1 c j) = 0 ∨ (c = 64 ∧ j = 6 ∧ (if c = c' ∧ j = j' then 0 else h.2.1 c j) = -1)
  by_cases q : c = c' ∧ j = j'
  · rw [if_pos q]; exact Or.inl rfl
  · rw [if_neg q]; exact H c j
theorem ZP.J {h : HP} (H : ZP h) : ZP (hI h 64 6 (-1)) := fun c j => by
  show (if c = 64 ∧ j = 6 then -1 else h.2.1 c j) = 0 ∨ (c = 64 ∧ j = 6 ∧ (if c = 64 ∧ j = 6 then -1 else h.2.1 c j) = -1)
  by_cases q : c = 64 ∧ j = 6
  · rw [if_pos q]; exact Or.inr ⟨q.1, q.2, rfl⟩
  · rw [if_neg q]; exact H c j
theorem ZP.E : ZP hpE := fun _ _ => Or.inl rfl
theorem rg0 (c j : Nat) : (rg c j).1 ≤ 0 ∧ 0 ≤ (rg c j).2 := by
  unfold rg
  split <;> first | decide | (split <;> decide)
theorem zp_1 : ZP hz1 := (ZP.R (ZP.N (ZP.R (ZP.N (ZP.R (ZP.N (ZP.R (ZP.N (ZP.R (ZP.N (ZP.R (ZP.N (ZP.R (ZP.N (ZP.R (ZP.N (ZP.R (ZP.N (ZP.R (ZP.N (ZP.R (ZP.N (ZP.R (ZP.N (ZP.R (ZP.N (ZP.R (ZP.N (ZP.R (ZP.N (ZP.I (ZP.I (ZP.L (ZP.I (ZP.I (ZP.N (ZP.I (ZP.I (ZP.R (ZP.N (ZP.N ZP.E)))))))))))))))))))))))))))))))))))))))))
theorem zp_2 : ZP hz2 := (ZP.R (ZP.N (ZP.R (ZP.N (ZP.R (ZP.N (ZP.R (ZP.N (ZP.R (ZP.N (ZP.R (ZP.N (ZP.R (ZP.N (ZP.R (ZP.N (ZP.R (ZP.N (ZP.R (ZP.N (ZP.R (ZP.N (ZP.R (ZP.N (ZP.R (ZP.N (ZP.R (ZP.N (ZP.R (ZP.N (ZP.I (ZP.I (ZP.L (ZP.I (ZP.I (ZP.N (ZP.R zp_1)))))))))))))))))))))))))))))))))))))
theorem zp_3 : ZP hz3 := (ZP.R (ZP.N (ZP.R (ZP.N (ZP.R (ZP.N (ZP.R (ZP.N (ZP.R (ZP.N (ZP.R (ZP.N (ZP.R (ZP.N (ZP.R (ZP.N (ZP.I (ZP.N (ZP.I (ZP.I (ZP.I (ZP.R (ZP.N (ZP.N (ZP.R zp_2)))))))))))))))))))))))))
theorem zp_5 : ZP hz5 := (ZP.R (ZP.R (ZP.R (ZP.N (ZP.R (ZP.R (ZP.N (ZP.R (ZP.N (ZP.R (ZP.N (ZP.I (ZP.R zp_3)))))))))))))
theorem zp_6 : ZP hz6 := (ZP.R (ZP.R (ZP.N (ZP.R (ZP.N (ZP.R (ZP.N (ZP.R (ZP.N (ZP.R (ZP.N (ZP.R (ZP.N (ZP.N (ZP.L (ZP.R (ZP.N (ZP.L (ZP.R (ZP.N (ZP.I (ZP.R (ZP.N (ZP.R (ZP.N (ZP.R (ZP.N (ZP.R (ZP.N (ZP.R (ZP.N (ZP.I (ZP.N (ZP.R zp_5))))))))))))))))))))))))))))))))))
theorem zp_7 : ZP hz7 := (ZP.R (ZP.R zp_6))
theorem zp_8 : ZP hz8 := (ZP.R (ZP.L (ZP.I (ZP.R (ZP.N (ZP.R (ZP.N (ZP.I (ZP.J (ZP.I (ZP.I (ZP.I (ZP.R (ZP.N (ZP.R (ZP.N (ZP.R (ZP.N (ZP.N (ZP.R zp_7))))))))))))))))))))
theorem zp_9 : ZP hz9 := (ZP.R zp_8)
theorem zp_10 : ZP hz10 := (ZP.R (ZP.N (ZP.R (ZP.N (ZP.R (ZP.N (ZP.R (ZP.N (ZP.R (ZP.N (ZP.R (ZP.N (ZP.R (ZP.N (ZP.R (ZP.N (ZP.R (ZP.N (ZP.R (ZP.N (ZP.R (ZP.N (ZP.R (ZP.N (ZP.R (ZP.N (ZP.R (ZP.N (ZP.R (ZP.N (ZP.R (ZP.N (ZP.R (ZP.N (ZP.R (ZP.N (ZP.R (ZP.N (ZP.R (ZP.N (ZP.R (ZP.N (ZP.R (ZP.N (ZP.R (ZP.N (ZP.R (ZP.N (ZP.R (ZP.N (ZP.R (ZP.N (ZP.R (ZP.N (ZP.R (ZP.N (ZP.R (ZP.N (ZP.R (ZP.N (ZP.R (ZP.N (ZP.R (ZP.N (ZP.R (ZP.N (ZP.R (ZP.N (ZP.R (ZP.N (ZP.R (ZP.N (ZP.R (ZP.N (ZP.R (ZP.N (ZP.R (ZP.N (ZP.R (ZP.N (ZP.R (ZP.N (ZP.R (ZP.N (ZP.R (ZP.N (ZP.R (ZP.N (ZP.R (ZP.N (ZP.R (ZP.N (ZP.N zp_9)))))))))))))))))))))))))))))))))))))))))))))))))))))))))))))))))))))))))))))))))))))))))))))
theorem hz_sh : hz10.1 = sh0 := by decide +kernel
theorem hz_rf : ∀ e ∈ rfs, hz10.2.2.2 e.1 e.2.1 = .ref e.2.2 := by decide +kernel
theorem hz_rc : ∀ e ∈ rcs, hz10.2.2.2 e.1 e.2 = .ref 2 ∨ hz10.2.2.2 e.1 e.2 = .ref 18 := by decide +kernel
theorem hz_x : hz10.2.2.2 0 3 = .ref 2 := by decide +kernel
theorem hz_0 {c j : Nat} (h : ¬ (c = 64 ∧ j = 6)) : hz10.2.1 c j = 0 := by
  rcases zp_10 c j with q | q
  · exact q
  · exact absurd ⟨q.1, q.2.1⟩ h
theorem iv0 : Iv (0, 0, hz10.2.1, 2, hz10.2.1) hz10 := by
  refine ⟨hz_sh, fun c j => ?_, hz_rf, hz_rc, fun q => ?_, fun c hc j q => ?_, hz_0 (by omega), hz_0 (by omega), fun c _ j => rfl, hz_x, fun c j _ => rfl⟩
  · by_cases e : c = 64 ∧ j = 6
    · rcases zp_10 c j with q | q
      · rw [q]; exact rg0 c j
      · rw [q.2.2, e.1, e.2]; decide
    · rw [hz_0 e]; exact rg0 c j
  · rw [hz_0 (by omega)] at q; exact absurd q (by decide)
  · rw [hz_0 (by omega)] at q; exact absurd q (by decide)
/-- the law's state: as much is taped on both sides; the reference's tree stands -/
def LF (P : PP) : Prop := CKF P.2.2.2.2 ∧ LV P.2.2.2.2
def LSt (P : PP) : Prop := P.1.toInt = P.2.1.toInt ∧ LF P
theorem ls0g {F : FN} (h7 : ∀ j, F 77 j = 0) (h3 : F 70 30 = 0) : LSt (0, 0, F, 2, F) := by
  refine ⟨rfl, fun j q => ?_, fun q => ?_⟩
  · have e : (F 77 j).toInt = 1 := q
    rw [h7] at e; exact absurd e (by decide)
  · have e : (F 70 30).toInt = 1 := q
    rw [h3] at e; exact absurd e (by decide)
theorem ls0 : LSt (0, 0, hz10.2.1, 2, hz10.2.1) := ls0g (fun j => hz_0 (by omega)) (hz_0 (by omega))
theorem FZE {P : PP} {h : HP} (hv : Iv P h) : VE P.2.2.2.2 h.2.1 := fun c j a b => hv.fz a b
theorem LF.ck {P : PP} {h : HP} (s : LF P) (hv : Iv P h) : CKF h.2.1 := CKF.ve (FZE hv) s.1
theorem LF.lv {P : PP} {h : HP} (s : LF P) (hv : Iv P h) : LV h.2.1 := LV.cong (FZE hv) (hv.fy (by omega)) (hv.fy (by omega)) s.2
theorem LF.cp {P : PP} (s : LF P) : CK P := s.1
theorem LF.cong {P Q : PP} (s : LF P) (e : Q.2.2.2.2 = P.2.2.2.2) : LF Q := by unfold LF; rw [e]; exact s
theorem LF.ogs {P : PP} (s : LF P) : LF (gs P) := by
  have v : VE P.2.2.2.2 (gs P).2.2.2.2 := fun c j a b => by
    show (if c = 70 ∧ j = 6 then P.2.2.2.2 70 29 else P.2.2.2.2 c j) = _
    rw [if_neg (by omega)]
  refine ⟨CKF.ve v s.1, LV.cong v ?_ ?_ s.2⟩
  · show (if 70 = 70 ∧ 29 = 6 then P.2.2.2.2 70 29 else P.2.2.2.2 70 29) = _
    rw [if_neg (by omega)]
  · show (if 70 = 70 ∧ 30 = 6 then P.2.2.2.2 70 29 else P.2.2.2.2 70 30) = _
    rw [if_neg (by omega)]
theorem LF.of {P : PP} {h : HP} (hv : Iv P h) (c : CKF h.2.1) (l : LV h.2.1) : LF P := by
  have v : VE h.2.1 P.2.2.2.2 := fun c j a b => (hv.fz a b).symm
  exact ⟨CKF.ve v c, LV.cong v (hv.fy (by omega)).symm (hv.fy (by omega)).symm l⟩
theorem LSt.ogs {P : PP} (s : LSt P) : LSt (gs P) := ⟨s.1, s.2.ogs⟩
theorem LSt.sq {P Q : PP} (s : LSt P) (q : SQ P Q) : LSt Q := by
  rcases q with rfl | rfl
  · exact s
  · exact s.ogs
theorem LH.fx {K : Nat → Nat → Prop} {h g : HP} (f : FX K h g) (k : ∀ c j, (c = 0 ∧ (j = 1 ∨ j = 2)) ∨ c = 1 ∨ c = 71 ∨ (c = 70 ∧ j = 5) → K c j) (l : LHs (st h)) : LHs (st g) := by
  have e : ∀ c j, ((c = 0 ∧ (j = 1 ∨ j = 2)) ∨ c = 1 ∨ c = 71 ∨ (c = 70 ∧ j = 5)) → (st g).1 c j = (st h).1 c j := fun c j z => congrArg Int32.toInt (f c j (k c j z)).1
  refine ⟨fun j q => ?_, ?_⟩
  · rw [e 0 1 (by omega)] at q
    rw [e 1 j (by omega), e 71 j (by omega)]
    exact l.1 j q
  · rw [e 0 2 (by omega), e 70 5 (by omega)]
    exact l.2
theorem LH.kac {h g : HP} (f : FX KAc h g) (l : LHs (st h)) : LHs (st g) := LH.fx f (fun c j z => by unfold KAc; omega) l
theorem LH.kar {h g : HP} (f : FX KAr h g) (l : LHs (st h)) : LHs (st g) := LH.fx f (fun c j z => by unfold KAr; omega) l
theorem lh0g {h : HP} (z : ∀ c j, ¬ (c = 64 ∧ j = 6) → h.2.1 c j = 0) : LHs (st h) := by
  refine ⟨fun j _ => ?_, ?_⟩
  · show (h.2.1 1 j).toInt = (h.2.1 71 j).toInt
    rw [z 1 j (by omega), z 71 j (by omega)]
  · show (h.2.1 0 2).toInt = (h.2.1 70 5).toInt
    rw [z 0 2 (by omega), z 70 5 (by omega)]
theorem lh0 : LHs (st hz10) := lh0g (fun _ _ y => hz_0 y)
theorem hz_x4 : hz10.2.2.2 0 4 = .ref 18 := by decide +kernel
theorem hz_l2 : hz10.2.2.1 2 2 = 0 := by decide +kernel
theorem hi0 : HIS (st hz10) := his0 (fun _ _ y => hz_0 y) hz_l2 hz_x hz_x4
theorem LX {x y : Int32} {a : Int} {xs : Nat → Int32} (e : TI x a) (f : TI y a) : (xs y.toNatClampNeg).toInt = (xs x.toNatClampNeg).toInt := by
  have q : y.toInt = x.toInt := (show y.toInt = a from f).trans (show x.toInt = a from e).symm
  rw [Int32.toInt_inj.mp q]
theorem LH.feed {P : PP} {h g k : HP} {u v a b c d e a' b' c' d' e' : Int} (hv : Iv P h) (tq : P.1.toInt = P.2.1.toInt) (l : LHs (st h)) (e1 : (st g, u) = f_X7_feed (st h) a b c d e) (e2 : (st k, v) = f_X8_feed (st g) a' b' c' d' e') (ha : a' = a) (hb : b' = b) (hc : c' = c) (hd : d' = d) (he : e' = e) : LHs (st k) := by
  subst ha hb hc hd he
  exact tp_feed e1 e2 (show (h.2.1 0 1).toInt = (h.2.1 70 2).toInt by rw [hv.t0, hv.t1]; exact tq) (hv.2.1 0 1).1 l
theorem LH.end_ {h g k : HP} {u v a a' : Int} (l : LHs (st h)) (e1 : (st g, u) = f_X7_end (st h) a) (e2 : (st k, v) = f_X8_end (st g) a') (ha : a' = a) : LHs (st k) := by
  subst ha
  exact tp_end e1 e2 l
theorem LH.prog {P Q W : PP} {h g k : HP} {u v : Int32} (hv : Iv P h) (hg : Iv Q g) (hk : Iv W k) (tq : P.1.toInt = P.2.1.toInt) (r0 : W.1.toInt = 0) (l : LHs (st h)) (e1 : (st g, u.toInt) = f_X7_program (st h)) (fx1 : FX KC h g) (xp : ∃ c, (c = 2 ∨ c = 18) ∧ h.2.2.2 0 4 = .ref c ∧ ((f_X3_read (sI (st h) 0 1 0) (h.2.1 0 1).toInt c).2 = 0 → g.2.2.2 0 3 = .ref c)) (fx2 : FX KR g k) (pa : ∃ t, PgS g t (1 - (g.2.1 70 29).toInt) ∧ PgQ t k (1 - (g.2.1 70 29).toInt) v.toInt) : u.toInt = v.toInt ∧ LHs (st k) := by
  obtain ⟨c, hc, x1, x2⟩ := xp
  obtain ⟨t, ⟨s1, s2, s3, s4, s5, s6, s7, s8, s9⟩, q⟩ := pa
  have b0 : 0 ≤ (h.2.1 0 1).toInt := (hv.2.1 0 1).1
  have b5 : (h.2.1 0 1).toInt ≤ 500 := (hv.2.1 0 1).2
  have lv : (g.2.1 70 29).toInt ≤ 1 := (hg.2.1 70 29).2
  have t0 : (h.2.1 0 1).toInt = P.1.toInt := congrArg Int32.toInt hv.t0
  have t1 : (h.2.1 70 2).toInt = P.2.1.toInt := congrArg Int32.toInt hv.t1
  have kt : (k.2.1 0 1).toInt = W.1.toInt := congrArg Int32.toInt hk.t0
  have g2 : (g.2.1 70 2).toInt = (h.2.1 70 2).toInt := congrArg Int32.toInt (fx1 70 2 (by unfold KC; omega)).1
  have tx : TX ((sI (st h) 0 1 0).1 1) (t.1 72) (h.2.1 0 1).toInt := fun j y => by
    rw [sI_nc (show (1 : Nat) ≠ 0 by omega), s5 j (by omega)]
    show (h.2.1 1 j).toInt = (g.2.1 71 j).toInt
    rw [(fx1 71 j (by unfold KC; omega)).1]
    exact l.1 j y
  have A := prog_same (s := sI (st h) 0 1 0) (a := (h.2.1 0 1).toInt) hc (show 0 ≤ 1 - (g.2.1 70 29).toInt by omega) b0 b5 s1 (by rw [s2, g2]; omega) s3 s4 tx s6 s7 s8 s9 q
  have B : (st g).1 0 2 = (f_X3_read (sI (st h) 0 1 0) (h.2.1 0 1).toInt c).2 ∧ ((f_X3_read (sI (st h) 0 1 0) (h.2.1 0 1).toInt c).2 = 0 → u.toInt = (f_X3_read (sI (st h) 0 1 0) (h.2.1 0 1).toInt c).1.1 c 0) ∧ ((f_X3_read (sI (st h) 0 1 0) (h.2.1 0 1).toInt c).2 ≠ 0 → u.toInt = -2) := tp_prog (s := st h) hc e1 (st_c x1) (fun z => st_c (x2 z))
  have k02 : (st k).1 0 2 = (st g).1 0 2 := congrArg Int32.toInt (fx2 0 2 (by unfold KR; omega)).1
  generalize f_X3_read (sI (st h) 0 1 0) (h.2.1 0 1).toInt c = R at A B
  refine ⟨?_, fun j y => ?_, ?_⟩
  · by_cases z : R.2 = 0
    · rw [B.2.1 z, A.2.1 z]
    · rw [B.2.2 z, A.2.2 z]
  · exfalso
    have y2 : (j : Int) < (k.2.1 0 1).toInt := y
    omega
  · exact k02.trans (B.1.trans A.1)
set_option maxHeartbeats 40000000 in
set_option maxRecDepth 100000 in
theorem law_all (l : Launch) (nm : String) (L : Nat) (hL : L ≤ 3072) (xs : Nat → Int32) : Go l RL cL_law 4 room_1 nm (some .boolean) 0 117 7302250 (fun b s => va_X b L xs s s.heap ∧ b < s.heap.size) (fun r _ => r = some (.int 1)) 0 0 [(0, .retAddr 0)] [] hpE := by
  have tL : TI (Int32.ofNat L) (L : Int) := Int32.toInt_ofNat_of_lt (by omega)
  have key : ∀ n : Nat, ∀ (l3 : Int32) (P : PP) (hx : HP), Iv P hx → LSt P → LHs (st hx) → HIS (st hx) → 0 ≤ l3.toInt → l3.toInt ≤ 3072 → (4000 - l3.toInt : Int) < n → Go l RL cL_law 4 room_1 nm (some .boolean) 0 117 7302250 (fun b s => va_X b L xs s s.heap ∧ b < s.heap.size) (fun r _ => r = some (.int 1)) 32419 18 [(0, .retAddr 0), (1, .ref 0), (2, .ref 70), (3, .int l3)] [] hx := by
    intro n
    induction n with
    | zero => intros; omega
    | succ n ih =>
      intro l3 P hx hvx ls lh hi l3l l3u hm
      have lf := ls.2
      have ls1 := ls.1
      refine go_iload_n (pc := 18) rfl dL_law_18 ?_
      refine go_aload_nS (pc := 19) rfl dL_law_19 ?_
      refine go_slen (pc := 20) (L := L) (fun b s q => q) rfl dL_law_20 ?_
      refine go_bipush (pc := 21) (v := 6) (by decide) dL_law_21 ?_
      refine gf_isub (pc := 23) tL (ti_c (v := 6) (a := 6) (by decide)) (by omega) (by omega) dL_law_23 (fun w0 e0 => ?_)
      refine gf_icmp_gt (pc := 24) (tgt := 660) (ti_rfl l3) e0 (by decide) dL_law_24 (fun q0 => ?_) (fun q0 => ?_)
      ·
        refine go_iconst (pc := 660) (v := 1) (by decide) dL_law_660 ?_
        exact go_iret (pc := 661) rfl rfl hvx.ln (Nat.le_of_ble_eq_true rfl) dL_law_661
      refine go_aload_nS (pc := 27) rfl dL_law_27 ?_
      refine go_iload_n (pc := 28) rfl dL_law_28 ?_
      refine go_sld (pc := 29) (L := L) (i := l3) (fun b s q => q) rfl (ti_in (ti_rfl l3) (by omega) (by omega)) dL_law_29 ?_
      refine go_bipush (pc := 30) (v := 31) (by decide) dL_law_30 ?_
      refine gf_iand (pc := 32) (ti_c (v := 31) (a := 31) (by decide)) (by omega) dL_law_32 (fun w1 w1l w1u => ?_)
      by_cases q1 : w1.toInt = 0
      ·
        refine go_tableIn (pc := 33) (tgt := 120) (off := 87) (by omega) (by omega) (by rw [q1]; rfl) (by decide) dL_law_33 ?_
        refine go_aload_n (pc := 120) rfl dL_law_120 ?_
        refine go_aload_nS (pc := 121) rfl dL_law_121 ?_
        refine go_iload_n (pc := 122) rfl dL_law_122 ?_
        refine go_iconst (pc := 123) (v := 1) (by decide) dL_law_123 ?_
        refine gf_iadd (pc := 124) (ti_rfl l3) (ti_c (v := 1) (a := 1) (by decide)) (by omega) (by omega) dL_law_124 (fun v2 e3 => ?_)
        refine go_sld (pc := 125) (L := L) (i := v2) (fun b s q => q) rfl (ti_in e3 (by omega) (by omega)) dL_law_125 ?_
        refine go_aload_nS (pc := 126) rfl dL_law_126 ?_
        refine go_iload_n (pc := 127) rfl dL_law_127 ?_
        refine go_iconst (pc := 128) (v := 2) (by decide) dL_law_128 ?_
        refine gf_iadd (pc := 129) (ti_rfl l3) (ti_c (v := 2) (a := 2) (by decide)) (by omega) (by omega) dL_law_129 (fun v4 e5 => ?_)
        refine go_sld (pc := 130) (L := L) (i := v4) (fun b s q => q) rfl (ti_in e5 (by omega) (by omega)) dL_law_130 ?_
        refine go_aload_nS (pc := 131) rfl dL_law_131 ?_
        refine go_iload_n (pc := 132) rfl dL_law_132 ?_
        refine go_iconst (pc := 133) (v := 3) (by decide) dL_law_133 ?_
        refine gf_iadd (pc := 134) (ti_rfl l3) (ti_c (v := 3) (a := 3) (by decide)) (by omega) (by omega) dL_law_134 (fun v6 e7 => ?_)
        refine go_sld (pc := 135) (L := L) (i := v6) (fun b s q => q) rfl (ti_in e7 (by omega) (by omega)) dL_law_135 ?_
        refine go_aload_nS (pc := 136) rfl dL_law_136 ?_
        refine go_iload_n (pc := 137) rfl dL_law_137 ?_
        refine go_iconst (pc := 138) (v := 4) (by decide) dL_law_138 ?_
        refine gf_iadd (pc := 139) (ti_rfl l3) (ti_c (v := 4) (a := 4) (by decide)) (by omega) (by omega) dL_law_139 (fun v8 e9 => ?_)
        refine go_sld (pc := 140) (L := L) (i := v8) (fun b s q => q) rfl (ti_in e9 (by omega) (by omega)) dL_law_140 ?_
        refine go_aload_nS (pc := 141) rfl dL_law_141 ?_
        refine go_iload_n (pc := 142) rfl dL_law_142 ?_
        refine go_iconst (pc := 143) (v := 5) (by decide) dL_law_143 ?_
        refine gf_iadd (pc := 144) (ti_rfl l3) (ti_c (v := 5) (a := 5) (by decide)) (by omega) (by omega) dL_law_144 (fun v10 e11 => ?_)
        refine go_sld (pc := 145) (L := L) (i := v10) (fun b s q => q) rfl (ti_in e11 (by omega) (by omega)) dL_law_145 ?_
        refine go_invV (pc := 146) (sl := 32419) (s_X7_feed_f l 0 hvx (xs v2.toNatClampNeg) (xs v4.toNatClampNeg) (xs v6.toNatClampNeg) (xs v8.toNatClampNeg) (xs v10.toNatClampNeg)) mL_L_13 iM_X7_feed sM_X7_feed (hvx.sh rfl) rfl rfl rfl (Nat.le_of_ble_eq_true rfl) (Nat.le_of_ble_eq_true rfl) (Nat.le_of_ble_eq_true rfl) (g_cl hvx.ln (Nat.le_of_ble_eq_true rfl)) (Nat.le_of_ble_eq_true rfl) dL_law_146 ?_
        intro r h12 hq _
        obtain ⟨v17, rfl, v17l, v17u, ⟨Q13, hv12, r14, r15⟩, f16⟩ := hq
        have lf18 : LF Q13 := (LF.cong lf (by rw [r15]))
        refine go_pop (pc := 149) rfl dL_law_149 ?_
        refine go_aload_n (pc := 150) rfl dL_law_150 ?_
        refine go_aload_nS (pc := 151) rfl dL_law_151 ?_
        refine go_iload_n (pc := 152) rfl dL_law_152 ?_
        refine go_iconst (pc := 153) (v := 1) (by decide) dL_law_153 ?_
        refine gf_iadd (pc := 154) (ti_rfl l3) (ti_c (v := 1) (a := 1) (by decide)) (by omega) (by omega) dL_law_154 (fun v19 e20 => ?_)
        refine go_sld (pc := 155) (L := L) (i := v19) (fun b s q => q) rfl (ti_in e20 (by omega) (by omega)) dL_law_155 ?_
        refine go_aload_nS (pc := 156) rfl dL_law_156 ?_
        refine go_iload_n (pc := 157) rfl dL_law_157 ?_
        refine go_iconst (pc := 158) (v := 2) (by decide) dL_law_158 ?_
        refine gf_iadd (pc := 159) (ti_rfl l3) (ti_c (v := 2) (a := 2) (by decide)) (by omega) (by omega) dL_law_159 (fun v21 e22 => ?_)
        refine go_sld (pc := 160) (L := L) (i := v21) (fun b s q => q) rfl (ti_in e22 (by omega) (by omega)) dL_law_160 ?_
        refine go_aload_nS (pc := 161) rfl dL_law_161 ?_
        refine go_iload_n (pc := 162) rfl dL_law_162 ?_
        refine go_iconst (pc := 163) (v := 3) (by decide) dL_law_163 ?_
        refine gf_iadd (pc := 164) (ti_rfl l3) (ti_c (v := 3) (a := 3) (by decide)) (by omega) (by omega) dL_law_164 (fun v23 e24 => ?_)
        refine go_sld (pc := 165) (L := L) (i := v23) (fun b s q => q) rfl (ti_in e24 (by omega) (by omega)) dL_law_165 ?_
        refine go_aload_nS (pc := 166) rfl dL_law_166 ?_
        refine go_iload_n (pc := 167) rfl dL_law_167 ?_
        refine go_iconst (pc := 168) (v := 4) (by decide) dL_law_168 ?_
        refine gf_iadd (pc := 169) (ti_rfl l3) (ti_c (v := 4) (a := 4) (by decide)) (by omega) (by omega) dL_law_169 (fun v25 e26 => ?_)
        refine go_sld (pc := 170) (L := L) (i := v25) (fun b s q => q) rfl (ti_in e26 (by omega) (by omega)) dL_law_170 ?_
        refine go_aload_nS (pc := 171) rfl dL_law_171 ?_
        refine go_iload_n (pc := 172) rfl dL_law_172 ?_
        refine go_iconst (pc := 173) (v := 5) (by decide) dL_law_173 ?_
        refine gf_iadd (pc := 174) (ti_rfl l3) (ti_c (v := 5) (a := 5) (by decide)) (by omega) (by omega) dL_law_174 (fun v27 e28 => ?_)
        refine go_sld (pc := 175) (L := L) (i := v27) (fun b s q => q) rfl (ti_in e28 (by omega) (by omega)) dL_law_175 ?_
        refine go_invV (pc := 176) (sl := 32419) (s_X8_feed_f l 0 hv12 (xs v19.toNatClampNeg) (xs v21.toNatClampNeg) (xs v23.toNatClampNeg) (xs v25.toNatClampNeg) (xs v27.toNatClampNeg)) mL_L_17 iM_X8_feed sM_X8_feed (hv12.sh rfl) rfl rfl rfl (Nat.le_of_ble_eq_true rfl) (Nat.le_of_ble_eq_true rfl) (Nat.le_of_ble_eq_true rfl) (g_cl hv12.ln (Nat.le_of_ble_eq_true rfl)) (Nat.le_of_ble_eq_true rfl) dL_law_176 ?_
        intro r h29 hq _
        obtain ⟨v35, rfl, v35l, v35u, ⟨Q30, hv29, r31, r32, r33⟩, f34⟩ := hq
        have lf36 : LF Q30 := (LF.cong lf18 (by rw [r33]))
        have lh37 : LHs (st h29) := LH.feed hvx ls1 lh f16 f34 (LX e3 e20) (LX e5 e22) (LX e7 e24) (LX e9 e26) (LX e11 e28)
        have hi38 : HIS (st h29) := his_feed f16 f34 hi
        refine go_pop (pc := 179) rfl dL_law_179 ?_
        refine go_goto (pc := 180) (tgt := 654) (by decide) dL_law_180 ?_
        have t1 : (P.1.toInt ≤ 480 → v17.toInt = P.1.toInt + 20 ∧ Q13.1.toInt = P.1.toInt + 20) ∧ (480 < P.1.toInt → v17.toInt = -1 ∧ Q13.1.toInt = P.1.toInt) := r14
        have t2 : (Q13.2.1.toInt ≤ 480 → v35.toInt = Q13.2.1.toInt + 20 ∧ Q30.2.1.toInt = Q13.2.1.toInt + 20) ∧ (480 < Q13.2.1.toInt → v35.toInt = -1 ∧ Q30.2.1.toInt = Q13.2.1.toInt) := r31
        have t3 : Q13.2.1 = P.2.1 := by rw [r15]
        have t4 : Q30.1 = Q13.1 := r32
        rw [t3] at t2
        have ls2 : LSt Q30 := ⟨by rw [t4]; omega, lf36⟩
        refine gf_iinc (pc := 654) (Nat.le_of_ble_eq_true rfl) rfl (ti_rfl l3) (ti_c (by decide)) (by omega) (by omega) dL_law_654 (fun v39 e40 => ?_)
        refine go_lv (lv2 := [(0, .retAddr 0), (1, .ref 0), (2, .ref 70), (3, .int v39)]) rfl ?_
        refine go_goto (pc := 657) (tgt := 18) (by decide) dL_law_657 ?_
        have zv39 : v39.toInt = l3.toInt + 6 := e40
        exact go_lv rfl (ih v39 _ h29 hv29 ls2 lh37 hi38 (by omega) (by omega) (by omega))
      by_cases q41 : w1.toInt = 1
      ·
        refine go_tableIn (pc := 33) (tgt := 183) (off := 150) (by omega) (by omega) (by rw [q41]; rfl) (by decide) dL_law_33 ?_
        refine go_aload_n (pc := 183) rfl dL_law_183 ?_
        refine go_aload_nS (pc := 184) rfl dL_law_184 ?_
        refine go_iload_n (pc := 185) rfl dL_law_185 ?_
        refine go_iconst (pc := 186) (v := 1) (by decide) dL_law_186 ?_
        refine gf_iadd (pc := 187) (ti_rfl l3) (ti_c (v := 1) (a := 1) (by decide)) (by omega) (by omega) dL_law_187 (fun v42 e43 => ?_)
        refine go_sld (pc := 188) (L := L) (i := v42) (fun b s q => q) rfl (ti_in e43 (by omega) (by omega)) dL_law_188 ?_
        refine go_invV (pc := 189) (sl := 32419) (s_X7_end_f l 0 hvx (xs v42.toNatClampNeg)) mL_L_18 iM_X7_end sM_X7_end (hvx.sh rfl) rfl rfl rfl (Nat.le_of_ble_eq_true rfl) (Nat.le_of_ble_eq_true rfl) (Nat.le_of_ble_eq_true rfl) (g_cl hvx.ln (Nat.le_of_ble_eq_true rfl)) (Nat.le_of_ble_eq_true rfl) dL_law_189 ?_
        intro r h44 hq _
        obtain ⟨v49, rfl, v49l, v49u, ⟨Q45, hv44, r46, r47⟩, f48⟩ := hq
        have lf50 : LF Q45 := (LF.cong lf (by rw [r47]))
        refine go_pop (pc := 192) rfl dL_law_192 ?_
        refine go_aload_n (pc := 193) rfl dL_law_193 ?_
        refine go_aload_nS (pc := 194) rfl dL_law_194 ?_
        refine go_iload_n (pc := 195) rfl dL_law_195 ?_
        refine go_iconst (pc := 196) (v := 1) (by decide) dL_law_196 ?_
        refine gf_iadd (pc := 197) (ti_rfl l3) (ti_c (v := 1) (a := 1) (by decide)) (by omega) (by omega) dL_law_197 (fun v51 e52 => ?_)
        refine go_sld (pc := 198) (L := L) (i := v51) (fun b s q => q) rfl (ti_in e52 (by omega) (by omega)) dL_law_198 ?_
        refine go_invV (pc := 199) (sl := 32419) (s_X8_end_f l 0 hv44 (xs v51.toNatClampNeg)) mL_L_22 iM_X8_end sM_X8_end (hv44.sh rfl) rfl rfl rfl (Nat.le_of_ble_eq_true rfl) (Nat.le_of_ble_eq_true rfl) (Nat.le_of_ble_eq_true rfl) (g_cl hv44.ln (Nat.le_of_ble_eq_true rfl)) (Nat.le_of_ble_eq_true rfl) dL_law_199 ?_
        intro r h53 hq _
        obtain ⟨v59, rfl, v59l, v59u, ⟨Q54, hv53, r55, r56, r57⟩, f58⟩ := hq
        have lf60 : LF Q54 := (LF.cong lf50 (by rw [r57]))
        have lh61 : LHs (st h53) := LH.end_ lh f48 f58 (LX e43 e52)
        have hi62 : HIS (st h53) := his_end f48 f58 hi
        refine go_pop (pc := 202) rfl dL_law_202 ?_
        refine go_goto (pc := 203) (tgt := 654) (by decide) dL_law_203 ?_
        have t1 := r46
        have t2 := r55
        have t3 : Q45.2.1 = P.2.1 := by rw [r47]
        have t4 : Q54.1 = Q45.1 := r56
        have t5 : v51.toNatClampNeg = v42.toNatClampNeg := by rw [Int32.toInt_inj.mp (show v51.toInt = v42.toInt by rw [show v51.toInt = l3.toInt + 1 from e52, show v42.toInt = l3.toInt + 1 from e43])]
        rw [t3, t5] at t2
        have ls63 : LSt Q54 := ⟨by rw [t4]; omega, lf60⟩
        refine gf_iinc (pc := 654) (Nat.le_of_ble_eq_true rfl) rfl (ti_rfl l3) (ti_c (by decide)) (by omega) (by omega) dL_law_654 (fun v64 e65 => ?_)
        refine go_lv (lv2 := [(0, .retAddr 0), (1, .ref 0), (2, .ref 70), (3, .int v64)]) rfl ?_
        refine go_goto (pc := 657) (tgt := 18) (by decide) dL_law_657 ?_
        have zv64 : v64.toInt = l3.toInt + 6 := e65
        exact go_lv rfl (ih v64 _ h53 hv53 ls63 lh61 hi62 (by omega) (by omega) (by omega))
      by_cases q66 : w1.toInt = 2
      ·
        refine go_tableIn (pc := 33) (tgt := 206) (off := 173) (by omega) (by omega) (by rw [q66]; rfl) (by decide) dL_law_33 ?_
        refine go_aload_n (pc := 206) rfl dL_law_206 ?_
        refine go_invV (pc := 207) (sl := 32419) (s_X7_program_f l 0 hvx ) mL_L_23 iM_X7_program sM_X7_program (hvx.sh rfl) rfl rfl rfl (Nat.le_of_ble_eq_true rfl) (Nat.le_of_ble_eq_true rfl) (Nat.le_of_ble_eq_true rfl) (g_cl hvx.ln (Nat.le_of_ble_eq_true rfl)) (Nat.le_of_ble_eq_true rfl) dL_law_207 ?_
        intro r h67 hq _
        obtain ⟨v75, rfl, v75l, v75u, ⟨Q68, hv67, r69, r70, r71⟩, f72, f73, f74⟩ := hq
        have lf76 : LF Q68 := (LF.cong lf r71)
        refine go_pop (pc := 210) rfl dL_law_210 ?_
        refine go_aload_n (pc := 211) rfl dL_law_211 ?_
        refine go_invV (pc := 212) (sl := 32419) (s_X8_program_f l 0 hv67 (LF.ck lf76 hv67) (LF.lv lf76 hv67)) mL_L_27 iM_X8_program sM_X8_program (hv67.sh rfl) rfl rfl rfl (Nat.le_of_ble_eq_true rfl) (Nat.le_of_ble_eq_true rfl) (Nat.le_of_ble_eq_true rfl) (g_cl hv67.ln (Nat.le_of_ble_eq_true rfl)) (Nat.le_of_ble_eq_true rfl) dL_law_212 ?_
        intro r h77 hq _
        obtain ⟨v85, rfl, v85l, v85u, ⟨Q78, hv77, sq79⟩, f80, f81, f82, f83, f84⟩ := hq
        have lf86 : LF Q78 := LF.of hv77 f80 f81
        have lp87 := LH.prog hvx hv67 hv77 ls1 (by rw [sq79.1]; exact r69) lh f72 f73 f74 f82 f83
        have lpe := lp87.1
        have hi88 : HIS (st h77) := HIS.prog hvx hv67 ls1 lh hi f72 f73 f82 f83 f84
        refine go_pop (pc := 215) rfl dL_law_215 ?_
        refine go_goto (pc := 216) (tgt := 654) (by decide) dL_law_216 ?_
        have t1 : Q68.1.toInt = 0 := r69
        have ls89 : LSt Q78 := ⟨by rw [sq79.1, sq79.2.1]; exact t1, lf86⟩
        refine gf_iinc (pc := 654) (Nat.le_of_ble_eq_true rfl) rfl (ti_rfl l3) (ti_c (by decide)) (by omega) (by omega) dL_law_654 (fun v90 e91 => ?_)
        refine go_lv (lv2 := [(0, .retAddr 0), (1, .ref 0), (2, .ref 70), (3, .int v90)]) rfl ?_
        refine go_goto (pc := 657) (tgt := 18) (by decide) dL_law_657 ?_
        have zv90 : v90.toInt = l3.toInt + 6 := e91
        exact go_lv rfl (ih v90 _ h77 hv77 ls89 lp87.2 hi88 (by omega) (by omega) (by omega))
      by_cases q92 : w1.toInt = 3
      ·
        refine go_tableIn (pc := 33) (tgt := 219) (off := 186) (by omega) (by omega) (by rw [q92]; rfl) (by decide) dL_law_33 ?_
        refine go_aload_n (pc := 219) rfl dL_law_219 ?_
        refine go_invV (pc := 220) (sl := 32419) (s_X7_fault_f l 0 hvx ) mL_L_28 iM_X7_fault sM_X7_fault (hvx.sh rfl) rfl rfl rfl (Nat.le_of_ble_eq_true rfl) (Nat.le_of_ble_eq_true rfl) (Nat.le_of_ble_eq_true rfl) (g_cl hvx.ln (Nat.le_of_ble_eq_true rfl)) (Nat.le_of_ble_eq_true rfl) dL_law_220 ?_
        intro r h93 hq _
        obtain ⟨v95, rfl, v95l, v95u, rfl, f94⟩ := hq
        refine go_pop (pc := 223) rfl dL_law_223 ?_
        refine go_aload_n (pc := 224) rfl dL_law_224 ?_
        refine go_invV (pc := 225) (sl := 32419) (s_X8_fault_f l 0 hvx ) mL_L_31 iM_X8_fault sM_X8_fault (hvx.sh rfl) rfl rfl rfl (Nat.le_of_ble_eq_true rfl) (Nat.le_of_ble_eq_true rfl) (Nat.le_of_ble_eq_true rfl) (g_cl hvx.ln (Nat.le_of_ble_eq_true rfl)) (Nat.le_of_ble_eq_true rfl) dL_law_225 ?_
        intro r h96 hq _
        obtain ⟨v98, rfl, v98l, v98u, rfl, f97⟩ := hq
        refine go_pop (pc := 228) rfl dL_law_228 ?_
        refine go_goto (pc := 229) (tgt := 654) (by decide) dL_law_229 ?_
        refine gf_iinc (pc := 654) (Nat.le_of_ble_eq_true rfl) rfl (ti_rfl l3) (ti_c (by decide)) (by omega) (by omega) dL_law_654 (fun v99 e100 => ?_)
        refine go_lv (lv2 := [(0, .retAddr 0), (1, .ref 0), (2, .ref 70), (3, .int v99)]) rfl ?_
        refine go_goto (pc := 657) (tgt := 18) (by decide) dL_law_657 ?_
        have zv99 : v99.toInt = l3.toInt + 6 := e100
        exact go_lv rfl (ih v99 _ hx hvx ls lh hi (by omega) (by omega) (by omega))
      by_cases q101 : w1.toInt = 4
      ·
        refine go_tableIn (pc := 33) (tgt := 232) (off := 199) (by omega) (by omega) (by rw [q101]; rfl) (by decide) dL_law_33 ?_
        refine go_aload_n (pc := 232) rfl dL_law_232 ?_
        refine go_aload_nS (pc := 233) rfl dL_law_233 ?_
        refine go_iload_n (pc := 234) rfl dL_law_234 ?_
        refine go_iconst (pc := 235) (v := 1) (by decide) dL_law_235 ?_
        refine gf_iadd (pc := 236) (ti_rfl l3) (ti_c (v := 1) (a := 1) (by decide)) (by omega) (by omega) dL_law_236 (fun v102 e103 => ?_)
        refine go_sld (pc := 237) (L := L) (i := v102) (fun b s q => q) rfl (ti_in e103 (by omega) (by omega)) dL_law_237 ?_
        refine go_invV (pc := 238) (sl := 32419) (s_X7_count_f l 0 hvx (xs v102.toNatClampNeg)) mL_L_32 iM_X7_count sM_X7_count (hvx.sh rfl) rfl rfl rfl (Nat.le_of_ble_eq_true rfl) (Nat.le_of_ble_eq_true rfl) (Nat.le_of_ble_eq_true rfl) (g_cl hvx.ln (Nat.le_of_ble_eq_true rfl)) (Nat.le_of_ble_eq_true rfl) dL_law_238 ?_
        intro r h104 hq _
        obtain ⟨v106, rfl, v106l, v106u, rfl, f105⟩ := hq
        refine go_aload_n (pc := 241) rfl dL_law_241 ?_
        refine go_aload_nS (pc := 242) rfl dL_law_242 ?_
        refine go_iload_n (pc := 243) rfl dL_law_243 ?_
        refine go_iconst (pc := 244) (v := 1) (by decide) dL_law_244 ?_
        refine gf_iadd (pc := 245) (ti_rfl l3) (ti_c (v := 1) (a := 1) (by decide)) (by omega) (by omega) dL_law_245 (fun v107 e108 => ?_)
        refine go_sld (pc := 246) (L := L) (i := v107) (fun b s q => q) rfl (ti_in e108 (by omega) (by omega)) dL_law_246 ?_
        refine go_invV (pc := 247) (sl := 32419) (s_X8_count2_f l 0 hvx (xs v107.toNatClampNeg)) mL_L_36 iM_X8_count sM_X8_count (hvx.sh rfl) rfl rfl rfl (Nat.le_of_ble_eq_true rfl) (Nat.le_of_ble_eq_true rfl) (Nat.le_of_ble_eq_true rfl) (g_cl hvx.ln (Nat.le_of_ble_eq_true rfl)) (Nat.le_of_ble_eq_true rfl) dL_law_247 ?_
        intro r h109 hq _
        obtain ⟨v112, rfl, v112l, v112u, hv109, f110, f111⟩ := hq
        have lf113 := LF.ogs lf
        have ls114 := LSt.ogs ls
        have lh115 : LHs (st h109) := LH.kar f111 lh
        have hi116 : HIS (st h109) := HIS.kar f111 hi
        rw [LX e103 e108] at f110
        have lpe : v106.toInt = v112.toInt := (f105.trans (count_same (fun j => (hvx.2.1 74 j).2) (fun q j z => by rcases z with rfl | rfl; exact hvx.2.1 101 j; exact hvx.2.1 102 j) (by show (hx.2.1 0 1).toInt = (hx.2.1 70 2).toInt; rw [hvx.t0, hvx.t1]; exact ls1) hi)).trans (congrArg Prod.snd f110).symm
        refine gf_icmp_eq (pc := 250) (tgt := 654) (ti_rfl v106) (ti_rfl v112) (by decide) dL_law_250 (fun q9 => ?_) (fun q9 => False.elim (by omega))
        refine gf_iinc (pc := 654) (Nat.le_of_ble_eq_true rfl) rfl (ti_rfl l3) (ti_c (by decide)) (by omega) (by omega) dL_law_654 (fun v117 e118 => ?_)
        refine go_lv (lv2 := [(0, .retAddr 0), (1, .ref 0), (2, .ref 70), (3, .int v117)]) rfl ?_
        refine go_goto (pc := 657) (tgt := 18) (by decide) dL_law_657 ?_
        have zv117 : v117.toInt = l3.toInt + 6 := e118
        exact go_lv rfl (ih v117 _ h109 hv109 ls114 lh115 hi116 (by omega) (by omega) (by omega))
      by_cases q119 : w1.toInt = 5
      ·
        refine go_tableIn (pc := 33) (tgt := 255) (off := 222) (by omega) (by omega) (by rw [q119]; rfl) (by decide) dL_law_33 ?_
        refine go_aload_n (pc := 255) rfl dL_law_255 ?_
        refine go_aload_nS (pc := 256) rfl dL_law_256 ?_
        refine go_iload_n (pc := 257) rfl dL_law_257 ?_
        refine go_iconst (pc := 258) (v := 1) (by decide) dL_law_258 ?_
        refine gf_iadd (pc := 259) (ti_rfl l3) (ti_c (v := 1) (a := 1) (by decide)) (by omega) (by omega) dL_law_259 (fun v120 e121 => ?_)
        refine go_sld (pc := 260) (L := L) (i := v120) (fun b s q => q) rfl (ti_in e121 (by omega) (by omega)) dL_law_260 ?_
        refine go_aload_nS (pc := 261) rfl dL_law_261 ?_
        refine go_iload_n (pc := 262) rfl dL_law_262 ?_
        refine go_iconst (pc := 263) (v := 2) (by decide) dL_law_263 ?_
        refine gf_iadd (pc := 264) (ti_rfl l3) (ti_c (v := 2) (a := 2) (by decide)) (by omega) (by omega) dL_law_264 (fun v122 e123 => ?_)
        refine go_sld (pc := 265) (L := L) (i := v122) (fun b s q => q) rfl (ti_in e123 (by omega) (by omega)) dL_law_265 ?_
        refine go_invV (pc := 266) (sl := 32419) (s_X7_of_f l 0 hvx (xs v120.toNatClampNeg) (xs v122.toNatClampNeg)) mL_L_37 iM_X7_of sM_X7_of (hvx.sh rfl) rfl rfl rfl (Nat.le_of_ble_eq_true rfl) (Nat.le_of_ble_eq_true rfl) (Nat.le_of_ble_eq_true rfl) (g_cl hvx.ln (Nat.le_of_ble_eq_true rfl)) (Nat.le_of_ble_eq_true rfl) dL_law_266 ?_
        intro r h124 hq _
        obtain ⟨v126, rfl, v126l, v126u, rfl, f125⟩ := hq
        refine go_pop (pc := 269) rfl dL_law_269 ?_
        refine go_aload_n (pc := 270) rfl dL_law_270 ?_
        refine go_aload_nS (pc := 271) rfl dL_law_271 ?_
        refine go_iload_n (pc := 272) rfl dL_law_272 ?_
        refine go_iconst (pc := 273) (v := 1) (by decide) dL_law_273 ?_
        refine gf_iadd (pc := 274) (ti_rfl l3) (ti_c (v := 1) (a := 1) (by decide)) (by omega) (by omega) dL_law_274 (fun v127 e128 => ?_)
        refine go_sld (pc := 275) (L := L) (i := v127) (fun b s q => q) rfl (ti_in e128 (by omega) (by omega)) dL_law_275 ?_
        refine go_aload_nS (pc := 276) rfl dL_law_276 ?_
        refine go_iload_n (pc := 277) rfl dL_law_277 ?_
        refine go_iconst (pc := 278) (v := 2) (by decide) dL_law_278 ?_
        refine gf_iadd (pc := 279) (ti_rfl l3) (ti_c (v := 2) (a := 2) (by decide)) (by omega) (by omega) dL_law_279 (fun v129 e130 => ?_)
        refine go_sld (pc := 280) (L := L) (i := v129) (fun b s q => q) rfl (ti_in e130 (by omega) (by omega)) dL_law_280 ?_
        refine go_invV (pc := 281) (sl := 32419) (s_X8_of2_f l 0 hvx (xs v127.toNatClampNeg) (xs v129.toNatClampNeg) (LF.ck lf hvx) (LF.lv lf hvx)) mL_L_41 iM_X8_of sM_X8_of (hvx.sh rfl) rfl rfl rfl (Nat.le_of_ble_eq_true rfl) (Nat.le_of_ble_eq_true rfl) (Nat.le_of_ble_eq_true rfl) (g_cl hvx.ln (Nat.le_of_ble_eq_true rfl)) (Nat.le_of_ble_eq_true rfl) dL_law_281 ?_
        intro r h131 hq _
        obtain ⟨v134, rfl, v134l, v134u, hv131, f132, f133⟩ := hq
        have lf135 := LF.ogs lf
        have ls136 := LSt.ogs ls
        have lh137 : LHs (st h131) := LH.kar f133 lh
        have hi138 : HIS (st h131) := HIS.kar f133 hi
        refine go_pop (pc := 284) rfl dL_law_284 ?_
        refine go_goto (pc := 285) (tgt := 654) (by decide) dL_law_285 ?_
        refine gf_iinc (pc := 654) (Nat.le_of_ble_eq_true rfl) rfl (ti_rfl l3) (ti_c (by decide)) (by omega) (by omega) dL_law_654 (fun v139 e140 => ?_)
        refine go_lv (lv2 := [(0, .retAddr 0), (1, .ref 0), (2, .ref 70), (3, .int v139)]) rfl ?_
        refine go_goto (pc := 657) (tgt := 18) (by decide) dL_law_657 ?_
        have zv139 : v139.toInt = l3.toInt + 6 := e140
        exact go_lv rfl (ih v139 _ h131 hv131 ls136 lh137 hi138 (by omega) (by omega) (by omega))
      by_cases q141 : w1.toInt = 6
      ·
        refine go_tableIn (pc := 33) (tgt := 288) (off := 255) (by omega) (by omega) (by rw [q141]; rfl) (by decide) dL_law_33 ?_
        refine go_aload_n (pc := 288) rfl dL_law_288 ?_
        refine go_aload_nS (pc := 289) rfl dL_law_289 ?_
        refine go_iload_n (pc := 290) rfl dL_law_290 ?_
        refine go_iconst (pc := 291) (v := 1) (by decide) dL_law_291 ?_
        refine gf_iadd (pc := 292) (ti_rfl l3) (ti_c (v := 1) (a := 1) (by decide)) (by omega) (by omega) dL_law_292 (fun v142 e143 => ?_)
        refine go_sld (pc := 293) (L := L) (i := v142) (fun b s q => q) rfl (ti_in e143 (by omega) (by omega)) dL_law_293 ?_
        refine go_aload_nS (pc := 294) rfl dL_law_294 ?_
        refine go_iload_n (pc := 295) rfl dL_law_295 ?_
        refine go_iconst (pc := 296) (v := 2) (by decide) dL_law_296 ?_
        refine gf_iadd (pc := 297) (ti_rfl l3) (ti_c (v := 2) (a := 2) (by decide)) (by omega) (by omega) dL_law_297 (fun v144 e145 => ?_)
        refine go_sld (pc := 298) (L := L) (i := v144) (fun b s q => q) rfl (ti_in e145 (by omega) (by omega)) dL_law_298 ?_
        refine go_invV (pc := 299) (sl := 32419) (s_X7_hangs_f l 0 hvx (xs v142.toNatClampNeg) (xs v144.toNatClampNeg)) mL_L_42 iM_X7_hangs sM_X7_hangs (hvx.sh rfl) rfl rfl rfl (Nat.le_of_ble_eq_true rfl) (Nat.le_of_ble_eq_true rfl) (Nat.le_of_ble_eq_true rfl) (g_cl hvx.ln (Nat.le_of_ble_eq_true rfl)) (Nat.le_of_ble_eq_true rfl) dL_law_299 ?_
        intro r h146 hq _
        obtain ⟨v148, rfl, v148l, v148u, hv146, f147⟩ := hq
        have lh149 : LHs (st h146) := LH.kac f147 lh
        have hi150 : HIS (st h146) := HIS.kac f147 hi
        refine go_pop (pc := 302) rfl dL_law_302 ?_
        refine go_aload_n (pc := 303) rfl dL_law_303 ?_
        refine go_aload_nS (pc := 304) rfl dL_law_304 ?_
        refine go_iload_n (pc := 305) rfl dL_law_305 ?_
        refine go_iconst (pc := 306) (v := 1) (by decide) dL_law_306 ?_
        refine gf_iadd (pc := 307) (ti_rfl l3) (ti_c (v := 1) (a := 1) (by decide)) (by omega) (by omega) dL_law_307 (fun v151 e152 => ?_)
        refine go_sld (pc := 308) (L := L) (i := v151) (fun b s q => q) rfl (ti_in e152 (by omega) (by omega)) dL_law_308 ?_
        refine go_aload_nS (pc := 309) rfl dL_law_309 ?_
        refine go_iload_n (pc := 310) rfl dL_law_310 ?_
        refine go_iconst (pc := 311) (v := 2) (by decide) dL_law_311 ?_
        refine gf_iadd (pc := 312) (ti_rfl l3) (ti_c (v := 2) (a := 2) (by decide)) (by omega) (by omega) dL_law_312 (fun v153 e154 => ?_)
        refine go_sld (pc := 313) (L := L) (i := v153) (fun b s q => q) rfl (ti_in e154 (by omega) (by omega)) dL_law_313 ?_
        refine go_invV (pc := 314) (sl := 32419) (s_X8_hangs l 0 hv146 (xs v151.toNatClampNeg) (xs v153.toNatClampNeg)) mL_L_45 iM_X8_hangs sM_X8_hangs (hv146.sh rfl) rfl rfl rfl (Nat.le_of_ble_eq_true rfl) (Nat.le_of_ble_eq_true rfl) (Nat.le_of_ble_eq_true rfl) (g_cl hv146.ln (Nat.le_of_ble_eq_true rfl)) (Nat.le_of_ble_eq_true rfl) dL_law_314 ?_
        intro r h155 hq _
        obtain ⟨v156, rfl, v156l, v156u, rfl⟩ := hq
        refine go_pop (pc := 317) rfl dL_law_317 ?_
        refine go_goto (pc := 318) (tgt := 654) (by decide) dL_law_318 ?_
        refine gf_iinc (pc := 654) (Nat.le_of_ble_eq_true rfl) rfl (ti_rfl l3) (ti_c (by decide)) (by omega) (by omega) dL_law_654 (fun v157 e158 => ?_)
        refine go_lv (lv2 := [(0, .retAddr 0), (1, .ref 0), (2, .ref 70), (3, .int v157)]) rfl ?_
        refine go_goto (pc := 657) (tgt := 18) (by decide) dL_law_657 ?_
        have zv157 : v157.toInt = l3.toInt + 6 := e158
        exact go_lv rfl (ih v157 _ h146 hv146 ls lh149 hi150 (by omega) (by omega) (by omega))
      by_cases q159 : w1.toInt = 7
      ·
        refine go_tableIn (pc := 33) (tgt := 321) (off := 288) (by omega) (by omega) (by rw [q159]; rfl) (by decide) dL_law_33 ?_
        refine go_aload_n (pc := 321) rfl dL_law_321 ?_
        refine go_aload_nS (pc := 322) rfl dL_law_322 ?_
        refine go_iload_n (pc := 323) rfl dL_law_323 ?_
        refine go_iconst (pc := 324) (v := 1) (by decide) dL_law_324 ?_
        refine gf_iadd (pc := 325) (ti_rfl l3) (ti_c (v := 1) (a := 1) (by decide)) (by omega) (by omega) dL_law_325 (fun v160 e161 => ?_)
        refine go_sld (pc := 326) (L := L) (i := v160) (fun b s q => q) rfl (ti_in e161 (by omega) (by omega)) dL_law_326 ?_
        refine go_invV (pc := 327) (sl := 32419) (s_X7_begun_f l 0 hvx (xs v160.toNatClampNeg)) mL_L_46 iM_X7_begun sM_X7_begun (hvx.sh rfl) rfl rfl rfl (Nat.le_of_ble_eq_true rfl) (Nat.le_of_ble_eq_true rfl) (Nat.le_of_ble_eq_true rfl) (g_cl hvx.ln (Nat.le_of_ble_eq_true rfl)) (Nat.le_of_ble_eq_true rfl) dL_law_327 ?_
        intro r h162 hq _
        obtain ⟨v164, rfl, hv162, f163⟩ := hq
        have lh165 : LHs (st h162) := LH.kac f163 lh
        have hi166 : HIS (st h162) := HIS.kac f163 hi
        refine go_pop2 (pc := 330) dL_law_330 ?_
        refine go_aload_n (pc := 331) rfl dL_law_331 ?_
        refine go_aload_nS (pc := 332) rfl dL_law_332 ?_
        refine go_iload_n (pc := 333) rfl dL_law_333 ?_
        refine go_iconst (pc := 334) (v := 1) (by decide) dL_law_334 ?_
        refine gf_iadd (pc := 335) (ti_rfl l3) (ti_c (v := 1) (a := 1) (by decide)) (by omega) (by omega) dL_law_335 (fun v167 e168 => ?_)
        refine go_sld (pc := 336) (L := L) (i := v167) (fun b s q => q) rfl (ti_in e168 (by omega) (by omega)) dL_law_336 ?_
        refine go_invV (pc := 337) (sl := 32419) (s_X8_begun l 0 hv162 (xs v167.toNatClampNeg)) mL_L_50 iM_X8_begun sM_X8_begun (hv162.sh rfl) rfl rfl rfl (Nat.le_of_ble_eq_true rfl) (Nat.le_of_ble_eq_true rfl) (Nat.le_of_ble_eq_true rfl) (g_cl hv162.ln (Nat.le_of_ble_eq_true rfl)) (Nat.le_of_ble_eq_true rfl) dL_law_337 ?_
        intro r h169 hq _
        obtain ⟨v170, rfl, rfl⟩ := hq
        refine go_pop2 (pc := 340) dL_law_340 ?_
        refine go_goto (pc := 341) (tgt := 654) (by decide) dL_law_341 ?_
        refine gf_iinc (pc := 654) (Nat.le_of_ble_eq_true rfl) rfl (ti_rfl l3) (ti_c (by decide)) (by omega) (by omega) dL_law_654 (fun v171 e172 => ?_)
        refine go_lv (lv2 := [(0, .retAddr 0), (1, .ref 0), (2, .ref 70), (3, .int v171)]) rfl ?_
        refine go_goto (pc := 657) (tgt := 18) (by decide) dL_law_657 ?_
        have zv171 : v171.toInt = l3.toInt + 6 := e172
        exact go_lv rfl (ih v171 _ h162 hv162 ls lh165 hi166 (by omega) (by omega) (by omega))
      by_cases q173 : w1.toInt = 8
      ·
        refine go_tableIn (pc := 33) (tgt := 344) (off := 311) (by omega) (by omega) (by rw [q173]; rfl) (by decide) dL_law_33 ?_
        refine go_aload_n (pc := 344) rfl dL_law_344 ?_
        refine go_aload_nS (pc := 345) rfl dL_law_345 ?_
        refine go_iload_n (pc := 346) rfl dL_law_346 ?_
        refine go_iconst (pc := 347) (v := 1) (by decide) dL_law_347 ?_
        refine gf_iadd (pc := 348) (ti_rfl l3) (ti_c (v := 1) (a := 1) (by decide)) (by omega) (by omega) dL_law_348 (fun v174 e175 => ?_)
        refine go_sld (pc := 349) (L := L) (i := v174) (fun b s q => q) rfl (ti_in e175 (by omega) (by omega)) dL_law_349 ?_
        refine go_aload_nS (pc := 350) rfl dL_law_350 ?_
        refine go_iload_n (pc := 351) rfl dL_law_351 ?_
        refine go_iconst (pc := 352) (v := 2) (by decide) dL_law_352 ?_
        refine gf_iadd (pc := 353) (ti_rfl l3) (ti_c (v := 2) (a := 2) (by decide)) (by omega) (by omega) dL_law_353 (fun v176 e177 => ?_)
        refine go_sld (pc := 354) (L := L) (i := v176) (fun b s q => q) rfl (ti_in e177 (by omega) (by omega)) dL_law_354 ?_
        refine go_aload_nS (pc := 355) rfl dL_law_355 ?_
        refine go_iload_n (pc := 356) rfl dL_law_356 ?_
        refine go_iconst (pc := 357) (v := 3) (by decide) dL_law_357 ?_
        refine gf_iadd (pc := 358) (ti_rfl l3) (ti_c (v := 3) (a := 3) (by decide)) (by omega) (by omega) dL_law_358 (fun v178 e179 => ?_)
        refine go_sld (pc := 359) (L := L) (i := v178) (fun b s q => q) rfl (ti_in e179 (by omega) (by omega)) dL_law_359 ?_
        refine go_invV (pc := 360) (sl := 32419) (s_X7_summary_f l 0 hvx (xs v174.toNatClampNeg) (xs v176.toNatClampNeg) (xs v178.toNatClampNeg)) mL_L_51 iM_X7_summary sM_X7_summary (hvx.sh rfl) rfl rfl rfl (Nat.le_of_ble_eq_true rfl) (Nat.le_of_ble_eq_true rfl) (Nat.le_of_ble_eq_true rfl) (g_cl hvx.ln (Nat.le_of_ble_eq_true rfl)) (Nat.le_of_ble_eq_true rfl) dL_law_360 ?_
        intro r h180 hq _
        obtain ⟨v182, rfl, v182l, v182u, hv180, f181⟩ := hq
        have lh183 : LHs (st h180) := LH.kac f181 lh
        have hi184 : HIS (st h180) := HIS.kac f181 hi
        refine go_pop (pc := 363) rfl dL_law_363 ?_
        refine go_aload_n (pc := 364) rfl dL_law_364 ?_
        refine go_aload_nS (pc := 365) rfl dL_law_365 ?_
        refine go_iload_n (pc := 366) rfl dL_law_366 ?_
        refine go_iconst (pc := 367) (v := 1) (by decide) dL_law_367 ?_
        refine gf_iadd (pc := 368) (ti_rfl l3) (ti_c (v := 1) (a := 1) (by decide)) (by omega) (by omega) dL_law_368 (fun v185 e186 => ?_)
        refine go_sld (pc := 369) (L := L) (i := v185) (fun b s q => q) rfl (ti_in e186 (by omega) (by omega)) dL_law_369 ?_
        refine go_aload_nS (pc := 370) rfl dL_law_370 ?_
        refine go_iload_n (pc := 371) rfl dL_law_371 ?_
        refine go_iconst (pc := 372) (v := 2) (by decide) dL_law_372 ?_
        refine gf_iadd (pc := 373) (ti_rfl l3) (ti_c (v := 2) (a := 2) (by decide)) (by omega) (by omega) dL_law_373 (fun v187 e188 => ?_)
        refine go_sld (pc := 374) (L := L) (i := v187) (fun b s q => q) rfl (ti_in e188 (by omega) (by omega)) dL_law_374 ?_
        refine go_aload_nS (pc := 375) rfl dL_law_375 ?_
        refine go_iload_n (pc := 376) rfl dL_law_376 ?_
        refine go_iconst (pc := 377) (v := 3) (by decide) dL_law_377 ?_
        refine gf_iadd (pc := 378) (ti_rfl l3) (ti_c (v := 3) (a := 3) (by decide)) (by omega) (by omega) dL_law_378 (fun v189 e190 => ?_)
        refine go_sld (pc := 379) (L := L) (i := v189) (fun b s q => q) rfl (ti_in e190 (by omega) (by omega)) dL_law_379 ?_
        refine go_invV (pc := 380) (sl := 32419) (s_X8_summary_f l 0 hv180 (xs v185.toNatClampNeg) (xs v187.toNatClampNeg) (xs v189.toNatClampNeg) (LF.cp lf)) mL_L_55 iM_X8_summary sM_X8_summary (hv180.sh rfl) rfl rfl rfl (Nat.le_of_ble_eq_true rfl) (Nat.le_of_ble_eq_true rfl) (Nat.le_of_ble_eq_true rfl) (g_cl hv180.ln (Nat.le_of_ble_eq_true rfl)) (Nat.le_of_ble_eq_true rfl) dL_law_380 ?_
        intro r h191 hq _
        obtain ⟨v193, rfl, v193l, v193u, hv191, f192⟩ := hq
        have lf194 := LF.ogs lf
        have ls195 := LSt.ogs ls
        have lh196 : LHs (st h191) := LH.kar f192 lh183
        have hi197 : HIS (st h191) := HIS.kar f192 hi184
        refine go_pop (pc := 383) rfl dL_law_383 ?_
        refine go_goto (pc := 384) (tgt := 654) (by decide) dL_law_384 ?_
        refine gf_iinc (pc := 654) (Nat.le_of_ble_eq_true rfl) rfl (ti_rfl l3) (ti_c (by decide)) (by omega) (by omega) dL_law_654 (fun v198 e199 => ?_)
        refine go_lv (lv2 := [(0, .retAddr 0), (1, .ref 0), (2, .ref 70), (3, .int v198)]) rfl ?_
        refine go_goto (pc := 657) (tgt := 18) (by decide) dL_law_657 ?_
        have zv198 : v198.toInt = l3.toInt + 6 := e199
        exact go_lv rfl (ih v198 _ h191 hv191 ls195 lh196 hi197 (by omega) (by omega) (by omega))
      by_cases q200 : w1.toInt = 9
      ·
        refine go_tableIn (pc := 33) (tgt := 387) (off := 354) (by omega) (by omega) (by rw [q200]; rfl) (by decide) dL_law_33 ?_
        refine go_aload_n (pc := 387) rfl dL_law_387 ?_
        refine go_aload_nS (pc := 388) rfl dL_law_388 ?_
        refine go_iload_n (pc := 389) rfl dL_law_389 ?_
        refine go_iconst (pc := 390) (v := 1) (by decide) dL_law_390 ?_
        refine gf_iadd (pc := 391) (ti_rfl l3) (ti_c (v := 1) (a := 1) (by decide)) (by omega) (by omega) dL_law_391 (fun v201 e202 => ?_)
        refine go_sld (pc := 392) (L := L) (i := v201) (fun b s q => q) rfl (ti_in e202 (by omega) (by omega)) dL_law_392 ?_
        refine go_invV (pc := 393) (sl := 32419) (s_X7_back_f l 0 hvx (xs v201.toNatClampNeg)) mL_L_56 iM_X7_back sM_X7_back (hvx.sh rfl) rfl rfl rfl (Nat.le_of_ble_eq_true rfl) (Nat.le_of_ble_eq_true rfl) (Nat.le_of_ble_eq_true rfl) (g_cl hvx.ln (Nat.le_of_ble_eq_true rfl)) (Nat.le_of_ble_eq_true rfl) dL_law_393 ?_
        intro r h203 hq _
        obtain ⟨v205, rfl, hv203, f204⟩ := hq
        have lh206 : LHs (st h203) := LH.kac f204 lh
        have hi207 : HIS (st h203) := HIS.kac f204 hi
        refine go_pop2 (pc := 396) dL_law_396 ?_
        refine go_aload_n (pc := 397) rfl dL_law_397 ?_
        refine go_aload_nS (pc := 398) rfl dL_law_398 ?_
        refine go_iload_n (pc := 399) rfl dL_law_399 ?_
        refine go_iconst (pc := 400) (v := 1) (by decide) dL_law_400 ?_
        refine gf_iadd (pc := 401) (ti_rfl l3) (ti_c (v := 1) (a := 1) (by decide)) (by omega) (by omega) dL_law_401 (fun v208 e209 => ?_)
        refine go_sld (pc := 402) (L := L) (i := v208) (fun b s q => q) rfl (ti_in e209 (by omega) (by omega)) dL_law_402 ?_
        refine go_invV (pc := 403) (sl := 32419) (s_X8_back l 0 hv203 (xs v208.toNatClampNeg)) mL_L_59 iM_X8_back sM_X8_back (hv203.sh rfl) rfl rfl rfl (Nat.le_of_ble_eq_true rfl) (Nat.le_of_ble_eq_true rfl) (Nat.le_of_ble_eq_true rfl) (g_cl hv203.ln (Nat.le_of_ble_eq_true rfl)) (Nat.le_of_ble_eq_true rfl) dL_law_403 ?_
        intro r h210 hq _
        obtain ⟨v211, rfl, rfl⟩ := hq
        refine go_pop2 (pc := 406) dL_law_406 ?_
        refine go_goto (pc := 407) (tgt := 654) (by decide) dL_law_407 ?_
        refine gf_iinc (pc := 654) (Nat.le_of_ble_eq_true rfl) rfl (ti_rfl l3) (ti_c (by decide)) (by omega) (by omega) dL_law_654 (fun v212 e213 => ?_)
        refine go_lv (lv2 := [(0, .retAddr 0), (1, .ref 0), (2, .ref 70), (3, .int v212)]) rfl ?_
        refine go_goto (pc := 657) (tgt := 18) (by decide) dL_law_657 ?_
        have zv212 : v212.toInt = l3.toInt + 6 := e213
        exact go_lv rfl (ih v212 _ h203 hv203 ls lh206 hi207 (by omega) (by omega) (by omega))
      by_cases q214 : w1.toInt = 10
      ·
        refine go_tableIn (pc := 33) (tgt := 410) (off := 377) (by omega) (by omega) (by rw [q214]; rfl) (by decide) dL_law_33 ?_
        refine go_aload_n (pc := 410) rfl dL_law_410 ?_
        refine go_aload_nS (pc := 411) rfl dL_law_411 ?_
        refine go_iload_n (pc := 412) rfl dL_law_412 ?_
        refine go_iconst (pc := 413) (v := 1) (by decide) dL_law_413 ?_
        refine gf_iadd (pc := 414) (ti_rfl l3) (ti_c (v := 1) (a := 1) (by decide)) (by omega) (by omega) dL_law_414 (fun v215 e216 => ?_)
        refine go_sld (pc := 415) (L := L) (i := v215) (fun b s q => q) rfl (ti_in e216 (by omega) (by omega)) dL_law_415 ?_
        refine go_invV (pc := 416) (sl := 32419) (s_X7_forth_f l 0 hvx (xs v215.toNatClampNeg)) mL_L_60 iM_X7_forth sM_X7_forth (hvx.sh rfl) rfl rfl rfl (Nat.le_of_ble_eq_true rfl) (Nat.le_of_ble_eq_true rfl) (Nat.le_of_ble_eq_true rfl) (g_cl hvx.ln (Nat.le_of_ble_eq_true rfl)) (Nat.le_of_ble_eq_true rfl) dL_law_416 ?_
        intro r h217 hq _
        obtain ⟨v219, rfl, hv217, f218⟩ := hq
        have lh220 : LHs (st h217) := LH.kac f218 lh
        have hi221 : HIS (st h217) := HIS.kac f218 hi
        refine go_pop2 (pc := 419) dL_law_419 ?_
        refine go_aload_n (pc := 420) rfl dL_law_420 ?_
        refine go_aload_nS (pc := 421) rfl dL_law_421 ?_
        refine go_iload_n (pc := 422) rfl dL_law_422 ?_
        refine go_iconst (pc := 423) (v := 1) (by decide) dL_law_423 ?_
        refine gf_iadd (pc := 424) (ti_rfl l3) (ti_c (v := 1) (a := 1) (by decide)) (by omega) (by omega) dL_law_424 (fun v222 e223 => ?_)
        refine go_sld (pc := 425) (L := L) (i := v222) (fun b s q => q) rfl (ti_in e223 (by omega) (by omega)) dL_law_425 ?_
        refine go_invV (pc := 426) (sl := 32419) (s_X8_forth l 0 hv217 (xs v222.toNatClampNeg)) mL_L_63 iM_X8_forth sM_X8_forth (hv217.sh rfl) rfl rfl rfl (Nat.le_of_ble_eq_true rfl) (Nat.le_of_ble_eq_true rfl) (Nat.le_of_ble_eq_true rfl) (g_cl hv217.ln (Nat.le_of_ble_eq_true rfl)) (Nat.le_of_ble_eq_true rfl) dL_law_426 ?_
        intro r h224 hq _
        obtain ⟨v225, rfl, rfl⟩ := hq
        refine go_pop2 (pc := 429) dL_law_429 ?_
        refine go_goto (pc := 430) (tgt := 654) (by decide) dL_law_430 ?_
        refine gf_iinc (pc := 654) (Nat.le_of_ble_eq_true rfl) rfl (ti_rfl l3) (ti_c (by decide)) (by omega) (by omega) dL_law_654 (fun v226 e227 => ?_)
        refine go_lv (lv2 := [(0, .retAddr 0), (1, .ref 0), (2, .ref 70), (3, .int v226)]) rfl ?_
        refine go_goto (pc := 657) (tgt := 18) (by decide) dL_law_657 ?_
        have zv226 : v226.toInt = l3.toInt + 6 := e227
        exact go_lv rfl (ih v226 _ h217 hv217 ls lh220 hi221 (by omega) (by omega) (by omega))
      by_cases q228 : w1.toInt = 11
      ·
        refine go_tableIn (pc := 33) (tgt := 433) (off := 400) (by omega) (by omega) (by rw [q228]; rfl) (by decide) dL_law_33 ?_
        refine go_aload_n (pc := 433) rfl dL_law_433 ?_
        refine go_aload_nS (pc := 434) rfl dL_law_434 ?_
        refine go_iload_n (pc := 435) rfl dL_law_435 ?_
        refine go_iconst (pc := 436) (v := 1) (by decide) dL_law_436 ?_
        refine gf_iadd (pc := 437) (ti_rfl l3) (ti_c (v := 1) (a := 1) (by decide)) (by omega) (by omega) dL_law_437 (fun v229 e230 => ?_)
        refine go_sld (pc := 438) (L := L) (i := v229) (fun b s q => q) rfl (ti_in e230 (by omega) (by omega)) dL_law_438 ?_
        refine go_aload_nS (pc := 439) rfl dL_law_439 ?_
        refine go_iload_n (pc := 440) rfl dL_law_440 ?_
        refine go_iconst (pc := 441) (v := 2) (by decide) dL_law_441 ?_
        refine gf_iadd (pc := 442) (ti_rfl l3) (ti_c (v := 2) (a := 2) (by decide)) (by omega) (by omega) dL_law_442 (fun v231 e232 => ?_)
        refine go_sld (pc := 443) (L := L) (i := v231) (fun b s q => q) rfl (ti_in e232 (by omega) (by omega)) dL_law_443 ?_
        refine go_invV (pc := 444) (sl := 32419) (s_X7_between_f l 0 hvx (xs v229.toNatClampNeg) (xs v231.toNatClampNeg)) mL_L_64 iM_X7_between sM_X7_between (hvx.sh rfl) rfl rfl rfl (Nat.le_of_ble_eq_true rfl) (Nat.le_of_ble_eq_true rfl) (Nat.le_of_ble_eq_true rfl) (g_cl hvx.ln (Nat.le_of_ble_eq_true rfl)) (Nat.le_of_ble_eq_true rfl) dL_law_444 ?_
        intro r h233 hq _
        obtain ⟨v235, rfl, hv233, f234⟩ := hq
        have lh236 : LHs (st h233) := LH.kac f234 lh
        have hi237 : HIS (st h233) := HIS.kac f234 hi
        refine go_pop2 (pc := 447) dL_law_447 ?_
        refine go_aload_n (pc := 448) rfl dL_law_448 ?_
        refine go_aload_nS (pc := 449) rfl dL_law_449 ?_
        refine go_iload_n (pc := 450) rfl dL_law_450 ?_
        refine go_iconst (pc := 451) (v := 1) (by decide) dL_law_451 ?_
        refine gf_iadd (pc := 452) (ti_rfl l3) (ti_c (v := 1) (a := 1) (by decide)) (by omega) (by omega) dL_law_452 (fun v238 e239 => ?_)
        refine go_sld (pc := 453) (L := L) (i := v238) (fun b s q => q) rfl (ti_in e239 (by omega) (by omega)) dL_law_453 ?_
        refine go_aload_nS (pc := 454) rfl dL_law_454 ?_
        refine go_iload_n (pc := 455) rfl dL_law_455 ?_
        refine go_iconst (pc := 456) (v := 2) (by decide) dL_law_456 ?_
        refine gf_iadd (pc := 457) (ti_rfl l3) (ti_c (v := 2) (a := 2) (by decide)) (by omega) (by omega) dL_law_457 (fun v240 e241 => ?_)
        refine go_sld (pc := 458) (L := L) (i := v240) (fun b s q => q) rfl (ti_in e241 (by omega) (by omega)) dL_law_458 ?_
        refine go_invV (pc := 459) (sl := 32419) (s_X8_between l 0 hv233 (xs v238.toNatClampNeg) (xs v240.toNatClampNeg)) mL_L_68 iM_X8_between sM_X8_between (hv233.sh rfl) rfl rfl rfl (Nat.le_of_ble_eq_true rfl) (Nat.le_of_ble_eq_true rfl) (Nat.le_of_ble_eq_true rfl) (g_cl hv233.ln (Nat.le_of_ble_eq_true rfl)) (Nat.le_of_ble_eq_true rfl) dL_law_459 ?_
        intro r h242 hq _
        obtain ⟨v243, rfl, rfl⟩ := hq
        refine go_pop2 (pc := 462) dL_law_462 ?_
        refine go_goto (pc := 463) (tgt := 654) (by decide) dL_law_463 ?_
        refine gf_iinc (pc := 654) (Nat.le_of_ble_eq_true rfl) rfl (ti_rfl l3) (ti_c (by decide)) (by omega) (by omega) dL_law_654 (fun v244 e245 => ?_)
        refine go_lv (lv2 := [(0, .retAddr 0), (1, .ref 0), (2, .ref 70), (3, .int v244)]) rfl ?_
        refine go_goto (pc := 657) (tgt := 18) (by decide) dL_law_657 ?_
        have zv244 : v244.toInt = l3.toInt + 6 := e245
        exact go_lv rfl (ih v244 _ h233 hv233 ls lh236 hi237 (by omega) (by omega) (by omega))
      by_cases q246 : w1.toInt = 12
      ·
        refine go_tableIn (pc := 33) (tgt := 466) (off := 433) (by omega) (by omega) (by rw [q246]; rfl) (by decide) dL_law_33 ?_
        refine go_aload_n (pc := 466) rfl dL_law_466 ?_
        refine go_aload_nS (pc := 467) rfl dL_law_467 ?_
        refine go_iload_n (pc := 468) rfl dL_law_468 ?_
        refine go_iconst (pc := 469) (v := 1) (by decide) dL_law_469 ?_
        refine gf_iadd (pc := 470) (ti_rfl l3) (ti_c (v := 1) (a := 1) (by decide)) (by omega) (by omega) dL_law_470 (fun v247 e248 => ?_)
        refine go_sld (pc := 471) (L := L) (i := v247) (fun b s q => q) rfl (ti_in e248 (by omega) (by omega)) dL_law_471 ?_
        refine go_aload_nS (pc := 472) rfl dL_law_472 ?_
        refine go_iload_n (pc := 473) rfl dL_law_473 ?_
        refine go_iconst (pc := 474) (v := 2) (by decide) dL_law_474 ?_
        refine gf_iadd (pc := 475) (ti_rfl l3) (ti_c (v := 2) (a := 2) (by decide)) (by omega) (by omega) dL_law_475 (fun v249 e250 => ?_)
        refine go_sld (pc := 476) (L := L) (i := v249) (fun b s q => q) rfl (ti_in e250 (by omega) (by omega)) dL_law_476 ?_
        refine go_invV (pc := 477) (sl := 32419) (s_X7_backOf_f l 0 hvx (xs v247.toNatClampNeg) (xs v249.toNatClampNeg)) mL_L_69 iM_X7_backOf sM_X7_backOf (hvx.sh rfl) rfl rfl rfl (Nat.le_of_ble_eq_true rfl) (Nat.le_of_ble_eq_true rfl) (Nat.le_of_ble_eq_true rfl) (g_cl hvx.ln (Nat.le_of_ble_eq_true rfl)) (Nat.le_of_ble_eq_true rfl) dL_law_477 ?_
        intro r h251 hq _
        obtain ⟨v253, rfl, hv251, f252⟩ := hq
        have lh254 : LHs (st h251) := LH.kac f252 lh
        have hi255 : HIS (st h251) := HIS.kac f252 hi
        refine go_pop2 (pc := 480) dL_law_480 ?_
        refine go_aload_n (pc := 481) rfl dL_law_481 ?_
        refine go_aload_nS (pc := 482) rfl dL_law_482 ?_
        refine go_iload_n (pc := 483) rfl dL_law_483 ?_
        refine go_iconst (pc := 484) (v := 1) (by decide) dL_law_484 ?_
        refine gf_iadd (pc := 485) (ti_rfl l3) (ti_c (v := 1) (a := 1) (by decide)) (by omega) (by omega) dL_law_485 (fun v256 e257 => ?_)
        refine go_sld (pc := 486) (L := L) (i := v256) (fun b s q => q) rfl (ti_in e257 (by omega) (by omega)) dL_law_486 ?_
        refine go_aload_nS (pc := 487) rfl dL_law_487 ?_
        refine go_iload_n (pc := 488) rfl dL_law_488 ?_
        refine go_iconst (pc := 489) (v := 2) (by decide) dL_law_489 ?_
        refine gf_iadd (pc := 490) (ti_rfl l3) (ti_c (v := 2) (a := 2) (by decide)) (by omega) (by omega) dL_law_490 (fun v258 e259 => ?_)
        refine go_sld (pc := 491) (L := L) (i := v258) (fun b s q => q) rfl (ti_in e259 (by omega) (by omega)) dL_law_491 ?_
        refine go_invV (pc := 492) (sl := 32419) (s_X8_backOf_f l 0 hv251 (xs v256.toNatClampNeg) (xs v258.toNatClampNeg) (LF.ck lf hv251)) mL_L_72 iM_X8_backOf sM_X8_backOf (hv251.sh rfl) rfl rfl rfl (Nat.le_of_ble_eq_true rfl) (Nat.le_of_ble_eq_true rfl) (Nat.le_of_ble_eq_true rfl) (g_cl hv251.ln (Nat.le_of_ble_eq_true rfl)) (Nat.le_of_ble_eq_true rfl) dL_law_492 ?_
        intro r h260 hq _
        obtain ⟨v262, rfl, hv260, f261⟩ := hq
        have lf263 := LF.ogs lf
        have ls264 := LSt.ogs ls
        have lh265 : LHs (st h260) := LH.kar f261 lh254
        have hi266 : HIS (st h260) := HIS.kar f261 hi255
        refine go_pop2 (pc := 495) dL_law_495 ?_
        refine go_goto (pc := 496) (tgt := 654) (by decide) dL_law_496 ?_
        refine gf_iinc (pc := 654) (Nat.le_of_ble_eq_true rfl) rfl (ti_rfl l3) (ti_c (by decide)) (by omega) (by omega) dL_law_654 (fun v267 e268 => ?_)
        refine go_lv (lv2 := [(0, .retAddr 0), (1, .ref 0), (2, .ref 70), (3, .int v267)]) rfl ?_
        refine go_goto (pc := 657) (tgt := 18) (by decide) dL_law_657 ?_
        have zv267 : v267.toInt = l3.toInt + 6 := e268
        exact go_lv rfl (ih v267 _ h260 hv260 ls264 lh265 hi266 (by omega) (by omega) (by omega))
      by_cases q269 : w1.toInt = 13
      ·
        refine go_tableIn (pc := 33) (tgt := 499) (off := 466) (by omega) (by omega) (by rw [q269]; rfl) (by decide) dL_law_33 ?_
        refine go_aload_n (pc := 499) rfl dL_law_499 ?_
        refine go_aload_nS (pc := 500) rfl dL_law_500 ?_
        refine go_iload_n (pc := 501) rfl dL_law_501 ?_
        refine go_iconst (pc := 502) (v := 1) (by decide) dL_law_502 ?_
        refine gf_iadd (pc := 503) (ti_rfl l3) (ti_c (v := 1) (a := 1) (by decide)) (by omega) (by omega) dL_law_503 (fun v270 e271 => ?_)
        refine go_sld (pc := 504) (L := L) (i := v270) (fun b s q => q) rfl (ti_in e271 (by omega) (by omega)) dL_law_504 ?_
        refine go_invV (pc := 505) (sl := 32419) (s_X7_kept_f l 0 hvx (xs v270.toNatClampNeg)) mL_L_73 iM_X7_kept sM_X7_kept (hvx.sh rfl) rfl rfl rfl (Nat.le_of_ble_eq_true rfl) (Nat.le_of_ble_eq_true rfl) (Nat.le_of_ble_eq_true rfl) (g_cl hvx.ln (Nat.le_of_ble_eq_true rfl)) (Nat.le_of_ble_eq_true rfl) dL_law_505 ?_
        intro r h272 hq _
        obtain ⟨v274, rfl, hv272, f273⟩ := hq
        have lh275 : LHs (st h272) := LH.kac f273 lh
        have hi276 : HIS (st h272) := HIS.kac f273 hi
        refine go_pop2 (pc := 508) dL_law_508 ?_
        refine go_aload_n (pc := 509) rfl dL_law_509 ?_
        refine go_aload_nS (pc := 510) rfl dL_law_510 ?_
        refine go_iload_n (pc := 511) rfl dL_law_511 ?_
        refine go_iconst (pc := 512) (v := 1) (by decide) dL_law_512 ?_
        refine gf_iadd (pc := 513) (ti_rfl l3) (ti_c (v := 1) (a := 1) (by decide)) (by omega) (by omega) dL_law_513 (fun v277 e278 => ?_)
        refine go_sld (pc := 514) (L := L) (i := v277) (fun b s q => q) rfl (ti_in e278 (by omega) (by omega)) dL_law_514 ?_
        refine go_invV (pc := 515) (sl := 32419) (s_X8_kept_f l 0 hv272 (xs v277.toNatClampNeg) (LF.ck lf hv272)) mL_L_76 iM_X8_kept sM_X8_kept (hv272.sh rfl) rfl rfl rfl (Nat.le_of_ble_eq_true rfl) (Nat.le_of_ble_eq_true rfl) (Nat.le_of_ble_eq_true rfl) (g_cl hv272.ln (Nat.le_of_ble_eq_true rfl)) (Nat.le_of_ble_eq_true rfl) dL_law_515 ?_
        intro r h279 hq _
        obtain ⟨v283, rfl, ⟨Q280, hv279, sq281⟩, f282⟩ := hq
        have ls284 := LSt.sq ls sq281
        have lh285 : LHs (st h279) := LH.kar f282 lh275
        have hi286 : HIS (st h279) := HIS.kar f282 hi276
        refine go_pop2 (pc := 518) dL_law_518 ?_
        refine go_goto (pc := 519) (tgt := 654) (by decide) dL_law_519 ?_
        refine gf_iinc (pc := 654) (Nat.le_of_ble_eq_true rfl) rfl (ti_rfl l3) (ti_c (by decide)) (by omega) (by omega) dL_law_654 (fun v287 e288 => ?_)
        refine go_lv (lv2 := [(0, .retAddr 0), (1, .ref 0), (2, .ref 70), (3, .int v287)]) rfl ?_
        refine go_goto (pc := 657) (tgt := 18) (by decide) dL_law_657 ?_
        have zv287 : v287.toInt = l3.toInt + 6 := e288
        exact go_lv rfl (ih v287 _ h279 hv279 ls284 lh285 hi286 (by omega) (by omega) (by omega))
      by_cases q289 : w1.toInt = 14
      ·
        refine go_tableIn (pc := 33) (tgt := 522) (off := 489) (by omega) (by omega) (by rw [q289]; rfl) (by decide) dL_law_33 ?_
        refine go_aload_n (pc := 522) rfl dL_law_522 ?_
        refine go_aload_nS (pc := 523) rfl dL_law_523 ?_
        refine go_iload_n (pc := 524) rfl dL_law_524 ?_
        refine go_iconst (pc := 525) (v := 1) (by decide) dL_law_525 ?_
        refine gf_iadd (pc := 526) (ti_rfl l3) (ti_c (v := 1) (a := 1) (by decide)) (by omega) (by omega) dL_law_526 (fun v290 e291 => ?_)
        refine go_sld (pc := 527) (L := L) (i := v290) (fun b s q => q) rfl (ti_in e291 (by omega) (by omega)) dL_law_527 ?_
        refine go_aload_nS (pc := 528) rfl dL_law_528 ?_
        refine go_iload_n (pc := 529) rfl dL_law_529 ?_
        refine go_iconst (pc := 530) (v := 2) (by decide) dL_law_530 ?_
        refine gf_iadd (pc := 531) (ti_rfl l3) (ti_c (v := 2) (a := 2) (by decide)) (by omega) (by omega) dL_law_531 (fun v292 e293 => ?_)
        refine go_sld (pc := 532) (L := L) (i := v292) (fun b s q => q) rfl (ti_in e293 (by omega) (by omega)) dL_law_532 ?_
        refine go_invV (pc := 533) (sl := 32419) (s_X7_run_f l 0 hvx (xs v290.toNatClampNeg) (xs v292.toNatClampNeg)) mL_L_77 iM_X7_run sM_X7_run (hvx.sh rfl) rfl rfl rfl (Nat.le_of_ble_eq_true rfl) (Nat.le_of_ble_eq_true rfl) (Nat.le_of_ble_eq_true rfl) (g_cl hvx.ln (Nat.le_of_ble_eq_true rfl)) (Nat.le_of_ble_eq_true rfl) dL_law_533 ?_
        intro r h294 hq _
        obtain ⟨v296, rfl, v296l, v296u, hv294, f295⟩ := hq
        have lh297 : LHs (st h294) := LH.kac f295 lh
        have hi298 : HIS (st h294) := HIS.kac f295 hi
        refine go_pop (pc := 536) rfl dL_law_536 ?_
        refine go_aload_n (pc := 537) rfl dL_law_537 ?_
        refine go_aload_nS (pc := 538) rfl dL_law_538 ?_
        refine go_iload_n (pc := 539) rfl dL_law_539 ?_
        refine go_iconst (pc := 540) (v := 1) (by decide) dL_law_540 ?_
        refine gf_iadd (pc := 541) (ti_rfl l3) (ti_c (v := 1) (a := 1) (by decide)) (by omega) (by omega) dL_law_541 (fun v299 e300 => ?_)
        refine go_sld (pc := 542) (L := L) (i := v299) (fun b s q => q) rfl (ti_in e300 (by omega) (by omega)) dL_law_542 ?_
        refine go_aload_nS (pc := 543) rfl dL_law_543 ?_
        refine go_iload_n (pc := 544) rfl dL_law_544 ?_
        refine go_iconst (pc := 545) (v := 2) (by decide) dL_law_545 ?_
        refine gf_iadd (pc := 546) (ti_rfl l3) (ti_c (v := 2) (a := 2) (by decide)) (by omega) (by omega) dL_law_546 (fun v301 e302 => ?_)
        refine go_sld (pc := 547) (L := L) (i := v301) (fun b s q => q) rfl (ti_in e302 (by omega) (by omega)) dL_law_547 ?_
        refine go_invV (pc := 548) (sl := 32419) (s_X8_run_f l 0 hv294 (xs v299.toNatClampNeg) (xs v301.toNatClampNeg) (LF.ck lf hv294) (LF.lv lf hv294)) mL_L_80 iM_X8_run sM_X8_run (hv294.sh rfl) rfl rfl rfl (Nat.le_of_ble_eq_true rfl) (Nat.le_of_ble_eq_true rfl) (Nat.le_of_ble_eq_true rfl) (g_cl hv294.ln (Nat.le_of_ble_eq_true rfl)) (Nat.le_of_ble_eq_true rfl) dL_law_548 ?_
        intro r h303 hq _
        obtain ⟨v307, rfl, v307l, v307u, ⟨Q304, hv303, sq305⟩, f306⟩ := hq
        have ls308 := LSt.sq ls sq305
        have lh309 : LHs (st h303) := LH.kar f306 lh297
        have hi310 : HIS (st h303) := HIS.kar f306 hi298
        refine go_pop (pc := 551) rfl dL_law_551 ?_
        refine go_goto (pc := 552) (tgt := 654) (by decide) dL_law_552 ?_
        refine gf_iinc (pc := 654) (Nat.le_of_ble_eq_true rfl) rfl (ti_rfl l3) (ti_c (by decide)) (by omega) (by omega) dL_law_654 (fun v311 e312 => ?_)
        refine go_lv (lv2 := [(0, .retAddr 0), (1, .ref 0), (2, .ref 70), (3, .int v311)]) rfl ?_
        refine go_goto (pc := 657) (tgt := 18) (by decide) dL_law_657 ?_
        have zv311 : v311.toInt = l3.toInt + 6 := e312
        exact go_lv rfl (ih v311 _ h303 hv303 ls308 lh309 hi310 (by omega) (by omega) (by omega))
      by_cases q313 : w1.toInt = 15
      ·
        refine go_tableIn (pc := 33) (tgt := 555) (off := 522) (by omega) (by omega) (by rw [q313]; rfl) (by decide) dL_law_33 ?_
        refine go_aload_n (pc := 555) rfl dL_law_555 ?_
        refine go_aload_nS (pc := 556) rfl dL_law_556 ?_
        refine go_iload_n (pc := 557) rfl dL_law_557 ?_
        refine go_iconst (pc := 558) (v := 1) (by decide) dL_law_558 ?_
        refine gf_iadd (pc := 559) (ti_rfl l3) (ti_c (v := 1) (a := 1) (by decide)) (by omega) (by omega) dL_law_559 (fun v314 e315 => ?_)
        refine go_sld (pc := 560) (L := L) (i := v314) (fun b s q => q) rfl (ti_in e315 (by omega) (by omega)) dL_law_560 ?_
        refine go_aload_nS (pc := 561) rfl dL_law_561 ?_
        refine go_iload_n (pc := 562) rfl dL_law_562 ?_
        refine go_iconst (pc := 563) (v := 2) (by decide) dL_law_563 ?_
        refine gf_iadd (pc := 564) (ti_rfl l3) (ti_c (v := 2) (a := 2) (by decide)) (by omega) (by omega) dL_law_564 (fun v316 e317 => ?_)
        refine go_sld (pc := 565) (L := L) (i := v316) (fun b s q => q) rfl (ti_in e317 (by omega) (by omega)) dL_law_565 ?_
        refine go_aload_nS (pc := 566) rfl dL_law_566 ?_
        refine go_iload_n (pc := 567) rfl dL_law_567 ?_
        refine go_iconst (pc := 568) (v := 3) (by decide) dL_law_568 ?_
        refine gf_iadd (pc := 569) (ti_rfl l3) (ti_c (v := 3) (a := 3) (by decide)) (by omega) (by omega) dL_law_569 (fun v318 e319 => ?_)
        refine go_sld (pc := 570) (L := L) (i := v318) (fun b s q => q) rfl (ti_in e319 (by omega) (by omega)) dL_law_570 ?_
        refine go_invV (pc := 571) (sl := 32419) (s_X7_runKept_f l 0 hvx (xs v314.toNatClampNeg) (xs v316.toNatClampNeg) (xs v318.toNatClampNeg)) mL_L_81 iM_X7_runKept sM_X7_runKept (hvx.sh rfl) rfl rfl rfl (Nat.le_of_ble_eq_true rfl) (Nat.le_of_ble_eq_true rfl) (Nat.le_of_ble_eq_true rfl) (g_cl hvx.ln (Nat.le_of_ble_eq_true rfl)) (Nat.le_of_ble_eq_true rfl) dL_law_571 ?_
        intro r h320 hq _
        obtain ⟨v322, rfl, v322l, v322u, hv320, f321⟩ := hq
        have lh323 : LHs (st h320) := LH.kac f321 lh
        have hi324 : HIS (st h320) := HIS.kac f321 hi
        refine go_pop (pc := 574) rfl dL_law_574 ?_
        refine go_aload_n (pc := 575) rfl dL_law_575 ?_
        refine go_aload_nS (pc := 576) rfl dL_law_576 ?_
        refine go_iload_n (pc := 577) rfl dL_law_577 ?_
        refine go_iconst (pc := 578) (v := 1) (by decide) dL_law_578 ?_
        refine gf_iadd (pc := 579) (ti_rfl l3) (ti_c (v := 1) (a := 1) (by decide)) (by omega) (by omega) dL_law_579 (fun v325 e326 => ?_)
        refine go_sld (pc := 580) (L := L) (i := v325) (fun b s q => q) rfl (ti_in e326 (by omega) (by omega)) dL_law_580 ?_
        refine go_aload_nS (pc := 581) rfl dL_law_581 ?_
        refine go_iload_n (pc := 582) rfl dL_law_582 ?_
        refine go_iconst (pc := 583) (v := 2) (by decide) dL_law_583 ?_
        refine gf_iadd (pc := 584) (ti_rfl l3) (ti_c (v := 2) (a := 2) (by decide)) (by omega) (by omega) dL_law_584 (fun v327 e328 => ?_)
        refine go_sld (pc := 585) (L := L) (i := v327) (fun b s q => q) rfl (ti_in e328 (by omega) (by omega)) dL_law_585 ?_
        refine go_aload_nS (pc := 586) rfl dL_law_586 ?_
        refine go_iload_n (pc := 587) rfl dL_law_587 ?_
        refine go_iconst (pc := 588) (v := 3) (by decide) dL_law_588 ?_
        refine gf_iadd (pc := 589) (ti_rfl l3) (ti_c (v := 3) (a := 3) (by decide)) (by omega) (by omega) dL_law_589 (fun v329 e330 => ?_)
        refine go_sld (pc := 590) (L := L) (i := v329) (fun b s q => q) rfl (ti_in e330 (by omega) (by omega)) dL_law_590 ?_
        refine go_invV (pc := 591) (sl := 32419) (s_X8_runKept_f l 0 hv320 (xs v325.toNatClampNeg) (xs v327.toNatClampNeg) (xs v329.toNatClampNeg) (LF.ck lf hv320) (LF.lv lf hv320)) mL_L_85 iM_X8_runKept sM_X8_runKept (hv320.sh rfl) rfl rfl rfl (Nat.le_of_ble_eq_true rfl) (Nat.le_of_ble_eq_true rfl) (Nat.le_of_ble_eq_true rfl) (g_cl hv320.ln (Nat.le_of_ble_eq_true rfl)) (Nat.le_of_ble_eq_true rfl) dL_law_591 ?_
        intro r h331 hq _
        obtain ⟨v335, rfl, v335l, v335u, ⟨Q332, hv331, sq333⟩, f334⟩ := hq
        have ls336 := LSt.sq ls sq333
        have lh337 : LHs (st h331) := LH.kar f334 lh323
        have hi338 : HIS (st h331) := HIS.kar f334 hi324
        refine go_pop (pc := 594) rfl dL_law_594 ?_
        refine go_goto (pc := 595) (tgt := 654) (by decide) dL_law_595 ?_
        refine gf_iinc (pc := 654) (Nat.le_of_ble_eq_true rfl) rfl (ti_rfl l3) (ti_c (by decide)) (by omega) (by omega) dL_law_654 (fun v339 e340 => ?_)
        refine go_lv (lv2 := [(0, .retAddr 0), (1, .ref 0), (2, .ref 70), (3, .int v339)]) rfl ?_
        refine go_goto (pc := 657) (tgt := 18) (by decide) dL_law_657 ?_
        have zv339 : v339.toInt = l3.toInt + 6 := e340
        exact go_lv rfl (ih v339 _ h331 hv331 ls336 lh337 hi338 (by omega) (by omega) (by omega))
      by_cases q341 : w1.toInt = 16
      ·
        refine go_tableIn (pc := 33) (tgt := 598) (off := 565) (by omega) (by omega) (by rw [q341]; rfl) (by decide) dL_law_33 ?_
        refine go_aload_n (pc := 598) rfl dL_law_598 ?_
        refine go_aload_nS (pc := 599) rfl dL_law_599 ?_
        refine go_iload_n (pc := 600) rfl dL_law_600 ?_
        refine go_iconst (pc := 601) (v := 1) (by decide) dL_law_601 ?_
        refine gf_iadd (pc := 602) (ti_rfl l3) (ti_c (v := 1) (a := 1) (by decide)) (by omega) (by omega) dL_law_602 (fun v342 e343 => ?_)
        refine go_sld (pc := 603) (L := L) (i := v342) (fun b s q => q) rfl (ti_in e343 (by omega) (by omega)) dL_law_603 ?_
        refine go_invV (pc := 604) (sl := 32419) (s_X7_ended l 0 hvx (xs v342.toNatClampNeg)) mL_L_86 iM_X7_ended sM_X7_ended (hvx.sh rfl) rfl rfl rfl (Nat.le_of_ble_eq_true rfl) (Nat.le_of_ble_eq_true rfl) (Nat.le_of_ble_eq_true rfl) (g_cl hvx.ln (Nat.le_of_ble_eq_true rfl)) (Nat.le_of_ble_eq_true rfl) dL_law_604 ?_
        intro r h344 hq _
        obtain ⟨v345, rfl, v345l, v345u, rfl⟩ := hq
        refine go_pop (pc := 607) rfl dL_law_607 ?_
        refine go_aload_n (pc := 608) rfl dL_law_608 ?_
        refine go_aload_nS (pc := 609) rfl dL_law_609 ?_
        refine go_iload_n (pc := 610) rfl dL_law_610 ?_
        refine go_iconst (pc := 611) (v := 1) (by decide) dL_law_611 ?_
        refine gf_iadd (pc := 612) (ti_rfl l3) (ti_c (v := 1) (a := 1) (by decide)) (by omega) (by omega) dL_law_612 (fun v346 e347 => ?_)
        refine go_sld (pc := 613) (L := L) (i := v346) (fun b s q => q) rfl (ti_in e347 (by omega) (by omega)) dL_law_613 ?_
        refine go_invV (pc := 614) (sl := 32419) (s_X8_ended l 0 hvx (xs v346.toNatClampNeg)) mL_L_89 iM_X8_ended sM_X8_ended (hvx.sh rfl) rfl rfl rfl (Nat.le_of_ble_eq_true rfl) (Nat.le_of_ble_eq_true rfl) (Nat.le_of_ble_eq_true rfl) (g_cl hvx.ln (Nat.le_of_ble_eq_true rfl)) (Nat.le_of_ble_eq_true rfl) dL_law_614 ?_
        intro r h348 hq _
        obtain ⟨v349, rfl, v349l, v349u, rfl⟩ := hq
        refine go_pop (pc := 617) rfl dL_law_617 ?_
        refine go_goto (pc := 618) (tgt := 654) (by decide) dL_law_618 ?_
        refine gf_iinc (pc := 654) (Nat.le_of_ble_eq_true rfl) rfl (ti_rfl l3) (ti_c (by decide)) (by omega) (by omega) dL_law_654 (fun v350 e351 => ?_)
        refine go_lv (lv2 := [(0, .retAddr 0), (1, .ref 0), (2, .ref 70), (3, .int v350)]) rfl ?_
        refine go_goto (pc := 657) (tgt := 18) (by decide) dL_law_657 ?_
        have zv350 : v350.toInt = l3.toInt + 6 := e351
        exact go_lv rfl (ih v350 _ hx hvx ls lh hi (by omega) (by omega) (by omega))
      by_cases q352 : w1.toInt = 17
      ·
        refine go_tableIn (pc := 33) (tgt := 621) (off := 588) (by omega) (by omega) (by rw [q352]; rfl) (by decide) dL_law_33 ?_
        refine go_aload_n (pc := 621) rfl dL_law_621 ?_
        refine go_aload_nS (pc := 622) rfl dL_law_622 ?_
        refine go_iload_n (pc := 623) rfl dL_law_623 ?_
        refine go_iconst (pc := 624) (v := 1) (by decide) dL_law_624 ?_
        refine gf_iadd (pc := 625) (ti_rfl l3) (ti_c (v := 1) (a := 1) (by decide)) (by omega) (by omega) dL_law_625 (fun v353 e354 => ?_)
        refine go_sld (pc := 626) (L := L) (i := v353) (fun b s q => q) rfl (ti_in e354 (by omega) (by omega)) dL_law_626 ?_
        refine go_aload_nS (pc := 627) rfl dL_law_627 ?_
        refine go_iload_n (pc := 628) rfl dL_law_628 ?_
        refine go_iconst (pc := 629) (v := 2) (by decide) dL_law_629 ?_
        refine gf_iadd (pc := 630) (ti_rfl l3) (ti_c (v := 2) (a := 2) (by decide)) (by omega) (by omega) dL_law_630 (fun v355 e356 => ?_)
        refine go_sld (pc := 631) (L := L) (i := v355) (fun b s q => q) rfl (ti_in e356 (by omega) (by omega)) dL_law_631 ?_
        refine go_invV (pc := 632) (sl := 32419) (s_X7_saw l 0 hvx (xs v353.toNatClampNeg) (xs v355.toNatClampNeg)) mL_L_90 iM_X7_saw sM_X7_saw (hvx.sh rfl) rfl rfl rfl (Nat.le_of_ble_eq_true rfl) (Nat.le_of_ble_eq_true rfl) (Nat.le_of_ble_eq_true rfl) (g_cl hvx.ln (Nat.le_of_ble_eq_true rfl)) (Nat.le_of_ble_eq_true rfl) dL_law_632 ?_
        intro r h357 hq _
        obtain ⟨v358, rfl, v358l, v358u, rfl⟩ := hq
        refine go_pop (pc := 635) rfl dL_law_635 ?_
        refine go_aload_n (pc := 636) rfl dL_law_636 ?_
        refine go_aload_nS (pc := 637) rfl dL_law_637 ?_
        refine go_iload_n (pc := 638) rfl dL_law_638 ?_
        refine go_iconst (pc := 639) (v := 1) (by decide) dL_law_639 ?_
        refine gf_iadd (pc := 640) (ti_rfl l3) (ti_c (v := 1) (a := 1) (by decide)) (by omega) (by omega) dL_law_640 (fun v359 e360 => ?_)
        refine go_sld (pc := 641) (L := L) (i := v359) (fun b s q => q) rfl (ti_in e360 (by omega) (by omega)) dL_law_641 ?_
        refine go_aload_nS (pc := 642) rfl dL_law_642 ?_
        refine go_iload_n (pc := 643) rfl dL_law_643 ?_
        refine go_iconst (pc := 644) (v := 2) (by decide) dL_law_644 ?_
        refine gf_iadd (pc := 645) (ti_rfl l3) (ti_c (v := 2) (a := 2) (by decide)) (by omega) (by omega) dL_law_645 (fun v361 e362 => ?_)
        refine go_sld (pc := 646) (L := L) (i := v361) (fun b s q => q) rfl (ti_in e362 (by omega) (by omega)) dL_law_646 ?_
        refine go_invV (pc := 647) (sl := 32419) (s_X8_saw l 0 hvx (xs v359.toNatClampNeg) (xs v361.toNatClampNeg)) mL_L_93 iM_X8_saw sM_X8_saw (hvx.sh rfl) rfl rfl rfl (Nat.le_of_ble_eq_true rfl) (Nat.le_of_ble_eq_true rfl) (Nat.le_of_ble_eq_true rfl) (g_cl hvx.ln (Nat.le_of_ble_eq_true rfl)) (Nat.le_of_ble_eq_true rfl) dL_law_647 ?_
        intro r h363 hq _
        obtain ⟨v364, rfl, v364l, v364u, rfl⟩ := hq
        refine go_pop (pc := 650) rfl dL_law_650 ?_
        refine go_goto (pc := 651) (tgt := 654) (by decide) dL_law_651 ?_
        refine gf_iinc (pc := 654) (Nat.le_of_ble_eq_true rfl) rfl (ti_rfl l3) (ti_c (by decide)) (by omega) (by omega) dL_law_654 (fun v365 e366 => ?_)
        refine go_lv (lv2 := [(0, .retAddr 0), (1, .ref 0), (2, .ref 70), (3, .int v365)]) rfl ?_
        refine go_goto (pc := 657) (tgt := 18) (by decide) dL_law_657 ?_
        have zv365 : v365.toInt = l3.toInt + 6 := e366
        exact go_lv rfl (ih v365 _ hx hvx ls lh hi (by omega) (by omega) (by omega))
      refine go_tableOut (pc := 33) (tgt := 654) (by omega) (by decide) dL_law_33 ?_
      refine gf_iinc (pc := 654) (Nat.le_of_ble_eq_true rfl) rfl (ti_rfl l3) (ti_c (by decide)) (by omega) (by omega) dL_law_654 (fun v367 e368 => ?_)
      refine go_lv (lv2 := [(0, .retAddr 0), (1, .ref 0), (2, .ref 70), (3, .int v367)]) rfl ?_
      refine go_goto (pc := 657) (tgt := 18) (by decide) dL_law_657 ?_
      have zv367 : v367.toInt = l3.toInt + 6 := e368
      exact go_lv rfl (ih v367 _ hx hvx ls lh hi (by omega) (by omega) (by omega))
  refine go_new (pc := 0) (sl := 0) (ci := 7) rfl cL_L_7 oC_X7 nC_X7 (Nat.le_of_ble_eq_true rfl) (Nat.le_of_ble_eq_true rfl) dL_law_0 ?_
  refine go_dup (pc := 3) rfl dL_law_3 ?_
  refine go_invI (pc := 4) (sl := 8) (k9_X7_init l) mL_L_9 iM_X7_init rfl rfl rfl (Nat.le_of_ble_eq_true rfl) (Nat.le_of_ble_eq_true rfl) (Nat.le_of_ble_eq_true rfl) (Nat.le_of_ble_eq_true rfl) (Nat.le_of_ble_eq_true rfl) dL_law_4 ?_
  intro r h' hq _
  obtain ⟨rfl, rfl⟩ := hq
  refine go_astore_n (pc := 7) (Nat.le_of_ble_eq_true rfl) dL_law_7 (go_lv (lv2 := [(0, .retAddr 0), (1, .ref 0)]) rfl ?_)
  refine go_new (pc := 8) (sl := 12382) (ci := 8) rfl cL_L_10 oC_X8 nC_X8 (Nat.le_of_ble_eq_true rfl) (Nat.le_of_ble_eq_true rfl) dL_law_8 ?_
  refine go_dup (pc := 11) rfl dL_law_11 ?_
  refine go_invI (pc := 12) (sl := 12442) (k10_X8_init l) mL_L_12 iM_X8_init rfl rfl rfl (Nat.le_of_ble_eq_true rfl) (Nat.le_of_ble_eq_true rfl) (Nat.le_of_ble_eq_true rfl) (Nat.le_of_ble_eq_true rfl) (Nat.le_of_ble_eq_true rfl) dL_law_12 ?_
  intro r h' hq _
  obtain ⟨rfl, rfl⟩ := hq
  refine go_astore_n (pc := 15) (Nat.le_of_ble_eq_true rfl) dL_law_15 (go_lv (lv2 := [(0, .retAddr 0), (1, .ref 0), (2, .ref 70)]) rfl ?_)
  refine go_iconst (pc := 16) (v := 0) (by decide) dL_law_16 ?_
  refine go_istore_n (pc := 17) (Nat.le_of_ble_eq_true rfl) dL_law_17 (go_lv (lv2 := [(0, .retAddr 0), (1, .ref 0), (2, .ref 70), (3, .int 0)]) rfl ?_)
  exact key 5000 0 _ hz10 iv0 ls0 lh0 hi0 (by decide) (by decide) (by decide)

