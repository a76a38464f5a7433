theorem dX8_readBlock_0 : decode cX8_readBlock 0 = .ok (.aload_n 0, 1) := by decide +kernel
theorem dX8_readBlock_1 : decode cX8_readBlock 1 = .ok (.iload_n 1, 1) := by decide +kernel
theorem dX8_readBlock_2 : decode cX8_readBlock 2 = .ok (.iload_n 3, 1) := by decide +kernel
theorem dX8_readBlock_3 : decode cX8_readBlock 3 = .ok (.invokevirtual 190, 3) := by decide +kernel
theorem dX8_readBlock_6 : decode cX8_readBlock 6 = .ok (.istore 4, 2) := by decide +kernel
theorem dX8_readBlock_8 : decode cX8_readBlock 8 = .ok (.aload_n 0, 1) := by decide +kernel
theorem dX8_readBlock_9 : decode cX8_readBlock 9 = .ok (.invokevirtual 172, 3) := by decide +kernel
theorem dX8_readBlock_12 : decode cX8_readBlock 12 = .ok (.ifCond .eq 23, 3) := by decide +kernel
theorem dX8_readBlock_15 : decode cX8_readBlock 15 = .ok (.aload_n 0, 1) := by decide +kernel
theorem dX8_readBlock_16 : decode cX8_readBlock 16 = .ok (.invokevirtual 176, 3) := by decide +kernel
theorem dX8_readBlock_19 : decode cX8_readBlock 19 = .ok (.bipush 125, 2) := by decide +kernel
theorem dX8_readBlock_21 : decode cX8_readBlock 21 = .ok (.if_icmp .eq 14, 3) := by decide +kernel
theorem dX8_readBlock_24 : decode cX8_readBlock 24 = .ok (.aload_n 0, 1) := by decide +kernel
theorem dX8_readBlock_25 : decode cX8_readBlock 25 = .ok (.iload 4, 2) := by decide +kernel
theorem dX8_readBlock_27 : decode cX8_readBlock 27 = .ok (.iload_n 2, 1) := by decide +kernel
theorem dX8_readBlock_28 : decode cX8_readBlock 28 = .ok (.iload_n 3, 1) := by decide +kernel
theorem dX8_readBlock_29 : decode cX8_readBlock 29 = .ok (.invokevirtual 194, 3) := by decide +kernel
theorem dX8_readBlock_32 : decode cX8_readBlock 32 = .ok (.goto (-24), 3) := by decide +kernel
theorem dX8_readBlock_35 : decode cX8_readBlock 35 = .ok (.aload_n 0, 1) := by decide +kernel
theorem dX8_readBlock_36 : decode cX8_readBlock 36 = .ok (.bipush 125, 2) := by decide +kernel
theorem dX8_readBlock_38 : decode cX8_readBlock 38 = .ok (.invokevirtual 198, 3) := by decide +kernel
theorem dX8_readBlock_41 : decode cX8_readBlock 41 = .ok (.iload 4, 2) := by decide +kernel
theorem dX8_readBlock_43 : decode cX8_readBlock 43 = .ok (.ireturn, 1) := by decide +kernel
theorem dX8_readItem_0 : decode cX8_readItem 0 = .ok (.aload_n 0, 1) := by decide +kernel
theorem dX8_readItem_1 : decode cX8_readItem 1 = .ok (.iconst 1, 1) := by decide +kernel
theorem dX8_readItem_2 : decode cX8_readItem 2 = .ok (.invokevirtual 183, 3) := by decide +kernel
theorem dX8_readItem_5 : decode cX8_readItem 5 = .ok (.istore 4, 2) := by decide +kernel
theorem dX8_readItem_7 : decode cX8_readItem 7 = .ok (.iload 4, 2) := by decide +kernel
theorem dX8_readItem_9 : decode cX8_readItem 9 = .ok (.iconst (-1), 1) := by decide +kernel
theorem dX8_readItem_10 : decode cX8_readItem 10 = .ok (.if_icmp .eq 7, 3) := by decide +kernel
theorem dX8_readItem_13 : decode cX8_readItem 13 = .ok (.iconst 0, 1) := by decide +kernel
theorem dX8_readItem_14 : decode cX8_readItem 14 = .ok (.goto 10, 3) := by decide +kernel
theorem dX8_readItem_17 : decode cX8_readItem 17 = .ok (.aload_n 0, 1) := by decide +kernel
theorem dX8_readItem_18 : decode cX8_readItem 18 = .ok (.invokevirtual 176, 3) := by decide +kernel
theorem dX8_readItem_21 : decode cX8_readItem 21 = .ok (.invokestatic 201, 3) := by decide +kernel
theorem dX8_readItem_24 : decode cX8_readItem 24 = .ok (.istore 5, 2) := by decide +kernel
theorem dX8_readItem_26 : decode cX8_readItem 26 = .ok (.iload 5, 2) := by decide +kernel
theorem dX8_readItem_28 : decode cX8_readItem 28 = .ok (.iconst (-1), 1) := by decide +kernel
theorem dX8_readItem_29 : decode cX8_readItem 29 = .ok (.if_icmp .ne 8, 3) := by decide +kernel
theorem dX8_readItem_32 : decode cX8_readItem 32 = .ok (.aload_n 0, 1) := by decide +kernel
theorem dX8_readItem_33 : decode cX8_readItem 33 = .ok (.iconst 1, 1) := by decide +kernel
theorem dX8_readItem_34 : decode cX8_readItem 34 = .ok (.invokevirtual 180, 3) := by decide +kernel
theorem dX8_readItem_37 : decode cX8_readItem 37 = .ok (.aload_n 0, 1) := by decide +kernel
theorem dX8_readItem_38 : decode cX8_readItem 38 = .ok (.invokevirtual 172, 3) := by decide +kernel
theorem dX8_readItem_41 : decode cX8_readItem 41 = .ok (.ifCond .eq 29, 3) := by decide +kernel
theorem dX8_readItem_44 : decode cX8_readItem 44 = .ok (.iload 5, 2) := by decide +kernel
theorem dX8_readItem_46 : decode cX8_readItem 46 = .ok (.bipush 6, 2) := by decide +kernel
theorem dX8_readItem_48 : decode cX8_readItem 48 = .ok (.if_icmp .eq 22, 3) := by decide +kernel
theorem dX8_readItem_51 : decode cX8_readItem 51 = .ok (.aload_n 0, 1) := by decide +kernel
theorem dX8_readItem_52 : decode cX8_readItem 52 = .ok (.getfield 23, 3) := by decide +kernel
theorem dX8_readItem_55 : decode cX8_readItem 55 = .ok (.aload_n 0, 1) := by decide +kernel
theorem dX8_readItem_56 : decode cX8_readItem 56 = .ok (.getfield 187, 3) := by decide +kernel
theorem dX8_readItem_59 : decode cX8_readItem 59 = .ok (.iaload, 1) := by decide +kernel
theorem dX8_readItem_60 : decode cX8_readItem 60 = .ok (.bipush 40, 2) := by decide +kernel
theorem dX8_readItem_62 : decode cX8_readItem 62 = .ok (.if_icmp .ne 8, 3) := by decide +kernel
theorem dX8_readItem_65 : decode cX8_readItem 65 = .ok (.aload_n 0, 1) := by decide +kernel
theorem dX8_readItem_66 : decode cX8_readItem 66 = .ok (.iconst 4, 1) := by decide +kernel
theorem dX8_readItem_67 : decode cX8_readItem 67 = .ok (.invokevirtual 180, 3) := by decide +kernel
theorem dX8_readItem_70 : decode cX8_readItem 70 = .ok (.aload_n 0, 1) := by decide +kernel
theorem dX8_readItem_71 : decode cX8_readItem 71 = .ok (.invokevirtual 172, 3) := by decide +kernel
theorem dX8_readItem_74 : decode cX8_readItem 74 = .ok (.ifCond .ne 4, 3) := by decide +kernel
theorem dX8_readItem_77 : decode cX8_readItem 77 = .ok (.return_, 1) := by decide +kernel
theorem dX8_readItem_78 : decode cX8_readItem 78 = .ok (.sipush 130, 3) := by decide +kernel
theorem dX8_readItem_81 : decode cX8_readItem 81 = .ok (.aload_n 0, 1) := by decide +kernel
theorem dX8_readItem_82 : decode cX8_readItem 82 = .ok (.getfield 187, 3) := by decide +kernel
theorem dX8_readItem_85 : decode cX8_readItem 85 = .ok (.imul, 1) := by decide +kernel
theorem dX8_readItem_86 : decode cX8_readItem 86 = .ok (.aload_n 0, 1) := by decide +kernel
theorem dX8_readItem_87 : decode cX8_readItem 87 = .ok (.getfield 16, 3) := by decide +kernel
theorem dX8_readItem_90 : decode cX8_readItem 90 = .ok (.aload_n 0, 1) := by decide +kernel
theorem dX8_readItem_91 : decode cX8_readItem 91 = .ok (.getfield 187, 3) := by decide +kernel
theorem dX8_readItem_94 : decode cX8_readItem 94 = .ok (.iaload, 1) := by decide +kernel
theorem dX8_readItem_95 : decode cX8_readItem 95 = .ok (.iadd, 1) := by decide +kernel
theorem dX8_readItem_96 : decode cX8_readItem 96 = .ok (.istore 6, 2) := by decide +kernel
theorem dX8_readItem_98 : decode cX8_readItem 98 = .ok (.aload_n 0, 1) := by decide +kernel
theorem dX8_readItem_99 : decode cX8_readItem 99 = .ok (.getfield 16, 3) := by decide +kernel
theorem dX8_readItem_102 : decode cX8_readItem 102 = .ok (.aload_n 0, 1) := by decide +kernel
theorem dX8_readItem_103 : decode cX8_readItem 103 = .ok (.getfield 187, 3) := by decide +kernel
theorem dX8_readItem_106 : decode cX8_readItem 106 = .ok (.dup2, 1) := by decide +kernel
theorem dX8_readItem_107 : decode cX8_readItem 107 = .ok (.iaload, 1) := by decide +kernel
theorem dX8_readItem_108 : decode cX8_readItem 108 = .ok (.iconst 1, 1) := by decide +kernel
theorem dX8_readItem_109 : decode cX8_readItem 109 = .ok (.iadd, 1) := by decide +kernel
theorem dX8_readItem_110 : decode cX8_readItem 110 = .ok (.iastore, 1) := by decide +kernel
theorem dX8_readItem_111 : decode cX8_readItem 111 = .ok (.aload_n 0, 1) := by decide +kernel
theorem dX8_readItem_112 : decode cX8_readItem 112 = .ok (.getfield 29, 3) := by decide +kernel
theorem dX8_readItem_115 : decode cX8_readItem 115 = .ok (.iload 6, 2) := by decide +kernel
theorem dX8_readItem_117 : decode cX8_readItem 117 = .ok (.iload 5, 2) := by decide +kernel
theorem dX8_readItem_119 : decode cX8_readItem 119 = .ok (.iastore, 1) := by decide +kernel
theorem dX8_readItem_120 : decode cX8_readItem 120 = .ok (.aload_n 0, 1) := by decide +kernel
theorem dX8_readItem_121 : decode cX8_readItem 121 = .ok (.getfield 32, 3) := by decide +kernel
theorem dX8_readItem_124 : decode cX8_readItem 124 = .ok (.iload 6, 2) := by decide +kernel
theorem dX8_readItem_126 : decode cX8_readItem 126 = .ok (.iconst (-1), 1) := by decide +kernel
theorem dX8_readItem_127 : decode cX8_readItem 127 = .ok (.iastore, 1) := by decide +kernel
theorem dX8_readItem_128 : decode cX8_readItem 128 = .ok (.aload_n 0, 1) := by decide +kernel
theorem dX8_readItem_129 : decode cX8_readItem 129 = .ok (.getfield 35, 3) := by decide +kernel
theorem dX8_readItem_132 : decode cX8_readItem 132 = .ok (.iload 6, 2) := by decide +kernel
theorem dX8_readItem_134 : decode cX8_readItem 134 = .ok (.iload_n 2, 1) := by decide +kernel
theorem dX8_readItem_135 : decode cX8_readItem 135 = .ok (.iastore, 1) := by decide +kernel
theorem dX8_readItem_136 : decode cX8_readItem 136 = .ok (.aload_n 0, 1) := by decide +kernel
theorem dX8_readItem_137 : decode cX8_readItem 137 = .ok (.getfield 38, 3) := by decide +kernel
theorem dX8_readItem_140 : decode cX8_readItem 140 = .ok (.iload 6, 2) := by decide +kernel
theorem dX8_readItem_142 : decode cX8_readItem 142 = .ok (.iload_n 3, 1) := by decide +kernel
theorem dX8_readItem_143 : decode cX8_readItem 143 = .ok (.iastore, 1) := by decide +kernel
theorem dX8_readItem_144 : decode cX8_readItem 144 = .ok (.aload_n 0, 1) := by decide +kernel
theorem dX8_readItem_145 : decode cX8_readItem 145 = .ok (.getfield 41, 3) := by decide +kernel
theorem dX8_readItem_148 : decode cX8_readItem 148 = .ok (.iload 6, 2) := by decide +kernel
theorem dX8_readItem_150 : decode cX8_readItem 150 = .ok (.aload_n 0, 1) := by decide +kernel
theorem dX8_readItem_151 : decode cX8_readItem 151 = .ok (.getfield 163, 3) := by decide +kernel
theorem dX8_readItem_154 : decode cX8_readItem 154 = .ok (.iastore, 1) := by decide +kernel
theorem dX8_readItem_155 : decode cX8_readItem 155 = .ok (.aload_n 0, 1) := by decide +kernel
theorem dX8_readItem_156 : decode cX8_readItem 156 = .ok (.getfield 44, 3) := by decide +kernel
theorem dX8_readItem_159 : decode cX8_readItem 159 = .ok (.iload 6, 2) := by decide +kernel
theorem dX8_readItem_161 : decode cX8_readItem 161 = .ok (.iload 4, 2) := by decide +kernel
theorem dX8_readItem_163 : decode cX8_readItem 163 = .ok (.iastore, 1) := by decide +kernel
theorem dX8_readItem_164 : decode cX8_readItem 164 = .ok (.aload_n 0, 1) := by decide +kernel
theorem dX8_readItem_165 : decode cX8_readItem 165 = .ok (.getfield 47, 3) := by decide +kernel
theorem dX8_readItem_168 : decode cX8_readItem 168 = .ok (.iload 6, 2) := by decide +kernel
theorem dX8_readItem_170 : decode cX8_readItem 170 = .ok (.iconst 0, 1) := by decide +kernel
theorem dX8_readItem_171 : decode cX8_readItem 171 = .ok (.iastore, 1) := by decide +kernel
theorem dX8_readItem_172 : decode cX8_readItem 172 = .ok (.aload_n 0, 1) := by decide +kernel
theorem dX8_readItem_173 : decode cX8_readItem 173 = .ok (.getfield 50, 3) := by decide +kernel
theorem dX8_readItem_176 : decode cX8_readItem 176 = .ok (.iload 6, 2) := by decide +kernel
theorem dX8_readItem_178 : decode cX8_readItem 178 = .ok (.bipush (-2), 2) := by decide +kernel
theorem dX8_readItem_180 : decode cX8_readItem 180 = .ok (.iastore, 1) := by decide +kernel
theorem dX8_readItem_181 : decode cX8_readItem 181 = .ok (.aload_n 0, 1) := by decide +kernel
theorem dX8_readItem_182 : decode cX8_readItem 182 = .ok (.getfield 53, 3) := by decide +kernel
theorem dX8_readItem_185 : decode cX8_readItem 185 = .ok (.iload 6, 2) := by decide +kernel
theorem dX8_readItem_187 : decode cX8_readItem 187 = .ok (.iconst (-1), 1) := by decide +kernel
theorem dX8_readItem_188 : decode cX8_readItem 188 = .ok (.iastore, 1) := by decide +kernel
theorem dX8_readItem_189 : decode cX8_readItem 189 = .ok (.aload_n 0, 1) := by decide +kernel
theorem dX8_readItem_190 : decode cX8_readItem 190 = .ok (.getfield 56, 3) := by decide +kernel
theorem dX8_readItem_193 : decode cX8_readItem 193 = .ok (.iload 6, 2) := by decide +kernel
theorem dX8_readItem_195 : decode cX8_readItem 195 = .ok (.iconst (-1), 1) := by decide +kernel
theorem dX8_readItem_196 : decode cX8_readItem 196 = .ok (.iastore, 1) := by decide +kernel
theorem dX8_readItem_197 : decode cX8_readItem 197 = .ok (.aload_n 0, 1) := by decide +kernel
theorem dX8_readItem_198 : decode cX8_readItem 198 = .ok (.getfield 59, 3) := by decide +kernel
theorem dX8_readItem_201 : decode cX8_readItem 201 = .ok (.iload 6, 2) := by decide +kernel
theorem dX8_readItem_203 : decode cX8_readItem 203 = .ok (.iconst (-1), 1) := by decide +kernel
theorem dX8_readItem_204 : decode cX8_readItem 204 = .ok (.iastore, 1) := by decide +kernel
theorem dX8_readItem_205 : decode cX8_readItem 205 = .ok (.aload_n 0, 1) := by decide +kernel
theorem dX8_readItem_206 : decode cX8_readItem 206 = .ok (.getfield 62, 3) := by decide +kernel
theorem dX8_readItem_209 : decode cX8_readItem 209 = .ok (.iload 6, 2) := by decide +kernel
theorem dX8_readItem_211 : decode cX8_readItem 211 = .ok (.iload_n 1, 1) := by decide +kernel
theorem dX8_readItem_212 : decode cX8_readItem 212 = .ok (.iastore, 1) := by decide +kernel
theorem dX8_readItem_213 : decode cX8_readItem 213 = .ok (.aload_n 0, 1) := by decide +kernel
theorem dX8_readItem_214 : decode cX8_readItem 214 = .ok (.getfield 65, 3) := by decide +kernel
theorem dX8_readItem_217 : decode cX8_readItem 217 = .ok (.iconst 2, 1) := by decide +kernel
theorem dX8_readItem_218 : decode cX8_readItem 218 = .ok (.iload 6, 2) := by decide +kernel
theorem dX8_readItem_220 : decode cX8_readItem 220 = .ok (.imul, 1) := by decide +kernel
theorem dX8_readItem_221 : decode cX8_readItem 221 = .ok (.iconst 0, 1) := by decide +kernel
theorem dX8_readItem_222 : decode cX8_readItem 222 = .ok (.iastore, 1) := by decide +kernel
theorem dX8_readItem_223 : decode cX8_readItem 223 = .ok (.aload_n 0, 1) := by decide +kernel
theorem dX8_readItem_224 : decode cX8_readItem 224 = .ok (.getfield 65, 3) := by decide +kernel
theorem dX8_readItem_227 : decode cX8_readItem 227 = .ok (.iconst 2, 1) := by decide +kernel
theorem dX8_readItem_228 : decode cX8_readItem 228 = .ok (.iload 6, 2) := by decide +kernel
theorem dX8_readItem_230 : decode cX8_readItem 230 = .ok (.imul, 1) := by decide +kernel
theorem dX8_readItem_231 : decode cX8_readItem 231 = .ok (.iconst 1, 1) := by decide +kernel
theorem dX8_readItem_232 : decode cX8_readItem 232 = .ok (.iadd, 1) := by decide +kernel
theorem dX8_readItem_233 : decode cX8_readItem 233 = .ok (.iconst 0, 1) := by decide +kernel
theorem dX8_readItem_234 : decode cX8_readItem 234 = .ok (.iastore, 1) := by decide +kernel
theorem dX8_readItem_235 : decode cX8_readItem 235 = .ok (.iload 5, 2) := by decide +kernel
theorem dX8_readItem_237 : decode cX8_readItem 237 = .ok (.bipush 6, 2) := by decide +kernel
theorem dX8_readItem_239 : decode cX8_readItem 239 = .ok (.if_icmp .eq 56, 3) := by decide +kernel
theorem dX8_readItem_242 : decode cX8_readItem 242 = .ok (.aload_n 0, 1) := by decide +kernel
theorem dX8_readItem_243 : decode cX8_readItem 243 = .ok (.getfield 32, 3) := by decide +kernel
theorem dX8_readItem_246 : decode cX8_readItem 246 = .ok (.iload 6, 2) := by decide +kernel
theorem dX8_readItem_248 : decode cX8_readItem 248 = .ok (.aload_n 0, 1) := by decide +kernel
theorem dX8_readItem_249 : decode cX8_readItem 249 = .ok (.getfield 23, 3) := by decide +kernel
theorem dX8_readItem_252 : decode cX8_readItem 252 = .ok (.aload_n 0, 1) := by decide +kernel
theorem dX8_readItem_253 : decode cX8_readItem 253 = .ok (.getfield 187, 3) := by decide +kernel
theorem dX8_readItem_256 : decode cX8_readItem 256 = .ok (.iaload, 1) := by decide +kernel
theorem dX8_readItem_257 : decode cX8_readItem 257 = .ok (.iastore, 1) := by decide +kernel
theorem dX8_readItem_258 : decode cX8_readItem 258 = .ok (.aload_n 0, 1) := by decide +kernel
theorem dX8_readItem_259 : decode cX8_readItem 259 = .ok (.getfield 77, 3) := by decide +kernel
theorem dX8_readItem_262 : decode cX8_readItem 262 = .ok (.bipush 40, 2) := by decide +kernel
theorem dX8_readItem_264 : decode cX8_readItem 264 = .ok (.aload_n 0, 1) := by decide +kernel
theorem dX8_readItem_265 : decode cX8_readItem 265 = .ok (.getfield 187, 3) := by decide +kernel
theorem dX8_readItem_268 : decode cX8_readItem 268 = .ok (.imul, 1) := by decide +kernel
theorem dX8_readItem_269 : decode cX8_readItem 269 = .ok (.aload_n 0, 1) := by decide +kernel
theorem dX8_readItem_270 : decode cX8_readItem 270 = .ok (.getfield 23, 3) := by decide +kernel
theorem dX8_readItem_273 : decode cX8_readItem 273 = .ok (.aload_n 0, 1) := by decide +kernel
theorem dX8_readItem_274 : decode cX8_readItem 274 = .ok (.getfield 187, 3) := by decide +kernel
theorem dX8_readItem_277 : decode cX8_readItem 277 = .ok (.iaload, 1) := by decide +kernel
theorem dX8_readItem_278 : decode cX8_readItem 278 = .ok (.iadd, 1) := by decide +kernel
theorem dX8_readItem_279 : decode cX8_readItem 279 = .ok (.iload 6, 2) := by decide +kernel
theorem dX8_readItem_281 : decode cX8_readItem 281 = .ok (.iastore, 1) := by decide +kernel
theorem dX8_readItem_282 : decode cX8_readItem 282 = .ok (.aload_n 0, 1) := by decide +kernel
theorem dX8_readItem_283 : decode cX8_readItem 283 = .ok (.getfield 23, 3) := by decide +kernel
theorem dX8_readItem_286 : decode cX8_readItem 286 = .ok (.aload_n 0, 1) := by decide +kernel
theorem dX8_readItem_287 : decode cX8_readItem 287 = .ok (.getfield 187, 3) := by decide +kernel
theorem dX8_readItem_290 : decode cX8_readItem 290 = .ok (.dup2, 1) := by decide +kernel
theorem dX8_readItem_291 : decode cX8_readItem 291 = .ok (.iaload, 1) := by decide +kernel
theorem dX8_readItem_292 : decode cX8_readItem 292 = .ok (.iconst 1, 1) := by decide +kernel
theorem dX8_readItem_293 : decode cX8_readItem 293 = .ok (.iadd, 1) := by decide +kernel
theorem dX8_readItem_294 : decode cX8_readItem 294 = .ok (.iastore, 1) := by decide +kernel
theorem dX8_readItem_295 : decode cX8_readItem 295 = .ok (.aload_n 0, 1) := by decide +kernel
theorem dX8_readItem_296 : decode cX8_readItem 296 = .ok (.getfield 68, 3) := by decide +kernel
theorem dX8_readItem_299 : decode cX8_readItem 299 = .ok (.iload_n 1, 1) := by decide +kernel
theorem dX8_readItem_300 : decode cX8_readItem 300 = .ok (.iaload, 1) := by decide +kernel
theorem dX8_readItem_301 : decode cX8_readItem 301 = .ok (.iconst (-1), 1) := by decide +kernel
theorem dX8_readItem_302 : decode cX8_readItem 302 = .ok (.if_icmp .ne 14, 3) := by decide +kernel
theorem dX8_readItem_305 : decode cX8_readItem 305 = .ok (.aload_n 0, 1) := by decide +kernel
theorem dX8_readItem_306 : decode cX8_readItem 306 = .ok (.getfield 68, 3) := by decide +kernel
theorem dX8_readItem_309 : decode cX8_readItem 309 = .ok (.iload_n 1, 1) := by decide +kernel
theorem dX8_readItem_310 : decode cX8_readItem 310 = .ok (.iload 6, 2) := by decide +kernel
theorem dX8_readItem_312 : decode cX8_readItem 312 = .ok (.iastore, 1) := by decide +kernel
theorem dX8_readItem_313 : decode cX8_readItem 313 = .ok (.goto 16, 3) := by decide +kernel
theorem dX8_readItem_316 : decode cX8_readItem 316 = .ok (.aload_n 0, 1) := by decide +kernel
theorem dX8_readItem_317 : decode cX8_readItem 317 = .ok (.getfield 59, 3) := by decide +kernel
theorem dX8_readItem_320 : decode cX8_readItem 320 = .ok (.aload_n 0, 1) := by decide +kernel
theorem dX8_readItem_321 : decode cX8_readItem 321 = .ok (.getfield 71, 3) := by decide +kernel
theorem dX8_readItem_324 : decode cX8_readItem 324 = .ok (.iload_n 1, 1) := by decide +kernel
theorem dX8_readItem_325 : decode cX8_readItem 325 = .ok (.iaload, 1) := by decide +kernel
theorem dX8_readItem_326 : decode cX8_readItem 326 = .ok (.iload 6, 2) := by decide +kernel
theorem dX8_readItem_328 : decode cX8_readItem 328 = .ok (.iastore, 1) := by decide +kernel
theorem dX8_readItem_329 : decode cX8_readItem 329 = .ok (.aload_n 0, 1) := by decide +kernel
theorem dX8_readItem_330 : decode cX8_readItem 330 = .ok (.getfield 71, 3) := by decide +kernel
theorem dX8_readItem_333 : decode cX8_readItem 333 = .ok (.iload_n 1, 1) := by decide +kernel
theorem dX8_readItem_334 : decode cX8_readItem 334 = .ok (.iload 6, 2) := by decide +kernel
theorem dX8_readItem_336 : decode cX8_readItem 336 = .ok (.iastore, 1) := by decide +kernel
theorem dX8_readItem_337 : decode cX8_readItem 337 = .ok (.aload_n 0, 1) := by decide +kernel
theorem dX8_readItem_338 : decode cX8_readItem 338 = .ok (.dup, 1) := by decide +kernel
theorem dX8_readItem_339 : decode cX8_readItem 339 = .ok (.getfield 163, 3) := by decide +kernel
theorem dX8_readItem_342 : decode cX8_readItem 342 = .ok (.iconst 1, 1) := by decide +kernel
theorem dX8_readItem_343 : decode cX8_readItem 343 = .ok (.iadd, 1) := by decide +kernel
theorem dX8_readItem_344 : decode cX8_readItem 344 = .ok (.putfield 163, 3) := by decide +kernel
theorem dX8_readItem_347 : decode cX8_readItem 347 = .ok (.iload 5, 2) := by decide +kernel
theorem dX8_readItem_349 : decode cX8_readItem 349 = .ok (.ifCond .ne 14, 3) := by decide +kernel
theorem dX8_readItem_352 : decode cX8_readItem 352 = .ok (.aload_n 0, 1) := by decide +kernel
theorem dX8_readItem_353 : decode cX8_readItem 353 = .ok (.iload 6, 2) := by decide +kernel
theorem dX8_readItem_355 : decode cX8_readItem 355 = .ok (.iload 4, 2) := by decide +kernel
theorem dX8_readItem_357 : decode cX8_readItem 357 = .ok (.invokevirtual 205, 3) := by decide +kernel
theorem dX8_readItem_360 : decode cX8_readItem 360 = .ok (.goto 50, 3) := by decide +kernel
theorem dX8_readItem_363 : decode cX8_readItem 363 = .ok (.iload 5, 2) := by decide +kernel
theorem dX8_readItem_365 : decode cX8_readItem 365 = .ok (.iconst 2, 1) := by decide +kernel
theorem dX8_readItem_366 : decode cX8_readItem 366 = .ok (.if_icmp .eq 9, 3) := by decide +kernel
theorem dX8_readItem_369 : decode cX8_readItem 369 = .ok (.iload 5, 2) := by decide +kernel
theorem dX8_readItem_371 : decode cX8_readItem 371 = .ok (.iconst 3, 1) := by decide +kernel
theorem dX8_readItem_372 : decode cX8_readItem 372 = .ok (.if_icmp .ne 14, 3) := by decide +kernel
theorem dX8_readItem_375 : decode cX8_readItem 375 = .ok (.aload_n 0, 1) := by decide +kernel
theorem dX8_readItem_376 : decode cX8_readItem 376 = .ok (.iload 6, 2) := by decide +kernel
theorem dX8_readItem_378 : decode cX8_readItem 378 = .ok (.iload_n 2, 1) := by decide +kernel
theorem dX8_readItem_379 : decode cX8_readItem 379 = .ok (.iload_n 3, 1) := by decide +kernel
theorem dX8_readItem_380 : decode cX8_readItem 380 = .ok (.invokevirtual 209, 3) := by decide +kernel
theorem dX8_readItem_383 : decode cX8_readItem 383 = .ok (.goto 27, 3) := by decide +kernel
theorem dX8_readItem_386 : decode cX8_readItem 386 = .ok (.iload 5, 2) := by decide +kernel
theorem dX8_readItem_388 : decode cX8_readItem 388 = .ok (.bipush 6, 2) := by decide +kernel
theorem dX8_readItem_390 : decode cX8_readItem 390 = .ok (.if_icmp .ne 14, 3) := by decide +kernel
theorem dX8_readItem_393 : decode cX8_readItem 393 = .ok (.aload_n 0, 1) := by decide +kernel
theorem dX8_readItem_394 : decode cX8_readItem 394 = .ok (.iload 6, 2) := by decide +kernel
theorem dX8_readItem_396 : decode cX8_readItem 396 = .ok (.iload_n 2, 1) := by decide +kernel
theorem dX8_readItem_397 : decode cX8_readItem 397 = .ok (.iload_n 3, 1) := by decide +kernel
theorem dX8_readItem_398 : decode cX8_readItem 398 = .ok (.invokevirtual 212, 3) := by decide +kernel
theorem dX8_readItem_401 : decode cX8_readItem 401 = .ok (.goto 9, 3) := by decide +kernel
theorem dX8_readItem_404 : decode cX8_readItem 404 = .ok (.aload_n 0, 1) := by decide +kernel
theorem dX8_readItem_405 : decode cX8_readItem 405 = .ok (.iload 6, 2) := by decide +kernel
theorem dX8_readItem_407 : decode cX8_readItem 407 = .ok (.invokevirtual 215, 3) := by decide +kernel
theorem dX8_readItem_410 : decode cX8_readItem 410 = .ok (.return_, 1) := by decide +kernel
theorem dX8_readTest_0 : decode cX8_readTest 0 = .ok (.aload_n 0, 1) := by decide +kernel
theorem dX8_readTest_1 : decode cX8_readTest 1 = .ok (.iload_n 1, 1) := by decide +kernel
theorem dX8_readTest_2 : decode cX8_readTest 2 = .ok (.iconst 0, 1) := by decide +kernel
theorem dX8_readTest_3 : decode cX8_readTest 3 = .ok (.invokevirtual 218, 3) := by decide +kernel
theorem dX8_readTest_6 : decode cX8_readTest 6 = .ok (.aload_n 0, 1) := by decide +kernel
theorem dX8_readTest_7 : decode cX8_readTest 7 = .ok (.bipush 60, 2) := by decide +kernel
theorem dX8_readTest_9 : decode cX8_readTest 9 = .ok (.invokevirtual 198, 3) := by decide +kernel
theorem dX8_readTest_12 : decode cX8_readTest 12 = .ok (.aload_n 0, 1) := by decide +kernel
theorem dX8_readTest_13 : decode cX8_readTest 13 = .ok (.iload_n 1, 1) := by decide +kernel
theorem dX8_readTest_14 : decode cX8_readTest 14 = .ok (.iconst 1, 1) := by decide +kernel
theorem dX8_readTest_15 : decode cX8_readTest 15 = .ok (.invokevirtual 218, 3) := by decide +kernel
theorem dX8_readTest_18 : decode cX8_readTest 18 = .ok (.aload_n 0, 1) := by decide +kernel
theorem dX8_readTest_19 : decode cX8_readTest 19 = .ok (.invokevirtual 172, 3) := by decide +kernel
theorem dX8_readTest_22 : decode cX8_readTest 22 = .ok (.ifCond .ne 4, 3) := by decide +kernel
theorem dX8_readTest_25 : decode cX8_readTest 25 = .ok (.return_, 1) := by decide +kernel
theorem dX8_readTest_26 : decode cX8_readTest 26 = .ok (.aload_n 0, 1) := by decide +kernel
theorem dX8_readTest_27 : decode cX8_readTest 27 = .ok (.getfield 53, 3) := by decide +kernel
theorem dX8_readTest_30 : decode cX8_readTest 30 = .ok (.iload_n 1, 1) := by decide +kernel
theorem dX8_readTest_31 : decode cX8_readTest 31 = .ok (.aload_n 0, 1) := by decide +kernel
theorem dX8_readTest_32 : decode cX8_readTest 32 = .ok (.iload_n 1, 1) := by decide +kernel
theorem dX8_readTest_33 : decode cX8_readTest 33 = .ok (.iload_n 2, 1) := by decide +kernel
theorem dX8_readTest_34 : decode cX8_readTest 34 = .ok (.iload_n 3, 1) := by decide +kernel
theorem dX8_readTest_35 : decode cX8_readTest 35 = .ok (.iconst 1, 1) := by decide +kernel
theorem dX8_readTest_36 : decode cX8_readTest 36 = .ok (.iadd, 1) := by decide +kernel
theorem dX8_readTest_37 : decode cX8_readTest 37 = .ok (.invokevirtual 224, 3) := by decide +kernel
theorem dX8_readTest_40 : decode cX8_readTest 40 = .ok (.iastore, 1) := by decide +kernel
theorem dX8_readTest_41 : decode cX8_readTest 41 = .ok (.aload_n 0, 1) := by decide +kernel
theorem dX8_readTest_42 : decode cX8_readTest 42 = .ok (.invokevirtual 172, 3) := by decide +kernel
theorem dX8_readTest_45 : decode cX8_readTest 45 = .ok (.ifCond .eq 22, 3) := by decide +kernel
theorem dX8_readTest_48 : decode cX8_readTest 48 = .ok (.aload_n 0, 1) := by decide +kernel
theorem dX8_readTest_49 : decode cX8_readTest 49 = .ok (.getfield 29, 3) := by decide +kernel
theorem dX8_readTest_52 : decode cX8_readTest 52 = .ok (.iload_n 1, 1) := by decide +kernel
theorem dX8_readTest_53 : decode cX8_readTest 53 = .ok (.iaload, 1) := by decide +kernel
theorem dX8_readTest_54 : decode cX8_readTest 54 = .ok (.iconst 3, 1) := by decide +kernel
theorem dX8_readTest_55 : decode cX8_readTest 55 = .ok (.if_icmp .eq 12, 3) := by decide +kernel
theorem dX8_readTest_58 : decode cX8_readTest 58 = .ok (.aload_n 0, 1) := by decide +kernel
theorem dX8_readTest_59 : decode cX8_readTest 59 = .ok (.invokevirtual 176, 3) := by decide +kernel
theorem dX8_readTest_62 : decode cX8_readTest 62 = .ok (.bipush 58, 2) := by decide +kernel
theorem dX8_readTest_64 : decode cX8_readTest 64 = .ok (.if_icmp .eq 4, 3) := by decide +kernel
theorem dX8_readTest_67 : decode cX8_readTest 67 = .ok (.return_, 1) := by decide +kernel
theorem dX8_readTest_68 : decode cX8_readTest 68 = .ok (.aload_n 0, 1) := by decide +kernel
theorem dX8_readTest_69 : decode cX8_readTest 69 = .ok (.dup, 1) := by decide +kernel
theorem dX8_readTest_70 : decode cX8_readTest 70 = .ok (.getfield 163, 3) := by decide +kernel
theorem dX8_readTest_73 : decode cX8_readTest 73 = .ok (.iconst 1, 1) := by decide +kernel
theorem dX8_readTest_74 : decode cX8_readTest 74 = .ok (.iadd, 1) := by decide +kernel
theorem dX8_readTest_75 : decode cX8_readTest 75 = .ok (.putfield 163, 3) := by decide +kernel
theorem dX8_readTest_78 : decode cX8_readTest 78 = .ok (.aload_n 0, 1) := by decide +kernel
theorem dX8_readTest_79 : decode cX8_readTest 79 = .ok (.getfield 56, 3) := by decide +kernel
theorem dX8_readTest_82 : decode cX8_readTest 82 = .ok (.iload_n 1, 1) := by decide +kernel
theorem dX8_readTest_83 : decode cX8_readTest 83 = .ok (.aload_n 0, 1) := by decide +kernel
theorem dX8_readTest_84 : decode cX8_readTest 84 = .ok (.iload_n 1, 1) := by decide +kernel
theorem dX8_readTest_85 : decode cX8_readTest 85 = .ok (.iload_n 2, 1) := by decide +kernel
theorem dX8_readTest_86 : decode cX8_readTest 86 = .ok (.iload_n 3, 1) := by decide +kernel
theorem dX8_readTest_87 : decode cX8_readTest 87 = .ok (.iconst 1, 1) := by decide +kernel
theorem dX8_readTest_88 : decode cX8_readTest 88 = .ok (.iadd, 1) := by decide +kernel
theorem dX8_readTest_89 : decode cX8_readTest 89 = .ok (.invokevirtual 224, 3) := by decide +kernel
theorem dX8_readTest_92 : decode cX8_readTest 92 = .ok (.iastore, 1) := by decide +kernel
theorem dX8_readTest_93 : decode cX8_readTest 93 = .ok (.return_, 1) := by decide +kernel
theorem dX8_readTry_0 : decode cX8_readTry 0 = .ok (.aload_n 0, 1) := by decide +kernel
theorem dX8_readTry_1 : decode cX8_readTry 1 = .ok (.getfield 53, 3) := by decide +kernel
theorem dX8_readTry_4 : decode cX8_readTry 4 = .ok (.iload_n 1, 1) := by decide +kernel
theorem dX8_readTry_5 : decode cX8_readTry 5 = .ok (.aload_n 0, 1) := by decide +kernel
theorem dX8_readTry_6 : decode cX8_readTry 6 = .ok (.iload_n 1, 1) := by decide +kernel
theorem dX8_readTry_7 : decode cX8_readTry 7 = .ok (.iload_n 2, 1) := by decide +kernel
theorem dX8_readTry_8 : decode cX8_readTry 8 = .ok (.iload_n 3, 1) := by decide +kernel
theorem dX8_readTry_9 : decode cX8_readTry 9 = .ok (.iconst 1, 1) := by decide +kernel
theorem dX8_readTry_10 : decode cX8_readTry 10 = .ok (.iadd, 1) := by decide +kernel
theorem dX8_readTry_11 : decode cX8_readTry 11 = .ok (.invokevirtual 224, 3) := by decide +kernel
theorem dX8_readTry_14 : decode cX8_readTry 14 = .ok (.iastore, 1) := by decide +kernel
theorem dX8_readTry_15 : decode cX8_readTry 15 = .ok (.aload_n 0, 1) := by decide +kernel
theorem dX8_readTry_16 : decode cX8_readTry 16 = .ok (.invokevirtual 172, 3) := by decide +kernel
theorem dX8_readTry_19 : decode cX8_readTry 19 = .ok (.ifCond .ne 4, 3) := by decide +kernel
theorem dX8_readTry_22 : decode cX8_readTry 22 = .ok (.return_, 1) := by decide +kernel
theorem dX8_readTry_23 : decode cX8_readTry 23 = .ok (.aload_n 0, 1) := by decide +kernel
theorem dX8_readTry_24 : decode cX8_readTry 24 = .ok (.getfield 44, 3) := by decide +kernel
theorem dX8_readTry_27 : decode cX8_readTry 27 = .ok (.iload_n 1, 1) := by decide +kernel
theorem dX8_readTry_28 : decode cX8_readTry 28 = .ok (.aload_n 0, 1) := by decide +kernel
theorem dX8_readTry_29 : decode cX8_readTry 29 = .ok (.iconst 0, 1) := by decide +kernel
theorem dX8_readTry_30 : decode cX8_readTry 30 = .ok (.invokevirtual 183, 3) := by decide +kernel
theorem dX8_readTry_33 : decode cX8_readTry 33 = .ok (.iastore, 1) := by decide +kernel
theorem dX8_readTry_34 : decode cX8_readTry 34 = .ok (.aload_n 0, 1) := by decide +kernel
theorem dX8_readTry_35 : decode cX8_readTry 35 = .ok (.getfield 44, 3) := by decide +kernel
theorem dX8_readTry_38 : decode cX8_readTry 38 = .ok (.iload_n 1, 1) := by decide +kernel
theorem dX8_readTry_39 : decode cX8_readTry 39 = .ok (.iaload, 1) := by decide +kernel
theorem dX8_readTry_40 : decode cX8_readTry 40 = .ok (.iconst (-1), 1) := by decide +kernel
theorem dX8_readTry_41 : decode cX8_readTry 41 = .ok (.if_icmp .ne 9, 3) := by decide +kernel
theorem dX8_readTry_44 : decode cX8_readTry 44 = .ok (.aload_n 0, 1) := by decide +kernel
theorem dX8_readTry_45 : decode cX8_readTry 45 = .ok (.iconst 1, 1) := by decide +kernel
theorem dX8_readTry_46 : decode cX8_readTry 46 = .ok (.invokevirtual 180, 3) := by decide +kernel
theorem dX8_readTry_49 : decode cX8_readTry 49 = .ok (.return_, 1) := by decide +kernel
theorem dX8_readTry_50 : decode cX8_readTry 50 = .ok (.aload_n 0, 1) := by decide +kernel
theorem dX8_readTry_51 : decode cX8_readTry 51 = .ok (.dup, 1) := by decide +kernel
theorem dX8_readTry_52 : decode cX8_readTry 52 = .ok (.getfield 163, 3) := by decide +kernel
theorem dX8_readTry_55 : decode cX8_readTry 55 = .ok (.iconst 1, 1) := by decide +kernel
theorem dX8_readTry_56 : decode cX8_readTry 56 = .ok (.iadd, 1) := by decide +kernel
theorem dX8_readTry_57 : decode cX8_readTry 57 = .ok (.putfield 163, 3) := by decide +kernel
theorem dX8_readTry_60 : decode cX8_readTry 60 = .ok (.aload_n 0, 1) := by decide +kernel
theorem dX8_readTry_61 : decode cX8_readTry 61 = .ok (.getfield 56, 3) := by decide +kernel
theorem dX8_readTry_64 : decode cX8_readTry 64 = .ok (.iload_n 1, 1) := by decide +kernel
theorem dX8_readTry_65 : decode cX8_readTry 65 = .ok (.aload_n 0, 1) := by decide +kernel
theorem dX8_readTry_66 : decode cX8_readTry 66 = .ok (.iload_n 1, 1) := by decide +kernel
theorem dX8_readTry_67 : decode cX8_readTry 67 = .ok (.iload_n 2, 1) := by decide +kernel
theorem dX8_readTry_68 : decode cX8_readTry 68 = .ok (.iload_n 3, 1) := by decide +kernel
theorem dX8_readTry_69 : decode cX8_readTry 69 = .ok (.iconst 1, 1) := by decide +kernel
theorem dX8_readTry_70 : decode cX8_readTry 70 = .ok (.iadd, 1) := by decide +kernel
theorem dX8_readTry_71 : decode cX8_readTry 71 = .ok (.invokevirtual 224, 3) := by decide +kernel
theorem dX8_readTry_74 : decode cX8_readTry 74 = .ok (.iastore, 1) := by decide +kernel
theorem dX8_readTry_75 : decode cX8_readTry 75 = .ok (.return_, 1) := by decide +kernel
set_option maxHeartbeats 4000000 in
set_option maxRecDepth 100000 in
theorem s_X8_readBlock_b (l : Launch) (d : Nat) {t : Nat} (ihI : ∀ {P : PP} {h : HP} (_ : Iv P h) (a2 : Int32) (a2l : 0 ≤ a2.toInt) (a2u : a2.toInt ≤ 559) (a3 : Int32) (a3l : 0 ≤ a3.toInt) (a3u : a3.toInt ≤ 4) (a4 : Int32) (a4l : 0 ≤ a4.toInt) (a4u : a4.toInt ≤ 6) (h0 : (h.2.1 70 5).toInt = 0) (hp : 6 * (V h.2.1 73 (h.2.1 70 6).toInt - V h.2.1 75 (h.2.1 70 6).toInt) ≤ (h.2.1 70 4).toInt + 5 * a4.toInt ∧ 2 * V h.2.1 74 (h.2.1 70 6).toInt ≤ (h.2.1 70 4).toInt + a4.toInt + 1) (ht : TR h.2.1 (h.2.1 70 6).toInt ∧ BB h.2.1 (h.2.1 70 6).toInt a2.toInt ∧ OO h.2.1 (h.2.1 70 6).toInt (V h.2.1 92 a2.toInt) a4.toInt) (hd : 7 ≤ a4.toInt + (t : Int)), Mt l yX8_readItem cX8_readItem 7 none (d + 2) [.ref 70, .int a2, .int a3, .int a4] h 0 0 (fun r h' => r = none ∧ (∃ Q : PP, Iv Q h' ∧ MW P Q) ∧ ((h'.2.1 70 5).toInt = 0 → (h.2.1 70 5).toInt = 0) ∧ ((h.2.1 70 4).toInt ≤ (h'.2.1 70 4).toInt) ∧ ((h'.2.1 70 5).toInt = 0 → (h.2.1 70 4).toInt + 1 ≤ (h'.2.1 70 4).toInt ∧ 6 * (V h'.2.1 73 (h.2.1 70 6).toInt - V h'.2.1 75 (h.2.1 70 6).toInt) - (h'.2.1 70 4).toInt ≤ 6 * (V h.2.1 73 (h.2.1 70 6).toInt - V h.2.1 75 (h.2.1 70 6).toInt) - (h.2.1 70 4).toInt ∧ 2 * V h'.2.1 74 (h.2.1 70 6).toInt - (h'.2.1 70 4).toInt ≤ 2 * V h.2.1 74 (h.2.1 70 6).toInt - (h.2.1 70 4).toInt) ∧ ((h'.2.1 70 5).toInt = 0 → RI h.2.1 h'.2.1 (h.2.1 70 6).toInt a2.toInt a4.toInt) ∧ (KP h.2.1 h'.2.1) ∧ (OH h.2.1 h'.2.1 (h.2.1 70 6).toInt) ∧ (CKF h.2.1 → CKF h'.2.1))) {P : PP} {h : HP} (hv : Iv P h) (a2 : Int32) (a2l : -1 ≤ a2.toInt) (a2u : a2.toInt ≤ 259) (a3 : Int32) (a3l : 0 ≤ a3.toInt) (a3u : a3.toInt ≤ 4) (a4 : Int32) (a4l : 0 ≤ a4.toInt) (a4u : a4.toInt ≤ 7) (hp : (h.2.1 70 5).toInt = 0 → 6 * (V h.2.1 73 (h.2.1 70 6).toInt - V h.2.1 75 (h.2.1 70 6).toInt) ≤ (h.2.1 70 4).toInt + 5 * a4.toInt ∧ 2 * V h.2.1 74 (h.2.1 70 6).toInt ≤ (h.2.1 70 4).toInt + a4.toInt) (ht : (h.2.1 70 5).toInt = 0 → TR h.2.1 (h.2.1 70 6).toInt ∧ OO h.2.1 (h.2.1 70 6).toInt a2.toInt a4.toInt) (hd : 7 ≤ a4.toInt + (t : Int)) : Mt l yX8_readBlock cX8_readBlock 5 (some .int) (d + 3) [.ref 70, .int a2, .int a3, .int a4] h 0 0 (fun r h' => ∃ v : Int32, r = some (.int v) ∧ 0 ≤ v.toInt ∧ v.toInt ≤ 559 ∧ (∃ Q : PP, Iv Q h' ∧ MW P Q) ∧ ((h'.2.1 70 5).toInt = 0 → (h.2.1 70 5).toInt = 0) ∧ ((h.2.1 70 4).toInt ≤ (h'.2.1 70 4).toInt) ∧ ((h'.2.1 70 5).toInt = 0 → (h.2.1 70 4).toInt + 2 ≤ (h'.2.1 70 4).toInt ∧ 6 * (V h'.2.1 73 (h.2.1 70 6).toInt - V h'.2.1 75 (h.2.1 70 6).toInt) - (h'.2.1 70 4).toInt ≤ 6 * (V h.2.1 73 (h.2.1 70 6).toInt - V h.2.1 75 (h.2.1 70 6).toInt) - (h.2.1 70 4).toInt - 2 ∧ 2 * V h'.2.1 74 (h.2.1 70 6).toInt - (h'.2.1 70 4).toInt ≤ 2 * V h.2.1 74 (h.2.1 70 6).toInt - (h.2.1 70 4).toInt) ∧ ((h'.2.1 70 5).toInt = 0 → RB h.2.1 h'.2.1 (h.2.1 70 6).toInt a2.toInt a4.toInt v.toInt) ∧ (KP h.2.1 h'.2.1) ∧ (OH h.2.1 h'.2.1 (h.2.1 70 6).toInt) ∧ (CKF h.2.1 → CKF h'.2.1)) := by
  refine Mt_iv hv (by decide) (Nat.le_of_ble_eq_true rfl) ?_
  show Go l RX8 cX8_readBlock 5 (g_rm (d + 3) 0 0) "readBlock" (some .int) 117 0 0 (fun _ _ => True) (fun r h' => ∃ v : Int32, r = some (.int v) ∧ 0 ≤ v.toInt ∧ v.toInt ≤ 559 ∧ (∃ Q : PP, Iv Q h' ∧ MW P Q) ∧ ((h'.2.1 70 5).toInt = 0 → (h.2.1 70 5).toInt = 0) ∧ ((h.2.1 70 4).toInt ≤ (h'.2.1 70 4).toInt) ∧ ((h'.2.1 70 5).toInt = 0 → (h.2.1 70 4).toInt + 2 ≤ (h'.2.1 70 4).toInt ∧ 6 * (V h'.2.1 73 (h.2.1 70 6).toInt - V h'.2.1 75 (h.2.1 70 6).toInt) - (h'.2.1 70 4).toInt ≤ 6 * (V h.2.1 73 (h.2.1 70 6).toInt - V h.2.1 75 (h.2.1 70 6).toInt) - (h.2.1 70 4).toInt - 2 ∧ 2 * V h'.2.1 74 (h.2.1 70 6).toInt - (h'.2.1 70 4).toInt ≤ 2 * V h.2.1 74 (h.2.1 70 6).toInt - (h.2.1 70 4).toInt) ∧ ((h'.2.1 70 5).toInt = 0 → RB h.2.1 h'.2.1 (h.2.1 70 6).toInt a2.toInt a4.toInt v.toInt) ∧ (KP h.2.1 h'.2.1) ∧ (OH h.2.1 h'.2.1 (h.2.1 70 6).toInt) ∧ (CKF h.2.1 → CKF h'.2.1)) 0 0 [(0, .ref 70), (1, .int a2), (2, .int a3), (3, .int a4)] [] h
  obtain ⟨S, hS⟩ : ∃ S : Int, S = (h.2.1 70 6).toInt := ⟨_, rfl⟩
  have S0 : 0 ≤ S := by rw [hS]; exact (hv.2.1 70 6).1
  have S1 : S ≤ 1 := by rw [hS]; exact (hv.2.1 70 6).2
  have oh : OH h.2.1 h.2.1 S := OH.rfl _ _
  have ck : CKF h.2.1 → CKF h.2.1 := id
  have kp : KP h.2.1 h.2.1 := KP.rfl _
  rw [← hS] at hp
  rw [← hS] at ht
  have key : ∀ n : Nat, (∀ (l2 : Int32) (l3 : Int32) (l4 : Int32) (Qx : PP) (hx : HP), Iv Qx hx → MW P Qx → 0 ≤ l2.toInt → l2.toInt ≤ 4 → 0 ≤ l3.toInt → l3.toInt ≤ 7 → 0 ≤ l4.toInt → l4.toInt ≤ 559 → ((h.2.1 70 4).toInt ≤ (hx.2.1 70 4).toInt) → ((hx.2.1 70 5).toInt = 0 → LI h.2.1 hx.2.1 S a2.toInt a4.toInt l4.toInt) → ((hx.2.1 70 5).toInt = 0 → (h.2.1 70 5).toInt = 0) → (l2.toInt = a3.toInt) → (l3.toInt = a4.toInt) → ((hx.2.1 70 5).toInt = 0 → (h.2.1 70 4).toInt + 1 ≤ (hx.2.1 70 4).toInt ∧ 6 * (V hx.2.1 73 S - V hx.2.1 75 S) - (hx.2.1 70 4).toInt ≤ 6 * (V h.2.1 73 S - V h.2.1 75 S) - (h.2.1 70 4).toInt - 1 ∧ 2 * V hx.2.1 74 S - (hx.2.1 70 4).toInt ≤ 2 * V h.2.1 74 S - (h.2.1 70 4).toInt + 1 ∧ a4.toInt ≤ 6) → OH h.2.1 hx.2.1 S → (CKF h.2.1 → CKF hx.2.1) → KP h.2.1 hx.2.1 → (0 : Int) ≤ (hx.2.1 70 4).toInt → (hx.2.1 70 4).toInt ≤ 500 → (-2147483648 : Int) ≤ (hx.2.1 70 5).toInt → (hx.2.1 70 5).toInt ≤ 2147483647 → (3 * (2 * (500 - (hx.2.1 70 4).toInt) + gd (hx.2.1 70 5).toInt) + 2 : Int) < n → Go l RX8 cX8_readBlock 5 (g_rm (d + 3) 0 0) "readBlock" (some .int) 117 0 0 (fun _ _ => True) (fun r h' => ∃ v : Int32, r = some (.int v) ∧ 0 ≤ v.toInt ∧ v.toInt ≤ 559 ∧ (∃ Q : PP, Iv Q h' ∧ MW P Q) ∧ ((h'.2.1 70 5).toInt = 0 → (h.2.1 70 5).toInt = 0) ∧ ((h.2.1 70 4).toInt ≤ (h'.2.1 70 4).toInt) ∧ ((h'.2.1 70 5).toInt = 0 → (h.2.1 70 4).toInt + 2 ≤ (h'.2.1 70 4).toInt ∧ 6 * (V h'.2.1 73 (h.2.1 70 6).toInt - V h'.2.1 75 (h.2.1 70 6).toInt) - (h'.2.1 70 4).toInt ≤ 6 * (V h.2.1 73 (h.2.1 70 6).toInt - V h.2.1 75 (h.2.1 70 6).toInt) - (h.2.1 70 4).toInt - 2 ∧ 2 * V h'.2.1 74 (h.2.1 70 6).toInt - (h'.2.1 70 4).toInt ≤ 2 * V h.2.1 74 (h.2.1 70 6).toInt - (h.2.1 70 4).toInt) ∧ ((h'.2.1 70 5).toInt = 0 → RB h.2.1 h'.2.1 (h.2.1 70 6).toInt a2.toInt a4.toInt v.toInt) ∧ (KP h.2.1 h'.2.1) ∧ (OH h.2.1 h'.2.1 (h.2.1 70 6).toInt) ∧ (CKF h.2.1 → CKF h'.2.1)) 0 8 [(0, .ref 70), (2, .int l2), (3, .int l3), (4, .int l4)] [] hx) := by
    intro n
    induction n with
    | zero => exact (by intros; omega)
    | succ n ih =>
      refine ?_
      ·
        intro l2 l3 l4 Qx hx hvx sqx l2l l2u l3l l3u l4l l4u x0 x1 x2 x3 x4 x5 ohx ckx kpx y0l y0u y1l y1u hm
        have gdx := gd_spec (hx.2.1 70 5).toInt
        refine go_aload_n (pc := 8) rfl dX8_readBlock_8 ?_
        refine go_invV (pc := 9) (sl := 0) (s_X8_isGood l (d + 1) hvx ) mL_X8_172 iM_X8_isGood sM_X8_isGood (hvx.sh rfl) rfl rfl rfl (Nat.le_of_ble_eq_true rfl) (show d + 1 + 1 + 1 ≤ d + 3 by omega) (show 8 + (1 + 11) + 40 * (d + 1 + 1) ≤ 40 * (d + 3) by omega) (g_c0 hvx.ln) (Nat.le_of_ble_eq_true rfl) dX8_readBlock_9 ?_
        intro r h1 hq _
        obtain ⟨v4, rfl, v4l, v4u, rfl, f2, f3⟩ := hq
        refine gf_if_eq (pc := 12) (tgt := 35) (ti_rfl v4) (by decide) dX8_readBlock_12 (fun q5 => ?_) (fun q5 => ?_)
        ·
          refine go_aload_n (pc := 35) rfl dX8_readBlock_35 ?_
          refine go_bipush (pc := 36) (v := 125) (by decide) dX8_readBlock_36 ?_
          have g6 : (0 : Int) ≤ (hx.2.1 70 4).toInt := (hvx.2.1 70 4).1
          have g7 : (hx.2.1 70 4).toInt ≤ 500 := (hvx.2.1 70 4).2
          have g8 : (-2147483648 : Int) ≤ (hx.2.1 70 5).toInt := (hvx.2.1 70 5).1
          have g9 : (hx.2.1 70 5).toInt ≤ 2147483647 := (hvx.2.1 70 5).2
          refine go_invV (pc := 38) (sl := 0) (s_X8_must l (d + 0) hvx 125 (by rw [show (125 : Int32).toInt = 125 from (ti_c (v := 125) (a := 125) (by decide))]; omega) (by rw [show (125 : Int32).toInt = 125 from (ti_c (v := 125) (a := 125) (by decide))]; omega)) mL_X8_198 iM_X8_must sM_X8_must (hvx.sh rfl) rfl rfl rfl (Nat.le_of_ble_eq_true rfl) (show d + 0 + 2 + 1 ≤ d + 3 by omega) (show 8 + (2 + 11) + 40 * (d + 0 + 2) ≤ 40 * (d + 3) by omega) (g_c0 hvx.ln) (Nat.le_of_ble_eq_true rfl) dX8_readBlock_38 ?_
          intro r h10 hq _
          obtain ⟨rfl, hv10, f11, f12, f13⟩ := hq
          try rw [show (125 : Int32).toInt = 125 from (ti_c (v := 125) (a := 125) (by decide))] at f11
          try rw [show (125 : Int32).toInt = 125 from (ti_c (v := 125) (a := 125) (by decide))] at f12
          try rw [show (125 : Int32).toInt = 125 from (ti_c (v := 125) (a := 125) (by decide))] at f13
          have ve10 : VE hx.2.1 h10.2.1 := VE.of hvx hv10
          have oh10 : OH h.2.1 h10.2.1 S := ohx.trans (OH.of hvx hv10 S)
          have kp10 : KP h.2.1 h10.2.1 := kpx.trans (KP.ve ve10)
          have ck10 : CKF h.2.1 → CKF h10.2.1 := fun z => CKF.ve ve10 (ckx z)
          have n73_10 : V h10.2.1 73 S = V hx.2.1 73 S := ve10.v (by omega) (by omega)
          have n74_10 : V h10.2.1 74 S = V hx.2.1 74 S := ve10.v (by omega) (by omega)
          have n75_10 : V h10.2.1 75 S = V hx.2.1 75 S := ve10.v (by omega) (by omega)
          obtain ⟨u14, u14w⟩ : ∃ v : Int32, v = h10.2.1 70 4 := ⟨_, rfl⟩
          have u14e : (h10.2.1 70 4).toInt = u14.toInt := by rw [u14w]
          have u14l : 0 ≤ u14.toInt := by rw [u14w]; exact (hv10.2.1 70 4).1
          have u14u : u14.toInt ≤ 500 := by rw [u14w]; exact (hv10.2.1 70 4).2
          obtain ⟨u15, u15w⟩ : ∃ v : Int32, v = h10.2.1 70 5 := ⟨_, rfl⟩
          have u15e : (h10.2.1 70 5).toInt = u15.toInt := by rw [u15w]
          have u15l : -2147483648 ≤ u15.toInt := by rw [u15w]; exact (hv10.2.1 70 5).1
          have u15u : u15.toInt ≤ 2147483647 := by rw [u15w]; exact (hv10.2.1 70 5).2
          refine go_iload (pc := 41) rfl dX8_readBlock_41 ?_
          have g16 : (0 : Int) ≤ (h10.2.1 70 4).toInt := (hv10.2.1 70 4).1
          have g17 : (h10.2.1 70 4).toInt ≤ 500 := (hv10.2.1 70 4).2
          have g18 : (-2147483648 : Int) ≤ (h10.2.1 70 5).toInt := (hv10.2.1 70 5).1
          have g19 : (h10.2.1 70 5).toInt ≤ 2147483647 := (hv10.2.1 70 5).2
          have g20 : (h10.2.1 70 4).toInt = u14.toInt := by rw [← (show u14 = h10.2.1 70 4 from u14w)] <;> exact (ti_rfl u14)
          have g21 : (h10.2.1 70 5).toInt = u15.toInt := by rw [← (show u15 = h10.2.1 70 5 from u15w)] <;> exact (ti_rfl u15)
          have pp22 : (h10.2.1 70 5).toInt = 0 → (h.2.1 70 5).toInt = 0 := (by omega)
          have pp23 : (h.2.1 70 4).toInt ≤ (h10.2.1 70 4).toInt := (by omega)
          have pp24 : (h10.2.1 70 5).toInt = 0 → (h.2.1 70 4).toInt + 2 ≤ (h10.2.1 70 4).toInt ∧ 6 * (V h10.2.1 73 S - V h10.2.1 75 S) - (h10.2.1 70 4).toInt ≤ 6 * (V h.2.1 73 S - V h.2.1 75 S) - (h.2.1 70 4).toInt - 2 ∧ 2 * V h10.2.1 74 S - (h10.2.1 70 4).toInt ≤ 2 * V h.2.1 74 S - (h.2.1 70 4).toInt := (by omega)
          have pp25 : (h10.2.1 70 5).toInt = 0 → RB h.2.1 h10.2.1 S a2.toInt a4.toInt (l4 : Int32).toInt := (fun hg => LI.fin (LI.ve (x1 (by omega)) ve10))
          subst hS
          exact gi_iret (pc := 43) (ti_rfl l4) ⟨_, rfl, (by rw [show (l4 : Int32).toInt = l4.toInt from (ti_rfl l4)]; omega), (by rw [show (l4 : Int32).toInt = l4.toInt from (ti_rfl l4)]; omega), ⟨_, hv10, sqx⟩, pp22, pp23, pp24, pp25, kp10, oh10, ck10⟩ hv10 dX8_readBlock_43
        ·
          refine go_aload_n (pc := 15) rfl dX8_readBlock_15 ?_
          have g26 : (0 : Int) ≤ (hx.2.1 70 4).toInt := (hvx.2.1 70 4).1
          have g27 : (hx.2.1 70 4).toInt ≤ 500 := (hvx.2.1 70 4).2
          have g28 : (-2147483648 : Int) ≤ (hx.2.1 70 5).toInt := (hvx.2.1 70 5).1
          have g29 : (hx.2.1 70 5).toInt ≤ 2147483647 := (hvx.2.1 70 5).2
          refine go_invV (pc := 16) (sl := 0) (s_X8_here l (d + 1) hvx ) mL_X8_176 iM_X8_here sM_X8_here (hvx.sh rfl) rfl rfl rfl (Nat.le_of_ble_eq_true rfl) (show d + 1 + 1 + 1 ≤ d + 3 by omega) (show 8 + (1 + 11) + 40 * (d + 1 + 1) ≤ 40 * (d + 3) by omega) (g_c0 hvx.ln) (Nat.le_of_ble_eq_true rfl) dX8_readBlock_16 ?_
          intro r h30 hq _
          obtain ⟨v35, rfl, v35l, v35u, hv30, f31, f32, f33, f34⟩ := hq
          have ve30 : VE hx.2.1 h30.2.1 := VE.of hvx hv30
          have oh30 : OH h.2.1 h30.2.1 S := ohx.trans (OH.of hvx hv30 S)
          have kp30 : KP h.2.1 h30.2.1 := kpx.trans (KP.ve ve30)
          have ck30 : CKF h.2.1 → CKF h30.2.1 := fun z => CKF.ve ve30 (ckx z)
          have n73_30 : V h30.2.1 73 S = V hx.2.1 73 S := ve30.v (by omega) (by omega)
          have n74_30 : V h30.2.1 74 S = V hx.2.1 74 S := ve30.v (by omega) (by omega)
          have n75_30 : V h30.2.1 75 S = V hx.2.1 75 S := ve30.v (by omega) (by omega)
          obtain ⟨u36, u36w⟩ : ∃ v : Int32, v = h30.2.1 70 4 := ⟨_, rfl⟩
          have u36e : (h30.2.1 70 4).toInt = u36.toInt := by rw [u36w]
          have u36l : 0 ≤ u36.toInt := by rw [u36w]; exact (hv30.2.1 70 4).1
          have u36u : u36.toInt ≤ 500 := by rw [u36w]; exact (hv30.2.1 70 4).2
          obtain ⟨u37, u37w⟩ : ∃ v : Int32, v = h30.2.1 70 5 := ⟨_, rfl⟩
          have u37e : (h30.2.1 70 5).toInt = u37.toInt := by rw [u37w]
          have u37l : -2147483648 ≤ u37.toInt := by rw [u37w]; exact (hv30.2.1 70 5).1
          have u37u : u37.toInt ≤ 2147483647 := by rw [u37w]; exact (hv30.2.1 70 5).2
          refine go_bipush (pc := 19) (v := 125) (by decide) dX8_readBlock_19 ?_
          refine gf_icmp_eq (pc := 21) (tgt := 35) (ti_rfl v35) (ti_c (v := 125) (a := 125) (by decide)) (by decide) dX8_readBlock_21 (fun q38 => ?_) (fun q38 => ?_)
          ·
            refine go_aload_n (pc := 35) rfl dX8_readBlock_35 ?_
            refine go_bipush (pc := 36) (v := 125) (by decide) dX8_readBlock_36 ?_
            have g39 : (0 : Int) ≤ (h30.2.1 70 4).toInt := (hv30.2.1 70 4).1
            have g40 : (h30.2.1 70 4).toInt ≤ 500 := (hv30.2.1 70 4).2
            have g41 : (-2147483648 : Int) ≤ (h30.2.1 70 5).toInt := (hv30.2.1 70 5).1
            have g42 : (h30.2.1 70 5).toInt ≤ 2147483647 := (hv30.2.1 70 5).2
            have g43 : (h30.2.1 70 4).toInt = u36.toInt := by rw [← (show u36 = h30.2.1 70 4 from u36w)] <;> exact (ti_rfl u36)
            have g44 : (h30.2.1 70 5).toInt = u37.toInt := by rw [← (show u37 = h30.2.1 70 5 from u37w)] <;> exact (ti_rfl u37)
            refine go_invV (pc := 38) (sl := 0) (s_X8_must l (d + 0) hv30 125 (by rw [show (125 : Int32).toInt = 125 from (ti_c (v := 125) (a := 125) (by decide))]; omega) (by rw [show (125 : Int32).toInt = 125 from (ti_c (v := 125) (a := 125) (by decide))]; omega)) mL_X8_198 iM_X8_must sM_X8_must (hv30.sh rfl) rfl rfl rfl (Nat.le_of_ble_eq_true rfl) (show d + 0 + 2 + 1 ≤ d + 3 by omega) (show 8 + (2 + 11) + 40 * (d + 0 + 2) ≤ 40 * (d + 3) by omega) (g_c0 hv30.ln) (Nat.le_of_ble_eq_true rfl) dX8_readBlock_38 ?_
            intro r h45 hq _
            obtain ⟨rfl, hv45, f46, f47, f48⟩ := hq
            try rw [show (125 : Int32).toInt = 125 from (ti_c (v := 125) (a := 125) (by decide))] at f46
            try rw [show (125 : Int32).toInt = 125 from (ti_c (v := 125) (a := 125) (by decide))] at f47
            try rw [show (125 : Int32).toInt = 125 from (ti_c (v := 125) (a := 125) (by decide))] at f48
            have ve45 : VE h30.2.1 h45.2.1 := VE.of hv30 hv45
            have oh45 : OH h.2.1 h45.2.1 S := oh30.trans (OH.of hv30 hv45 S)
            have kp45 : KP h.2.1 h45.2.1 := kp30.trans (KP.ve ve45)
            have ck45 : CKF h.2.1 → CKF h45.2.1 := fun z => CKF.ve ve45 (ck30 z)
            have n73_45 : V h45.2.1 73 S = V h30.2.1 73 S := ve45.v (by omega) (by omega)
            have n74_45 : V h45.2.1 74 S = V h30.2.1 74 S := ve45.v (by omega) (by omega)
            have n75_45 : V h45.2.1 75 S = V h30.2.1 75 S := ve45.v (by omega) (by omega)
            obtain ⟨u49, u49w⟩ : ∃ v : Int32, v = h45.2.1 70 4 := ⟨_, rfl⟩
            have u49e : (h45.2.1 70 4).toInt = u49.toInt := by rw [u49w]
            have u49l : 0 ≤ u49.toInt := by rw [u49w]; exact (hv45.2.1 70 4).1
            have u49u : u49.toInt ≤ 500 := by rw [u49w]; exact (hv45.2.1 70 4).2
            obtain ⟨u50, u50w⟩ : ∃ v : Int32, v = h45.2.1 70 5 := ⟨_, rfl⟩
            have u50e : (h45.2.1 70 5).toInt = u50.toInt := by rw [u50w]
            have u50l : -2147483648 ≤ u50.toInt := by rw [u50w]; exact (hv45.2.1 70 5).1
            have u50u : u50.toInt ≤ 2147483647 := by rw [u50w]; exact (hv45.2.1 70 5).2
            refine go_iload (pc := 41) rfl dX8_readBlock_41 ?_
            have g51 : (0 : Int) ≤ (h45.2.1 70 4).toInt := (hv45.2.1 70 4).1
            have g52 : (h45.2.1 70 4).toInt ≤ 500 := (hv45.2.1 70 4).2
            have g53 : (-2147483648 : Int) ≤ (h45.2.1 70 5).toInt := (hv45.2.1 70 5).1
            have g54 : (h45.2.1 70 5).toInt ≤ 2147483647 := (hv45.2.1 70 5).2
            have g55 : (h45.2.1 70 4).toInt = u49.toInt := by rw [← (show u49 = h45.2.1 70 4 from u49w)] <;> exact (ti_rfl u49)
            have g56 : (h45.2.1 70 5).toInt = u50.toInt := by rw [← (show u50 = h45.2.1 70 5 from u50w)] <;> exact (ti_rfl u50)
            have pp57 : (h45.2.1 70 5).toInt = 0 → (h.2.1 70 5).toInt = 0 := (by omega)
            have pp58 : (h.2.1 70 4).toInt ≤ (h45.2.1 70 4).toInt := (by omega)
            have pp59 : (h45.2.1 70 5).toInt = 0 → (h.2.1 70 4).toInt + 2 ≤ (h45.2.1 70 4).toInt ∧ 6 * (V h45.2.1 73 S - V h45.2.1 75 S) - (h45.2.1 70 4).toInt ≤ 6 * (V h.2.1 73 S - V h.2.1 75 S) - (h.2.1 70 4).toInt - 2 ∧ 2 * V h45.2.1 74 S - (h45.2.1 70 4).toInt ≤ 2 * V h.2.1 74 S - (h.2.1 70 4).toInt := (by omega)
            have pp60 : (h45.2.1 70 5).toInt = 0 → RB h.2.1 h45.2.1 S a2.toInt a4.toInt (l4 : Int32).toInt := (fun hg => LI.fin (LI.ve (LI.ve (x1 (by omega)) ve30) ve45))
            subst hS
            exact gi_iret (pc := 43) (ti_rfl l4) ⟨_, rfl, (by rw [show (l4 : Int32).toInt = l4.toInt from (ti_rfl l4)]; omega), (by rw [show (l4 : Int32).toInt = l4.toInt from (ti_rfl l4)]; omega), ⟨_, hv45, sqx⟩, pp57, pp58, pp59, pp60, kp45, oh45, ck45⟩ hv45 dX8_readBlock_43
          ·
            refine go_aload_n (pc := 24) rfl dX8_readBlock_24 ?_
            refine go_iload (pc := 25) rfl dX8_readBlock_25 ?_
            refine go_iload_n (pc := 27) rfl dX8_readBlock_27 ?_
            refine go_iload_n (pc := 28) rfl dX8_readBlock_28 ?_
            have hgg : (h.2.1 70 5).toInt = 0 := by omega
            have li := ((LI.ve (x1 (by omega)) ve30)) (ht hgg).1 (ht hgg).2
            obtain ⟨t1, t2, t3, t4, t5, t6, t7⟩ := li
            have tp := (ht hgg).1.1
            have hpp := hp hgg
            have sM61 : (h30.2.1 70 6).toInt = S := (congrArg Int32.toInt oh30.side).trans hS.symm
            have g62 : (0 : Int) ≤ (h30.2.1 70 4).toInt := (hv30.2.1 70 4).1
            have g63 : (h30.2.1 70 4).toInt ≤ 500 := (hv30.2.1 70 4).2
            have g64 : (-2147483648 : Int) ≤ (h30.2.1 70 5).toInt := (hv30.2.1 70 5).1
            have g65 : (h30.2.1 70 5).toInt ≤ 2147483647 := (hv30.2.1 70 5).2
            have g66 : (h30.2.1 70 4).toInt = u36.toInt := by rw [← (show u36 = h30.2.1 70 4 from u36w)] <;> exact (ti_rfl u36)
            have g67 : (h30.2.1 70 5).toInt = u37.toInt := by rw [← (show u37 = h30.2.1 70 5 from u37w)] <;> exact (ti_rfl u37)
            refine go_invV (pc := 29) (sl := 0) (ihI hv30 l4 (by rw [show (l4 : Int32).toInt = l4.toInt from (ti_rfl l4)]; omega) (by rw [show (l4 : Int32).toInt = l4.toInt from (ti_rfl l4)]; omega) l2 (by rw [show (l2 : Int32).toInt = l2.toInt from (ti_rfl l2)]; omega) (by rw [show (l2 : Int32).toInt = l2.toInt from (ti_rfl l2)]; omega) l3 (by rw [show (l3 : Int32).toInt = l3.toInt from (ti_rfl l3)]; omega) (by rw [show (l3 : Int32).toInt = l3.toInt from (ti_rfl l3)]; omega) (by omega) (by rw [sM61]; exact (by omega)) (by rw [sM61]; exact ⟨t1, ⟨by omega, t5⟩, by rw [t6, x4]; exact t7⟩) (by omega)) mL_X8_194 iM_X8_readItem sM_X8_readItem (hv30.sh rfl) rfl rfl rfl (Nat.le_of_ble_eq_true rfl) (show d + 2 + 1 ≤ d + 3 by omega) (show 8 + (7 + 11) + 40 * (d + 2) ≤ 40 * (d + 3) by omega) (g_c0 hv30.ln) (Nat.le_of_ble_eq_true rfl) dX8_readBlock_29 ?_
            intro r h68 hq _
            obtain ⟨rfl, ⟨Q69, hv68, sq70⟩, f71, f72, f73, f74, f75, f76, f77⟩ := hq
            rw [sM61] at f73
            rw [sM61] at f74
            rw [sM61] at f76
            have oh68 : OH h.2.1 h68.2.1 S := oh30.trans f76
            have kp68 : KP h.2.1 h68.2.1 := kp30.trans f75
            have ck68 : CKF h.2.1 → CKF h68.2.1 := fun z => f77 (ck30 z)
            obtain ⟨u78, u78w⟩ : ∃ v : Int32, v = h68.2.1 70 4 := ⟨_, rfl⟩
            have u78e : (h68.2.1 70 4).toInt = u78.toInt := by rw [u78w]
            have u78l : 0 ≤ u78.toInt := by rw [u78w]; exact (hv68.2.1 70 4).1
            have u78u : u78.toInt ≤ 500 := by rw [u78w]; exact (hv68.2.1 70 4).2
            obtain ⟨u79, u79w⟩ : ∃ v : Int32, v = h68.2.1 70 5 := ⟨_, rfl⟩
            have u79e : (h68.2.1 70 5).toInt = u79.toInt := by rw [u79w]
            have u79l : -2147483648 ≤ u79.toInt := by rw [u79w]; exact (hv68.2.1 70 5).1
            have u79u : u79.toInt ≤ 2147483647 := by rw [u79w]; exact (hv68.2.1 70 5).2
            have gdk := gd_spec (h68.2.1 70 5).toInt
            refine go_goto (pc := 32) (tgt := 8) (by decide) dX8_readBlock_32 ?_
            have g80 : (0 : Int) ≤ (h68.2.1 70 4).toInt := (hv68.2.1 70 4).1
            have g81 : (h68.2.1 70 4).toInt ≤ 500 := (hv68.2.1 70 4).2
            have g82 : (-2147483648 : Int) ≤ (h68.2.1 70 5).toInt := (hv68.2.1 70 5).1
            have g83 : (h68.2.1 70 5).toInt ≤ 2147483647 := (hv68.2.1 70 5).2
            have g84 : (h68.2.1 70 4).toInt = u78.toInt := by rw [← (show u78 = h68.2.1 70 4 from u78w)] <;> exact (ti_rfl u78)
            have g85 : (h68.2.1 70 5).toInt = u79.toInt := by rw [← (show u79 = h68.2.1 70 5 from u79w)] <;> exact (ti_rfl u79)
            exact go_lv rfl (ih l2 l3 l4 _ h68 hv68 (MW.trans sqx sq70) (by omega) (by omega) (by omega) (by omega) (by omega) (by omega) (by omega) (fun hg => (LI.step S0 (LI.ve (x1 (by omega)) ve30) (by have q := f74 (by omega); rw [x4] at q; exact q))) (by omega) (by omega) (by omega) (by omega) oh68 ck68 kp68 (by omega) (by omega) (by omega) (by omega) (by omega))
  refine go_aload_n (pc := 0) rfl dX8_readBlock_0 ?_
  refine go_iload_n (pc := 1) rfl dX8_readBlock_1 ?_
  refine go_iload_n (pc := 2) rfl dX8_readBlock_2 ?_
  have sM86 : (h.2.1 70 6).toInt = S := (congrArg Int32.toInt oh.side).trans hS.symm
  have g87 : (0 : Int) ≤ (h.2.1 70 4).toInt := (hv.2.1 70 4).1
  have g88 : (h.2.1 70 4).toInt ≤ 500 := (hv.2.1 70 4).2
  have g89 : (-2147483648 : Int) ≤ (h.2.1 70 5).toInt := (hv.2.1 70 5).1
  have g90 : (h.2.1 70 5).toInt ≤ 2147483647 := (hv.2.1 70 5).2
  refine go_invV (pc := 3) (sl := 0) (s_X8_newBlock l (d + 0) hv a2 (by rw [show (a2 : Int32).toInt = a2.toInt from (ti_rfl a2)]; omega) (by rw [show (a2 : Int32).toInt = a2.toInt from (ti_rfl a2)]; omega) a4 (by rw [show (a4 : Int32).toInt = a4.toInt from (ti_rfl a4)]; omega) (by rw [show (a4 : Int32).toInt = a4.toInt from (ti_rfl a4)]; omega) (by rw [sM86]; exact (fun q => by have := hp q; omega))) mL_X8_190 iM_X8_newBlock sM_X8_newBlock (hv.sh rfl) rfl rfl rfl (Nat.le_of_ble_eq_true rfl) (show d + 0 + 2 + 1 ≤ d + 3 by omega) (show 8 + (4 + 11) + 40 * (d + 0 + 2) ≤ 40 * (d + 3) by omega) (g_c0 hv.ln) (Nat.le_of_ble_eq_true rfl) dX8_readBlock_3 ?_
  intro r h91 hq _
  obtain ⟨v103, rfl, v103l, v103u, ⟨Q92, hv91, sq93⟩, f94, f95, f96, f97, f98, f99, f100, f101, f102⟩ := hq
  rw [sM86] at f96
  rw [sM86] at f97
  rw [sM86] at f98
  rw [sM86] at f99
  rw [sM86] at f101
  have oh91 : OH h.2.1 h91.2.1 S := oh.trans f101
  have kp91 : KP h.2.1 h91.2.1 := kp.trans f100
  have ck91 : CKF h.2.1 → CKF h91.2.1 := fun z => f102 (ck z)
  obtain ⟨u104, u104w⟩ : ∃ v : Int32, v = h91.2.1 70 4 := ⟨_, rfl⟩
  have u104e : (h91.2.1 70 4).toInt = u104.toInt := by rw [u104w]
  have u104l : 0 ≤ u104.toInt := by rw [u104w]; exact (hv91.2.1 70 4).1
  have u104u : u104.toInt ≤ 500 := by rw [u104w]; exact (hv91.2.1 70 4).2
  obtain ⟨u105, u105w⟩ : ∃ v : Int32, v = h91.2.1 70 5 := ⟨_, rfl⟩
  have u105e : (h91.2.1 70 5).toInt = u105.toInt := by rw [u105w]
  have u105l : -2147483648 ≤ u105.toInt := by rw [u105w]; exact (hv91.2.1 70 5).1
  have u105u : u105.toInt ≤ 2147483647 := by rw [u105w]; exact (hv91.2.1 70 5).2
  have gdk := gd_spec (h91.2.1 70 5).toInt
  refine go_istore (pc := 6) (Nat.le_of_ble_eq_true rfl) dX8_readBlock_6 (go_lv (lv2 := [(0, .ref 70), (1, .int a2), (2, .int a3), (3, .int a4), (4, .int v103)]) rfl ?_)
  have g106 : (0 : Int) ≤ (h91.2.1 70 4).toInt := (hv91.2.1 70 4).1
  have g107 : (h91.2.1 70 4).toInt ≤ 500 := (hv91.2.1 70 4).2
  have g108 : (-2147483648 : Int) ≤ (h91.2.1 70 5).toInt := (hv91.2.1 70 5).1
  have g109 : (h91.2.1 70 5).toInt ≤ 2147483647 := (hv91.2.1 70 5).2
  have g110 : (h91.2.1 70 4).toInt = u104.toInt := by rw [← (show u104 = h91.2.1 70 4 from u104w)] <;> exact (ti_rfl u104)
  have g111 : (h91.2.1 70 5).toInt = u105.toInt := by rw [← (show u105 = h91.2.1 70 5 from u105w)] <;> exact (ti_rfl u105)
  exact go_lv rfl ((key 3022) a3 a4 v103 _ h91 hv91 sq93 (by omega) (by omega) (by omega) (by omega) (by omega) (by omega) (by omega) (fun hg => (f99 (by omega) _)) (by omega) (by omega) (by omega) (by omega) oh91 ck91 kp91 (by omega) (by omega) (by omega) (by omega) (by omega))
set_option maxHeartbeats 4000000 in
set_option maxRecDepth 100000 in
theorem s_X8_readItem_b (l : Launch) (d : Nat) {t : Nat} (ihT : ∀ {P : PP} {h : HP} (_ : Iv P h) (a2 : Int32) (a2l : 0 ≤ a2.toInt) (a2u : a2.toInt ≤ 259) (a3 : Int32) (a3l : 0 ≤ a3.toInt) (a3u : a3.toInt ≤ 4) (a4 : Int32) (a4l : 0 ≤ a4.toInt) (a4u : a4.toInt ≤ 6) (hi : 130 * (h.2.1 70 6).toInt ≤ a2.toInt ∧ a2.toInt < 130 * (h.2.1 70 6).toInt + 130) (h0 : (h.2.1 70 5).toInt = 0) (hp : 6 * (V h.2.1 73 (h.2.1 70 6).toInt - V h.2.1 75 (h.2.1 70 6).toInt) ≤ (h.2.1 70 4).toInt + 5 * a4.toInt + 5 ∧ 2 * V h.2.1 74 (h.2.1 70 6).toInt ≤ (h.2.1 70 4).toInt + a4.toInt + 1) (ht : TR h.2.1 (h.2.1 70 6).toInt ∧ a2.toInt = 130 * (h.2.1 70 6).toInt + V h.2.1 73 (h.2.1 70 6).toInt - 1 ∧ 0 < V h.2.1 73 (h.2.1 70 6).toInt ∧ V h.2.1 80 a2.toInt = a4.toInt ∧ (V h.2.1 77 a2.toInt = 2 ∨ V h.2.1 77 a2.toInt = 3)) (hd : 7 ≤ a4.toInt + (t : Int)), Mt l yX8_readTest cX8_readTest 4 none (d + 4) [.ref 70, .int a2, .int a3, .int a4] h 0 0 (fun r h' => r = none ∧ (∃ Q : PP, Iv Q h' ∧ MW P Q) ∧ ((h'.2.1 70 5).toInt = 0 → (h.2.1 70 5).toInt = 0) ∧ ((h.2.1 70 4).toInt ≤ (h'.2.1 70 4).toInt) ∧ ((h'.2.1 70 5).toInt = 0 → 6 * (V h'.2.1 73 (h.2.1 70 6).toInt - V h'.2.1 75 (h.2.1 70 6).toInt) - (h'.2.1 70 4).toInt ≤ 6 * (V h.2.1 73 (h.2.1 70 6).toInt - V h.2.1 75 (h.2.1 70 6).toInt) - (h.2.1 70 4).toInt - 0 ∧ 2 * V h'.2.1 74 (h.2.1 70 6).toInt - (h'.2.1 70 4).toInt ≤ 2 * V h.2.1 74 (h.2.1 70 6).toInt - (h.2.1 70 4).toInt) ∧ ((h'.2.1 70 5).toInt = 0 → RT h.2.1 h'.2.1 (h.2.1 70 6).toInt a2.toInt a4.toInt) ∧ (KP h.2.1 h'.2.1) ∧ (OH h.2.1 h'.2.1 (h.2.1 70 6).toInt) ∧ (CKF h.2.1 → CKF h'.2.1))) (ihY : ∀ {P : PP} {h : HP} (_ : Iv P h) (a2 : Int32) (a2l : 0 ≤ a2.toInt) (a2u : a2.toInt ≤ 259) (a3 : Int32) (a3l : 0 ≤ a3.toInt) (a3u : a3.toInt ≤ 4) (a4 : Int32) (a4l : 0 ≤ a4.toInt) (a4u : a4.toInt ≤ 6) (hi : 130 * (h.2.1 70 6).toInt ≤ a2.toInt ∧ a2.toInt < 130 * (h.2.1 70 6).toInt + 130) (h0 : (h.2.1 70 5).toInt = 0) (hp : 6 * (V h.2.1 73 (h.2.1 70 6).toInt - V h.2.1 75 (h.2.1 70 6).toInt) ≤ (h.2.1 70 4).toInt + 5 * a4.toInt + 5 ∧ 2 * V h.2.1 74 (h.2.1 70 6).toInt ≤ (h.2.1 70 4).toInt + a4.toInt + 1) (ht : TR h.2.1 (h.2.1 70 6).toInt ∧ a2.toInt = 130 * (h.2.1 70 6).toInt + V h.2.1 73 (h.2.1 70 6).toInt - 1 ∧ 0 < V h.2.1 73 (h.2.1 70 6).toInt ∧ V h.2.1 80 a2.toInt = a4.toInt ∧ V h.2.1 77 a2.toInt = 6) (hd : 7 ≤ a4.toInt + (t : Int)), Mt l yX8_readTry cX8_readTry 4 none (d + 4) [.ref 70, .int a2, .int a3, .int a4] h 0 0 (fun r h' => r = none ∧ (∃ Q : PP, Iv Q h' ∧ MW P Q) ∧ ((h'.2.1 70 5).toInt = 0 → (h.2.1 70 5).toInt = 0) ∧ ((h.2.1 70 4).toInt ≤ (h'.2.1 70 4).toInt) ∧ ((h'.2.1 70 5).toInt = 0 → 6 * (V h'.2.1 73 (h.2.1 70 6).toInt - V h'.2.1 75 (h.2.1 70 6).toInt) - (h'.2.1 70 4).toInt ≤ 6 * (V h.2.1 73 (h.2.1 70 6).toInt - V h.2.1 75 (h.2.1 70 6).toInt) - (h.2.1 70 4).toInt - 5 ∧ 2 * V h'.2.1 74 (h.2.1 70 6).toInt - (h'.2.1 70 4).toInt ≤ 2 * V h.2.1 74 (h.2.1 70 6).toInt - (h.2.1 70 4).toInt) ∧ ((h'.2.1 70 5).toInt = 0 → RT h.2.1 h'.2.1 (h.2.1 70 6).toInt a2.toInt a4.toInt) ∧ (KP h.2.1 h'.2.1) ∧ (OH h.2.1 h'.2.1 (h.2.1 70 6).toInt) ∧ (CKF h.2.1 → CKF h'.2.1))) {P : PP} {h : HP} (hv : Iv P h) (a2 : Int32) (a2l : 0 ≤ a2.toInt) (a2u : a2.toInt ≤ 559) (a3 : Int32) (a3l : 0 ≤ a3.toInt) (a3u : a3.toInt ≤ 4) (a4 : Int32) (a4l : 0 ≤ a4.toInt) (a4u : a4.toInt ≤ 6) (h0 : (h.2.1 70 5).toInt = 0) (hp : 6 * (V h.2.1 73 (h.2.1 70 6).toInt - V h.2.1 75 (h.2.1 70 6).toInt) ≤ (h.2.1 70 4).toInt + 5 * a4.toInt ∧ 2 * V h.2.1 74 (h.2.1 70 6).toInt ≤ (h.2.1 70 4).toInt + a4.toInt + 1) (ht : TR h.2.1 (h.2.1 70 6).toInt ∧ BB h.2.1 (h.2.1 70 6).toInt a2.toInt ∧ OO h.2.1 (h.2.1 70 6).toInt (V h.2.1 92 a2.toInt) a4.toInt) (hd : 7 ≤ a4.toInt + (t : Int)) : Mt l yX8_readItem cX8_readItem 7 none (d + 5) [.ref 70, .int a2, .int a3, .int a4] h 0 0 (fun r h' => r = none ∧ (∃ Q : PP, Iv Q h' ∧ MW P Q) ∧ ((h'.2.1 70 5).toInt = 0 → (h.2.1 70 5).toInt = 0) ∧ ((h.2.1 70 4).toInt ≤ (h'.2.1 70 4).toInt) ∧ ((h'.2.1 70 5).toInt = 0 → (h.2.1 70 4).toInt + 1 ≤ (h'.2.1 70 4).toInt ∧ 6 * (V h'.2.1 73 (h.2.1 70 6).toInt - V h'.2.1 75 (h.2.1 70 6).toInt) - (h'.2.1 70 4).toInt ≤ 6 * (V h.2.1 73 (h.2.1 70 6).toInt - V h.2.1 75 (h.2.1 70 6).toInt) - (h.2.1 70 4).toInt ∧ 2 * V h'.2.1 74 (h.2.1 70 6).toInt - (h'.2.1 70 4).toInt ≤ 2 * V h.2.1 74 (h.2.1 70 6).toInt - (h.2.1 70 4).toInt) ∧ ((h'.2.1 70 5).toInt = 0 → RI h.2.1 h'.2.1 (h.2.1 70 6).toInt a2.toInt a4.toInt) ∧ (KP h.2.1 h'.2.1) ∧ (OH h.2.1 h'.2.1 (h.2.1 70 6).toInt) ∧ (CKF h.2.1 → CKF h'.2.1)) := by
  refine Mt_iv hv (by decide) (Nat.le_of_ble_eq_true rfl) ?_
  show Go l RX8 cX8_readItem 7 (g_rm (d + 5) 0 0) "readItem" none 117 0 0 (fun _ _ => True) (fun r h' => r = none ∧ (∃ Q : PP, Iv Q h' ∧ MW P Q) ∧ ((h'.2.1 70 5).toInt = 0 → (h.2.1 70 5).toInt = 0) ∧ ((h.2.1 70 4).toInt ≤ (h'.2.1 70 4).toInt) ∧ ((h'.2.1 70 5).toInt = 0 → (h.2.1 70 4).toInt + 1 ≤ (h'.2.1 70 4).toInt ∧ 6 * (V h'.2.1 73 (h.2.1 70 6).toInt - V h'.2.1 75 (h.2.1 70 6).toInt) - (h'.2.1 70 4).toInt ≤ 6 * (V h.2.1 73 (h.2.1 70 6).toInt - V h.2.1 75 (h.2.1 70 6).toInt) - (h.2.1 70 4).toInt ∧ 2 * V h'.2.1 74 (h.2.1 70 6).toInt - (h'.2.1 70 4).toInt ≤ 2 * V h.2.1 74 (h.2.1 70 6).toInt - (h.2.1 70 4).toInt) ∧ ((h'.2.1 70 5).toInt = 0 → RI h.2.1 h'.2.1 (h.2.1 70 6).toInt a2.toInt a4.toInt) ∧ (KP h.2.1 h'.2.1) ∧ (OH h.2.1 h'.2.1 (h.2.1 70 6).toInt) ∧ (CKF h.2.1 → CKF h'.2.1)) 0 0 [(0, .ref 70), (1, .int a2), (2, .int a3), (3, .int a4)] [] h
  obtain ⟨S, hS⟩ : ∃ S : Int, S = (h.2.1 70 6).toInt := ⟨_, rfl⟩
  have S0 : 0 ≤ S := by rw [hS]; exact (hv.2.1 70 6).1
  have S1 : S ≤ 1 := by rw [hS]; exact (hv.2.1 70 6).2
  have oh : OH h.2.1 h.2.1 S := OH.rfl _ _
  have ck : CKF h.2.1 → CKF h.2.1 := id
  have kp : KP h.2.1 h.2.1 := KP.rfl _
  rw [← hS] at hp
  rw [← hS] at ht
  have key : ∀ n : Nat, (∀ (l1 : Int32) (l2 : Int32) (l3 : Int32) (l4 : Int32) (l5 : Int32) (Qx : PP) (hx : HP), Iv Qx hx → MW P Qx → 0 ≤ l1.toInt → l1.toInt ≤ 559 → 0 ≤ l2.toInt → l2.toInt ≤ 4 → 0 ≤ l3.toInt → l3.toInt ≤ 6 → -1 ≤ l4.toInt → l4.toInt ≤ 9 → -1 ≤ l5.toInt → l5.toInt ≤ 6 → (VE h.2.1 hx.2.1) → (l1.toInt = a2.toInt) → (l2.toInt = a3.toInt) → (l3.toInt = a4.toInt) → ((h.2.1 70 4).toInt ≤ (hx.2.1 70 4).toInt) → ((hx.2.1 70 5).toInt = 0 → (hx.2.1 70 4).toInt ≤ 499 ∧ ((0 ≤ l4.toInt ∧ l5.toInt = 0) ∨ (l4.toInt = -1 ∧ 2 ≤ l5.toInt)) ∧ (l5.toInt = 6 ∨ V hx.2.1 75 S ≤ 39)) → OH h.2.1 hx.2.1 S → (CKF h.2.1 → CKF hx.2.1) → KP h.2.1 hx.2.1 → (0 : Int) ≤ (hx.2.1 70 4).toInt → (hx.2.1 70 4).toInt ≤ 500 → (-2147483648 : Int) ≤ (hx.2.1 70 5).toInt → (hx.2.1 70 5).toInt ≤ 2147483647 → (1 : Int) < n → Go l RX8 cX8_readItem 7 (g_rm (d + 5) 0 0) "readItem" none 117 0 0 (fun _ _ => True) (fun r h' => r = none ∧ (∃ Q : PP, Iv Q h' ∧ MW P Q) ∧ ((h'.2.1 70 5).toInt = 0 → (h.2.1 70 5).toInt = 0) ∧ ((h.2.1 70 4).toInt ≤ (h'.2.1 70 4).toInt) ∧ ((h'.2.1 70 5).toInt = 0 → (h.2.1 70 4).toInt + 1 ≤ (h'.2.1 70 4).toInt ∧ 6 * (V h'.2.1 73 (h.2.1 70 6).toInt - V h'.2.1 75 (h.2.1 70 6).toInt) - (h'.2.1 70 4).toInt ≤ 6 * (V h.2.1 73 (h.2.1 70 6).toInt - V h.2.1 75 (h.2.1 70 6).toInt) - (h.2.1 70 4).toInt ∧ 2 * V h'.2.1 74 (h.2.1 70 6).toInt - (h'.2.1 70 4).toInt ≤ 2 * V h.2.1 74 (h.2.1 70 6).toInt - (h.2.1 70 4).toInt) ∧ ((h'.2.1 70 5).toInt = 0 → RI h.2.1 h'.2.1 (h.2.1 70 6).toInt a2.toInt a4.toInt) ∧ (KP h.2.1 h'.2.1) ∧ (OH h.2.1 h'.2.1 (h.2.1 70 6).toInt) ∧ (CKF h.2.1 → CKF h'.2.1)) 0 70 [(0, .ref 70), (1, .int l1), (2, .int l2), (3, .int l3), (4, .int l4), (5, .int l5)] [] hx) := by
    intro n
    induction n with
    | zero => exact (by intros; omega)
    | succ n ih =>
      refine ?_
      ·
        intro l1 l2 l3 l4 l5 Qx hx hvx sqx l1l l1u l2l l2u l3l l3u l4l l4u l5l l5u x0 x1 x2 x3 x4 x5 ohx ckx kpx y0l y0u y1l y1u hm
        have xve := x0
        have n73_x : V hx.2.1 73 S = V h.2.1 73 S := x0.v (by omega) (by omega)
        have n74_x : V hx.2.1 74 S = V h.2.1 74 S := x0.v (by omega) (by omega)
        have n75_x : V hx.2.1 75 S = V h.2.1 75 S := x0.v (by omega) (by omega)
        refine go_aload_n (pc := 70) rfl dX8_readItem_70 ?_
        refine go_invV (pc := 71) (sl := 0) (s_X8_isGood l (d + 3) hvx ) mL_X8_172 iM_X8_isGood sM_X8_isGood (hvx.sh rfl) rfl rfl rfl (Nat.le_of_ble_eq_true rfl) (show d + 3 + 1 + 1 ≤ d + 5 by omega) (show 8 + (1 + 11) + 40 * (d + 3 + 1) ≤ 40 * (d + 5) by omega) (g_c0 hvx.ln) (Nat.le_of_ble_eq_true rfl) dX8_readItem_71 ?_
        intro r h1 hq _
        obtain ⟨v4, rfl, v4l, v4u, rfl, f2, f3⟩ := hq
        refine gf_if_ne (pc := 74) (tgt := 78) (ti_rfl v4) (by decide) dX8_readItem_74 (fun q5 => ?_) (fun q5 => ?_)
        ·
          have tp := ht.1.1
          have hbb : 280 * S ≤ a2.toInt ∧ a2.toInt < 280 * S + V h.2.1 74 S := ht.2.1
          have xx := x5 (by omega)
          refine go_sipush (pc := 78) (v := 130) (by decide) dX8_readItem_78 ?_
          refine go_aload_n (pc := 81) rfl dX8_readItem_81 ?_
          refine gi_get (pc := 82) (lo := 0) (hi := 1) hvx fL_X8_187 rfl (Nat.le_of_ble_eq_true rfl) rfl rfl dX8_readItem_82 (fun v6 v6l v6u v6w => ?_)
          have v6S : v6.toInt = S := by rw [v6w]; exact (congrArg Int32.toInt ohx.side).trans hS.symm
          refine gf_imul (pc := 85) (ti_c (v := 130) (a := 130) (by decide)) (ti_rfl v6) (by omega) (by omega) dX8_readItem_85 (fun v7 e8 => ?_)
          refine go_aload_n (pc := 86) rfl dX8_readItem_86 ?_
          refine gi_getF (pc := 87) (q := 73) hvx fL_X8_16 rfl (Nat.le_of_ble_eq_true rfl) rfl (hvx.rf (by decide)) dX8_readItem_87 ?_
          refine go_aload_n (pc := 90) rfl dX8_readItem_90 ?_
          refine gi_get (pc := 91) (lo := 0) (hi := 1) hvx fL_X8_187 rfl (Nat.le_of_ble_eq_true rfl) rfl rfl dX8_readItem_91 (fun v9 v9l v9u v9w => ?_)
          have v9r : v6 = hx.2.1 70 6 := v6w
          have v9q : TI v9 v6.toInt := by rw [v9w.trans v9r.symm]; exact (ti_rfl v6)
          refine gi_iald (pc := 94) (lo := 0) (hi := 130) (len := 2) hvx v9q rfl (by omega) (by omega) (fun _ => rfl) dX8_readItem_94 (fun v10 v10l v10u v10w => ?_)
          have v10V : v10.toInt = V hx.2.1 73 S := by rw [v10w, v6S]; rfl
          refine gf_iadd (pc := 95) e8 (ti_rfl v10) (by omega) (by omega) dX8_readItem_95 (fun v11 e12 => ?_)
          refine go_istore (pc := 96) (Nat.le_of_ble_eq_true rfl) dX8_readItem_96 (go_lv (lv2 := [(0, .ref 70), (1, .int l1), (2, .int l2), (3, .int l3), (4, .int l4), (5, .int l5), (6, .int v11)]) rfl ?_)
          refine go_aload_n (pc := 98) rfl dX8_readItem_98 ?_
          refine gi_getF (pc := 99) (q := 73) hvx fL_X8_16 rfl (Nat.le_of_ble_eq_true rfl) rfl (hvx.rf (by decide)) dX8_readItem_99 ?_
          refine go_aload_n (pc := 102) rfl dX8_readItem_102 ?_
          refine gi_get (pc := 103) (lo := 0) (hi := 1) hvx fL_X8_187 rfl (Nat.le_of_ble_eq_true rfl) rfl rfl dX8_readItem_103 (fun v13 v13l v13u v13w => ?_)
          have v13r : v6 = hx.2.1 70 6 := v6w
          have v13q : TI v13 v6.toInt := by rw [v13w.trans v13r.symm]; exact (ti_rfl v6)
          refine go_dup2 (pc := 106) rfl rfl dX8_readItem_106 ?_
          refine gi_iald (pc := 107) (lo := 0) (hi := 130) (len := 2) hvx v13q rfl (by omega) (by omega) (fun _ => rfl) dX8_readItem_107 (fun v14 v14l v14u v14w => ?_)
          have v14V : v14.toInt = V hx.2.1 73 S := by rw [v14w, v6S]; rfl
          refine go_iconst (pc := 108) (v := 1) (by decide) dX8_readItem_108 ?_
          refine gf_iadd (pc := 109) (ti_rfl v14) (ti_c (v := 1) (a := 1) (by decide)) (by omega) (by omega) dX8_readItem_109 (fun v15 e16 => ?_)
          refine gi_fst (pc := 110) (lo := 0) (hi := 130) (len := 2) hvx v13q e16 rfl (by omega) (by omega) (fun _ => rfl) (by omega) (by omega) (by omega) dX8_readItem_110 (fun h17 hv17 hv17e => ?_)
          refine go_aload_n (pc := 111) rfl dX8_readItem_111 ?_
          refine gi_getF (pc := 112) (q := 77) hv17 fL_X8_29 rfl (Nat.le_of_ble_eq_true rfl) rfl (hv17.rf (by decide)) dX8_readItem_112 ?_
          refine go_iload (pc := 115) rfl dX8_readItem_115 ?_
          refine go_iload (pc := 117) rfl dX8_readItem_117 ?_
          refine gi_fst (pc := 119) (lo := 0) (hi := 6) (len := 260) hv17 e12 (ti_rfl l5) rfl (by omega) (by omega) (fun _ => rfl) (by omega) (by omega) (by omega) dX8_readItem_119 (fun h18 hv18 hv18e => ?_)
          refine go_aload_n (pc := 120) rfl dX8_readItem_120 ?_
          refine gi_getF (pc := 121) (q := 78) hv18 fL_X8_32 rfl (Nat.le_of_ble_eq_true rfl) rfl (hv18.rf (by decide)) dX8_readItem_121 ?_
          refine go_iload (pc := 124) rfl dX8_readItem_124 ?_
          refine go_iconst (pc := 126) (v := (-1)) (by decide) dX8_readItem_126 ?_
          refine gi_fst (pc := 127) (lo := -1) (hi := 39) (len := 260) hv18 e12 (ti_c (v := (-1)) (a := (-1)) (by decide)) rfl (by omega) (by omega) (fun _ => rfl) (by omega) (by omega) (by omega) dX8_readItem_127 (fun h19 hv19 hv19e => ?_)
          refine go_aload_n (pc := 128) rfl dX8_readItem_128 ?_
          refine gi_getF (pc := 129) (q := 79) hv19 fL_X8_35 rfl (Nat.le_of_ble_eq_true rfl) rfl (hv19.rf (by decide)) dX8_readItem_129 ?_
          refine go_iload (pc := 132) rfl dX8_readItem_132 ?_
          refine go_iload_n (pc := 134) rfl dX8_readItem_134 ?_
          refine gi_fst (pc := 135) (lo := 0) (hi := 4) (len := 260) hv19 e12 (ti_rfl l2) rfl (by omega) (by omega) (fun _ => rfl) (by omega) (by omega) (by omega) dX8_readItem_135 (fun h20 hv20 hv20e => ?_)
          refine go_aload_n (pc := 136) rfl dX8_readItem_136 ?_
          refine gi_getF (pc := 137) (q := 80) hv20 fL_X8_38 rfl (Nat.le_of_ble_eq_true rfl) rfl (hv20.rf (by decide)) dX8_readItem_137 ?_
          refine go_iload (pc := 140) rfl dX8_readItem_140 ?_
          refine go_iload_n (pc := 142) rfl dX8_readItem_142 ?_
          refine gi_fst (pc := 143) (lo := 0) (hi := 6) (len := 260) hv20 e12 (ti_rfl l3) rfl (by omega) (by omega) (fun _ => rfl) (by omega) (by omega) (by omega) dX8_readItem_143 (fun h21 hv21 hv21e => ?_)
          refine go_aload_n (pc := 144) rfl dX8_readItem_144 ?_
          refine gi_getF (pc := 145) (q := 81) hv21 fL_X8_41 rfl (Nat.le_of_ble_eq_true rfl) rfl (hv21.rf (by decide)) dX8_readItem_145 ?_
          refine go_iload (pc := 148) rfl dX8_readItem_148 ?_
          refine go_aload_n (pc := 150) rfl dX8_readItem_150 ?_
          refine gi_get (pc := 151) (lo := 0) (hi := 500) hv21 fL_X8_163 rfl (Nat.le_of_ble_eq_true rfl) rfl rfl dX8_readItem_151 (fun v22 v22l v22u v22w => ?_)
          have g23 : (h21.2.1 70 4).toInt = v22.toInt := by rw [v22w]
          refine gi_fst (pc := 154) (lo := -2147483648) (hi := 2147483647) (len := 260) hv21 e12 (ti_rfl v22) rfl (by omega) (by omega) (fun _ => rfl) (ti_ge (ti_rfl v22)) (ti_le2 (ti_rfl v22)) (by omega) dX8_readItem_154 (fun h24 hv24 hv24e => ?_)
          refine go_aload_n (pc := 155) rfl dX8_readItem_155 ?_
          refine gi_getF (pc := 156) (q := 82) hv24 fL_X8_44 rfl (Nat.le_of_ble_eq_true rfl) rfl (hv24.rf (by decide)) dX8_readItem_156 ?_
          refine go_iload (pc := 159) rfl dX8_readItem_159 ?_
          refine go_iload (pc := 161) rfl dX8_readItem_161 ?_
          refine gi_fst (pc := 163) (lo := -1) (hi := 9) (len := 260) hv24 e12 (ti_rfl l4) rfl (by omega) (by omega) (fun _ => rfl) (by omega) (by omega) (by omega) dX8_readItem_163 (fun h25 hv25 hv25e => ?_)
          refine go_aload_n (pc := 164) rfl dX8_readItem_164 ?_
          refine gi_getF (pc := 165) (q := 83) hv25 fL_X8_47 rfl (Nat.le_of_ble_eq_true rfl) rfl (hv25.rf (by decide)) dX8_readItem_165 ?_
          refine go_iload (pc := 168) rfl dX8_readItem_168 ?_
          refine go_iconst (pc := 170) (v := 0) (by decide) dX8_readItem_170 ?_
          refine gi_fst (pc := 171) (lo := -2147483648) (hi := 2147483647) (len := 260) hv25 e12 (ti_c (v := 0) (a := 0) (by decide)) rfl (by omega) (by omega) (fun _ => rfl) (ti_ge (ti_c (v := 0) (a := 0) (by decide))) (ti_le2 (ti_c (v := 0) (a := 0) (by decide))) (by omega) dX8_readItem_171 (fun h26 hv26 hv26e => ?_)
          refine go_aload_n (pc := 172) rfl dX8_readItem_172 ?_
          refine gi_getF (pc := 173) (q := 84) hv26 fL_X8_50 rfl (Nat.le_of_ble_eq_true rfl) rfl (hv26.rf (by decide)) dX8_readItem_173 ?_
          refine go_iload (pc := 176) rfl dX8_readItem_176 ?_
          refine go_bipush (pc := 178) (v := (-2)) (by decide) dX8_readItem_178 ?_
          refine gi_fst (pc := 180) (lo := -2) (hi := 4) (len := 260) hv26 e12 (ti_c (v := (-2)) (a := (-2)) (by decide)) rfl (by omega) (by omega) (fun _ => rfl) (by omega) (by omega) (by omega) dX8_readItem_180 (fun h27 hv27 hv27e => ?_)
          refine go_aload_n (pc := 181) rfl dX8_readItem_181 ?_
          refine gi_getF (pc := 182) (q := 85) hv27 fL_X8_53 rfl (Nat.le_of_ble_eq_true rfl) rfl (hv27.rf (by decide)) dX8_readItem_182 ?_
          refine go_iload (pc := 185) rfl dX8_readItem_185 ?_
          refine go_iconst (pc := 187) (v := (-1)) (by decide) dX8_readItem_187 ?_
          refine gi_fst (pc := 188) (lo := -1) (hi := 559) (len := 260) hv27 e12 (ti_c (v := (-1)) (a := (-1)) (by decide)) rfl (by omega) (by omega) (fun _ => rfl) (by omega) (by omega) (by omega) dX8_readItem_188 (fun h28 hv28 hv28e => ?_)
          refine go_aload_n (pc := 189) rfl dX8_readItem_189 ?_
          refine gi_getF (pc := 190) (q := 86) hv28 fL_X8_56 rfl (Nat.le_of_ble_eq_true rfl) rfl (hv28.rf (by decide)) dX8_readItem_190 ?_
          refine go_iload (pc := 193) rfl dX8_readItem_193 ?_
          refine go_iconst (pc := 195) (v := (-1)) (by decide) dX8_readItem_195 ?_
          refine gi_fst (pc := 196) (lo := -1) (hi := 559) (len := 260) hv28 e12 (ti_c (v := (-1)) (a := (-1)) (by decide)) rfl (by omega) (by omega) (fun _ => rfl) (by omega) (by omega) (by omega) dX8_readItem_196 (fun h29 hv29 hv29e => ?_)
          refine go_aload_n (pc := 197) rfl dX8_readItem_197 ?_
          refine gi_getF (pc := 198) (q := 87) hv29 fL_X8_59 rfl (Nat.le_of_ble_eq_true rfl) rfl (hv29.rf (by decide)) dX8_readItem_198 ?_
          refine go_iload (pc := 201) rfl dX8_readItem_201 ?_
          refine go_iconst (pc := 203) (v := (-1)) (by decide) dX8_readItem_203 ?_
          refine gi_fst (pc := 204) (lo := -1) (hi := 259) (len := 260) hv29 e12 (ti_c (v := (-1)) (a := (-1)) (by decide)) rfl (by omega) (by omega) (fun _ => rfl) (by omega) (by omega) (by omega) dX8_readItem_204 (fun h30 hv30 hv30e => ?_)
          refine go_aload_n (pc := 205) rfl dX8_readItem_205 ?_
          refine gi_getF (pc := 206) (q := 88) hv30 fL_X8_62 rfl (Nat.le_of_ble_eq_true rfl) rfl (hv30.rf (by decide)) dX8_readItem_206 ?_
          refine go_iload (pc := 209) rfl dX8_readItem_209 ?_
          refine go_iload_n (pc := 211) rfl dX8_readItem_211 ?_
          refine gi_fst (pc := 212) (lo := 0) (hi := 559) (len := 260) hv30 e12 (ti_rfl l1) rfl (by omega) (by omega) (fun _ => rfl) (by omega) (by omega) (by omega) dX8_readItem_212 (fun h31 hv31 hv31e => ?_)
          refine go_aload_n (pc := 213) rfl dX8_readItem_213 ?_
          refine gi_getF (pc := 214) (q := 89) hv31 fL_X8_65 rfl (Nat.le_of_ble_eq_true rfl) rfl (hv31.rf (by decide)) dX8_readItem_214 ?_
          refine go_iconst (pc := 217) (v := 2) (by decide) dX8_readItem_217 ?_
          refine go_iload (pc := 218) rfl dX8_readItem_218 ?_
          refine gf_imul (pc := 220) (ti_c (v := 2) (a := 2) (by decide)) e12 (by omega) (by omega) dX8_readItem_220 (fun v32 e33 => ?_)
          refine go_iconst (pc := 221) (v := 0) (by decide) dX8_readItem_221 ?_
          refine gi_fst (pc := 222) (lo := 0) (hi := 9999) (len := 520) hv31 e33 (ti_c (v := 0) (a := 0) (by decide)) rfl (by omega) (by omega) (fun _ => rfl) (by omega) (by omega) (by omega) dX8_readItem_222 (fun h34 hv34 hv34e => ?_)
          refine go_aload_n (pc := 223) rfl dX8_readItem_223 ?_
          refine gi_getF (pc := 224) (q := 89) hv34 fL_X8_65 rfl (Nat.le_of_ble_eq_true rfl) rfl (hv34.rf (by decide)) dX8_readItem_224 ?_
          refine go_iconst (pc := 227) (v := 2) (by decide) dX8_readItem_227 ?_
          refine go_iload (pc := 228) rfl dX8_readItem_228 ?_
          refine gf_imul (pc := 230) (ti_c (v := 2) (a := 2) (by decide)) e12 (by omega) (by omega) dX8_readItem_230 (fun v35 e36 => ?_)
          refine go_iconst (pc := 231) (v := 1) (by decide) dX8_readItem_231 ?_
          refine gf_iadd (pc := 232) e36 (ti_c (v := 1) (a := 1) (by decide)) (by omega) (by omega) dX8_readItem_232 (fun v37 e38 => ?_)
          refine go_iconst (pc := 233) (v := 0) (by decide) dX8_readItem_233 ?_
          refine gi_fst (pc := 234) (lo := 0) (hi := 9999) (len := 520) hv34 e38 (ti_c (v := 0) (a := 0) (by decide)) rfl (by omega) (by omega) (fun _ => rfl) (by omega) (by omega) (by omega) dX8_readItem_234 (fun h39 hv39 hv39e => ?_)
          refine go_iload (pc := 235) rfl dX8_readItem_235 ?_
          refine go_bipush (pc := 237) (v := 6) (by decide) dX8_readItem_237 ?_
          have E39 : h39.2.1 = (w1 (w1 (w1 (w1 (w1 (w1 (w1 (w1 (w1 (w1 (w1 (w1 (w1 (w1 (w1 hx.2.1 73 S (v15 : Int32)) 77 (((130 * S) + v10.toInt)) (l5 : Int32)) 78 (((130 * S) + v10.toInt)) ((-1) : Int32)) 79 (((130 * S) + v10.toInt)) (l2 : Int32)) 80 (((130 * S) + v10.toInt)) (l3 : Int32)) 81 (((130 * S) + v10.toInt)) (v22 : Int32)) 82 (((130 * S) + v10.toInt)) (l4 : Int32)) 83 (((130 * S) + v10.toInt)) (0 : Int32)) 84 (((130 * S) + v10.toInt)) ((-2) : Int32)) 85 (((130 * S) + v10.toInt)) ((-1) : Int32)) 86 (((130 * S) + v10.toInt)) ((-1) : Int32)) 87 (((130 * S) + v10.toInt)) ((-1) : Int32)) 88 (((130 * S) + v10.toInt)) (l1 : Int32)) 89 ((2 * ((130 * S) + v10.toInt))) (0 : Int32)) 89 (((2 * ((130 * S) + v10.toInt)) + 1)) (0 : Int32)) := by
            rw [hv39e, hv34e, hv31e, hv30e, hv29e, hv28e, hv27e, hv26e, hv25e, hv24e, hv21e, hv20e, hv19e, hv18e, hv17e]
            rw [v6S]
            rfl
          have oh39 : OH h.2.1 h39.2.1 S := by rw [E39]; exact (((((((((((((((ohx.trans (OH.w 1 rfl (by omega) (by omega) (by omega) (by omega))).trans (OH.w 130 rfl (by omega) (by omega) (by omega) (by omega))).trans (OH.w 130 rfl (by omega) (by omega) (by omega) (by omega))).trans (OH.w 130 rfl (by omega) (by omega) (by omega) (by omega))).trans (OH.w 130 rfl (by omega) (by omega) (by omega) (by omega))).trans (OH.w 130 rfl (by omega) (by omega) (by omega) (by omega))).trans (OH.w 130 rfl (by omega) (by omega) (by omega) (by omega))).trans (OH.w 130 rfl (by omega) (by omega) (by omega) (by omega))).trans (OH.w 130 rfl (by omega) (by omega) (by omega) (by omega))).trans (OH.w 130 rfl (by omega) (by omega) (by omega) (by omega))).trans (OH.w 130 rfl (by omega) (by omega) (by omega) (by omega))).trans (OH.w 130 rfl (by omega) (by omega) (by omega) (by omega))).trans (OH.w 130 rfl (by omega) (by omega) (by omega) (by omega))).trans (OH.w 260 rfl (by omega) (by omega) (by omega) (by omega))).trans (OH.w 260 rfl (by omega) (by omega) (by omega) (by omega)))
          have kp39 : KP h.2.1 h39.2.1 := by rw [E39]; exact (((((((((((((((kpx.trans (KP.w (by omega))).trans (KP.w (by omega))).trans (KP.w (by omega))).trans (KP.w (by omega))).trans (KP.w (by omega))).trans (KP.w (by omega))).trans (KP.w (by omega))).trans (KP.w (by omega))).trans (KP.w (by omega))).trans (KP.w (by omega))).trans (KP.w (by omega))).trans (KP.w (by omega))).trans (KP.w (by omega))).trans (KP.w (by omega))).trans (KP.w (by omega)))
          have n73_39 : V h39.2.1 73 S = (v14.toInt + 1) := by rw [E39, V_ne (by omega), V_ne (by omega), V_ne (by omega), V_ne (by omega), V_ne (by omega), V_ne (by omega), V_ne (by omega), V_ne (by omega), V_ne (by omega), V_ne (by omega), V_ne (by omega), V_ne (by omega), V_ne (by omega), V_ne (by omega), V_eq]; exact e16
          have n74_39 : V h39.2.1 74 S = V hx.2.1 74 S := by rw [E39, V_ne (by omega), V_ne (by omega), V_ne (by omega), V_ne (by omega), V_ne (by omega), V_ne (by omega), V_ne (by omega), V_ne (by omega), V_ne (by omega), V_ne (by omega), V_ne (by omega), V_ne (by omega), V_ne (by omega), V_ne (by omega), V_ne (by omega)]
          have n75_39 : V h39.2.1 75 S = V hx.2.1 75 S := by rw [E39, V_ne (by omega), V_ne (by omega), V_ne (by omega), V_ne (by omega), V_ne (by omega), V_ne (by omega), V_ne (by omega), V_ne (by omega), V_ne (by omega), V_ne (by omega), V_ne (by omega), V_ne (by omega), V_ne (by omega), V_ne (by omega), V_ne (by omega)]
          have ck39 : CKF h.2.1 → CKF h39.2.1 := fun z => by rw [E39]; exact (CKF.w (by omega) (CKF.w (by omega) (CKF.w (by omega) (CKF.w (by omega) (CKF.w (by omega) (CKF.w (by omega) (CKF.w84 (Or.inr (by rw [V_ne (by omega), V_ne (by omega), V_ne (by omega), V_ne (by omega), V_ne (by omega), V_ne (by omega), V_eq, show (l5 : Int32).toInt = l5.toInt from (ti_rfl l5)]; omega)) (CKF.w (by omega) (CKF.w (by omega) (CKF.w (by omega) (CKF.w (by omega) (CKF.w (by omega) (CKF.w (by omega) (CKF.w77 (by rw [show (l5 : Int32).toInt = l5.toInt from (ti_rfl l5)]; omega) (CKF.w (by omega) (ckx z))))))))))))))))
          refine gf_icmp_eq (pc := 239) (tgt := 295) (ti_rfl l5) (ti_c (v := 6) (a := 6) (by decide)) (by decide) dX8_readItem_239 (fun q40 => ?_) (fun q40 => ?_)
          ·
            refine go_aload_n (pc := 295) rfl dX8_readItem_295 ?_
            refine gi_getF (pc := 296) (q := 90) hv39 fL_X8_68 rfl (Nat.le_of_ble_eq_true rfl) rfl (hv39.rf (by decide)) dX8_readItem_296 ?_
            refine go_iload_n (pc := 299) rfl dX8_readItem_299 ?_
            refine gi_iald (pc := 300) (lo := -1) (hi := 259) (len := 560) hv39 (ti_rfl l1) rfl (by omega) (by omega) (fun _ => rfl) dX8_readItem_300 (fun v41 v41l v41u v41w => ?_)
            have v41V : v41.toInt = V h39.2.1 90 l1.toInt := by rw [v41w]; rfl
            have f90 : V h39.2.1 90 l1.toInt = V hx.2.1 90 l1.toInt := by rw [E39, V_ne (by omega), V_ne (by omega), V_ne (by omega), V_ne (by omega), V_ne (by omega), V_ne (by omega), V_ne (by omega), V_ne (by omega), V_ne (by omega), V_ne (by omega), V_ne (by omega), V_ne (by omega), V_ne (by omega), V_ne (by omega), V_ne (by omega)]
            have f91 : V h39.2.1 91 l1.toInt = V hx.2.1 91 l1.toInt := by rw [E39, V_ne (by omega), V_ne (by omega), V_ne (by omega), V_ne (by omega), V_ne (by omega), V_ne (by omega), V_ne (by omega), V_ne (by omega), V_ne (by omega), V_ne (by omega), V_ne (by omega), V_ne (by omega), V_ne (by omega), V_ne (by omega), V_ne (by omega)]
            have g90 : V hx.2.1 90 l1.toInt = V h.2.1 90 a2.toInt := by rw [x1]; exact xve.v (by omega) (by omega)
            have g91 : V hx.2.1 91 l1.toInt = V h.2.1 91 a2.toInt := by rw [x1]; exact xve.v (by omega) (by omega)
            refine go_iconst (pc := 301) (v := (-1)) (by decide) dX8_readItem_301 ?_
            refine gf_icmp_ne (pc := 302) (tgt := 316) (ti_rfl v41) (ti_c (v := (-1)) (a := (-1)) (by decide)) (by decide) dX8_readItem_302 (fun q42 => ?_) (fun q42 => ?_)
            ·
              have t5 := ht.1.2.2.2.2.2.1 a2.toInt ht.2.1
              rcases t5.2.1 with z | ⟨⟨z1, z2⟩, z3⟩
              · exact absurd z (t5.2.2.2 (by omega))
              refine go_aload_n (pc := 316) rfl dX8_readItem_316 ?_
              refine gi_getF (pc := 317) (q := 87) hv39 fL_X8_59 rfl (Nat.le_of_ble_eq_true rfl) rfl (hv39.rf (by decide)) dX8_readItem_317 ?_
              refine go_aload_n (pc := 320) rfl dX8_readItem_320 ?_
              refine gi_getF (pc := 321) (q := 91) hv39 fL_X8_71 rfl (Nat.le_of_ble_eq_true rfl) rfl (hv39.rf (by decide)) dX8_readItem_321 ?_
              refine go_iload_n (pc := 324) rfl dX8_readItem_324 ?_
              refine gi_iald (pc := 325) (lo := -1) (hi := 259) (len := 560) hv39 (ti_rfl l1) rfl (by omega) (by omega) (fun _ => rfl) dX8_readItem_325 (fun v43 v43l v43u v43w => ?_)
              have v43V : v43.toInt = V h39.2.1 91 l1.toInt := by rw [v43w]; rfl
              refine go_iload (pc := 326) rfl dX8_readItem_326 ?_
              refine gi_fst (pc := 328) (lo := -1) (hi := 259) (len := 260) hv39 (ti_rfl v43) e12 rfl (by omega) (by omega) (fun _ => rfl) (by omega) (by omega) (by omega) dX8_readItem_328 (fun h44 hv44 hv44e => ?_)
              refine go_aload_n (pc := 329) rfl dX8_readItem_329 ?_
              refine gi_getF (pc := 330) (q := 91) hv44 fL_X8_71 rfl (Nat.le_of_ble_eq_true rfl) rfl (hv44.rf (by decide)) dX8_readItem_330 ?_
              refine go_iload_n (pc := 333) rfl dX8_readItem_333 ?_
              refine go_iload (pc := 334) rfl dX8_readItem_334 ?_
              refine gi_fst (pc := 336) (lo := -1) (hi := 259) (len := 560) hv44 (ti_rfl l1) e12 rfl (by omega) (by omega) (fun _ => rfl) (by omega) (by omega) (by omega) dX8_readItem_336 (fun h45 hv45 hv45e => ?_)
              refine go_aload_n (pc := 337) rfl dX8_readItem_337 ?_
              refine go_dup (pc := 338) rfl dX8_readItem_338 ?_
              refine gi_get (pc := 339) (lo := 0) (hi := 500) hv45 fL_X8_163 rfl (Nat.le_of_ble_eq_true rfl) rfl rfl dX8_readItem_339 (fun v46 v46l v46u v46w => ?_)
              have v46r : v22 = h45.2.1 70 4 := (show v22 = h45.2.1 70 4 from by rw [hv45e]; exact (g_iI rfl (show v22 = h44.2.1 70 4 from by rw [hv44e]; exact (g_iI rfl (show v22 = h39.2.1 70 4 from by rw [hv39e]; exact (g_iI rfl (show v22 = h34.2.1 70 4 from by rw [hv34e]; exact (g_iI rfl (show v22 = h31.2.1 70 4 from by rw [hv31e]; exact (g_iI rfl (show v22 = h30.2.1 70 4 from by rw [hv30e]; exact (g_iI rfl (show v22 = h29.2.1 70 4 from by rw [hv29e]; exact (g_iI rfl (show v22 = h28.2.1 70 4 from by rw [hv28e]; exact (g_iI rfl (show v22 = h27.2.1 70 4 from by rw [hv27e]; exact (g_iI rfl (show v22 = h26.2.1 70 4 from by rw [hv26e]; exact (g_iI rfl (show v22 = h25.2.1 70 4 from by rw [hv25e]; exact (g_iI rfl (show v22 = h24.2.1 70 4 from by rw [hv24e]; exact (g_iI rfl v22w.symm).symm).symm).symm).symm).symm).symm).symm).symm).symm).symm).symm).symm).symm).symm).symm).symm).symm).symm).symm).symm).symm).symm).symm)
              have v46q : TI v46 v22.toInt := by rw [v46w.trans v46r.symm]; exact (ti_rfl v22)
              refine go_iconst (pc := 342) (v := 1) (by decide) dX8_readItem_342 ?_
              refine gf_iadd (pc := 343) v46q (ti_c (v := 1) (a := 1) (by decide)) (by omega) (by omega) dX8_readItem_343 (fun v47 e48 => ?_)
              have E45 : h45.2.1 = (w1 (w1 h39.2.1 87 v43.toInt (v11 : Int32)) 91 l1.toInt (v11 : Int32)) := by
                rw [hv45e, hv44e]
                rfl
              have oh45 : OH h.2.1 h45.2.1 S := by rw [E45]; exact ((oh39.trans (OH.w 130 rfl (by omega) (by omega) (by omega) (by omega))).trans (OH.w 280 rfl (by omega) (by omega) (by omega) (by omega)))
              have kp45 : KP h.2.1 h45.2.1 := by rw [E45]; exact ((kp39.trans (KP.w (by omega))).trans (KP.w (by omega)))
              have n73_45 : V h45.2.1 73 S = V h39.2.1 73 S := by rw [E45, V_ne (by omega), V_ne (by omega)]
              have n74_45 : V h45.2.1 74 S = V h39.2.1 74 S := by rw [E45, V_ne (by omega), V_ne (by omega)]
              have n75_45 : V h45.2.1 75 S = V h39.2.1 75 S := by rw [E45, V_ne (by omega), V_ne (by omega)]
              have ck45 : CKF h.2.1 → CKF h45.2.1 := fun z => by rw [E45]; exact (CKF.w (by omega) (CKF.w (by omega) (ck39 z)))
              refine gi_put (pc := 344) (lo := 0) (hi := 500) hv45 e48 (fP_X8_163 _) rfl (Nat.le_of_ble_eq_true rfl) rfl rfl (by omega) (by omega) rfl rfl (by decide) (by decide) (by decide) (by decide) dX8_readItem_344 (fun h49 hv49 hv49e => ?_)
              have ve49 : VE h45.2.1 h49.2.1 := VE.of hv45 hv49
              have oh49 : OH h.2.1 h49.2.1 S := oh45.trans (OH.of hv45 hv49 S)
              have kp49 : KP h.2.1 h49.2.1 := kp45.trans (KP.ve ve49)
              have ck49 : CKF h.2.1 → CKF h49.2.1 := fun z => CKF.ve ve49 (ck45 z)
              have n73_49 : V h49.2.1 73 S = V h45.2.1 73 S := ve49.v (by omega) (by omega)
              have n74_49 : V h49.2.1 74 S = V h45.2.1 74 S := ve49.v (by omega) (by omega)
              have n75_49 : V h49.2.1 75 S = V h45.2.1 75 S := ve49.v (by omega) (by omega)
              refine go_iload (pc := 347) rfl dX8_readItem_347 ?_
              refine gf_if_ne (pc := 349) (tgt := 363) (ti_rfl l5) (by decide) dX8_readItem_349 (fun q50 => ?_) (fun q50 => False.elim (by omega))
              refine go_iload (pc := 363) rfl dX8_readItem_363 ?_
              refine go_iconst (pc := 365) (v := 2) (by decide) dX8_readItem_365 ?_
              refine gf_icmp_eq (pc := 366) (tgt := 375) (ti_rfl l5) (ti_c (v := 2) (a := 2) (by decide)) (by decide) dX8_readItem_366 (fun q51 => False.elim (by omega)) (fun q51 => ?_)
              refine go_iload (pc := 369) rfl dX8_readItem_369 ?_
              refine go_iconst (pc := 371) (v := 3) (by decide) dX8_readItem_371 ?_
              refine gf_icmp_ne (pc := 372) (tgt := 386) (ti_rfl l5) (ti_c (v := 3) (a := 3) (by decide)) (by decide) dX8_readItem_372 (fun q52 => ?_) (fun q52 => False.elim (by omega))
              refine go_iload (pc := 386) rfl dX8_readItem_386 ?_
              refine go_bipush (pc := 388) (v := 6) (by decide) dX8_readItem_388 ?_
              refine gf_icmp_ne (pc := 390) (tgt := 404) (ti_rfl l5) (ti_c (v := 6) (a := 6) (by decide)) (by decide) dX8_readItem_390 (fun q53 => False.elim (by omega)) (fun q53 => ?_)
              refine go_aload_n (pc := 393) rfl dX8_readItem_393 ?_
              refine go_iload (pc := 394) rfl dX8_readItem_394 ?_
              refine go_iload_n (pc := 396) rfl dX8_readItem_396 ?_
              refine go_iload_n (pc := 397) rfl dX8_readItem_397 ?_
              have EG : h45.2.1 = (w1 (w1 (w1 (w1 (w1 (w1 (w1 (w1 (w1 (w1 (w1 (w1 (w1 (w1 (w1 (w1 (w1 hx.2.1 73 S (v15 : Int32)) 77 (((130 * S) + v10.toInt)) (l5 : Int32)) 78 (((130 * S) + v10.toInt)) ((-1) : Int32)) 79 (((130 * S) + v10.toInt)) (l2 : Int32)) 80 (((130 * S) + v10.toInt)) (l3 : Int32)) 81 (((130 * S) + v10.toInt)) (v22 : Int32)) 82 (((130 * S) + v10.toInt)) (l4 : Int32)) 83 (((130 * S) + v10.toInt)) (0 : Int32)) 84 (((130 * S) + v10.toInt)) ((-2) : Int32)) 85 (((130 * S) + v10.toInt)) ((-1) : Int32)) 86 (((130 * S) + v10.toInt)) ((-1) : Int32)) 87 (((130 * S) + v10.toInt)) ((-1) : Int32)) 88 (((130 * S) + v10.toInt)) (l1 : Int32)) 89 ((2 * ((130 * S) + v10.toInt))) (0 : Int32)) 89 (((2 * ((130 * S) + v10.toInt)) + 1)) (0 : Int32)) 87 v43.toInt (v11 : Int32)) 91 l1.toInt (v11 : Int32)) := by rw [E45, E39]
              have z54 : (v15 : Int32).toInt = (v14.toInt + 1) := e16
              have z55 : ((-1) : Int32).toInt = (-1) := (ti_c (v := (-1)) (a := (-1)) (by decide))
              have z56 : (0 : Int32).toInt = 0 := (ti_c (v := 0) (a := 0) (by decide))
              have z57 : ((-2) : Int32).toInt = (-2) := (ti_c (v := (-2)) (a := (-2)) (by decide))
              have z58 : (v11 : Int32).toInt = ((130 * v6.toInt) + v10.toInt) := e12
              have y73 : V hx.2.1 73 S = V h.2.1 73 S := xve.v (by omega) (by omega)
              have y75 : V hx.2.1 75 S = V h.2.1 75 S := xve.v (by omega) (by omega)
              have ni : NI h.2.1 h49.2.1 S l1.toInt a4.toInt (((130 * S) + v10.toInt)) l5.toInt l4.toInt := NI.cr11 (its := l5.toInt) (nm := l4.toInt) S0 xve EG ve49 (by omega) (by omega) (by omega) (by omega) (by first | omega | decide) (by omega) (by decide) (by decide) (by decide) (by omega) (by decide) (by decide) (by omega) (by omega) (by omega) (by omega) (by omega) (by omega) (by omega) (by omega) (by omega) (by omega)
              obtain ⟨i1, i2, i3, i4, i5, i6, i7, i8⟩ := ni (ht.1) (by rw [x1]; exact ht.2.1) (by rw [x1]; exact ht.2.2)
              have ze : (v11 : Int32).toInt = ((130 * S) + v10.toInt) := by rw [show (v11 : Int32).toInt = ((130 * v6.toInt) + v10.toInt) from e12]; omega
              have sM59 : (h49.2.1 70 6).toInt = S := (congrArg Int32.toInt oh49.side).trans hS.symm
              have g60 : (0 : Int) ≤ (h49.2.1 70 4).toInt := (hv49.2.1 70 4).1
              have g61 : (h49.2.1 70 4).toInt ≤ 500 := (hv49.2.1 70 4).2
              have g62 : (-2147483648 : Int) ≤ (h49.2.1 70 5).toInt := (hv49.2.1 70 5).1
              have g63 : (h49.2.1 70 5).toInt ≤ 2147483647 := (hv49.2.1 70 5).2
              have g64 : (h49.2.1 70 4).toInt = (v22.toInt + 1) := by rw [← (show v47 = h49.2.1 70 4 from (show v47 = h49.2.1 70 4 from by rw [hv49e]; exact g_iS.symm))] <;> exact e48
              refine go_invV (pc := 398) (sl := 0) (ihY hv49 v11 (by rw [show (v11 : Int32).toInt = ((130 * v6.toInt) + v10.toInt) from e12]; omega) (by rw [show (v11 : Int32).toInt = ((130 * v6.toInt) + v10.toInt) from e12]; omega) l2 (by rw [show (l2 : Int32).toInt = l2.toInt from (ti_rfl l2)]; omega) (by rw [show (l2 : Int32).toInt = l2.toInt from (ti_rfl l2)]; omega) l3 (by rw [show (l3 : Int32).toInt = l3.toInt from (ti_rfl l3)]; omega) (by rw [show (l3 : Int32).toInt = l3.toInt from (ti_rfl l3)]; omega) (by rw [sM59]; exact (by omega)) (by omega) (by rw [sM59]; exact (by omega)) (by rw [sM59]; exact ⟨i1, by omega, by omega, by rw [ze, x3]; exact i6, by rw [ze]; omega⟩) (by omega)) mL_X8_212 iM_X8_readTry sM_X8_readTry (hv49.sh rfl) rfl rfl rfl (Nat.le_of_ble_eq_true rfl) (show d + 4 + 1 ≤ d + 5 by omega) (show 8 + (4 + 11) + 40 * (d + 4) ≤ 40 * (d + 5) by omega) (g_c0 hv49.ln) (Nat.le_of_ble_eq_true rfl) dX8_readItem_398 ?_
              intro r h65 hq _
              obtain ⟨rfl, ⟨Q66, hv65, sq67⟩, f68, f69, f70, f71, f72, f73, f74⟩ := hq
              rw [sM59] at f70
              rw [sM59] at f71
              rw [sM59] at f73
              have oh65 : OH h.2.1 h65.2.1 S := oh49.trans f73
              have kp65 : KP h.2.1 h65.2.1 := kp49.trans f72
              have ck65 : CKF h.2.1 → CKF h65.2.1 := fun z => f74 (ck49 z)
              try rw [show (v11 : Int32).toInt = ((130 * v6.toInt) + v10.toInt) from e12] at f68
              try rw [show (v11 : Int32).toInt = ((130 * v6.toInt) + v10.toInt) from e12] at f69
              try rw [show (v11 : Int32).toInt = ((130 * v6.toInt) + v10.toInt) from e12] at f70
              try rw [show (v11 : Int32).toInt = ((130 * v6.toInt) + v10.toInt) from e12] at f71
              try rw [show (v11 : Int32).toInt = ((130 * v6.toInt) + v10.toInt) from e12] at f72
              try rw [show (v11 : Int32).toInt = ((130 * v6.toInt) + v10.toInt) from e12] at f73
              try rw [show (v11 : Int32).toInt = ((130 * v6.toInt) + v10.toInt) from e12] at f74
              obtain ⟨u75, u75w⟩ : ∃ v : Int32, v = h65.2.1 70 4 := ⟨_, rfl⟩
              have u75e : (h65.2.1 70 4).toInt = u75.toInt := by rw [u75w]
              have u75l : 0 ≤ u75.toInt := by rw [u75w]; exact (hv65.2.1 70 4).1
              have u75u : u75.toInt ≤ 500 := by rw [u75w]; exact (hv65.2.1 70 4).2
              obtain ⟨u76, u76w⟩ : ∃ v : Int32, v = h65.2.1 70 5 := ⟨_, rfl⟩
              have u76e : (h65.2.1 70 5).toInt = u76.toInt := by rw [u76w]
              have u76l : -2147483648 ≤ u76.toInt := by rw [u76w]; exact (hv65.2.1 70 5).1
              have u76u : u76.toInt ≤ 2147483647 := by rw [u76w]; exact (hv65.2.1 70 5).2
              refine go_goto (pc := 401) (tgt := 410) (by decide) dX8_readItem_401 ?_
              have g77 : (0 : Int) ≤ (h65.2.1 70 4).toInt := (hv65.2.1 70 4).1
              have g78 : (h65.2.1 70 4).toInt ≤ 500 := (hv65.2.1 70 4).2
              have g79 : (-2147483648 : Int) ≤ (h65.2.1 70 5).toInt := (hv65.2.1 70 5).1
              have g80 : (h65.2.1 70 5).toInt ≤ 2147483647 := (hv65.2.1 70 5).2
              have g81 : (h65.2.1 70 4).toInt = u75.toInt := by rw [← (show u75 = h65.2.1 70 4 from u75w)] <;> exact (ti_rfl u75)
              have g82 : (h65.2.1 70 5).toInt = u76.toInt := by rw [← (show u76 = h65.2.1 70 5 from u76w)] <;> exact (ti_rfl u76)
              have pp83 : (h65.2.1 70 5).toInt = 0 → (h.2.1 70 5).toInt = 0 := (by omega)
              have pp84 : (h.2.1 70 4).toInt ≤ (h65.2.1 70 4).toInt := (by omega)
              have pp85 : (h65.2.1 70 5).toInt = 0 → (h.2.1 70 4).toInt + 1 ≤ (h65.2.1 70 4).toInt ∧ 6 * (V h65.2.1 73 S - V h65.2.1 75 S) - (h65.2.1 70 4).toInt ≤ 6 * (V h.2.1 73 S - V h.2.1 75 S) - (h.2.1 70 4).toInt ∧ 2 * V h65.2.1 74 S - (h65.2.1 70 4).toInt ≤ 2 * V h.2.1 74 S - (h.2.1 70 4).toInt := (by omega)
              have pp86 : (h65.2.1 70 5).toInt = 0 → RI h.2.1 h65.2.1 S a2.toInt a4.toInt := (fun hg => by rw [← x1]; exact RI.of S0 ni (by rw [← ze, ← x3]; exact (f71 (by omega))))
              subst hS
              exact gi_vret (pc := 410) ⟨rfl, ⟨_, hv65, (MW.trans (MW.trans (MW.trans (MW.trans (MW.trans (MW.trans (MW.trans (MW.trans (MW.trans (MW.trans (MW.trans (MW.trans (MW.trans (MW.trans (MW.trans (MW.trans (MW.trans (MW.trans sqx (MW.mz _ _)) (MW.mz _ _)) (MW.mz _ _)) (MW.mz _ _)) (MW.mz _ _)) (MW.mz _ _)) (MW.mz _ _)) (MW.mz _ _)) (MW.mz _ _)) (MW.mz _ _)) (MW.mz _ _)) (MW.mz _ _)) (MW.mz _ _)) (MW.mz _ _)) (MW.mz _ _)) (MW.mz _ _)) (MW.mz _ _)) sq67)⟩, pp83, pp84, pp85, pp86, kp65, oh65, ck65⟩ hv65 dX8_readItem_410
            ·
              refine go_aload_n (pc := 305) rfl dX8_readItem_305 ?_
              refine gi_getF (pc := 306) (q := 90) hv39 fL_X8_68 rfl (Nat.le_of_ble_eq_true rfl) rfl (hv39.rf (by decide)) dX8_readItem_306 ?_
              refine go_iload_n (pc := 309) rfl dX8_readItem_309 ?_
              refine go_iload (pc := 310) rfl dX8_readItem_310 ?_
              refine gi_fst (pc := 312) (lo := -1) (hi := 259) (len := 560) hv39 (ti_rfl l1) e12 rfl (by omega) (by omega) (fun _ => rfl) (by omega) (by omega) (by omega) dX8_readItem_312 (fun h87 hv87 hv87e => ?_)
              refine go_goto (pc := 313) (tgt := 329) (by decide) dX8_readItem_313 ?_
              refine go_aload_n (pc := 329) rfl dX8_readItem_329 ?_
              refine gi_getF (pc := 330) (q := 91) hv87 fL_X8_71 rfl (Nat.le_of_ble_eq_true rfl) rfl (hv87.rf (by decide)) dX8_readItem_330 ?_
              refine go_iload_n (pc := 333) rfl dX8_readItem_333 ?_
              refine go_iload (pc := 334) rfl dX8_readItem_334 ?_
              refine gi_fst (pc := 336) (lo := -1) (hi := 259) (len := 560) hv87 (ti_rfl l1) e12 rfl (by omega) (by omega) (fun _ => rfl) (by omega) (by omega) (by omega) dX8_readItem_336 (fun h88 hv88 hv88e => ?_)
              refine go_aload_n (pc := 337) rfl dX8_readItem_337 ?_
              refine go_dup (pc := 338) rfl dX8_readItem_338 ?_
              refine gi_get (pc := 339) (lo := 0) (hi := 500) hv88 fL_X8_163 rfl (Nat.le_of_ble_eq_true rfl) rfl rfl dX8_readItem_339 (fun v89 v89l v89u v89w => ?_)
              have v89r : v22 = h88.2.1 70 4 := (show v22 = h88.2.1 70 4 from by rw [hv88e]; exact (g_iI rfl (show v22 = h87.2.1 70 4 from by rw [hv87e]; exact (g_iI rfl (show v22 = h39.2.1 70 4 from by rw [hv39e]; exact (g_iI rfl (show v22 = h34.2.1 70 4 from by rw [hv34e]; exact (g_iI rfl (show v22 = h31.2.1 70 4 from by rw [hv31e]; exact (g_iI rfl (show v22 = h30.2.1 70 4 from by rw [hv30e]; exact (g_iI rfl (show v22 = h29.2.1 70 4 from by rw [hv29e]; exact (g_iI rfl (show v22 = h28.2.1 70 4 from by rw [hv28e]; exact (g_iI rfl (show v22 = h27.2.1 70 4 from by rw [hv27e]; exact (g_iI rfl (show v22 = h26.2.1 70 4 from by rw [hv26e]; exact (g_iI rfl (show v22 = h25.2.1 70 4 from by rw [hv25e]; exact (g_iI rfl (show v22 = h24.2.1 70 4 from by rw [hv24e]; exact (g_iI rfl v22w.symm).symm).symm).symm).symm).symm).symm).symm).symm).symm).symm).symm).symm).symm).symm).symm).symm).symm).symm).symm).symm).symm).symm).symm)
              have v89q : TI v89 v22.toInt := by rw [v89w.trans v89r.symm]; exact (ti_rfl v22)
              refine go_iconst (pc := 342) (v := 1) (by decide) dX8_readItem_342 ?_
              refine gf_iadd (pc := 343) v89q (ti_c (v := 1) (a := 1) (by decide)) (by omega) (by omega) dX8_readItem_343 (fun v90 e91 => ?_)
              have E88 : h88.2.1 = (w1 (w1 h39.2.1 90 l1.toInt (v11 : Int32)) 91 l1.toInt (v11 : Int32)) := by
                rw [hv88e, hv87e]
                rfl
              have oh88 : OH h.2.1 h88.2.1 S := by rw [E88]; exact ((oh39.trans (OH.w 280 rfl (by omega) (by omega) (by omega) (by omega))).trans (OH.w 280 rfl (by omega) (by omega) (by omega) (by omega)))
              have kp88 : KP h.2.1 h88.2.1 := by rw [E88]; exact ((kp39.trans (KP.w (by omega))).trans (KP.w (by omega)))
              have n73_88 : V h88.2.1 73 S = V h39.2.1 73 S := by rw [E88, V_ne (by omega), V_ne (by omega)]
              have n74_88 : V h88.2.1 74 S = V h39.2.1 74 S := by rw [E88, V_ne (by omega), V_ne (by omega)]
              have n75_88 : V h88.2.1 75 S = V h39.2.1 75 S := by rw [E88, V_ne (by omega), V_ne (by omega)]
              have ck88 : CKF h.2.1 → CKF h88.2.1 := fun z => by rw [E88]; exact (CKF.w (by omega) (CKF.w (by omega) (ck39 z)))
              refine gi_put (pc := 344) (lo := 0) (hi := 500) hv88 e91 (fP_X8_163 _) rfl (Nat.le_of_ble_eq_true rfl) rfl rfl (by omega) (by omega) rfl rfl (by decide) (by decide) (by decide) (by decide) dX8_readItem_344 (fun h92 hv92 hv92e => ?_)
              have ve92 : VE h88.2.1 h92.2.1 := VE.of hv88 hv92
              have oh92 : OH h.2.1 h92.2.1 S := oh88.trans (OH.of hv88 hv92 S)
              have kp92 : KP h.2.1 h92.2.1 := kp88.trans (KP.ve ve92)
              have ck92 : CKF h.2.1 → CKF h92.2.1 := fun z => CKF.ve ve92 (ck88 z)
              have n73_92 : V h92.2.1 73 S = V h88.2.1 73 S := ve92.v (by omega) (by omega)
              have n74_92 : V h92.2.1 74 S = V h88.2.1 74 S := ve92.v (by omega) (by omega)
              have n75_92 : V h92.2.1 75 S = V h88.2.1 75 S := ve92.v (by omega) (by omega)
              refine go_iload (pc := 347) rfl dX8_readItem_347 ?_
              refine gf_if_ne (pc := 349) (tgt := 363) (ti_rfl l5) (by decide) dX8_readItem_349 (fun q93 => ?_) (fun q93 => False.elim (by omega))
              refine go_iload (pc := 363) rfl dX8_readItem_363 ?_
              refine go_iconst (pc := 365) (v := 2) (by decide) dX8_readItem_365 ?_
              refine gf_icmp_eq (pc := 366) (tgt := 375) (ti_rfl l5) (ti_c (v := 2) (a := 2) (by decide)) (by decide) dX8_readItem_366 (fun q94 => False.elim (by omega)) (fun q94 => ?_)
              refine go_iload (pc := 369) rfl dX8_readItem_369 ?_
              refine go_iconst (pc := 371) (v := 3) (by decide) dX8_readItem_371 ?_
              refine gf_icmp_ne (pc := 372) (tgt := 386) (ti_rfl l5) (ti_c (v := 3) (a := 3) (by decide)) (by decide) dX8_readItem_372 (fun q95 => ?_) (fun q95 => False.elim (by omega))
              refine go_iload (pc := 386) rfl dX8_readItem_386 ?_
              refine go_bipush (pc := 388) (v := 6) (by decide) dX8_readItem_388 ?_
              refine gf_icmp_ne (pc := 390) (tgt := 404) (ti_rfl l5) (ti_c (v := 6) (a := 6) (by decide)) (by decide) dX8_readItem_390 (fun q96 => False.elim (by omega)) (fun q96 => ?_)
              refine go_aload_n (pc := 393) rfl dX8_readItem_393 ?_
              refine go_iload (pc := 394) rfl dX8_readItem_394 ?_
              refine go_iload_n (pc := 396) rfl dX8_readItem_396 ?_
              refine go_iload_n (pc := 397) rfl dX8_readItem_397 ?_
              have EG : h88.2.1 = (w1 (w1 (w1 (w1 (w1 (w1 (w1 (w1 (w1 (w1 (w1 (w1 (w1 (w1 (w1 (w1 (w1 hx.2.1 73 S (v15 : Int32)) 77 (((130 * S) + v10.toInt)) (l5 : Int32)) 78 (((130 * S) + v10.toInt)) ((-1) : Int32)) 79 (((130 * S) + v10.toInt)) (l2 : Int32)) 80 (((130 * S) + v10.toInt)) (l3 : Int32)) 81 (((130 * S) + v10.toInt)) (v22 : Int32)) 82 (((130 * S) + v10.toInt)) (l4 : Int32)) 83 (((130 * S) + v10.toInt)) (0 : Int32)) 84 (((130 * S) + v10.toInt)) ((-2) : Int32)) 85 (((130 * S) + v10.toInt)) ((-1) : Int32)) 86 (((130 * S) + v10.toInt)) ((-1) : Int32)) 87 (((130 * S) + v10.toInt)) ((-1) : Int32)) 88 (((130 * S) + v10.toInt)) (l1 : Int32)) 89 ((2 * ((130 * S) + v10.toInt))) (0 : Int32)) 89 (((2 * ((130 * S) + v10.toInt)) + 1)) (0 : Int32)) 90 l1.toInt (v11 : Int32)) 91 l1.toInt (v11 : Int32)) := by rw [E88, E39]
              have z97 : (v15 : Int32).toInt = (v14.toInt + 1) := e16
              have z98 : ((-1) : Int32).toInt = (-1) := (ti_c (v := (-1)) (a := (-1)) (by decide))
              have z99 : (0 : Int32).toInt = 0 := (ti_c (v := 0) (a := 0) (by decide))
              have z100 : ((-2) : Int32).toInt = (-2) := (ti_c (v := (-2)) (a := (-2)) (by decide))
              have z101 : (v11 : Int32).toInt = ((130 * v6.toInt) + v10.toInt) := e12
              have y73 : V hx.2.1 73 S = V h.2.1 73 S := xve.v (by omega) (by omega)
              have y75 : V hx.2.1 75 S = V h.2.1 75 S := xve.v (by omega) (by omega)
              have ni : NI h.2.1 h92.2.1 S l1.toInt a4.toInt (((130 * S) + v10.toInt)) l5.toInt l4.toInt := NI.cr10 (its := l5.toInt) (nm := l4.toInt) S0 xve EG ve92 (by omega) (by omega) (by omega) (by omega) (by first | omega | decide) (by omega) (by decide) (by decide) (by decide) (by omega) (by decide) (by decide) (by omega) (by omega) (by omega) (by omega) (by omega) (by omega) (by omega)
              obtain ⟨i1, i2, i3, i4, i5, i6, i7, i8⟩ := ni (ht.1) (by rw [x1]; exact ht.2.1) (by rw [x1]; exact ht.2.2)
              have ze : (v11 : Int32).toInt = ((130 * S) + v10.toInt) := by rw [show (v11 : Int32).toInt = ((130 * v6.toInt) + v10.toInt) from e12]; omega
              have sM102 : (h92.2.1 70 6).toInt = S := (congrArg Int32.toInt oh92.side).trans hS.symm
              have g103 : (0 : Int) ≤ (h92.2.1 70 4).toInt := (hv92.2.1 70 4).1
              have g104 : (h92.2.1 70 4).toInt ≤ 500 := (hv92.2.1 70 4).2
              have g105 : (-2147483648 : Int) ≤ (h92.2.1 70 5).toInt := (hv92.2.1 70 5).1
              have g106 : (h92.2.1 70 5).toInt ≤ 2147483647 := (hv92.2.1 70 5).2
              have g107 : (h92.2.1 70 4).toInt = (v22.toInt + 1) := by rw [← (show v90 = h92.2.1 70 4 from (show v90 = h92.2.1 70 4 from by rw [hv92e]; exact g_iS.symm))] <;> exact e91
              refine go_invV (pc := 398) (sl := 0) (ihY hv92 v11 (by rw [show (v11 : Int32).toInt = ((130 * v6.toInt) + v10.toInt) from e12]; omega) (by rw [show (v11 : Int32).toInt = ((130 * v6.toInt) + v10.toInt) from e12]; omega) l2 (by rw [show (l2 : Int32).toInt = l2.toInt from (ti_rfl l2)]; omega) (by rw [show (l2 : Int32).toInt = l2.toInt from (ti_rfl l2)]; omega) l3 (by rw [show (l3 : Int32).toInt = l3.toInt from (ti_rfl l3)]; omega) (by rw [show (l3 : Int32).toInt = l3.toInt from (ti_rfl l3)]; omega) (by rw [sM102]; exact (by omega)) (by omega) (by rw [sM102]; exact (by omega)) (by rw [sM102]; exact ⟨i1, by omega, by omega, by rw [ze, x3]; exact i6, by rw [ze]; omega⟩) (by omega)) mL_X8_212 iM_X8_readTry sM_X8_readTry (hv92.sh rfl) rfl rfl rfl (Nat.le_of_ble_eq_true rfl) (show d + 4 + 1 ≤ d + 5 by omega) (show 8 + (4 + 11) + 40 * (d + 4) ≤ 40 * (d + 5) by omega) (g_c0 hv92.ln) (Nat.le_of_ble_eq_true rfl) dX8_readItem_398 ?_
              intro r h108 hq _
              obtain ⟨rfl, ⟨Q109, hv108, sq110⟩, f111, f112, f113, f114, f115, f116, f117⟩ := hq
              rw [sM102] at f113
              rw [sM102] at f114
              rw [sM102] at f116
              have oh108 : OH h.2.1 h108.2.1 S := oh92.trans f116
              have kp108 : KP h.2.1 h108.2.1 := kp92.trans f115
              have ck108 : CKF h.2.1 → CKF h108.2.1 := fun z => f117 (ck92 z)
              try rw [show (v11 : Int32).toInt = ((130 * v6.toInt) + v10.toInt) from e12] at f111
              try rw [show (v11 : Int32).toInt = ((130 * v6.toInt) + v10.toInt) from e12] at f112
              try rw [show (v11 : Int32).toInt = ((130 * v6.toInt) + v10.toInt) from e12] at f113
              try rw [show (v11 : Int32).toInt = ((130 * v6.toInt) + v10.toInt) from e12] at f114
              try rw [show (v11 : Int32).toInt = ((130 * v6.toInt) + v10.toInt) from e12] at f115
              try rw [show (v11 : Int32).toInt = ((130 * v6.toInt) + v10.toInt) from e12] at f116
              try rw [show (v11 : Int32).toInt = ((130 * v6.toInt) + v10.toInt) from e12] at f117
              obtain ⟨u118, u118w⟩ : ∃ v : Int32, v = h108.2.1 70 4 := ⟨_, rfl⟩
              have u118e : (h108.2.1 70 4).toInt = u118.toInt := by rw [u118w]
              have u118l : 0 ≤ u118.toInt := by rw [u118w]; exact (hv108.2.1 70 4).1
              have u118u : u118.toInt ≤ 500 := by rw [u118w]; exact (hv108.2.1 70 4).2
              obtain ⟨u119, u119w⟩ : ∃ v : Int32, v = h108.2.1 70 5 := ⟨_, rfl⟩
              have u119e : (h108.2.1 70 5).toInt = u119.toInt := by rw [u119w]
              have u119l : -2147483648 ≤ u119.toInt := by rw [u119w]; exact (hv108.2.1 70 5).1
              have u119u : u119.toInt ≤ 2147483647 := by rw [u119w]; exact (hv108.2.1 70 5).2
              refine go_goto (pc := 401) (tgt := 410) (by decide) dX8_readItem_401 ?_
              have g120 : (0 : Int) ≤ (h108.2.1 70 4).toInt := (hv108.2.1 70 4).1
              have g121 : (h108.2.1 70 4).toInt ≤ 500 := (hv108.2.1 70 4).2
              have g122 : (-2147483648 : Int) ≤ (h108.2.1 70 5).toInt := (hv108.2.1 70 5).1
              have g123 : (h108.2.1 70 5).toInt ≤ 2147483647 := (hv108.2.1 70 5).2
              have g124 : (h108.2.1 70 4).toInt = u118.toInt := by rw [← (show u118 = h108.2.1 70 4 from u118w)] <;> exact (ti_rfl u118)
              have g125 : (h108.2.1 70 5).toInt = u119.toInt := by rw [← (show u119 = h108.2.1 70 5 from u119w)] <;> exact (ti_rfl u119)
              have pp126 : (h108.2.1 70 5).toInt = 0 → (h.2.1 70 5).toInt = 0 := (by omega)
              have pp127 : (h.2.1 70 4).toInt ≤ (h108.2.1 70 4).toInt := (by omega)
              have pp128 : (h108.2.1 70 5).toInt = 0 → (h.2.1 70 4).toInt + 1 ≤ (h108.2.1 70 4).toInt ∧ 6 * (V h108.2.1 73 S - V h108.2.1 75 S) - (h108.2.1 70 4).toInt ≤ 6 * (V h.2.1 73 S - V h.2.1 75 S) - (h.2.1 70 4).toInt ∧ 2 * V h108.2.1 74 S - (h108.2.1 70 4).toInt ≤ 2 * V h.2.1 74 S - (h.2.1 70 4).toInt := (by omega)
              have pp129 : (h108.2.1 70 5).toInt = 0 → RI h.2.1 h108.2.1 S a2.toInt a4.toInt := (fun hg => by rw [← x1]; exact RI.of S0 ni (by rw [← ze, ← x3]; exact (f114 (by omega))))
              subst hS
              exact gi_vret (pc := 410) ⟨rfl, ⟨_, hv108, (MW.trans (MW.trans (MW.trans (MW.trans (MW.trans (MW.trans (MW.trans (MW.trans (MW.trans (MW.trans (MW.trans (MW.trans (MW.trans (MW.trans (MW.trans (MW.trans (MW.trans (MW.trans sqx (MW.mz _ _)) (MW.mz _ _)) (MW.mz _ _)) (MW.mz _ _)) (MW.mz _ _)) (MW.mz _ _)) (MW.mz _ _)) (MW.mz _ _)) (MW.mz _ _)) (MW.mz _ _)) (MW.mz _ _)) (MW.mz _ _)) (MW.mz _ _)) (MW.mz _ _)) (MW.mz _ _)) (MW.mz _ _)) (MW.mz _ _)) sq110)⟩, pp126, pp127, pp128, pp129, kp108, oh108, ck108⟩ hv108 dX8_readItem_410
          ·
            refine go_aload_n (pc := 242) rfl dX8_readItem_242 ?_
            refine gi_getF (pc := 243) (q := 78) hv39 fL_X8_32 rfl (Nat.le_of_ble_eq_true rfl) rfl (hv39.rf (by decide)) dX8_readItem_243 ?_
            refine go_iload (pc := 246) rfl dX8_readItem_246 ?_
            refine go_aload_n (pc := 248) rfl dX8_readItem_248 ?_
            refine gi_getF (pc := 249) (q := 75) hv39 fL_X8_23 rfl (Nat.le_of_ble_eq_true rfl) rfl (hv39.rf (by decide)) dX8_readItem_249 ?_
            refine go_aload_n (pc := 252) rfl dX8_readItem_252 ?_
            refine gi_get (pc := 253) (lo := 0) (hi := 1) hv39 fL_X8_187 rfl (Nat.le_of_ble_eq_true rfl) rfl rfl dX8_readItem_253 (fun v130 v130l v130u v130w => ?_)
            have v130r : v6 = h39.2.1 70 6 := (show v6 = h39.2.1 70 6 from by rw [hv39e]; exact (g_iI rfl (show v6 = h34.2.1 70 6 from by rw [hv34e]; exact (g_iI rfl (show v6 = h31.2.1 70 6 from by rw [hv31e]; exact (g_iI rfl (show v6 = h30.2.1 70 6 from by rw [hv30e]; exact (g_iI rfl (show v6 = h29.2.1 70 6 from by rw [hv29e]; exact (g_iI rfl (show v6 = h28.2.1 70 6 from by rw [hv28e]; exact (g_iI rfl (show v6 = h27.2.1 70 6 from by rw [hv27e]; exact (g_iI rfl (show v6 = h26.2.1 70 6 from by rw [hv26e]; exact (g_iI rfl (show v6 = h25.2.1 70 6 from by rw [hv25e]; exact (g_iI rfl (show v6 = h24.2.1 70 6 from by rw [hv24e]; exact (g_iI rfl (show v6 = h21.2.1 70 6 from by rw [hv21e]; exact (g_iI rfl (show v6 = h20.2.1 70 6 from by rw [hv20e]; exact (g_iI rfl (show v6 = h19.2.1 70 6 from by rw [hv19e]; exact (g_iI rfl (show v6 = h18.2.1 70 6 from by rw [hv18e]; exact (g_iI rfl (show v6 = h17.2.1 70 6 from by rw [hv17e]; exact (g_iI rfl v6w.symm).symm).symm).symm).symm).symm).symm).symm).symm).symm).symm).symm).symm).symm).symm).symm).symm).symm).symm).symm).symm).symm).symm).symm).symm).symm).symm).symm).symm).symm)
            have v130q : TI v130 v6.toInt := by rw [v130w.trans v130r.symm]; exact (ti_rfl v6)
            refine gi_iald (pc := 256) (lo := 0) (hi := 40) (len := 2) hv39 v130q rfl (by omega) (by omega) (fun _ => rfl) dX8_readItem_256 (fun v131 v131l v131u v131w => ?_)
            have v131V : v131.toInt = V h39.2.1 75 S := by rw [v131w, v6S]; rfl
            refine gi_fst (pc := 257) (lo := -1) (hi := 39) (len := 260) hv39 e12 (ti_rfl v131) rfl (by omega) (by omega) (fun _ => rfl) (by omega) (by omega) (by omega) dX8_readItem_257 (fun h132 hv132 hv132e => ?_)
            refine go_aload_n (pc := 258) rfl dX8_readItem_258 ?_
            refine gi_getF (pc := 259) (q := 93) hv132 fL_X8_77 rfl (Nat.le_of_ble_eq_true rfl) rfl (hv132.rf (by decide)) dX8_readItem_259 ?_
            refine go_bipush (pc := 262) (v := 40) (by decide) dX8_readItem_262 ?_
            refine go_aload_n (pc := 264) rfl dX8_readItem_264 ?_
            refine gi_get (pc := 265) (lo := 0) (hi := 1) hv132 fL_X8_187 rfl (Nat.le_of_ble_eq_true rfl) rfl rfl dX8_readItem_265 (fun v133 v133l v133u v133w => ?_)
            have v133r : v6 = h132.2.1 70 6 := (show v6 = h132.2.1 70 6 from by rw [hv132e]; exact (g_iI rfl (show v6 = h39.2.1 70 6 from by rw [hv39e]; exact (g_iI rfl (show v6 = h34.2.1 70 6 from by rw [hv34e]; exact (g_iI rfl (show v6 = h31.2.1 70 6 from by rw [hv31e]; exact (g_iI rfl (show v6 = h30.2.1 70 6 from by rw [hv30e]; exact (g_iI rfl (show v6 = h29.2.1 70 6 from by rw [hv29e]; exact (g_iI rfl (show v6 = h28.2.1 70 6 from by rw [hv28e]; exact (g_iI rfl (show v6 = h27.2.1 70 6 from by rw [hv27e]; exact (g_iI rfl (show v6 = h26.2.1 70 6 from by rw [hv26e]; exact (g_iI rfl (show v6 = h25.2.1 70 6 from by rw [hv25e]; exact (g_iI rfl (show v6 = h24.2.1 70 6 from by rw [hv24e]; exact (g_iI rfl (show v6 = h21.2.1 70 6 from by rw [hv21e]; exact (g_iI rfl (show v6 = h20.2.1 70 6 from by rw [hv20e]; exact (g_iI rfl (show v6 = h19.2.1 70 6 from by rw [hv19e]; exact (g_iI rfl (show v6 = h18.2.1 70 6 from by rw [hv18e]; exact (g_iI rfl (show v6 = h17.2.1 70 6 from by rw [hv17e]; exact (g_iI rfl v6w.symm).symm).symm).symm).symm).symm).symm).symm).symm).symm).symm).symm).symm).symm).symm).symm).symm).symm).symm).symm).symm).symm).symm).symm).symm).symm).symm).symm).symm).symm).symm).symm)
            have v133q : TI v133 v6.toInt := by rw [v133w.trans v133r.symm]; exact (ti_rfl v6)
            refine gf_imul (pc := 268) (ti_c (v := 40) (a := 40) (by decide)) v133q (by omega) (by omega) dX8_readItem_268 (fun v134 e135 => ?_)
            refine go_aload_n (pc := 269) rfl dX8_readItem_269 ?_
            refine gi_getF (pc := 270) (q := 75) hv132 fL_X8_23 rfl (Nat.le_of_ble_eq_true rfl) rfl (hv132.rf (by decide)) dX8_readItem_270 ?_
            refine go_aload_n (pc := 273) rfl dX8_readItem_273 ?_
            refine gi_get (pc := 274) (lo := 0) (hi := 1) hv132 fL_X8_187 rfl (Nat.le_of_ble_eq_true rfl) rfl rfl dX8_readItem_274 (fun v136 v136l v136u v136w => ?_)
            have v136r : v6 = h132.2.1 70 6 := (show v6 = h132.2.1 70 6 from by rw [hv132e]; exact (g_iI rfl (show v6 = h39.2.1 70 6 from by rw [hv39e]; exact (g_iI rfl (show v6 = h34.2.1 70 6 from by rw [hv34e]; exact (g_iI rfl (show v6 = h31.2.1 70 6 from by rw [hv31e]; exact (g_iI rfl (show v6 = h30.2.1 70 6 from by rw [hv30e]; exact (g_iI rfl (show v6 = h29.2.1 70 6 from by rw [hv29e]; exact (g_iI rfl (show v6 = h28.2.1 70 6 from by rw [hv28e]; exact (g_iI rfl (show v6 = h27.2.1 70 6 from by rw [hv27e]; exact (g_iI rfl (show v6 = h26.2.1 70 6 from by rw [hv26e]; exact (g_iI rfl (show v6 = h25.2.1 70 6 from by rw [hv25e]; exact (g_iI rfl (show v6 = h24.2.1 70 6 from by rw [hv24e]; exact (g_iI rfl (show v6 = h21.2.1 70 6 from by rw [hv21e]; exact (g_iI rfl (show v6 = h20.2.1 70 6 from by rw [hv20e]; exact (g_iI rfl (show v6 = h19.2.1 70 6 from by rw [hv19e]; exact (g_iI rfl (show v6 = h18.2.1 70 6 from by rw [hv18e]; exact (g_iI rfl (show v6 = h17.2.1 70 6 from by rw [hv17e]; exact (g_iI rfl v6w.symm).symm).symm).symm).symm).symm).symm).symm).symm).symm).symm).symm).symm).symm).symm).symm).symm).symm).symm).symm).symm).symm).symm).symm).symm).symm).symm).symm).symm).symm).symm).symm)
            have v136q : TI v136 v6.toInt := by rw [v136w.trans v136r.symm]; exact (ti_rfl v6)
            have E132 : h132.2.1 = (w1 h39.2.1 78 (((130 * S) + v10.toInt)) (v131 : Int32)) := by
              rw [hv132e]
              rw [v6S]
              rfl
            have oh132 : OH h.2.1 h132.2.1 S := by rw [E132]; exact (oh39.trans (OH.w 130 rfl (by omega) (by omega) (by omega) (by omega)))
            have kp132 : KP h.2.1 h132.2.1 := by rw [E132]; exact (kp39.trans (KP.w (by omega)))
            have n73_132 : V h132.2.1 73 S = V h39.2.1 73 S := by rw [E132, V_ne (by omega)]
            have n74_132 : V h132.2.1 74 S = V h39.2.1 74 S := by rw [E132, V_ne (by omega)]
            have n75_132 : V h132.2.1 75 S = V h39.2.1 75 S := by rw [E132, V_ne (by omega)]
            have ck132 : CKF h.2.1 → CKF h132.2.1 := fun z => by rw [E132]; exact (CKF.w (by omega) (ck39 z))
            refine gi_iald (pc := 277) (lo := 0) (hi := 40) (len := 2) hv132 v136q rfl (by omega) (by omega) (fun _ => rfl) dX8_readItem_277 (fun v137 v137l v137u v137w => ?_)
            have v137V : v137.toInt = V h132.2.1 75 S := by rw [v137w, v6S]; rfl
            refine gf_iadd (pc := 278) e135 (ti_rfl v137) (by omega) (by omega) dX8_readItem_278 (fun v138 e139 => ?_)
            refine go_iload (pc := 279) rfl dX8_readItem_279 ?_
            refine gi_fst (pc := 281) (lo := 0) (hi := 259) (len := 80) hv132 e139 e12 rfl (by omega) (by omega) (fun _ => rfl) (by omega) (by omega) (by omega) dX8_readItem_281 (fun h140 hv140 hv140e => ?_)
            refine go_aload_n (pc := 282) rfl dX8_readItem_282 ?_
            refine gi_getF (pc := 283) (q := 75) hv140 fL_X8_23 rfl (Nat.le_of_ble_eq_true rfl) rfl (hv140.rf (by decide)) dX8_readItem_283 ?_
            refine go_aload_n (pc := 286) rfl dX8_readItem_286 ?_
            refine gi_get (pc := 287) (lo := 0) (hi := 1) hv140 fL_X8_187 rfl (Nat.le_of_ble_eq_true rfl) rfl rfl dX8_readItem_287 (fun v141 v141l v141u v141w => ?_)
            have v141r : v6 = h140.2.1 70 6 := (show v6 = h140.2.1 70 6 from by rw [hv140e]; exact (g_iI rfl (show v6 = h132.2.1 70 6 from by rw [hv132e]; exact (g_iI rfl (show v6 = h39.2.1 70 6 from by rw [hv39e]; exact (g_iI rfl (show v6 = h34.2.1 70 6 from by rw [hv34e]; exact (g_iI rfl (show v6 = h31.2.1 70 6 from by rw [hv31e]; exact (g_iI rfl (show v6 = h30.2.1 70 6 from by rw [hv30e]; exact (g_iI rfl (show v6 = h29.2.1 70 6 from by rw [hv29e]; exact (g_iI rfl (show v6 = h28.2.1 70 6 from by rw [hv28e]; exact (g_iI rfl (show v6 = h27.2.1 70 6 from by rw [hv27e]; exact (g_iI rfl (show v6 = h26.2.1 70 6 from by rw [hv26e]; exact (g_iI rfl (show v6 = h25.2.1 70 6 from by rw [hv25e]; exact (g_iI rfl (show v6 = h24.2.1 70 6 from by rw [hv24e]; exact (g_iI rfl (show v6 = h21.2.1 70 6 from by rw [hv21e]; exact (g_iI rfl (show v6 = h20.2.1 70 6 from by rw [hv20e]; exact (g_iI rfl (show v6 = h19.2.1 70 6 from by rw [hv19e]; exact (g_iI rfl (show v6 = h18.2.1 70 6 from by rw [hv18e]; exact (g_iI rfl (show v6 = h17.2.1 70 6 from by rw [hv17e]; exact (g_iI rfl v6w.symm).symm).symm).symm).symm).symm).symm).symm).symm).symm).symm).symm).symm).symm).symm).symm).symm).symm).symm).symm).symm).symm).symm).symm).symm).symm).symm).symm).symm).symm).symm).symm).symm).symm)
            have v141q : TI v141 v6.toInt := by rw [v141w.trans v141r.symm]; exact (ti_rfl v6)
            refine go_dup2 (pc := 290) rfl rfl dX8_readItem_290 ?_
            have E140 : h140.2.1 = (w1 h132.2.1 93 (((40 * S) + v137.toInt)) (v11 : Int32)) := by
              rw [hv140e]
              rw [v6S]
              rfl
            have oh140 : OH h.2.1 h140.2.1 S := by rw [E140]; exact (oh132.trans (OH.w 40 rfl (by omega) (by omega) (by omega) (by omega)))
            have kp140 : KP h.2.1 h140.2.1 := by rw [E140]; exact (kp132.trans (KP.w (by omega)))
            have n73_140 : V h140.2.1 73 S = V h132.2.1 73 S := by rw [E140, V_ne (by omega)]
            have n74_140 : V h140.2.1 74 S = V h132.2.1 74 S := by rw [E140, V_ne (by omega)]
            have n75_140 : V h140.2.1 75 S = V h132.2.1 75 S := by rw [E140, V_ne (by omega)]
            have ck140 : CKF h.2.1 → CKF h140.2.1 := fun z => by rw [E140]; exact (CKF.w (by omega) (ck132 z))
            refine gi_iald (pc := 291) (lo := 0) (hi := 40) (len := 2) hv140 v141q rfl (by omega) (by omega) (fun _ => rfl) dX8_readItem_291 (fun v142 v142l v142u v142w => ?_)
            have v142V : v142.toInt = V h140.2.1 75 S := by rw [v142w, v6S]; rfl
            refine go_iconst (pc := 292) (v := 1) (by decide) dX8_readItem_292 ?_
            refine gf_iadd (pc := 293) (ti_rfl v142) (ti_c (v := 1) (a := 1) (by decide)) (by omega) (by omega) dX8_readItem_293 (fun v143 e144 => ?_)
            refine gi_fst (pc := 294) (lo := 0) (hi := 40) (len := 2) hv140 v141q e144 rfl (by omega) (by omega) (fun _ => rfl) (by omega) (by omega) (by omega) dX8_readItem_294 (fun h145 hv145 hv145e => ?_)
            refine go_aload_n (pc := 295) rfl dX8_readItem_295 ?_
            refine gi_getF (pc := 296) (q := 90) hv145 fL_X8_68 rfl (Nat.le_of_ble_eq_true rfl) rfl (hv145.rf (by decide)) dX8_readItem_296 ?_
            refine go_iload_n (pc := 299) rfl dX8_readItem_299 ?_
            have E145 : h145.2.1 = (w1 h140.2.1 75 S (v143 : Int32)) := by
              rw [hv145e]
              rw [v6S]
              rfl
            have oh145 : OH h.2.1 h145.2.1 S := by rw [E145]; exact (oh140.trans (OH.w 1 rfl (by omega) (by omega) (by omega) (by omega)))
            have kp145 : KP h.2.1 h145.2.1 := by rw [E145]; exact (kp140.trans (KP.w (by omega)))
            have n73_145 : V h145.2.1 73 S = V h140.2.1 73 S := by rw [E145, V_ne (by omega)]
            have n74_145 : V h145.2.1 74 S = V h140.2.1 74 S := by rw [E145, V_ne (by omega)]
            have n75_145 : V h145.2.1 75 S = (v142.toInt + 1) := by rw [E145, V_eq]; exact e144
            have ck145 : CKF h.2.1 → CKF h145.2.1 := fun z => by rw [E145]; exact (CKF.w (by omega) (ck140 z))
            refine gi_iald (pc := 300) (lo := -1) (hi := 259) (len := 560) hv145 (ti_rfl l1) rfl (by omega) (by omega) (fun _ => rfl) dX8_readItem_300 (fun v146 v146l v146u v146w => ?_)
            have v146V : v146.toInt = V h145.2.1 90 l1.toInt := by rw [v146w]; rfl
            have f90 : V h145.2.1 90 l1.toInt = V hx.2.1 90 l1.toInt := by rw [E145, V_ne (by omega), E140, V_ne (by omega), E132, V_ne (by omega), E39, V_ne (by omega), V_ne (by omega), V_ne (by omega), V_ne (by omega), V_ne (by omega), V_ne (by omega), V_ne (by omega), V_ne (by omega), V_ne (by omega), V_ne (by omega), V_ne (by omega), V_ne (by omega), V_ne (by omega), V_ne (by omega), V_ne (by omega)]
            have f91 : V h145.2.1 91 l1.toInt = V hx.2.1 91 l1.toInt := by rw [E145, V_ne (by omega), E140, V_ne (by omega), E132, V_ne (by omega), E39, V_ne (by omega), V_ne (by omega), V_ne (by omega), V_ne (by omega), V_ne (by omega), V_ne (by omega), V_ne (by omega), V_ne (by omega), V_ne (by omega), V_ne (by omega), V_ne (by omega), V_ne (by omega), V_ne (by omega), V_ne (by omega), V_ne (by omega)]
            have g90 : V hx.2.1 90 l1.toInt = V h.2.1 90 a2.toInt := by rw [x1]; exact xve.v (by omega) (by omega)
            have g91 : V hx.2.1 91 l1.toInt = V h.2.1 91 a2.toInt := by rw [x1]; exact xve.v (by omega) (by omega)
            refine go_iconst (pc := 301) (v := (-1)) (by decide) dX8_readItem_301 ?_
            refine gf_icmp_ne (pc := 302) (tgt := 316) (ti_rfl v146) (ti_c (v := (-1)) (a := (-1)) (by decide)) (by decide) dX8_readItem_302 (fun q147 => ?_) (fun q147 => ?_)
            ·
              have t5 := ht.1.2.2.2.2.2.1 a2.toInt ht.2.1
              rcases t5.2.1 with z | ⟨⟨z1, z2⟩, z3⟩
              · exact absurd z (t5.2.2.2 (by omega))
              refine go_aload_n (pc := 316) rfl dX8_readItem_316 ?_
              refine gi_getF (pc := 317) (q := 87) hv145 fL_X8_59 rfl (Nat.le_of_ble_eq_true rfl) rfl (hv145.rf (by decide)) dX8_readItem_317 ?_
              refine go_aload_n (pc := 320) rfl dX8_readItem_320 ?_
              refine gi_getF (pc := 321) (q := 91) hv145 fL_X8_71 rfl (Nat.le_of_ble_eq_true rfl) rfl (hv145.rf (by decide)) dX8_readItem_321 ?_
              refine go_iload_n (pc := 324) rfl dX8_readItem_324 ?_
              refine gi_iald (pc := 325) (lo := -1) (hi := 259) (len := 560) hv145 (ti_rfl l1) rfl (by omega) (by omega) (fun _ => rfl) dX8_readItem_325 (fun v148 v148l v148u v148w => ?_)
              have v148V : v148.toInt = V h145.2.1 91 l1.toInt := by rw [v148w]; rfl
              refine go_iload (pc := 326) rfl dX8_readItem_326 ?_
              refine gi_fst (pc := 328) (lo := -1) (hi := 259) (len := 260) hv145 (ti_rfl v148) e12 rfl (by omega) (by omega) (fun _ => rfl) (by omega) (by omega) (by omega) dX8_readItem_328 (fun h149 hv149 hv149e => ?_)
              refine go_aload_n (pc := 329) rfl dX8_readItem_329 ?_
              refine gi_getF (pc := 330) (q := 91) hv149 fL_X8_71 rfl (Nat.le_of_ble_eq_true rfl) rfl (hv149.rf (by decide)) dX8_readItem_330 ?_
              refine go_iload_n (pc := 333) rfl dX8_readItem_333 ?_
              refine go_iload (pc := 334) rfl dX8_readItem_334 ?_
              refine gi_fst (pc := 336) (lo := -1) (hi := 259) (len := 560) hv149 (ti_rfl l1) e12 rfl (by omega) (by omega) (fun _ => rfl) (by omega) (by omega) (by omega) dX8_readItem_336 (fun h150 hv150 hv150e => ?_)
              refine go_aload_n (pc := 337) rfl dX8_readItem_337 ?_
              refine go_dup (pc := 338) rfl dX8_readItem_338 ?_
              refine gi_get (pc := 339) (lo := 0) (hi := 500) hv150 fL_X8_163 rfl (Nat.le_of_ble_eq_true rfl) rfl rfl dX8_readItem_339 (fun v151 v151l v151u v151w => ?_)
              have v151r : v22 = h150.2.1 70 4 := (show v22 = h150.2.1 70 4 from by rw [hv150e]; exact (g_iI rfl (show v22 = h149.2.1 70 4 from by rw [hv149e]; exact (g_iI rfl (show v22 = h145.2.1 70 4 from by rw [hv145e]; exact (g_iI rfl (show v22 = h140.2.1 70 4 from by rw [hv140e]; exact (g_iI rfl (show v22 = h132.2.1 70 4 from by rw [hv132e]; exact (g_iI rfl (show v22 = h39.2.1 70 4 from by rw [hv39e]; exact (g_iI rfl (show v22 = h34.2.1 70 4 from by rw [hv34e]; exact (g_iI rfl (show v22 = h31.2.1 70 4 from by rw [hv31e]; exact (g_iI rfl (show v22 = h30.2.1 70 4 from by rw [hv30e]; exact (g_iI rfl (show v22 = h29.2.1 70 4 from by rw [hv29e]; exact (g_iI rfl (show v22 = h28.2.1 70 4 from by rw [hv28e]; exact (g_iI rfl (show v22 = h27.2.1 70 4 from by rw [hv27e]; exact (g_iI rfl (show v22 = h26.2.1 70 4 from by rw [hv26e]; exact (g_iI rfl (show v22 = h25.2.1 70 4 from by rw [hv25e]; exact (g_iI rfl (show v22 = h24.2.1 70 4 from by rw [hv24e]; exact (g_iI rfl v22w.symm).symm).symm).symm).symm).symm).symm).symm).symm).symm).symm).symm).symm).symm).symm).symm).symm).symm).symm).symm).symm).symm).symm).symm).symm).symm).symm).symm).symm).symm)
              have v151q : TI v151 v22.toInt := by rw [v151w.trans v151r.symm]; exact (ti_rfl v22)
              refine go_iconst (pc := 342) (v := 1) (by decide) dX8_readItem_342 ?_
              refine gf_iadd (pc := 343) v151q (ti_c (v := 1) (a := 1) (by decide)) (by omega) (by omega) dX8_readItem_343 (fun v152 e153 => ?_)
              have E150 : h150.2.1 = (w1 (w1 h145.2.1 87 v148.toInt (v11 : Int32)) 91 l1.toInt (v11 : Int32)) := by
                rw [hv150e, hv149e]
                rfl
              have oh150 : OH h.2.1 h150.2.1 S := by rw [E150]; exact ((oh145.trans (OH.w 130 rfl (by omega) (by omega) (by omega) (by omega))).trans (OH.w 280 rfl (by omega) (by omega) (by omega) (by omega)))
              have kp150 : KP h.2.1 h150.2.1 := by rw [E150]; exact ((kp145.trans (KP.w (by omega))).trans (KP.w (by omega)))
              have n73_150 : V h150.2.1 73 S = V h145.2.1 73 S := by rw [E150, V_ne (by omega), V_ne (by omega)]
              have n74_150 : V h150.2.1 74 S = V h145.2.1 74 S := by rw [E150, V_ne (by omega), V_ne (by omega)]
              have n75_150 : V h150.2.1 75 S = V h145.2.1 75 S := by rw [E150, V_ne (by omega), V_ne (by omega)]
              have ck150 : CKF h.2.1 → CKF h150.2.1 := fun z => by rw [E150]; exact (CKF.w (by omega) (CKF.w (by omega) (ck145 z)))
              refine gi_put (pc := 344) (lo := 0) (hi := 500) hv150 e153 (fP_X8_163 _) rfl (Nat.le_of_ble_eq_true rfl) rfl rfl (by omega) (by omega) rfl rfl (by decide) (by decide) (by decide) (by decide) dX8_readItem_344 (fun h154 hv154 hv154e => ?_)
              have ve154 : VE h150.2.1 h154.2.1 := VE.of hv150 hv154
              have oh154 : OH h.2.1 h154.2.1 S := oh150.trans (OH.of hv150 hv154 S)
              have kp154 : KP h.2.1 h154.2.1 := kp150.trans (KP.ve ve154)
              have ck154 : CKF h.2.1 → CKF h154.2.1 := fun z => CKF.ve ve154 (ck150 z)
              have n73_154 : V h154.2.1 73 S = V h150.2.1 73 S := ve154.v (by omega) (by omega)
              have n74_154 : V h154.2.1 74 S = V h150.2.1 74 S := ve154.v (by omega) (by omega)
              have n75_154 : V h154.2.1 75 S = V h150.2.1 75 S := ve154.v (by omega) (by omega)
              refine go_iload (pc := 347) rfl dX8_readItem_347 ?_
              refine gf_if_ne (pc := 349) (tgt := 363) (ti_rfl l5) (by decide) dX8_readItem_349 (fun q155 => ?_) (fun q155 => ?_)
              ·
                refine go_iload (pc := 363) rfl dX8_readItem_363 ?_
                refine go_iconst (pc := 365) (v := 2) (by decide) dX8_readItem_365 ?_
                refine gf_icmp_eq (pc := 366) (tgt := 375) (ti_rfl l5) (ti_c (v := 2) (a := 2) (by decide)) (by decide) dX8_readItem_366 (fun q156 => ?_) (fun q156 => ?_)
                ·
                  refine go_aload_n (pc := 375) rfl dX8_readItem_375 ?_
                  refine go_iload (pc := 376) rfl dX8_readItem_376 ?_
                  refine go_iload_n (pc := 378) rfl dX8_readItem_378 ?_
                  refine go_iload_n (pc := 379) rfl dX8_readItem_379 ?_
                  have EG : h150.2.1 = (w1 (w1 (w1 (w1 (w1 (w1 (w1 (w1 (w1 (w1 (w1 (w1 (w1 (w1 (w1 (w1 (w1 (w1 (w1 (w1 hx.2.1 73 S (v15 : Int32)) 77 (((130 * S) + v10.toInt)) (l5 : Int32)) 78 (((130 * S) + v10.toInt)) ((-1) : Int32)) 79 (((130 * S) + v10.toInt)) (l2 : Int32)) 80 (((130 * S) + v10.toInt)) (l3 : Int32)) 81 (((130 * S) + v10.toInt)) (v22 : Int32)) 82 (((130 * S) + v10.toInt)) (l4 : Int32)) 83 (((130 * S) + v10.toInt)) (0 : Int32)) 84 (((130 * S) + v10.toInt)) ((-2) : Int32)) 85 (((130 * S) + v10.toInt)) ((-1) : Int32)) 86 (((130 * S) + v10.toInt)) ((-1) : Int32)) 87 (((130 * S) + v10.toInt)) ((-1) : Int32)) 88 (((130 * S) + v10.toInt)) (l1 : Int32)) 89 ((2 * ((130 * S) + v10.toInt))) (0 : Int32)) 89 (((2 * ((130 * S) + v10.toInt)) + 1)) (0 : Int32)) 78 (((130 * S) + v10.toInt)) (v131 : Int32)) 93 (((40 * S) + v137.toInt)) (v11 : Int32)) 75 S (v143 : Int32)) 87 v148.toInt (v11 : Int32)) 91 l1.toInt (v11 : Int32)) := by rw [E150, E145, E140, E132, E39]
                  have z157 : (v15 : Int32).toInt = (v14.toInt + 1) := e16
                  have z158 : ((-1) : Int32).toInt = (-1) := (ti_c (v := (-1)) (a := (-1)) (by decide))
                  have z159 : (0 : Int32).toInt = 0 := (ti_c (v := 0) (a := 0) (by decide))
                  have z160 : ((-2) : Int32).toInt = (-2) := (ti_c (v := (-2)) (a := (-2)) (by decide))
                  have z161 : (v11 : Int32).toInt = ((130 * v6.toInt) + v10.toInt) := e12
                  have z162 : (v143 : Int32).toInt = (v142.toInt + 1) := e144
                  have y73 : V hx.2.1 73 S = V h.2.1 73 S := xve.v (by omega) (by omega)
                  have y75 : V hx.2.1 75 S = V h.2.1 75 S := xve.v (by omega) (by omega)
                  have ni : NI h.2.1 h154.2.1 S l1.toInt a4.toInt (((130 * S) + v10.toInt)) l5.toInt l4.toInt := NI.cr01 (its := l5.toInt) (nm := l4.toInt) S0 xve EG ve154 (by omega) (by omega) (by omega) (by omega) (by first | omega | decide) (by omega) (by decide) (by decide) (by decide) (by omega) (by decide) (by decide) (by omega) (by omega) (by omega) (by omega) (by omega) (by omega) (by omega) (by omega) (by omega) (by omega) (by omega) (by omega) (by omega) (by omega) (by omega)
                  obtain ⟨i1, i2, i3, i4, i5, i6, i7, i8⟩ := ni (ht.1) (by rw [x1]; exact ht.2.1) (by rw [x1]; exact ht.2.2)
                  have ze : (v11 : Int32).toInt = ((130 * S) + v10.toInt) := by rw [show (v11 : Int32).toInt = ((130 * v6.toInt) + v10.toInt) from e12]; omega
                  have sM163 : (h154.2.1 70 6).toInt = S := (congrArg Int32.toInt oh154.side).trans hS.symm
                  have g164 : (0 : Int) ≤ (h154.2.1 70 4).toInt := (hv154.2.1 70 4).1
                  have g165 : (h154.2.1 70 4).toInt ≤ 500 := (hv154.2.1 70 4).2
                  have g166 : (-2147483648 : Int) ≤ (h154.2.1 70 5).toInt := (hv154.2.1 70 5).1
                  have g167 : (h154.2.1 70 5).toInt ≤ 2147483647 := (hv154.2.1 70 5).2
                  have g168 : (h154.2.1 70 4).toInt = (v22.toInt + 1) := by rw [← (show v152 = h154.2.1 70 4 from (show v152 = h154.2.1 70 4 from by rw [hv154e]; exact g_iS.symm))] <;> exact e153
                  refine go_invV (pc := 380) (sl := 0) (ihT hv154 v11 (by rw [show (v11 : Int32).toInt = ((130 * v6.toInt) + v10.toInt) from e12]; omega) (by rw [show (v11 : Int32).toInt = ((130 * v6.toInt) + v10.toInt) from e12]; omega) l2 (by rw [show (l2 : Int32).toInt = l2.toInt from (ti_rfl l2)]; omega) (by rw [show (l2 : Int32).toInt = l2.toInt from (ti_rfl l2)]; omega) l3 (by rw [show (l3 : Int32).toInt = l3.toInt from (ti_rfl l3)]; omega) (by rw [show (l3 : Int32).toInt = l3.toInt from (ti_rfl l3)]; omega) (by rw [sM163]; exact (by omega)) (by omega) (by rw [sM163]; exact (by omega)) (by rw [sM163]; exact ⟨i1, by omega, by omega, by rw [ze, x3]; exact i6, by rw [ze]; omega⟩) (by omega)) mL_X8_209 iM_X8_readTest sM_X8_readTest (hv154.sh rfl) rfl rfl rfl (Nat.le_of_ble_eq_true rfl) (show d + 4 + 1 ≤ d + 5 by omega) (show 8 + (4 + 11) + 40 * (d + 4) ≤ 40 * (d + 5) by omega) (g_c0 hv154.ln) (Nat.le_of_ble_eq_true rfl) dX8_readItem_380 ?_
                  intro r h169 hq _
                  obtain ⟨rfl, ⟨Q170, hv169, sq171⟩, f172, f173, f174, f175, f176, f177, f178⟩ := hq
                  rw [sM163] at f174
                  rw [sM163] at f175
                  rw [sM163] at f177
                  have oh169 : OH h.2.1 h169.2.1 S := oh154.trans f177
                  have kp169 : KP h.2.1 h169.2.1 := kp154.trans f176
                  have ck169 : CKF h.2.1 → CKF h169.2.1 := fun z => f178 (ck154 z)
                  try rw [show (v11 : Int32).toInt = ((130 * v6.toInt) + v10.toInt) from e12] at f172
                  try rw [show (v11 : Int32).toInt = ((130 * v6.toInt) + v10.toInt) from e12] at f173
                  try rw [show (v11 : Int32).toInt = ((130 * v6.toInt) + v10.toInt) from e12] at f174
                  try rw [show (v11 : Int32).toInt = ((130 * v6.toInt) + v10.toInt) from e12] at f175
                  try rw [show (v11 : Int32).toInt = ((130 * v6.toInt) + v10.toInt) from e12] at f176
                  try rw [show (v11 : Int32).toInt = ((130 * v6.toInt) + v10.toInt) from e12] at f177
                  try rw [show (v11 : Int32).toInt = ((130 * v6.toInt) + v10.toInt) from e12] at f178
                  obtain ⟨u179, u179w⟩ : ∃ v : Int32, v = h169.2.1 70 4 := ⟨_, rfl⟩
                  have u179e : (h169.2.1 70 4).toInt = u179.toInt := by rw [u179w]
                  have u179l : 0 ≤ u179.toInt := by rw [u179w]; exact (hv169.2.1 70 4).1
                  have u179u : u179.toInt ≤ 500 := by rw [u179w]; exact (hv169.2.1 70 4).2
                  obtain ⟨u180, u180w⟩ : ∃ v : Int32, v = h169.2.1 70 5 := ⟨_, rfl⟩
                  have u180e : (h169.2.1 70 5).toInt = u180.toInt := by rw [u180w]
                  have u180l : -2147483648 ≤ u180.toInt := by rw [u180w]; exact (hv169.2.1 70 5).1
                  have u180u : u180.toInt ≤ 2147483647 := by rw [u180w]; exact (hv169.2.1 70 5).2
                  refine go_goto (pc := 383) (tgt := 410) (by decide) dX8_readItem_383 ?_
                  have g181 : (0 : Int) ≤ (h169.2.1 70 4).toInt := (hv169.2.1 70 4).1
                  have g182 : (h169.2.1 70 4).toInt ≤ 500 := (hv169.2.1 70 4).2
                  have g183 : (-2147483648 : Int) ≤ (h169.2.1 70 5).toInt := (hv169.2.1 70 5).1
                  have g184 : (h169.2.1 70 5).toInt ≤ 2147483647 := (hv169.2.1 70 5).2
                  have g185 : (h169.2.1 70 4).toInt = u179.toInt := by rw [← (show u179 = h169.2.1 70 4 from u179w)] <;> exact (ti_rfl u179)
                  have g186 : (h169.2.1 70 5).toInt = u180.toInt := by rw [← (show u180 = h169.2.1 70 5 from u180w)] <;> exact (ti_rfl u180)
                  have pp187 : (h169.2.1 70 5).toInt = 0 → (h.2.1 70 5).toInt = 0 := (by omega)
                  have pp188 : (h.2.1 70 4).toInt ≤ (h169.2.1 70 4).toInt := (by omega)
                  have pp189 : (h169.2.1 70 5).toInt = 0 → (h.2.1 70 4).toInt + 1 ≤ (h169.2.1 70 4).toInt ∧ 6 * (V h169.2.1 73 S - V h169.2.1 75 S) - (h169.2.1 70 4).toInt ≤ 6 * (V h.2.1 73 S - V h.2.1 75 S) - (h.2.1 70 4).toInt ∧ 2 * V h169.2.1 74 S - (h169.2.1 70 4).toInt ≤ 2 * V h.2.1 74 S - (h.2.1 70 4).toInt := (by omega)
                  have pp190 : (h169.2.1 70 5).toInt = 0 → RI h.2.1 h169.2.1 S a2.toInt a4.toInt := (fun hg => by rw [← x1]; exact RI.of S0 ni (by rw [← ze, ← x3]; exact (f175 (by omega))))
                  subst hS
                  exact gi_vret (pc := 410) ⟨rfl, ⟨_, hv169, (MW.trans (MW.trans (MW.trans (MW.trans (MW.trans (MW.trans (MW.trans (MW.trans (MW.trans (MW.trans (MW.trans (MW.trans (MW.trans (MW.trans (MW.trans (MW.trans (MW.trans (MW.trans (MW.trans (MW.trans (MW.trans sqx (MW.mz _ _)) (MW.mz _ _)) (MW.mz _ _)) (MW.mz _ _)) (MW.mz _ _)) (MW.mz _ _)) (MW.mz _ _)) (MW.mz _ _)) (MW.mz _ _)) (MW.mz _ _)) (MW.mz _ _)) (MW.mz _ _)) (MW.mz _ _)) (MW.mz _ _)) (MW.mz _ _)) (MW.mz _ _)) (MW.mz _ _)) (MW.mz _ _)) (MW.mz _ _)) (MW.mz _ _)) sq171)⟩, pp187, pp188, pp189, pp190, kp169, oh169, ck169⟩ hv169 dX8_readItem_410
                ·
                  refine go_iload (pc := 369) rfl dX8_readItem_369 ?_
                  refine go_iconst (pc := 371) (v := 3) (by decide) dX8_readItem_371 ?_
                  refine gf_icmp_ne (pc := 372) (tgt := 386) (ti_rfl l5) (ti_c (v := 3) (a := 3) (by decide)) (by decide) dX8_readItem_372 (fun q191 => ?_) (fun q191 => ?_)
                  ·
                    refine go_iload (pc := 386) rfl dX8_readItem_386 ?_
                    refine go_bipush (pc := 388) (v := 6) (by decide) dX8_readItem_388 ?_
                    refine gf_icmp_ne (pc := 390) (tgt := 404) (ti_rfl l5) (ti_c (v := 6) (a := 6) (by decide)) (by decide) dX8_readItem_390 (fun q192 => ?_) (fun q192 => False.elim (by omega))
                    refine go_aload_n (pc := 404) rfl dX8_readItem_404 ?_
                    refine go_iload (pc := 405) rfl dX8_readItem_405 ?_
                    have EG : h150.2.1 = (w1 (w1 (w1 (w1 (w1 (w1 (w1 (w1 (w1 (w1 (w1 (w1 (w1 (w1 (w1 (w1 (w1 (w1 (w1 (w1 hx.2.1 73 S (v15 : Int32)) 77 (((130 * S) + v10.toInt)) (l5 : Int32)) 78 (((130 * S) + v10.toInt)) ((-1) : Int32)) 79 (((130 * S) + v10.toInt)) (l2 : Int32)) 80 (((130 * S) + v10.toInt)) (l3 : Int32)) 81 (((130 * S) + v10.toInt)) (v22 : Int32)) 82 (((130 * S) + v10.toInt)) (l4 : Int32)) 83 (((130 * S) + v10.toInt)) (0 : Int32)) 84 (((130 * S) + v10.toInt)) ((-2) : Int32)) 85 (((130 * S) + v10.toInt)) ((-1) : Int32)) 86 (((130 * S) + v10.toInt)) ((-1) : Int32)) 87 (((130 * S) + v10.toInt)) ((-1) : Int32)) 88 (((130 * S) + v10.toInt)) (l1 : Int32)) 89 ((2 * ((130 * S) + v10.toInt))) (0 : Int32)) 89 (((2 * ((130 * S) + v10.toInt)) + 1)) (0 : Int32)) 78 (((130 * S) + v10.toInt)) (v131 : Int32)) 93 (((40 * S) + v137.toInt)) (v11 : Int32)) 75 S (v143 : Int32)) 87 v148.toInt (v11 : Int32)) 91 l1.toInt (v11 : Int32)) := by rw [E150, E145, E140, E132, E39]
                    have z193 : (v15 : Int32).toInt = (v14.toInt + 1) := e16
                    have z194 : ((-1) : Int32).toInt = (-1) := (ti_c (v := (-1)) (a := (-1)) (by decide))
                    have z195 : (0 : Int32).toInt = 0 := (ti_c (v := 0) (a := 0) (by decide))
                    have z196 : ((-2) : Int32).toInt = (-2) := (ti_c (v := (-2)) (a := (-2)) (by decide))
                    have z197 : (v11 : Int32).toInt = ((130 * v6.toInt) + v10.toInt) := e12
                    have z198 : (v143 : Int32).toInt = (v142.toInt + 1) := e144
                    have y73 : V hx.2.1 73 S = V h.2.1 73 S := xve.v (by omega) (by omega)
                    have y75 : V hx.2.1 75 S = V h.2.1 75 S := xve.v (by omega) (by omega)
                    have ni : NI h.2.1 h154.2.1 S l1.toInt a4.toInt (((130 * S) + v10.toInt)) l5.toInt l4.toInt := NI.cr01 (its := l5.toInt) (nm := l4.toInt) S0 xve EG ve154 (by omega) (by omega) (by omega) (by omega) (by first | omega | decide) (by omega) (by decide) (by decide) (by decide) (by omega) (by decide) (by decide) (by omega) (by omega) (by omega) (by omega) (by omega) (by omega) (by omega) (by omega) (by omega) (by omega) (by omega) (by omega) (by omega) (by omega) (by omega)
                    obtain ⟨i1, i2, i3, i4, i5, i6, i7, i8⟩ := ni (ht.1) (by rw [x1]; exact ht.2.1) (by rw [x1]; exact ht.2.2)
                    have ze : (v11 : Int32).toInt = ((130 * S) + v10.toInt) := by rw [show (v11 : Int32).toInt = ((130 * v6.toInt) + v10.toInt) from e12]; omega
                    have sM199 : (h154.2.1 70 6).toInt = S := (congrArg Int32.toInt oh154.side).trans hS.symm
                    have g200 : (0 : Int) ≤ (h154.2.1 70 4).toInt := (hv154.2.1 70 4).1
                    have g201 : (h154.2.1 70 4).toInt ≤ 500 := (hv154.2.1 70 4).2
                    have g202 : (-2147483648 : Int) ≤ (h154.2.1 70 5).toInt := (hv154.2.1 70 5).1
                    have g203 : (h154.2.1 70 5).toInt ≤ 2147483647 := (hv154.2.1 70 5).2
                    have g204 : (h154.2.1 70 4).toInt = (v22.toInt + 1) := by rw [← (show v152 = h154.2.1 70 4 from (show v152 = h154.2.1 70 4 from by rw [hv154e]; exact g_iS.symm))] <;> exact e153
                    refine go_invV (pc := 407) (sl := 0) (s_X8_readEnd l (d + 0) hv154 v11 (by rw [show (v11 : Int32).toInt = ((130 * v6.toInt) + v10.toInt) from e12]; omega) (by rw [show (v11 : Int32).toInt = ((130 * v6.toInt) + v10.toInt) from e12]; omega) (by rw [sM199]; exact (by omega))) mL_X8_215 iM_X8_readEnd sM_X8_readEnd (hv154.sh rfl) rfl rfl rfl (Nat.le_of_ble_eq_true rfl) (show d + 0 + 4 + 1 ≤ d + 5 by omega) (show 8 + (2 + 11) + 40 * (d + 0 + 4) ≤ 40 * (d + 5) by omega) (g_c0 hv154.ln) (Nat.le_of_ble_eq_true rfl) dX8_readItem_407 ?_
                    intro r h205 hq _
                    obtain ⟨rfl, ⟨Q206, hv205, sq207⟩, f208, f209, f210, f211, f212, f213, f214, f215, f216⟩ := hq
                    rw [sM199] at f210
                    rw [sM199] at f211
                    rw [sM199] at f212
                    rw [sM199] at f213
                    rw [sM199] at f215
                    have oh205 : OH h.2.1 h205.2.1 S := oh154.trans f215
                    have kp205 : KP h.2.1 h205.2.1 := kp154.trans f214
                    have ck205 : CKF h.2.1 → CKF h205.2.1 := fun z => f216 (ck154 z)
                    try rw [show (v11 : Int32).toInt = ((130 * v6.toInt) + v10.toInt) from e12] at f208
                    try rw [show (v11 : Int32).toInt = ((130 * v6.toInt) + v10.toInt) from e12] at f209
                    try rw [show (v11 : Int32).toInt = ((130 * v6.toInt) + v10.toInt) from e12] at f210
                    try rw [show (v11 : Int32).toInt = ((130 * v6.toInt) + v10.toInt) from e12] at f211
                    try rw [show (v11 : Int32).toInt = ((130 * v6.toInt) + v10.toInt) from e12] at f212
                    try rw [show (v11 : Int32).toInt = ((130 * v6.toInt) + v10.toInt) from e12] at f213
                    try rw [show (v11 : Int32).toInt = ((130 * v6.toInt) + v10.toInt) from e12] at f214
                    try rw [show (v11 : Int32).toInt = ((130 * v6.toInt) + v10.toInt) from e12] at f215
                    try rw [show (v11 : Int32).toInt = ((130 * v6.toInt) + v10.toInt) from e12] at f216
                    obtain ⟨u217, u217w⟩ : ∃ v : Int32, v = h205.2.1 70 4 := ⟨_, rfl⟩
                    have u217e : (h205.2.1 70 4).toInt = u217.toInt := by rw [u217w]
                    have u217l : 0 ≤ u217.toInt := by rw [u217w]; exact (hv205.2.1 70 4).1
                    have u217u : u217.toInt ≤ 500 := by rw [u217w]; exact (hv205.2.1 70 4).2
                    obtain ⟨u218, u218w⟩ : ∃ v : Int32, v = h205.2.1 70 5 := ⟨_, rfl⟩
                    have u218e : (h205.2.1 70 5).toInt = u218.toInt := by rw [u218w]
                    have u218l : -2147483648 ≤ u218.toInt := by rw [u218w]; exact (hv205.2.1 70 5).1
                    have u218u : u218.toInt ≤ 2147483647 := by rw [u218w]; exact (hv205.2.1 70 5).2
                    have g219 : (0 : Int) ≤ (h205.2.1 70 4).toInt := (hv205.2.1 70 4).1
                    have g220 : (h205.2.1 70 4).toInt ≤ 500 := (hv205.2.1 70 4).2
                    have g221 : (-2147483648 : Int) ≤ (h205.2.1 70 5).toInt := (hv205.2.1 70 5).1
                    have g222 : (h205.2.1 70 5).toInt ≤ 2147483647 := (hv205.2.1 70 5).2
                    have g223 : (h205.2.1 70 4).toInt = u217.toInt := by rw [← (show u217 = h205.2.1 70 4 from u217w)] <;> exact (ti_rfl u217)
                    have g224 : (h205.2.1 70 5).toInt = u218.toInt := by rw [← (show u218 = h205.2.1 70 5 from u218w)] <;> exact (ti_rfl u218)
                    have pp225 : (h205.2.1 70 5).toInt = 0 → (h.2.1 70 5).toInt = 0 := (by omega)
                    have pp226 : (h.2.1 70 4).toInt ≤ (h205.2.1 70 4).toInt := (by omega)
                    have pp227 : (h205.2.1 70 5).toInt = 0 → (h.2.1 70 4).toInt + 1 ≤ (h205.2.1 70 4).toInt ∧ 6 * (V h205.2.1 73 S - V h205.2.1 75 S) - (h205.2.1 70 4).toInt ≤ 6 * (V h.2.1 73 S - V h.2.1 75 S) - (h.2.1 70 4).toInt ∧ 2 * V h205.2.1 74 S - (h205.2.1 70 4).toInt ≤ 2 * V h.2.1 74 S - (h.2.1 70 4).toInt := (by omega)
                    have pp228 : (h205.2.1 70 5).toInt = 0 → RI h.2.1 h205.2.1 S a2.toInt a4.toInt := (fun hg => by rw [← x1]; exact RI.of S0 ni (by rw [← ze, ← x3]; exact (f213 (by omega) l3.toInt (by rw [ze]; omega) (by rw [ze]; omega) (by rw [ze]; omega))))
                    subst hS
                    exact gi_vret (pc := 410) ⟨rfl, ⟨_, hv205, (MW.trans (MW.trans (MW.trans (MW.trans (MW.trans (MW.trans (MW.trans (MW.trans (MW.trans (MW.trans (MW.trans (MW.trans (MW.trans (MW.trans (MW.trans (MW.trans (MW.trans (MW.trans (MW.trans (MW.trans (MW.trans sqx (MW.mz _ _)) (MW.mz _ _)) (MW.mz _ _)) (MW.mz _ _)) (MW.mz _ _)) (MW.mz _ _)) (MW.mz _ _)) (MW.mz _ _)) (MW.mz _ _)) (MW.mz _ _)) (MW.mz _ _)) (MW.mz _ _)) (MW.mz _ _)) (MW.mz _ _)) (MW.mz _ _)) (MW.mz _ _)) (MW.mz _ _)) (MW.mz _ _)) (MW.mz _ _)) (MW.mz _ _)) sq207)⟩, pp225, pp226, pp227, pp228, kp205, oh205, ck205⟩ hv205 dX8_readItem_410
                  ·
                    refine go_aload_n (pc := 375) rfl dX8_readItem_375 ?_
                    refine go_iload (pc := 376) rfl dX8_readItem_376 ?_
                    refine go_iload_n (pc := 378) rfl dX8_readItem_378 ?_
                    refine go_iload_n (pc := 379) rfl dX8_readItem_379 ?_
                    have EG : h150.2.1 = (w1 (w1 (w1 (w1 (w1 (w1 (w1 (w1 (w1 (w1 (w1 (w1 (w1 (w1 (w1 (w1 (w1 (w1 (w1 (w1 hx.2.1 73 S (v15 : Int32)) 77 (((130 * S) + v10.toInt)) (l5 : Int32)) 78 (((130 * S) + v10.toInt)) ((-1) : Int32)) 79 (((130 * S) + v10.toInt)) (l2 : Int32)) 80 (((130 * S) + v10.toInt)) (l3 : Int32)) 81 (((130 * S) + v10.toInt)) (v22 : Int32)) 82 (((130 * S) + v10.toInt)) (l4 : Int32)) 83 (((130 * S) + v10.toInt)) (0 : Int32)) 84 (((130 * S) + v10.toInt)) ((-2) : Int32)) 85 (((130 * S) + v10.toInt)) ((-1) : Int32)) 86 (((130 * S) + v10.toInt)) ((-1) : Int32)) 87 (((130 * S) + v10.toInt)) ((-1) : Int32)) 88 (((130 * S) + v10.toInt)) (l1 : Int32)) 89 ((2 * ((130 * S) + v10.toInt))) (0 : Int32)) 89 (((2 * ((130 * S) + v10.toInt)) + 1)) (0 : Int32)) 78 (((130 * S) + v10.toInt)) (v131 : Int32)) 93 (((40 * S) + v137.toInt)) (v11 : Int32)) 75 S (v143 : Int32)) 87 v148.toInt (v11 : Int32)) 91 l1.toInt (v11 : Int32)) := by rw [E150, E145, E140, E132, E39]
                    have z229 : (v15 : Int32).toInt = (v14.toInt + 1) := e16
                    have z230 : ((-1) : Int32).toInt = (-1) := (ti_c (v := (-1)) (a := (-1)) (by decide))
                    have z231 : (0 : Int32).toInt = 0 := (ti_c (v := 0) (a := 0) (by decide))
                    have z232 : ((-2) : Int32).toInt = (-2) := (ti_c (v := (-2)) (a := (-2)) (by decide))
                    have z233 : (v11 : Int32).toInt = ((130 * v6.toInt) + v10.toInt) := e12
                    have z234 : (v143 : Int32).toInt = (v142.toInt + 1) := e144
                    have y73 : V hx.2.1 73 S = V h.2.1 73 S := xve.v (by omega) (by omega)
                    have y75 : V hx.2.1 75 S = V h.2.1 75 S := xve.v (by omega) (by omega)
                    have ni : NI h.2.1 h154.2.1 S l1.toInt a4.toInt (((130 * S) + v10.toInt)) l5.toInt l4.toInt := NI.cr01 (its := l5.toInt) (nm := l4.toInt) S0 xve EG ve154 (by omega) (by omega) (by omega) (by omega) (by first | omega | decide) (by omega) (by decide) (by decide) (by decide) (by omega) (by decide) (by decide) (by omega) (by omega) (by omega) (by omega) (by omega) (by omega) (by omega) (by omega) (by omega) (by omega) (by omega) (by omega) (by omega) (by omega) (by omega)
                    obtain ⟨i1, i2, i3, i4, i5, i6, i7, i8⟩ := ni (ht.1) (by rw [x1]; exact ht.2.1) (by rw [x1]; exact ht.2.2)
                    have ze : (v11 : Int32).toInt = ((130 * S) + v10.toInt) := by rw [show (v11 : Int32).toInt = ((130 * v6.toInt) + v10.toInt) from e12]; omega
                    have sM235 : (h154.2.1 70 6).toInt = S := (congrArg Int32.toInt oh154.side).trans hS.symm
                    have g236 : (0 : Int) ≤ (h154.2.1 70 4).toInt := (hv154.2.1 70 4).1
                    have g237 : (h154.2.1 70 4).toInt ≤ 500 := (hv154.2.1 70 4).2
                    have g238 : (-2147483648 : Int) ≤ (h154.2.1 70 5).toInt := (hv154.2.1 70 5).1
                    have g239 : (h154.2.1 70 5).toInt ≤ 2147483647 := (hv154.2.1 70 5).2
                    have g240 : (h154.2.1 70 4).toInt = (v22.toInt + 1) := by rw [← (show v152 = h154.2.1 70 4 from (show v152 = h154.2.1 70 4 from by rw [hv154e]; exact g_iS.symm))] <;> exact e153
                    refine go_invV (pc := 380) (sl := 0) (ihT hv154 v11 (by rw [show (v11 : Int32).toInt = ((130 * v6.toInt) + v10.toInt) from e12]; omega) (by rw [show (v11 : Int32).toInt = ((130 * v6.toInt) + v10.toInt) from e12]; omega) l2 (by rw [show (l2 : Int32).toInt = l2.toInt from (ti_rfl l2)]; omega) (by rw [show (l2 : Int32).toInt = l2.toInt from (ti_rfl l2)]; omega) l3 (by rw [show (l3 : Int32).toInt = l3.toInt from (ti_rfl l3)]; omega) (by rw [show (l3 : Int32).toInt = l3.toInt from (ti_rfl l3)]; omega) (by rw [sM235]; exact (by omega)) (by omega) (by rw [sM235]; exact (by omega)) (by rw [sM235]; exact ⟨i1, by omega, by omega, by rw [ze, x3]; exact i6, by rw [ze]; omega⟩) (by omega)) mL_X8_209 iM_X8_readTest sM_X8_readTest (hv154.sh rfl) rfl rfl rfl (Nat.le_of_ble_eq_true rfl) (show d + 4 + 1 ≤ d + 5 by omega) (show 8 + (4 + 11) + 40 * (d + 4) ≤ 40 * (d + 5) by omega) (g_c0 hv154.ln) (Nat.le_of_ble_eq_true rfl) dX8_readItem_380 ?_
                    intro r h241 hq _
                    obtain ⟨rfl, ⟨Q242, hv241, sq243⟩, f244, f245, f246, f247, f248, f249, f250⟩ := hq
                    rw [sM235] at f246
                    rw [sM235] at f247
                    rw [sM235] at f249
                    have oh241 : OH h.2.1 h241.2.1 S := oh154.trans f249
                    have kp241 : KP h.2.1 h241.2.1 := kp154.trans f248
                    have ck241 : CKF h.2.1 → CKF h241.2.1 := fun z => f250 (ck154 z)
                    try rw [show (v11 : Int32).toInt = ((130 * v6.toInt) + v10.toInt) from e12] at f244
                    try rw [show (v11 : Int32).toInt = ((130 * v6.toInt) + v10.toInt) from e12] at f245
                    try rw [show (v11 : Int32).toInt = ((130 * v6.toInt) + v10.toInt) from e12] at f246
                    try rw [show (v11 : Int32).toInt = ((130 * v6.toInt) + v10.toInt) from e12] at f247
                    try rw [show (v11 : Int32).toInt = ((130 * v6.toInt) + v10.toInt) from e12] at f248
                    try rw [show (v11 : Int32).toInt = ((130 * v6.toInt) + v10.toInt) from e12] at f249
                    try rw [show (v11 : Int32).toInt = ((130 * v6.toInt) + v10.toInt) from e12] at f250
                    obtain ⟨u251, u251w⟩ : ∃ v : Int32, v = h241.2.1 70 4 := ⟨_, rfl⟩
                    have u251e : (h241.2.1 70 4).toInt = u251.toInt := by rw [u251w]
                    have u251l : 0 ≤ u251.toInt := by rw [u251w]; exact (hv241.2.1 70 4).1
                    have u251u : u251.toInt ≤ 500 := by rw [u251w]; exact (hv241.2.1 70 4).2
                    obtain ⟨u252, u252w⟩ : ∃ v : Int32, v = h241.2.1 70 5 := ⟨_, rfl⟩
                    have u252e : (h241.2.1 70 5).toInt = u252.toInt := by rw [u252w]
                    have u252l : -2147483648 ≤ u252.toInt := by rw [u252w]; exact (hv241.2.1 70 5).1
                    have u252u : u252.toInt ≤ 2147483647 := by rw [u252w]; exact (hv241.2.1 70 5).2
                    refine go_goto (pc := 383) (tgt := 410) (by decide) dX8_readItem_383 ?_
                    have g253 : (0 : Int) ≤ (h241.2.1 70 4).toInt := (hv241.2.1 70 4).1
                    have g254 : (h241.2.1 70 4).toInt ≤ 500 := (hv241.2.1 70 4).2
                    have g255 : (-2147483648 : Int) ≤ (h241.2.1 70 5).toInt := (hv241.2.1 70 5).1
                    have g256 : (h241.2.1 70 5).toInt ≤ 2147483647 := (hv241.2.1 70 5).2
                    have g257 : (h241.2.1 70 4).toInt = u251.toInt := by rw [← (show u251 = h241.2.1 70 4 from u251w)] <;> exact (ti_rfl u251)
                    have g258 : (h241.2.1 70 5).toInt = u252.toInt := by rw [← (show u252 = h241.2.1 70 5 from u252w)] <;> exact (ti_rfl u252)
                    have pp259 : (h241.2.1 70 5).toInt = 0 → (h.2.1 70 5).toInt = 0 := (by omega)
                    have pp260 : (h.2.1 70 4).toInt ≤ (h241.2.1 70 4).toInt := (by omega)
                    have pp261 : (h241.2.1 70 5).toInt = 0 → (h.2.1 70 4).toInt + 1 ≤ (h241.2.1 70 4).toInt ∧ 6 * (V h241.2.1 73 S - V h241.2.1 75 S) - (h241.2.1 70 4).toInt ≤ 6 * (V h.2.1 73 S - V h.2.1 75 S) - (h.2.1 70 4).toInt ∧ 2 * V h241.2.1 74 S - (h241.2.1 70 4).toInt ≤ 2 * V h.2.1 74 S - (h.2.1 70 4).toInt := (by omega)
                    have pp262 : (h241.2.1 70 5).toInt = 0 → RI h.2.1 h241.2.1 S a2.toInt a4.toInt := (fun hg => by rw [← x1]; exact RI.of S0 ni (by rw [← ze, ← x3]; exact (f247 (by omega))))
                    subst hS
                    exact gi_vret (pc := 410) ⟨rfl, ⟨_, hv241, (MW.trans (MW.trans (MW.trans (MW.trans (MW.trans (MW.trans (MW.trans (MW.trans (MW.trans (MW.trans (MW.trans (MW.trans (MW.trans (MW.trans (MW.trans (MW.trans (MW.trans (MW.trans (MW.trans (MW.trans (MW.trans sqx (MW.mz _ _)) (MW.mz _ _)) (MW.mz _ _)) (MW.mz _ _)) (MW.mz _ _)) (MW.mz _ _)) (MW.mz _ _)) (MW.mz _ _)) (MW.mz _ _)) (MW.mz _ _)) (MW.mz _ _)) (MW.mz _ _)) (MW.mz _ _)) (MW.mz _ _)) (MW.mz _ _)) (MW.mz _ _)) (MW.mz _ _)) (MW.mz _ _)) (MW.mz _ _)) (MW.mz _ _)) sq243)⟩, pp259, pp260, pp261, pp262, kp241, oh241, ck241⟩ hv241 dX8_readItem_410
              ·
                refine go_aload_n (pc := 352) rfl dX8_readItem_352 ?_
                refine go_iload (pc := 353) rfl dX8_readItem_353 ?_
                refine go_iload (pc := 355) rfl dX8_readItem_355 ?_
                have EG : h150.2.1 = (w1 (w1 (w1 (w1 (w1 (w1 (w1 (w1 (w1 (w1 (w1 (w1 (w1 (w1 (w1 (w1 (w1 (w1 (w1 (w1 hx.2.1 73 S (v15 : Int32)) 77 (((130 * S) + v10.toInt)) (l5 : Int32)) 78 (((130 * S) + v10.toInt)) ((-1) : Int32)) 79 (((130 * S) + v10.toInt)) (l2 : Int32)) 80 (((130 * S) + v10.toInt)) (l3 : Int32)) 81 (((130 * S) + v10.toInt)) (v22 : Int32)) 82 (((130 * S) + v10.toInt)) (l4 : Int32)) 83 (((130 * S) + v10.toInt)) (0 : Int32)) 84 (((130 * S) + v10.toInt)) ((-2) : Int32)) 85 (((130 * S) + v10.toInt)) ((-1) : Int32)) 86 (((130 * S) + v10.toInt)) ((-1) : Int32)) 87 (((130 * S) + v10.toInt)) ((-1) : Int32)) 88 (((130 * S) + v10.toInt)) (l1 : Int32)) 89 ((2 * ((130 * S) + v10.toInt))) (0 : Int32)) 89 (((2 * ((130 * S) + v10.toInt)) + 1)) (0 : Int32)) 78 (((130 * S) + v10.toInt)) (v131 : Int32)) 93 (((40 * S) + v137.toInt)) (v11 : Int32)) 75 S (v143 : Int32)) 87 v148.toInt (v11 : Int32)) 91 l1.toInt (v11 : Int32)) := by rw [E150, E145, E140, E132, E39]
                have z263 : (v15 : Int32).toInt = (v14.toInt + 1) := e16
                have z264 : ((-1) : Int32).toInt = (-1) := (ti_c (v := (-1)) (a := (-1)) (by decide))
                have z265 : (0 : Int32).toInt = 0 := (ti_c (v := 0) (a := 0) (by decide))
                have z266 : ((-2) : Int32).toInt = (-2) := (ti_c (v := (-2)) (a := (-2)) (by decide))
                have z267 : (v11 : Int32).toInt = ((130 * v6.toInt) + v10.toInt) := e12
                have z268 : (v143 : Int32).toInt = (v142.toInt + 1) := e144
                have y73 : V hx.2.1 73 S = V h.2.1 73 S := xve.v (by omega) (by omega)
                have y75 : V hx.2.1 75 S = V h.2.1 75 S := xve.v (by omega) (by omega)
                have ni : NI h.2.1 h154.2.1 S l1.toInt a4.toInt (((130 * S) + v10.toInt)) l5.toInt l4.toInt := NI.cr01 (its := l5.toInt) (nm := l4.toInt) S0 xve EG ve154 (by omega) (by omega) (by omega) (by omega) (by first | omega | decide) (by omega) (by decide) (by decide) (by decide) (by omega) (by decide) (by decide) (by omega) (by omega) (by omega) (by omega) (by omega) (by omega) (by omega) (by omega) (by omega) (by omega) (by omega) (by omega) (by omega) (by omega) (by omega)
                obtain ⟨i1, i2, i3, i4, i5, i6, i7, i8⟩ := ni (ht.1) (by rw [x1]; exact ht.2.1) (by rw [x1]; exact ht.2.2)
                have ze : (v11 : Int32).toInt = ((130 * S) + v10.toInt) := by rw [show (v11 : Int32).toInt = ((130 * v6.toInt) + v10.toInt) from e12]; omega
                have sM269 : (h154.2.1 70 6).toInt = S := (congrArg Int32.toInt oh154.side).trans hS.symm
                have g270 : (0 : Int) ≤ (h154.2.1 70 4).toInt := (hv154.2.1 70 4).1
                have g271 : (h154.2.1 70 4).toInt ≤ 500 := (hv154.2.1 70 4).2
                have g272 : (-2147483648 : Int) ≤ (h154.2.1 70 5).toInt := (hv154.2.1 70 5).1
                have g273 : (h154.2.1 70 5).toInt ≤ 2147483647 := (hv154.2.1 70 5).2
                have g274 : (h154.2.1 70 4).toInt = (v22.toInt + 1) := by rw [← (show v152 = h154.2.1 70 4 from (show v152 = h154.2.1 70 4 from by rw [hv154e]; exact g_iS.symm))] <;> exact e153
                refine go_invV (pc := 357) (sl := 0) (s_X8_readSet l (d + 0) hv154 v11 (by rw [show (v11 : Int32).toInt = ((130 * v6.toInt) + v10.toInt) from e12]; omega) (by rw [show (v11 : Int32).toInt = ((130 * v6.toInt) + v10.toInt) from e12]; omega) l4 (by rw [show (l4 : Int32).toInt = l4.toInt from (ti_rfl l4)]; omega) (by rw [show (l4 : Int32).toInt = l4.toInt from (ti_rfl l4)]; omega) (by rw [sM269]; exact (by omega))) mL_X8_205 iM_X8_readSet sM_X8_readSet (hv154.sh rfl) rfl rfl rfl (Nat.le_of_ble_eq_true rfl) (show d + 0 + 4 + 1 ≤ d + 5 by omega) (show 8 + (3 + 11) + 40 * (d + 0 + 4) ≤ 40 * (d + 5) by omega) (g_c0 hv154.ln) (Nat.le_of_ble_eq_true rfl) dX8_readItem_357 ?_
                intro r h275 hq _
                obtain ⟨rfl, ⟨Q276, hv275, sq277⟩, f278, f279, f280, f281, f282, f283, f284, f285, f286⟩ := hq
                rw [sM269] at f280
                rw [sM269] at f281
                rw [sM269] at f282
                rw [sM269] at f283
                rw [sM269] at f285
                have oh275 : OH h.2.1 h275.2.1 S := oh154.trans f285
                have kp275 : KP h.2.1 h275.2.1 := kp154.trans f284
                have ck275 : CKF h.2.1 → CKF h275.2.1 := fun z => f286 (ck154 z)
                try rw [show (v11 : Int32).toInt = ((130 * v6.toInt) + v10.toInt) from e12] at f278
                try rw [show (v11 : Int32).toInt = ((130 * v6.toInt) + v10.toInt) from e12] at f279
                try rw [show (v11 : Int32).toInt = ((130 * v6.toInt) + v10.toInt) from e12] at f280
                try rw [show (v11 : Int32).toInt = ((130 * v6.toInt) + v10.toInt) from e12] at f281
                try rw [show (v11 : Int32).toInt = ((130 * v6.toInt) + v10.toInt) from e12] at f282
                try rw [show (v11 : Int32).toInt = ((130 * v6.toInt) + v10.toInt) from e12] at f283
                try rw [show (v11 : Int32).toInt = ((130 * v6.toInt) + v10.toInt) from e12] at f284
                try rw [show (v11 : Int32).toInt = ((130 * v6.toInt) + v10.toInt) from e12] at f285
                try rw [show (v11 : Int32).toInt = ((130 * v6.toInt) + v10.toInt) from e12] at f286
                obtain ⟨u287, u287w⟩ : ∃ v : Int32, v = h275.2.1 70 4 := ⟨_, rfl⟩
                have u287e : (h275.2.1 70 4).toInt = u287.toInt := by rw [u287w]
                have u287l : 0 ≤ u287.toInt := by rw [u287w]; exact (hv275.2.1 70 4).1
                have u287u : u287.toInt ≤ 500 := by rw [u287w]; exact (hv275.2.1 70 4).2
                obtain ⟨u288, u288w⟩ : ∃ v : Int32, v = h275.2.1 70 5 := ⟨_, rfl⟩
                have u288e : (h275.2.1 70 5).toInt = u288.toInt := by rw [u288w]
                have u288l : -2147483648 ≤ u288.toInt := by rw [u288w]; exact (hv275.2.1 70 5).1
                have u288u : u288.toInt ≤ 2147483647 := by rw [u288w]; exact (hv275.2.1 70 5).2
                refine go_goto (pc := 360) (tgt := 410) (by decide) dX8_readItem_360 ?_
                have g289 : (0 : Int) ≤ (h275.2.1 70 4).toInt := (hv275.2.1 70 4).1
                have g290 : (h275.2.1 70 4).toInt ≤ 500 := (hv275.2.1 70 4).2
                have g291 : (-2147483648 : Int) ≤ (h275.2.1 70 5).toInt := (hv275.2.1 70 5).1
                have g292 : (h275.2.1 70 5).toInt ≤ 2147483647 := (hv275.2.1 70 5).2
                have g293 : (h275.2.1 70 4).toInt = u287.toInt := by rw [← (show u287 = h275.2.1 70 4 from u287w)] <;> exact (ti_rfl u287)
                have g294 : (h275.2.1 70 5).toInt = u288.toInt := by rw [← (show u288 = h275.2.1 70 5 from u288w)] <;> exact (ti_rfl u288)
                have pp295 : (h275.2.1 70 5).toInt = 0 → (h.2.1 70 5).toInt = 0 := (by omega)
                have pp296 : (h.2.1 70 4).toInt ≤ (h275.2.1 70 4).toInt := (by omega)
                have pp297 : (h275.2.1 70 5).toInt = 0 → (h.2.1 70 4).toInt + 1 ≤ (h275.2.1 70 4).toInt ∧ 6 * (V h275.2.1 73 S - V h275.2.1 75 S) - (h275.2.1 70 4).toInt ≤ 6 * (V h.2.1 73 S - V h.2.1 75 S) - (h.2.1 70 4).toInt ∧ 2 * V h275.2.1 74 S - (h275.2.1 70 4).toInt ≤ 2 * V h.2.1 74 S - (h.2.1 70 4).toInt := (by omega)
                have pp298 : (h275.2.1 70 5).toInt = 0 → RI h.2.1 h275.2.1 S a2.toInt a4.toInt := (fun hg => by rw [← x1]; exact RI.of S0 ni (by rw [← ze, ← x3]; exact (f283 (by omega) l3.toInt (by rw [ze]; omega) (by rw [ze]; omega))))
                subst hS
                exact gi_vret (pc := 410) ⟨rfl, ⟨_, hv275, (MW.trans (MW.trans (MW.trans (MW.trans (MW.trans (MW.trans (MW.trans (MW.trans (MW.trans (MW.trans (MW.trans (MW.trans (MW.trans (MW.trans (MW.trans (MW.trans (MW.trans (MW.trans (MW.trans (MW.trans (MW.trans sqx (MW.mz _ _)) (MW.mz _ _)) (MW.mz _ _)) (MW.mz _ _)) (MW.mz _ _)) (MW.mz _ _)) (MW.mz _ _)) (MW.mz _ _)) (MW.mz _ _)) (MW.mz _ _)) (MW.mz _ _)) (MW.mz _ _)) (MW.mz _ _)) (MW.mz _ _)) (MW.mz _ _)) (MW.mz _ _)) (MW.mz _ _)) (MW.mz _ _)) (MW.mz _ _)) (MW.mz _ _)) sq277)⟩, pp295, pp296, pp297, pp298, kp275, oh275, ck275⟩ hv275 dX8_readItem_410
            ·
              refine go_aload_n (pc := 305) rfl dX8_readItem_305 ?_
              refine gi_getF (pc := 306) (q := 90) hv145 fL_X8_68 rfl (Nat.le_of_ble_eq_true rfl) rfl (hv145.rf (by decide)) dX8_readItem_306 ?_
              refine go_iload_n (pc := 309) rfl dX8_readItem_309 ?_
              refine go_iload (pc := 310) rfl dX8_readItem_310 ?_
              refine gi_fst (pc := 312) (lo := -1) (hi := 259) (len := 560) hv145 (ti_rfl l1) e12 rfl (by omega) (by omega) (fun _ => rfl) (by omega) (by omega) (by omega) dX8_readItem_312 (fun h299 hv299 hv299e => ?_)
              refine go_goto (pc := 313) (tgt := 329) (by decide) dX8_readItem_313 ?_
              refine go_aload_n (pc := 329) rfl dX8_readItem_329 ?_
              refine gi_getF (pc := 330) (q := 91) hv299 fL_X8_71 rfl (Nat.le_of_ble_eq_true rfl) rfl (hv299.rf (by decide)) dX8_readItem_330 ?_
              refine go_iload_n (pc := 333) rfl dX8_readItem_333 ?_
              refine go_iload (pc := 334) rfl dX8_readItem_334 ?_
              refine gi_fst (pc := 336) (lo := -1) (hi := 259) (len := 560) hv299 (ti_rfl l1) e12 rfl (by omega) (by omega) (fun _ => rfl) (by omega) (by omega) (by omega) dX8_readItem_336 (fun h300 hv300 hv300e => ?_)
              refine go_aload_n (pc := 337) rfl dX8_readItem_337 ?_
              refine go_dup (pc := 338) rfl dX8_readItem_338 ?_
              refine gi_get (pc := 339) (lo := 0) (hi := 500) hv300 fL_X8_163 rfl (Nat.le_of_ble_eq_true rfl) rfl rfl dX8_readItem_339 (fun v301 v301l v301u v301w => ?_)
              have v301r : v22 = h300.2.1 70 4 := (show v22 = h300.2.1 70 4 from by rw [hv300e]; exact (g_iI rfl (show v22 = h299.2.1 70 4 from by rw [hv299e]; exact (g_iI rfl (show v22 = h145.2.1 70 4 from by rw [hv145e]; exact (g_iI rfl (show v22 = h140.2.1 70 4 from by rw [hv140e]; exact (g_iI rfl (show v22 = h132.2.1 70 4 from by rw [hv132e]; exact (g_iI rfl (show v22 = h39.2.1 70 4 from by rw [hv39e]; exact (g_iI rfl (show v22 = h34.2.1 70 4 from by rw [hv34e]; exact (g_iI rfl (show v22 = h31.2.1 70 4 from by rw [hv31e]; exact (g_iI rfl (show v22 = h30.2.1 70 4 from by rw [hv30e]; exact (g_iI rfl (show v22 = h29.2.1 70 4 from by rw [hv29e]; exact (g_iI rfl (show v22 = h28.2.1 70 4 from by rw [hv28e]; exact (g_iI rfl (show v22 = h27.2.1 70 4 from by rw [hv27e]; exact (g_iI rfl (show v22 = h26.2.1 70 4 from by rw [hv26e]; exact (g_iI rfl (show v22 = h25.2.1 70 4 from by rw [hv25e]; exact (g_iI rfl (show v22 = h24.2.1 70 4 from by rw [hv24e]; exact (g_iI rfl v22w.symm).symm).symm).symm).symm).symm).symm).symm).symm).symm).symm).symm).symm).symm).symm).symm).symm).symm).symm).symm).symm).symm).symm).symm).symm).symm).symm).symm).symm).symm)
              have v301q : TI v301 v22.toInt := by rw [v301w.trans v301r.symm]; exact (ti_rfl v22)
              refine go_iconst (pc := 342) (v := 1) (by decide) dX8_readItem_342 ?_
              refine gf_iadd (pc := 343) v301q (ti_c (v := 1) (a := 1) (by decide)) (by omega) (by omega) dX8_readItem_343 (fun v302 e303 => ?_)
              have E300 : h300.2.1 = (w1 (w1 h145.2.1 90 l1.toInt (v11 : Int32)) 91 l1.toInt (v11 : Int32)) := by
                rw [hv300e, hv299e]
                rfl
              have oh300 : OH h.2.1 h300.2.1 S := by rw [E300]; exact ((oh145.trans (OH.w 280 rfl (by omega) (by omega) (by omega) (by omega))).trans (OH.w 280 rfl (by omega) (by omega) (by omega) (by omega)))
              have kp300 : KP h.2.1 h300.2.1 := by rw [E300]; exact ((kp145.trans (KP.w (by omega))).trans (KP.w (by omega)))
              have n73_300 : V h300.2.1 73 S = V h145.2.1 73 S := by rw [E300, V_ne (by omega), V_ne (by omega)]
              have n74_300 : V h300.2.1 74 S = V h145.2.1 74 S := by rw [E300, V_ne (by omega), V_ne (by omega)]
              have n75_300 : V h300.2.1 75 S = V h145.2.1 75 S := by rw [E300, V_ne (by omega), V_ne (by omega)]
              have ck300 : CKF h.2.1 → CKF h300.2.1 := fun z => by rw [E300]; exact (CKF.w (by omega) (CKF.w (by omega) (ck145 z)))
              refine gi_put (pc := 344) (lo := 0) (hi := 500) hv300 e303 (fP_X8_163 _) rfl (Nat.le_of_ble_eq_true rfl) rfl rfl (by omega) (by omega) rfl rfl (by decide) (by decide) (by decide) (by decide) dX8_readItem_344 (fun h304 hv304 hv304e => ?_)
              have ve304 : VE h300.2.1 h304.2.1 := VE.of hv300 hv304
              have oh304 : OH h.2.1 h304.2.1 S := oh300.trans (OH.of hv300 hv304 S)
              have kp304 : KP h.2.1 h304.2.1 := kp300.trans (KP.ve ve304)
              have ck304 : CKF h.2.1 → CKF h304.2.1 := fun z => CKF.ve ve304 (ck300 z)
              have n73_304 : V h304.2.1 73 S = V h300.2.1 73 S := ve304.v (by omega) (by omega)
              have n74_304 : V h304.2.1 74 S = V h300.2.1 74 S := ve304.v (by omega) (by omega)
              have n75_304 : V h304.2.1 75 S = V h300.2.1 75 S := ve304.v (by omega) (by omega)
              refine go_iload (pc := 347) rfl dX8_readItem_347 ?_
              refine gf_if_ne (pc := 349) (tgt := 363) (ti_rfl l5) (by decide) dX8_readItem_349 (fun q305 => ?_) (fun q305 => ?_)
              ·
                refine go_iload (pc := 363) rfl dX8_readItem_363 ?_
                refine go_iconst (pc := 365) (v := 2) (by decide) dX8_readItem_365 ?_
                refine gf_icmp_eq (pc := 366) (tgt := 375) (ti_rfl l5) (ti_c (v := 2) (a := 2) (by decide)) (by decide) dX8_readItem_366 (fun q306 => ?_) (fun q306 => ?_)
                ·
                  refine go_aload_n (pc := 375) rfl dX8_readItem_375 ?_
                  refine go_iload (pc := 376) rfl dX8_readItem_376 ?_
                  refine go_iload_n (pc := 378) rfl dX8_readItem_378 ?_
                  refine go_iload_n (pc := 379) rfl dX8_readItem_379 ?_
                  have EG : h300.2.1 = (w1 (w1 (w1 (w1 (w1 (w1 (w1 (w1 (w1 (w1 (w1 (w1 (w1 (w1 (w1 (w1 (w1 (w1 (w1 (w1 hx.2.1 73 S (v15 : Int32)) 77 (((130 * S) + v10.toInt)) (l5 : Int32)) 78 (((130 * S) + v10.toInt)) ((-1) : Int32)) 79 (((130 * S) + v10.toInt)) (l2 : Int32)) 80 (((130 * S) + v10.toInt)) (l3 : Int32)) 81 (((130 * S) + v10.toInt)) (v22 : Int32)) 82 (((130 * S) + v10.toInt)) (l4 : Int32)) 83 (((130 * S) + v10.toInt)) (0 : Int32)) 84 (((130 * S) + v10.toInt)) ((-2) : Int32)) 85 (((130 * S) + v10.toInt)) ((-1) : Int32)) 86 (((130 * S) + v10.toInt)) ((-1) : Int32)) 87 (((130 * S) + v10.toInt)) ((-1) : Int32)) 88 (((130 * S) + v10.toInt)) (l1 : Int32)) 89 ((2 * ((130 * S) + v10.toInt))) (0 : Int32)) 89 (((2 * ((130 * S) + v10.toInt)) + 1)) (0 : Int32)) 78 (((130 * S) + v10.toInt)) (v131 : Int32)) 93 (((40 * S) + v137.toInt)) (v11 : Int32)) 75 S (v143 : Int32)) 90 l1.toInt (v11 : Int32)) 91 l1.toInt (v11 : Int32)) := by rw [E300, E145, E140, E132, E39]
                  have z307 : (v15 : Int32).toInt = (v14.toInt + 1) := e16
                  have z308 : ((-1) : Int32).toInt = (-1) := (ti_c (v := (-1)) (a := (-1)) (by decide))
                  have z309 : (0 : Int32).toInt = 0 := (ti_c (v := 0) (a := 0) (by decide))
                  have z310 : ((-2) : Int32).toInt = (-2) := (ti_c (v := (-2)) (a := (-2)) (by decide))
                  have z311 : (v11 : Int32).toInt = ((130 * v6.toInt) + v10.toInt) := e12
                  have z312 : (v143 : Int32).toInt = (v142.toInt + 1) := e144
                  have y73 : V hx.2.1 73 S = V h.2.1 73 S := xve.v (by omega) (by omega)
                  have y75 : V hx.2.1 75 S = V h.2.1 75 S := xve.v (by omega) (by omega)
                  have ni : NI h.2.1 h304.2.1 S l1.toInt a4.toInt (((130 * S) + v10.toInt)) l5.toInt l4.toInt := NI.cr00 (its := l5.toInt) (nm := l4.toInt) S0 xve EG ve304 (by omega) (by omega) (by omega) (by omega) (by first | omega | decide) (by omega) (by decide) (by decide) (by decide) (by omega) (by decide) (by decide) (by omega) (by omega) (by omega) (by omega) (by omega) (by omega) (by omega) (by omega) (by omega) (by omega) (by omega) (by omega)
                  obtain ⟨i1, i2, i3, i4, i5, i6, i7, i8⟩ := ni (ht.1) (by rw [x1]; exact ht.2.1) (by rw [x1]; exact ht.2.2)
                  have ze : (v11 : Int32).toInt = ((130 * S) + v10.toInt) := by rw [show (v11 : Int32).toInt = ((130 * v6.toInt) + v10.toInt) from e12]; omega
                  have sM313 : (h304.2.1 70 6).toInt = S := (congrArg Int32.toInt oh304.side).trans hS.symm
                  have g314 : (0 : Int) ≤ (h304.2.1 70 4).toInt := (hv304.2.1 70 4).1
                  have g315 : (h304.2.1 70 4).toInt ≤ 500 := (hv304.2.1 70 4).2
                  have g316 : (-2147483648 : Int) ≤ (h304.2.1 70 5).toInt := (hv304.2.1 70 5).1
                  have g317 : (h304.2.1 70 5).toInt ≤ 2147483647 := (hv304.2.1 70 5).2
                  have g318 : (h304.2.1 70 4).toInt = (v22.toInt + 1) := by rw [← (show v302 = h304.2.1 70 4 from (show v302 = h304.2.1 70 4 from by rw [hv304e]; exact g_iS.symm))] <;> exact e303
                  refine go_invV (pc := 380) (sl := 0) (ihT hv304 v11 (by rw [show (v11 : Int32).toInt = ((130 * v6.toInt) + v10.toInt) from e12]; omega) (by rw [show (v11 : Int32).toInt = ((130 * v6.toInt) + v10.toInt) from e12]; omega) l2 (by rw [show (l2 : Int32).toInt = l2.toInt from (ti_rfl l2)]; omega) (by rw [show (l2 : Int32).toInt = l2.toInt from (ti_rfl l2)]; omega) l3 (by rw [show (l3 : Int32).toInt = l3.toInt from (ti_rfl l3)]; omega) (by rw [show (l3 : Int32).toInt = l3.toInt from (ti_rfl l3)]; omega) (by rw [sM313]; exact (by omega)) (by omega) (by rw [sM313]; exact (by omega)) (by rw [sM313]; exact ⟨i1, by omega, by omega, by rw [ze, x3]; exact i6, by rw [ze]; omega⟩) (by omega)) mL_X8_209 iM_X8_readTest sM_X8_readTest (hv304.sh rfl) rfl rfl rfl (Nat.le_of_ble_eq_true rfl) (show d + 4 + 1 ≤ d + 5 by omega) (show 8 + (4 + 11) + 40 * (d + 4) ≤ 40 * (d + 5) by omega) (g_c0 hv304.ln) (Nat.le_of_ble_eq_true rfl) dX8_readItem_380 ?_
                  intro r h319 hq _
                  obtain ⟨rfl, ⟨Q320, hv319, sq321⟩, f322, f323, f324, f325, f326, f327, f328⟩ := hq
                  rw [sM313] at f324
                  rw [sM313] at f325
                  rw [sM313] at f327
                  have oh319 : OH h.2.1 h319.2.1 S := oh304.trans f327
                  have kp319 : KP h.2.1 h319.2.1 := kp304.trans f326
                  have ck319 : CKF h.2.1 → CKF h319.2.1 := fun z => f328 (ck304 z)
                  try rw [show (v11 : Int32).toInt = ((130 * v6.toInt) + v10.toInt) from e12] at f322
                  try rw [show (v11 : Int32).toInt = ((130 * v6.toInt) + v10.toInt) from e12] at f323
                  try rw [show (v11 : Int32).toInt = ((130 * v6.toInt) + v10.toInt) from e12] at f324
                  try rw [show (v11 : Int32).toInt = ((130 * v6.toInt) + v10.toInt) from e12] at f325
                  try rw [show (v11 : Int32).toInt = ((130 * v6.toInt) + v10.toInt) from e12] at f326
                  try rw [show (v11 : Int32).toInt = ((130 * v6.toInt) + v10.toInt) from e12] at f327
                  try rw [show (v11 : Int32).toInt = ((130 * v6.toInt) + v10.toInt) from e12] at f328
                  obtain ⟨u329, u329w⟩ : ∃ v : Int32, v = h319.2.1 70 4 := ⟨_, rfl⟩
                  have u329e : (h319.2.1 70 4).toInt = u329.toInt := by rw [u329w]
                  have u329l : 0 ≤ u329.toInt := by rw [u329w]; exact (hv319.2.1 70 4).1
                  have u329u : u329.toInt ≤ 500 := by rw [u329w]; exact (hv319.2.1 70 4).2
                  obtain ⟨u330, u330w⟩ : ∃ v : Int32, v = h319.2.1 70 5 := ⟨_, rfl⟩
                  have u330e : (h319.2.1 70 5).toInt = u330.toInt := by rw [u330w]
                  have u330l : -2147483648 ≤ u330.toInt := by rw [u330w]; exact (hv319.2.1 70 5).1
                  have u330u : u330.toInt ≤ 2147483647 := by rw [u330w]; exact (hv319.2.1 70 5).2
                  refine go_goto (pc := 383) (tgt := 410) (by decide) dX8_readItem_383 ?_
                  have g331 : (0 : Int) ≤ (h319.2.1 70 4).toInt := (hv319.2.1 70 4).1
                  have g332 : (h319.2.1 70 4).toInt ≤ 500 := (hv319.2.1 70 4).2
                  have g333 : (-2147483648 : Int) ≤ (h319.2.1 70 5).toInt := (hv319.2.1 70 5).1
                  have g334 : (h319.2.1 70 5).toInt ≤ 2147483647 := (hv319.2.1 70 5).2
                  have g335 : (h319.2.1 70 4).toInt = u329.toInt := by rw [← (show u329 = h319.2.1 70 4 from u329w)] <;> exact (ti_rfl u329)
                  have g336 : (h319.2.1 70 5).toInt = u330.toInt := by rw [← (show u330 = h319.2.1 70 5 from u330w)] <;> exact (ti_rfl u330)
                  have pp337 : (h319.2.1 70 5).toInt = 0 → (h.2.1 70 5).toInt = 0 := (by omega)
                  have pp338 : (h.2.1 70 4).toInt ≤ (h319.2.1 70 4).toInt := (by omega)
                  have pp339 : (h319.2.1 70 5).toInt = 0 → (h.2.1 70 4).toInt + 1 ≤ (h319.2.1 70 4).toInt ∧ 6 * (V h319.2.1 73 S - V h319.2.1 75 S) - (h319.2.1 70 4).toInt ≤ 6 * (V h.2.1 73 S - V h.2.1 75 S) - (h.2.1 70 4).toInt ∧ 2 * V h319.2.1 74 S - (h319.2.1 70 4).toInt ≤ 2 * V h.2.1 74 S - (h.2.1 70 4).toInt := (by omega)
                  have pp340 : (h319.2.1 70 5).toInt = 0 → RI h.2.1 h319.2.1 S a2.toInt a4.toInt := (fun hg => by rw [← x1]; exact RI.of S0 ni (by rw [← ze, ← x3]; exact (f325 (by omega))))
                  subst hS
                  exact gi_vret (pc := 410) ⟨rfl, ⟨_, hv319, (MW.trans (MW.trans (MW.trans (MW.trans (MW.trans (MW.trans (MW.trans (MW.trans (MW.trans (MW.trans (MW.trans (MW.trans (MW.trans (MW.trans (MW.trans (MW.trans (MW.trans (MW.trans (MW.trans (MW.trans (MW.trans sqx (MW.mz _ _)) (MW.mz _ _)) (MW.mz _ _)) (MW.mz _ _)) (MW.mz _ _)) (MW.mz _ _)) (MW.mz _ _)) (MW.mz _ _)) (MW.mz _ _)) (MW.mz _ _)) (MW.mz _ _)) (MW.mz _ _)) (MW.mz _ _)) (MW.mz _ _)) (MW.mz _ _)) (MW.mz _ _)) (MW.mz _ _)) (MW.mz _ _)) (MW.mz _ _)) (MW.mz _ _)) sq321)⟩, pp337, pp338, pp339, pp340, kp319, oh319, ck319⟩ hv319 dX8_readItem_410
                ·
                  refine go_iload (pc := 369) rfl dX8_readItem_369 ?_
                  refine go_iconst (pc := 371) (v := 3) (by decide) dX8_readItem_371 ?_
                  refine gf_icmp_ne (pc := 372) (tgt := 386) (ti_rfl l5) (ti_c (v := 3) (a := 3) (by decide)) (by decide) dX8_readItem_372 (fun q341 => ?_) (fun q341 => ?_)
                  ·
                    refine go_iload (pc := 386) rfl dX8_readItem_386 ?_
                    refine go_bipush (pc := 388) (v := 6) (by decide) dX8_readItem_388 ?_
                    refine gf_icmp_ne (pc := 390) (tgt := 404) (ti_rfl l5) (ti_c (v := 6) (a := 6) (by decide)) (by decide) dX8_readItem_390 (fun q342 => ?_) (fun q342 => False.elim (by omega))
                    refine go_aload_n (pc := 404) rfl dX8_readItem_404 ?_
                    refine go_iload (pc := 405) rfl dX8_readItem_405 ?_
                    have EG : h300.2.1 = (w1 (w1 (w1 (w1 (w1 (w1 (w1 (w1 (w1 (w1 (w1 (w1 (w1 (w1 (w1 (w1 (w1 (w1 (w1 (w1 hx.2.1 73 S (v15 : Int32)) 77 (((130 * S) + v10.toInt)) (l5 : Int32)) 78 (((130 * S) + v10.toInt)) ((-1) : Int32)) 79 (((130 * S) + v10.toInt)) (l2 : Int32)) 80 (((130 * S) + v10.toInt)) (l3 : Int32)) 81 (((130 * S) + v10.toInt)) (v22 : Int32)) 82 (((130 * S) + v10.toInt)) (l4 : Int32)) 83 (((130 * S) + v10.toInt)) (0 : Int32)) 84 (((130 * S) + v10.toInt)) ((-2) : Int32)) 85 (((130 * S) + v10.toInt)) ((-1) : Int32)) 86 (((130 * S) + v10.toInt)) ((-1) : Int32)) 87 (((130 * S) + v10.toInt)) ((-1) : Int32)) 88 (((130 * S) + v10.toInt)) (l1 : Int32)) 89 ((2 * ((130 * S) + v10.toInt))) (0 : Int32)) 89 (((2 * ((130 * S) + v10.toInt)) + 1)) (0 : Int32)) 78 (((130 * S) + v10.toInt)) (v131 : Int32)) 93 (((40 * S) + v137.toInt)) (v11 : Int32)) 75 S (v143 : Int32)) 90 l1.toInt (v11 : Int32)) 91 l1.toInt (v11 : Int32)) := by rw [E300, E145, E140, E132, E39]
                    have z343 : (v15 : Int32).toInt = (v14.toInt + 1) := e16
                    have z344 : ((-1) : Int32).toInt = (-1) := (ti_c (v := (-1)) (a := (-1)) (by decide))
                    have z345 : (0 : Int32).toInt = 0 := (ti_c (v := 0) (a := 0) (by decide))
                    have z346 : ((-2) : Int32).toInt = (-2) := (ti_c (v := (-2)) (a := (-2)) (by decide))
                    have z347 : (v11 : Int32).toInt = ((130 * v6.toInt) + v10.toInt) := e12
                    have z348 : (v143 : Int32).toInt = (v142.toInt + 1) := e144
                    have y73 : V hx.2.1 73 S = V h.2.1 73 S := xve.v (by omega) (by omega)
                    have y75 : V hx.2.1 75 S = V h.2.1 75 S := xve.v (by omega) (by omega)
                    have ni : NI h.2.1 h304.2.1 S l1.toInt a4.toInt (((130 * S) + v10.toInt)) l5.toInt l4.toInt := NI.cr00 (its := l5.toInt) (nm := l4.toInt) S0 xve EG ve304 (by omega) (by omega) (by omega) (by omega) (by first | omega | decide) (by omega) (by decide) (by decide) (by decide) (by omega) (by decide) (by decide) (by omega) (by omega) (by omega) (by omega) (by omega) (by omega) (by omega) (by omega) (by omega) (by omega) (by omega) (by omega)
                    obtain ⟨i1, i2, i3, i4, i5, i6, i7, i8⟩ := ni (ht.1) (by rw [x1]; exact ht.2.1) (by rw [x1]; exact ht.2.2)
                    have ze : (v11 : Int32).toInt = ((130 * S) + v10.toInt) := by rw [show (v11 : Int32).toInt = ((130 * v6.toInt) + v10.toInt) from e12]; omega
                    have sM349 : (h304.2.1 70 6).toInt = S := (congrArg Int32.toInt oh304.side).trans hS.symm
                    have g350 : (0 : Int) ≤ (h304.2.1 70 4).toInt := (hv304.2.1 70 4).1
                    have g351 : (h304.2.1 70 4).toInt ≤ 500 := (hv304.2.1 70 4).2
                    have g352 : (-2147483648 : Int) ≤ (h304.2.1 70 5).toInt := (hv304.2.1 70 5).1
                    have g353 : (h304.2.1 70 5).toInt ≤ 2147483647 := (hv304.2.1 70 5).2
                    have g354 : (h304.2.1 70 4).toInt = (v22.toInt + 1) := by rw [← (show v302 = h304.2.1 70 4 from (show v302 = h304.2.1 70 4 from by rw [hv304e]; exact g_iS.symm))] <;> exact e303
                    refine go_invV (pc := 407) (sl := 0) (s_X8_readEnd l (d + 0) hv304 v11 (by rw [show (v11 : Int32).toInt = ((130 * v6.toInt) + v10.toInt) from e12]; omega) (by rw [show (v11 : Int32).toInt = ((130 * v6.toInt) + v10.toInt) from e12]; omega) (by rw [sM349]; exact (by omega))) mL_X8_215 iM_X8_readEnd sM_X8_readEnd (hv304.sh rfl) rfl rfl rfl (Nat.le_of_ble_eq_true rfl) (show d + 0 + 4 + 1 ≤ d + 5 by omega) (show 8 + (2 + 11) + 40 * (d + 0 + 4) ≤ 40 * (d + 5) by omega) (g_c0 hv304.ln) (Nat.le_of_ble_eq_true rfl) dX8_readItem_407 ?_
                    intro r h355 hq _
                    obtain ⟨rfl, ⟨Q356, hv355, sq357⟩, f358, f359, f360, f361, f362, f363, f364, f365, f366⟩ := hq
                    rw [sM349] at f360
                    rw [sM349] at f361
                    rw [sM349] at f362
                    rw [sM349] at f363
                    rw [sM349] at f365
                    have oh355 : OH h.2.1 h355.2.1 S := oh304.trans f365
                    have kp355 : KP h.2.1 h355.2.1 := kp304.trans f364
                    have ck355 : CKF h.2.1 → CKF h355.2.1 := fun z => f366 (ck304 z)
                    try rw [show (v11 : Int32).toInt = ((130 * v6.toInt) + v10.toInt) from e12] at f358
                    try rw [show (v11 : Int32).toInt = ((130 * v6.toInt) + v10.toInt) from e12] at f359
                    try rw [show (v11 : Int32).toInt = ((130 * v6.toInt) + v10.toInt) from e12] at f360
                    try rw [show (v11 : Int32).toInt = ((130 * v6.toInt) + v10.toInt) from e12] at f361
                    try rw [show (v11 : Int32).toInt = ((130 * v6.toInt) + v10.toInt) from e12] at f362
                    try rw [show (v11 : Int32).toInt = ((130 * v6.toInt) + v10.toInt) from e12] at f363
                    try rw [show (v11 : Int32).toInt = ((130 * v6.toInt) + v10.toInt) from e12] at f364
                    try rw [show (v11 : Int32).toInt = ((130 * v6.toInt) + v10.toInt) from e12] at f365
                    try rw [show (v11 : Int32).toInt = ((130 * v6.toInt) + v10.toInt) from e12] at f366
                    obtain ⟨u367, u367w⟩ : ∃ v : Int32, v = h355.2.1 70 4 := ⟨_, rfl⟩
                    have u367e : (h355.2.1 70 4).toInt = u367.toInt := by rw [u367w]
                    have u367l : 0 ≤ u367.toInt := by rw [u367w]; exact (hv355.2.1 70 4).1
                    have u367u : u367.toInt ≤ 500 := by rw [u367w]; exact (hv355.2.1 70 4).2
                    obtain ⟨u368, u368w⟩ : ∃ v : Int32, v = h355.2.1 70 5 := ⟨_, rfl⟩
                    have u368e : (h355.2.1 70 5).toInt = u368.toInt := by rw [u368w]
                    have u368l : -2147483648 ≤ u368.toInt := by rw [u368w]; exact (hv355.2.1 70 5).1
                    have u368u : u368.toInt ≤ 2147483647 := by rw [u368w]; exact (hv355.2.1 70 5).2
                    have g369 : (0 : Int) ≤ (h355.2.1 70 4).toInt := (hv355.2.1 70 4).1
                    have g370 : (h355.2.1 70 4).toInt ≤ 500 := (hv355.2.1 70 4).2
                    have g371 : (-2147483648 : Int) ≤ (h355.2.1 70 5).toInt := (hv355.2.1 70 5).1
                    have g372 : (h355.2.1 70 5).toInt ≤ 2147483647 := (hv355.2.1 70 5).2
                    have g373 : (h355.2.1 70 4).toInt = u367.toInt := by rw [← (show u367 = h355.2.1 70 4 from u367w)] <;> exact (ti_rfl u367)
                    have g374 : (h355.2.1 70 5).toInt = u368.toInt := by rw [← (show u368 = h355.2.1 70 5 from u368w)] <;> exact (ti_rfl u368)
                    have pp375 : (h355.2.1 70 5).toInt = 0 → (h.2.1 70 5).toInt = 0 := (by omega)
                    have pp376 : (h.2.1 70 4).toInt ≤ (h355.2.1 70 4).toInt := (by omega)
                    have pp377 : (h355.2.1 70 5).toInt = 0 → (h.2.1 70 4).toInt + 1 ≤ (h355.2.1 70 4).toInt ∧ 6 * (V h355.2.1 73 S - V h355.2.1 75 S) - (h355.2.1 70 4).toInt ≤ 6 * (V h.2.1 73 S - V h.2.1 75 S) - (h.2.1 70 4).toInt ∧ 2 * V h355.2.1 74 S - (h355.2.1 70 4).toInt ≤ 2 * V h.2.1 74 S - (h.2.1 70 4).toInt := (by omega)
                    have pp378 : (h355.2.1 70 5).toInt = 0 → RI h.2.1 h355.2.1 S a2.toInt a4.toInt := (fun hg => by rw [← x1]; exact RI.of S0 ni (by rw [← ze, ← x3]; exact (f363 (by omega) l3.toInt (by rw [ze]; omega) (by rw [ze]; omega) (by rw [ze]; omega))))
                    subst hS
                    exact gi_vret (pc := 410) ⟨rfl, ⟨_, hv355, (MW.trans (MW.trans (MW.trans (MW.trans (MW.trans (MW.trans (MW.trans (MW.trans (MW.trans (MW.trans (MW.trans (MW.trans (MW.trans (MW.trans (MW.trans (MW.trans (MW.trans (MW.trans (MW.trans (MW.trans (MW.trans sqx (MW.mz _ _)) (MW.mz _ _)) (MW.mz _ _)) (MW.mz _ _)) (MW.mz _ _)) (MW.mz _ _)) (MW.mz _ _)) (MW.mz _ _)) (MW.mz _ _)) (MW.mz _ _)) (MW.mz _ _)) (MW.mz _ _)) (MW.mz _ _)) (MW.mz _ _)) (MW.mz _ _)) (MW.mz _ _)) (MW.mz _ _)) (MW.mz _ _)) (MW.mz _ _)) (MW.mz _ _)) sq357)⟩, pp375, pp376, pp377, pp378, kp355, oh355, ck355⟩ hv355 dX8_readItem_410
                  ·
                    refine go_aload_n (pc := 375) rfl dX8_readItem_375 ?_
                    refine go_iload (pc := 376) rfl dX8_readItem_376 ?_
                    refine go_iload_n (pc := 378) rfl dX8_readItem_378 ?_
                    refine go_iload_n (pc := 379) rfl dX8_readItem_379 ?_
                    have EG : h300.2.1 = (w1 (w1 (w1 (w1 (w1 (w1 (w1 (w1 (w1 (w1 (w1 (w1 (w1 (w1 (w1 (w1 (w1 (w1 (w1 (w1 hx.2.1 73 S (v15 : Int32)) 77 (((130 * S) + v10.toInt)) (l5 : Int32)) 78 (((130 * S) + v10.toInt)) ((-1) : Int32)) 79 (((130 * S) + v10.toInt)) (l2 : Int32)) 80 (((130 * S) + v10.toInt)) (l3 : Int32)) 81 (((130 * S) + v10.toInt)) (v22 : Int32)) 82 (((130 * S) + v10.toInt)) (l4 : Int32)) 83 (((130 * S) + v10.toInt)) (0 : Int32)) 84 (((130 * S) + v10.toInt)) ((-2) : Int32)) 85 (((130 * S) + v10.toInt)) ((-1) : Int32)) 86 (((130 * S) + v10.toInt)) ((-1) : Int32)) 87 (((130 * S) + v10.toInt)) ((-1) : Int32)) 88 (((130 * S) + v10.toInt)) (l1 : Int32)) 89 ((2 * ((130 * S) + v10.toInt))) (0 : Int32)) 89 (((2 * ((130 * S) + v10.toInt)) + 1)) (0 : Int32)) 78 (((130 * S) + v10.toInt)) (v131 : Int32)) 93 (((40 * S) + v137.toInt)) (v11 : Int32)) 75 S (v143 : Int32)) 90 l1.toInt (v11 : Int32)) 91 l1.toInt (v11 : Int32)) := by rw [E300, E145, E140, E132, E39]
                    have z379 : (v15 : Int32).toInt = (v14.toInt + 1) := e16
                    have z380 : ((-1) : Int32).toInt = (-1) := (ti_c (v := (-1)) (a := (-1)) (by decide))
                    have z381 : (0 : Int32).toInt = 0 := (ti_c (v := 0) (a := 0) (by decide))
                    have z382 : ((-2) : Int32).toInt = (-2) := (ti_c (v := (-2)) (a := (-2)) (by decide))
                    have z383 : (v11 : Int32).toInt = ((130 * v6.toInt) + v10.toInt) := e12
                    have z384 : (v143 : Int32).toInt = (v142.toInt + 1) := e144
                    have y73 : V hx.2.1 73 S = V h.2.1 73 S := xve.v (by omega) (by omega)
                    have y75 : V hx.2.1 75 S = V h.2.1 75 S := xve.v (by omega) (by omega)
                    have ni : NI h.2.1 h304.2.1 S l1.toInt a4.toInt (((130 * S) + v10.toInt)) l5.toInt l4.toInt := NI.cr00 (its := l5.toInt) (nm := l4.toInt) S0 xve EG ve304 (by omega) (by omega) (by omega) (by omega) (by first | omega | decide) (by omega) (by decide) (by decide) (by decide) (by omega) (by decide) (by decide) (by omega) (by omega) (by omega) (by omega) (by omega) (by omega) (by omega) (by omega) (by omega) (by omega) (by omega) (by omega)
                    obtain ⟨i1, i2, i3, i4, i5, i6, i7, i8⟩ := ni (ht.1) (by rw [x1]; exact ht.2.1) (by rw [x1]; exact ht.2.2)
                    have ze : (v11 : Int32).toInt = ((130 * S) + v10.toInt) := by rw [show (v11 : Int32).toInt = ((130 * v6.toInt) + v10.toInt) from e12]; omega
                    have sM385 : (h304.2.1 70 6).toInt = S := (congrArg Int32.toInt oh304.side).trans hS.symm
                    have g386 : (0 : Int) ≤ (h304.2.1 70 4).toInt := (hv304.2.1 70 4).1
                    have g387 : (h304.2.1 70 4).toInt ≤ 500 := (hv304.2.1 70 4).2
                    have g388 : (-2147483648 : Int) ≤ (h304.2.1 70 5).toInt := (hv304.2.1 70 5).1
                    have g389 : (h304.2.1 70 5).toInt ≤ 2147483647 := (hv304.2.1 70 5).2
                    have g390 : (h304.2.1 70 4).toInt = (v22.toInt + 1) := by rw [← (show v302 = h304.2.1 70 4 from (show v302 = h304.2.1 70 4 from by rw [hv304e]; exact g_iS.symm))] <;> exact e303
                    refine go_invV (pc := 380) (sl := 0) (ihT hv304 v11 (by rw [show (v11 : Int32).toInt = ((130 * v6.toInt) + v10.toInt) from e12]; omega) (by rw [show (v11 : Int32).toInt = ((130 * v6.toInt) + v10.toInt) from e12]; omega) l2 (by rw [show (l2 : Int32).toInt = l2.toInt from (ti_rfl l2)]; omega) (by rw [show (l2 : Int32).toInt = l2.toInt from (ti_rfl l2)]; omega) l3 (by rw [show (l3 : Int32).toInt = l3.toInt from (ti_rfl l3)]; omega) (by rw [show (l3 : Int32).toInt = l3.toInt from (ti_rfl l3)]; omega) (by rw [sM385]; exact (by omega)) (by omega) (by rw [sM385]; exact (by omega)) (by rw [sM385]; exact ⟨i1, by omega, by omega, by rw [ze, x3]; exact i6, by rw [ze]; omega⟩) (by omega)) mL_X8_209 iM_X8_readTest sM_X8_readTest (hv304.sh rfl) rfl rfl rfl (Nat.le_of_ble_eq_true rfl) (show d + 4 + 1 ≤ d + 5 by omega) (show 8 + (4 + 11) + 40 * (d + 4) ≤ 40 * (d + 5) by omega) (g_c0 hv304.ln) (Nat.le_of_ble_eq_true rfl) dX8_readItem_380 ?_
                    intro r h391 hq _
                    obtain ⟨rfl, ⟨Q392, hv391, sq393⟩, f394, f395, f396, f397, f398, f399, f400⟩ := hq
                    rw [sM385] at f396
                    rw [sM385] at f397
                    rw [sM385] at f399
                    have oh391 : OH h.2.1 h391.2.1 S := oh304.trans f399
                    have kp391 : KP h.2.1 h391.2.1 := kp304.trans f398
                    have ck391 : CKF h.2.1 → CKF h391.2.1 := fun z => f400 (ck304 z)
                    try rw [show (v11 : Int32).toInt = ((130 * v6.toInt) + v10.toInt) from e12] at f394
                    try rw [show (v11 : Int32).toInt = ((130 * v6.toInt) + v10.toInt) from e12] at f395
                    try rw [show (v11 : Int32).toInt = ((130 * v6.toInt) + v10.toInt) from e12] at f396
                    try rw [show (v11 : Int32).toInt = ((130 * v6.toInt) + v10.toInt) from e12] at f397
                    try rw [show (v11 : Int32).toInt = ((130 * v6.toInt) + v10.toInt) from e12] at f398
                    try rw [show (v11 : Int32).toInt = ((130 * v6.toInt) + v10.toInt) from e12] at f399
                    try rw [show (v11 : Int32).toInt = ((130 * v6.toInt) + v10.toInt) from e12] at f400
                    obtain ⟨u401, u401w⟩ : ∃ v : Int32, v = h391.2.1 70 4 := ⟨_, rfl⟩
                    have u401e : (h391.2.1 70 4).toInt = u401.toInt := by rw [u401w]
                    have u401l : 0 ≤ u401.toInt := by rw [u401w]; exact (hv391.2.1 70 4).1
                    have u401u : u401.toInt ≤ 500 := by rw [u401w]; exact (hv391.2.1 70 4).2
                    obtain ⟨u402, u402w⟩ : ∃ v : Int32, v = h391.2.1 70 5 := ⟨_, rfl⟩
                    have u402e : (h391.2.1 70 5).toInt = u402.toInt := by rw [u402w]
                    have u402l : -2147483648 ≤ u402.toInt := by rw [u402w]; exact (hv391.2.1 70 5).1
                    have u402u : u402.toInt ≤ 2147483647 := by rw [u402w]; exact (hv391.2.1 70 5).2
                    refine go_goto (pc := 383) (tgt := 410) (by decide) dX8_readItem_383 ?_
                    have g403 : (0 : Int) ≤ (h391.2.1 70 4).toInt := (hv391.2.1 70 4).1
                    have g404 : (h391.2.1 70 4).toInt ≤ 500 := (hv391.2.1 70 4).2
                    have g405 : (-2147483648 : Int) ≤ (h391.2.1 70 5).toInt := (hv391.2.1 70 5).1
                    have g406 : (h391.2.1 70 5).toInt ≤ 2147483647 := (hv391.2.1 70 5).2
                    have g407 : (h391.2.1 70 4).toInt = u401.toInt := by rw [← (show u401 = h391.2.1 70 4 from u401w)] <;> exact (ti_rfl u401)
                    have g408 : (h391.2.1 70 5).toInt = u402.toInt := by rw [← (show u402 = h391.2.1 70 5 from u402w)] <;> exact (ti_rfl u402)
                    have pp409 : (h391.2.1 70 5).toInt = 0 → (h.2.1 70 5).toInt = 0 := (by omega)
                    have pp410 : (h.2.1 70 4).toInt ≤ (h391.2.1 70 4).toInt := (by omega)
                    have pp411 : (h391.2.1 70 5).toInt = 0 → (h.2.1 70 4).toInt + 1 ≤ (h391.2.1 70 4).toInt ∧ 6 * (V h391.2.1 73 S - V h391.2.1 75 S) - (h391.2.1 70 4).toInt ≤ 6 * (V h.2.1 73 S - V h.2.1 75 S) - (h.2.1 70 4).toInt ∧ 2 * V h391.2.1 74 S - (h391.2.1 70 4).toInt ≤ 2 * V h.2.1 74 S - (h.2.1 70 4).toInt := (by omega)
                    have pp412 : (h391.2.1 70 5).toInt = 0 → RI h.2.1 h391.2.1 S a2.toInt a4.toInt := (fun hg => by rw [← x1]; exact RI.of S0 ni (by rw [← ze, ← x3]; exact (f397 (by omega))))
                    subst hS
                    exact gi_vret (pc := 410) ⟨rfl, ⟨_, hv391, (MW.trans (MW.trans (MW.trans (MW.trans (MW.trans (MW.trans (MW.trans (MW.trans (MW.trans (MW.trans (MW.trans (MW.trans (MW.trans (MW.trans (MW.trans (MW.trans (MW.trans (MW.trans (MW.trans (MW.trans (MW.trans sqx (MW.mz _ _)) (MW.mz _ _)) (MW.mz _ _)) (MW.mz _ _)) (MW.mz _ _)) (MW.mz _ _)) (MW.mz _ _)) (MW.mz _ _)) (MW.mz _ _)) (MW.mz _ _)) (MW.mz _ _)) (MW.mz _ _)) (MW.mz _ _)) (MW.mz _ _)) (MW.mz _ _)) (MW.mz _ _)) (MW.mz _ _)) (MW.mz _ _)) (MW.mz _ _)) (MW.mz _ _)) sq393)⟩, pp409, pp410, pp411, pp412, kp391, oh391, ck391⟩ hv391 dX8_readItem_410
              ·
                refine go_aload_n (pc := 352) rfl dX8_readItem_352 ?_
                refine go_iload (pc := 353) rfl dX8_readItem_353 ?_
                refine go_iload (pc := 355) rfl dX8_readItem_355 ?_
                have EG : h300.2.1 = (w1 (w1 (w1 (w1 (w1 (w1 (w1 (w1 (w1 (w1 (w1 (w1 (w1 (w1 (w1 (w1 (w1 (w1 (w1 (w1 hx.2.1 73 S (v15 : Int32)) 77 (((130 * S) + v10.toInt)) (l5 : Int32)) 78 (((130 * S) + v10.toInt)) ((-1) : Int32)) 79 (((130 * S) + v10.toInt)) (l2 : Int32)) 80 (((130 * S) + v10.toInt)) (l3 : Int32)) 81 (((130 * S) + v10.toInt)) (v22 : Int32)) 82 (((130 * S) + v10.toInt)) (l4 : Int32)) 83 (((130 * S) + v10.toInt)) (0 : Int32)) 84 (((130 * S) + v10.toInt)) ((-2) : Int32)) 85 (((130 * S) + v10.toInt)) ((-1) : Int32)) 86 (((130 * S) + v10.toInt)) ((-1) : Int32)) 87 (((130 * S) + v10.toInt)) ((-1) : Int32)) 88 (((130 * S) + v10.toInt)) (l1 : Int32)) 89 ((2 * ((130 * S) + v10.toInt))) (0 : Int32)) 89 (((2 * ((130 * S) + v10.toInt)) + 1)) (0 : Int32)) 78 (((130 * S) + v10.toInt)) (v131 : Int32)) 93 (((40 * S) + v137.toInt)) (v11 : Int32)) 75 S (v143 : Int32)) 90 l1.toInt (v11 : Int32)) 91 l1.toInt (v11 : Int32)) := by rw [E300, E145, E140, E132, E39]
                have z413 : (v15 : Int32).toInt = (v14.toInt + 1) := e16
                have z414 : ((-1) : Int32).toInt = (-1) := (ti_c (v := (-1)) (a := (-1)) (by decide))
                have z415 : (0 : Int32).toInt = 0 := (ti_c (v := 0) (a := 0) (by decide))
                have z416 : ((-2) : Int32).toInt = (-2) := (ti_c (v := (-2)) (a := (-2)) (by decide))
                have z417 : (v11 : Int32).toInt = ((130 * v6.toInt) + v10.toInt) := e12
                have z418 : (v143 : Int32).toInt = (v142.toInt + 1) := e144
                have y73 : V hx.2.1 73 S = V h.2.1 73 S := xve.v (by omega) (by omega)
                have y75 : V hx.2.1 75 S = V h.2.1 75 S := xve.v (by omega) (by omega)
                have ni : NI h.2.1 h304.2.1 S l1.toInt a4.toInt (((130 * S) + v10.toInt)) l5.toInt l4.toInt := NI.cr00 (its := l5.toInt) (nm := l4.toInt) S0 xve EG ve304 (by omega) (by omega) (by omega) (by omega) (by first | omega | decide) (by omega) (by decide) (by decide) (by decide) (by omega) (by decide) (by decide) (by omega) (by omega) (by omega) (by omega) (by omega) (by omega) (by omega) (by omega) (by omega) (by omega) (by omega) (by omega)
                obtain ⟨i1, i2, i3, i4, i5, i6, i7, i8⟩ := ni (ht.1) (by rw [x1]; exact ht.2.1) (by rw [x1]; exact ht.2.2)
                have ze : (v11 : Int32).toInt = ((130 * S) + v10.toInt) := by rw [show (v11 : Int32).toInt = ((130 * v6.toInt) + v10.toInt) from e12]; omega
                have sM419 : (h304.2.1 70 6).toInt = S := (congrArg Int32.toInt oh304.side).trans hS.symm
                have g420 : (0 : Int) ≤ (h304.2.1 70 4).toInt := (hv304.2.1 70 4).1
                have g421 : (h304.2.1 70 4).toInt ≤ 500 := (hv304.2.1 70 4).2
                have g422 : (-2147483648 : Int) ≤ (h304.2.1 70 5).toInt := (hv304.2.1 70 5).1
                have g423 : (h304.2.1 70 5).toInt ≤ 2147483647 := (hv304.2.1 70 5).2
                have g424 : (h304.2.1 70 4).toInt = (v22.toInt + 1) := by rw [← (show v302 = h304.2.1 70 4 from (show v302 = h304.2.1 70 4 from by rw [hv304e]; exact g_iS.symm))] <;> exact e303
                refine go_invV (pc := 357) (sl := 0) (s_X8_readSet l (d + 0) hv304 v11 (by rw [show (v11 : Int32).toInt = ((130 * v6.toInt) + v10.toInt) from e12]; omega) (by rw [show (v11 : Int32).toInt = ((130 * v6.toInt) + v10.toInt) from e12]; omega) l4 (by rw [show (l4 : Int32).toInt = l4.toInt from (ti_rfl l4)]; omega) (by rw [show (l4 : Int32).toInt = l4.toInt from (ti_rfl l4)]; omega) (by rw [sM419]; exact (by omega))) mL_X8_205 iM_X8_readSet sM_X8_readSet (hv304.sh rfl) rfl rfl rfl (Nat.le_of_ble_eq_true rfl) (show d + 0 + 4 + 1 ≤ d + 5 by omega) (show 8 + (3 + 11) + 40 * (d + 0 + 4) ≤ 40 * (d + 5) by omega) (g_c0 hv304.ln) (Nat.le_of_ble_eq_true rfl) dX8_readItem_357 ?_
                intro r h425 hq _
                obtain ⟨rfl, ⟨Q426, hv425, sq427⟩, f428, f429, f430, f431, f432, f433, f434, f435, f436⟩ := hq
                rw [sM419] at f430
                rw [sM419] at f431
                rw [sM419] at f432
                rw [sM419] at f433
                rw [sM419] at f435
                have oh425 : OH h.2.1 h425.2.1 S := oh304.trans f435
                have kp425 : KP h.2.1 h425.2.1 := kp304.trans f434
                have ck425 : CKF h.2.1 → CKF h425.2.1 := fun z => f436 (ck304 z)
                try rw [show (v11 : Int32).toInt = ((130 * v6.toInt) + v10.toInt) from e12] at f428
                try rw [show (v11 : Int32).toInt = ((130 * v6.toInt) + v10.toInt) from e12] at f429
                try rw [show (v11 : Int32).toInt = ((130 * v6.toInt) + v10.toInt) from e12] at f430
                try rw [show (v11 : Int32).toInt = ((130 * v6.toInt) + v10.toInt) from e12] at f431
                try rw [show (v11 : Int32).toInt = ((130 * v6.toInt) + v10.toInt) from e12] at f432
                try rw [show (v11 : Int32).toInt = ((130 * v6.toInt) + v10.toInt) from e12] at f433
                try rw [show (v11 : Int32).toInt = ((130 * v6.toInt) + v10.toInt) from e12] at f434
                try rw [show (v11 : Int32).toInt = ((130 * v6.toInt) + v10.toInt) from e12] at f435
                try rw [show (v11 : Int32).toInt = ((130 * v6.toInt) + v10.toInt) from e12] at f436
                obtain ⟨u437, u437w⟩ : ∃ v : Int32, v = h425.2.1 70 4 := ⟨_, rfl⟩
                have u437e : (h425.2.1 70 4).toInt = u437.toInt := by rw [u437w]
                have u437l : 0 ≤ u437.toInt := by rw [u437w]; exact (hv425.2.1 70 4).1
                have u437u : u437.toInt ≤ 500 := by rw [u437w]; exact (hv425.2.1 70 4).2
                obtain ⟨u438, u438w⟩ : ∃ v : Int32, v = h425.2.1 70 5 := ⟨_, rfl⟩
                have u438e : (h425.2.1 70 5).toInt = u438.toInt := by rw [u438w]
                have u438l : -2147483648 ≤ u438.toInt := by rw [u438w]; exact (hv425.2.1 70 5).1
                have u438u : u438.toInt ≤ 2147483647 := by rw [u438w]; exact (hv425.2.1 70 5).2
                refine go_goto (pc := 360) (tgt := 410) (by decide) dX8_readItem_360 ?_
                have g439 : (0 : Int) ≤ (h425.2.1 70 4).toInt := (hv425.2.1 70 4).1
                have g440 : (h425.2.1 70 4).toInt ≤ 500 := (hv425.2.1 70 4).2
                have g441 : (-2147483648 : Int) ≤ (h425.2.1 70 5).toInt := (hv425.2.1 70 5).1
                have g442 : (h425.2.1 70 5).toInt ≤ 2147483647 := (hv425.2.1 70 5).2
                have g443 : (h425.2.1 70 4).toInt = u437.toInt := by rw [← (show u437 = h425.2.1 70 4 from u437w)] <;> exact (ti_rfl u437)
                have g444 : (h425.2.1 70 5).toInt = u438.toInt := by rw [← (show u438 = h425.2.1 70 5 from u438w)] <;> exact (ti_rfl u438)
                have pp445 : (h425.2.1 70 5).toInt = 0 → (h.2.1 70 5).toInt = 0 := (by omega)
                have pp446 : (h.2.1 70 4).toInt ≤ (h425.2.1 70 4).toInt := (by omega)
                have pp447 : (h425.2.1 70 5).toInt = 0 → (h.2.1 70 4).toInt + 1 ≤ (h425.2.1 70 4).toInt ∧ 6 * (V h425.2.1 73 S - V h425.2.1 75 S) - (h425.2.1 70 4).toInt ≤ 6 * (V h.2.1 73 S - V h.2.1 75 S) - (h.2.1 70 4).toInt ∧ 2 * V h425.2.1 74 S - (h425.2.1 70 4).toInt ≤ 2 * V h.2.1 74 S - (h.2.1 70 4).toInt := (by omega)
                have pp448 : (h425.2.1 70 5).toInt = 0 → RI h.2.1 h425.2.1 S a2.toInt a4.toInt := (fun hg => by rw [← x1]; exact RI.of S0 ni (by rw [← ze, ← x3]; exact (f433 (by omega) l3.toInt (by rw [ze]; omega) (by rw [ze]; omega))))
                subst hS
                exact gi_vret (pc := 410) ⟨rfl, ⟨_, hv425, (MW.trans (MW.trans (MW.trans (MW.trans (MW.trans (MW.trans (MW.trans (MW.trans (MW.trans (MW.trans (MW.trans (MW.trans (MW.trans (MW.trans (MW.trans (MW.trans (MW.trans (MW.trans (MW.trans (MW.trans (MW.trans sqx (MW.mz _ _)) (MW.mz _ _)) (MW.mz _ _)) (MW.mz _ _)) (MW.mz _ _)) (MW.mz _ _)) (MW.mz _ _)) (MW.mz _ _)) (MW.mz _ _)) (MW.mz _ _)) (MW.mz _ _)) (MW.mz _ _)) (MW.mz _ _)) (MW.mz _ _)) (MW.mz _ _)) (MW.mz _ _)) (MW.mz _ _)) (MW.mz _ _)) (MW.mz _ _)) (MW.mz _ _)) sq427)⟩, pp445, pp446, pp447, pp448, kp425, oh425, ck425⟩ hv425 dX8_readItem_410
        ·
          have g449 : (0 : Int) ≤ (hx.2.1 70 4).toInt := (hvx.2.1 70 4).1
          have g450 : (hx.2.1 70 4).toInt ≤ 500 := (hvx.2.1 70 4).2
          have g451 : (-2147483648 : Int) ≤ (hx.2.1 70 5).toInt := (hvx.2.1 70 5).1
          have g452 : (hx.2.1 70 5).toInt ≤ 2147483647 := (hvx.2.1 70 5).2
          have pp453 : (hx.2.1 70 5).toInt = 0 → (h.2.1 70 5).toInt = 0 := (by omega)
          have pp454 : (h.2.1 70 4).toInt ≤ (hx.2.1 70 4).toInt := (by omega)
          have pp455 : (hx.2.1 70 5).toInt = 0 → (h.2.1 70 4).toInt + 1 ≤ (hx.2.1 70 4).toInt ∧ 6 * (V hx.2.1 73 S - V hx.2.1 75 S) - (hx.2.1 70 4).toInt ≤ 6 * (V h.2.1 73 S - V h.2.1 75 S) - (h.2.1 70 4).toInt ∧ 2 * V hx.2.1 74 S - (hx.2.1 70 4).toInt ≤ 2 * V h.2.1 74 S - (h.2.1 70 4).toInt := (by omega)
          have pp456 : (hx.2.1 70 5).toInt = 0 → RI h.2.1 hx.2.1 S a2.toInt a4.toInt := (fun hg => absurd hg (by omega))
          subst hS
          exact gi_vret (pc := 77) ⟨rfl, ⟨_, hvx, sqx⟩, pp453, pp454, pp455, pp456, kpx, ohx, ckx⟩ hvx dX8_readItem_77
  refine go_aload_n (pc := 0) rfl dX8_readItem_0 ?_
  refine go_iconst (pc := 1) (v := 1) (by decide) dX8_readItem_1 ?_
  have g457 : (0 : Int) ≤ (h.2.1 70 4).toInt := (hv.2.1 70 4).1
  have g458 : (h.2.1 70 4).toInt ≤ 500 := (hv.2.1 70 4).2
  have g459 : (-2147483648 : Int) ≤ (h.2.1 70 5).toInt := (hv.2.1 70 5).1
  have g460 : (h.2.1 70 5).toInt ≤ 2147483647 := (hv.2.1 70 5).2
  refine go_invV (pc := 2) (sl := 0) (s_X8_nameHere l (d + 2) hv 1 (by rw [show (1 : Int32).toInt = 1 from (ti_c (v := 1) (a := 1) (by decide))]; omega) (by rw [show (1 : Int32).toInt = 1 from (ti_c (v := 1) (a := 1) (by decide))]; omega)) mL_X8_183 iM_X8_nameHere sM_X8_nameHere (hv.sh rfl) rfl rfl rfl (Nat.le_of_ble_eq_true rfl) (show d + 2 + 2 + 1 ≤ d + 5 by omega) (show 8 + (3 + 11) + 40 * (d + 2 + 2) ≤ 40 * (d + 5) by omega) (g_c0 hv.ln) (Nat.le_of_ble_eq_true rfl) dX8_readItem_2 ?_
  intro r h461 hq _
  obtain ⟨v467, rfl, v467l, v467u, hv461, f462, f463, f464, f465, f466⟩ := hq
  try rw [show (1 : Int32).toInt = 1 from (ti_c (v := 1) (a := 1) (by decide))] at f462
  try rw [show (1 : Int32).toInt = 1 from (ti_c (v := 1) (a := 1) (by decide))] at f463
  try rw [show (1 : Int32).toInt = 1 from (ti_c (v := 1) (a := 1) (by decide))] at f464
  try rw [show (1 : Int32).toInt = 1 from (ti_c (v := 1) (a := 1) (by decide))] at f465
  try rw [show (1 : Int32).toInt = 1 from (ti_c (v := 1) (a := 1) (by decide))] at f466
  have ve461 : VE h.2.1 h461.2.1 := VE.of hv hv461
  have oh461 : OH h.2.1 h461.2.1 S := oh.trans (OH.of hv hv461 S)
  have kp461 : KP h.2.1 h461.2.1 := kp.trans (KP.ve ve461)
  have ck461 : CKF h.2.1 → CKF h461.2.1 := fun z => CKF.ve ve461 (ck z)
  have n73_461 : V h461.2.1 73 S = V h.2.1 73 S := ve461.v (by omega) (by omega)
  have n74_461 : V h461.2.1 74 S = V h.2.1 74 S := ve461.v (by omega) (by omega)
  have n75_461 : V h461.2.1 75 S = V h.2.1 75 S := ve461.v (by omega) (by omega)
  obtain ⟨u468, u468w⟩ : ∃ v : Int32, v = h461.2.1 70 4 := ⟨_, rfl⟩
  have u468e : (h461.2.1 70 4).toInt = u468.toInt := by rw [u468w]
  have u468l : 0 ≤ u468.toInt := by rw [u468w]; exact (hv461.2.1 70 4).1
  have u468u : u468.toInt ≤ 500 := by rw [u468w]; exact (hv461.2.1 70 4).2
  obtain ⟨u469, u469w⟩ : ∃ v : Int32, v = h461.2.1 70 5 := ⟨_, rfl⟩
  have u469e : (h461.2.1 70 5).toInt = u469.toInt := by rw [u469w]
  have u469l : -2147483648 ≤ u469.toInt := by rw [u469w]; exact (hv461.2.1 70 5).1
  have u469u : u469.toInt ≤ 2147483647 := by rw [u469w]; exact (hv461.2.1 70 5).2
  refine go_istore (pc := 5) (Nat.le_of_ble_eq_true rfl) dX8_readItem_5 (go_lv (lv2 := [(0, .ref 70), (1, .int a2), (2, .int a3), (3, .int a4), (4, .int v467)]) rfl ?_)
  refine go_iload (pc := 7) rfl dX8_readItem_7 ?_
  refine go_iconst (pc := 9) (v := (-1)) (by decide) dX8_readItem_9 ?_
  refine gf_icmp_eq (pc := 10) (tgt := 17) (ti_rfl v467) (ti_c (v := (-1)) (a := (-1)) (by decide)) (by decide) dX8_readItem_10 (fun q470 => ?_) (fun q470 => ?_)
  ·
    refine go_aload_n (pc := 17) rfl dX8_readItem_17 ?_
    have g471 : (0 : Int) ≤ (h461.2.1 70 4).toInt := (hv461.2.1 70 4).1
    have g472 : (h461.2.1 70 4).toInt ≤ 500 := (hv461.2.1 70 4).2
    have g473 : (-2147483648 : Int) ≤ (h461.2.1 70 5).toInt := (hv461.2.1 70 5).1
    have g474 : (h461.2.1 70 5).toInt ≤ 2147483647 := (hv461.2.1 70 5).2
    have g475 : (h461.2.1 70 4).toInt = u468.toInt := by rw [← (show u468 = h461.2.1 70 4 from u468w)] <;> exact (ti_rfl u468)
    have g476 : (h461.2.1 70 5).toInt = u469.toInt := by rw [← (show u469 = h461.2.1 70 5 from u469w)] <;> exact (ti_rfl u469)
    refine go_invV (pc := 18) (sl := 0) (s_X8_here l (d + 3) hv461 ) mL_X8_176 iM_X8_here sM_X8_here (hv461.sh rfl) rfl rfl rfl (Nat.le_of_ble_eq_true rfl) (show d + 3 + 1 + 1 ≤ d + 5 by omega) (show 8 + (1 + 11) + 40 * (d + 3 + 1) ≤ 40 * (d + 5) by omega) (g_c0 hv461.ln) (Nat.le_of_ble_eq_true rfl) dX8_readItem_18 ?_
    intro r h477 hq _
    obtain ⟨v482, rfl, v482l, v482u, hv477, f478, f479, f480, f481⟩ := hq
    have ve477 : VE h461.2.1 h477.2.1 := VE.of hv461 hv477
    have oh477 : OH h.2.1 h477.2.1 S := oh461.trans (OH.of hv461 hv477 S)
    have kp477 : KP h.2.1 h477.2.1 := kp461.trans (KP.ve ve477)
    have ck477 : CKF h.2.1 → CKF h477.2.1 := fun z => CKF.ve ve477 (ck461 z)
    have n73_477 : V h477.2.1 73 S = V h461.2.1 73 S := ve477.v (by omega) (by omega)
    have n74_477 : V h477.2.1 74 S = V h461.2.1 74 S := ve477.v (by omega) (by omega)
    have n75_477 : V h477.2.1 75 S = V h461.2.1 75 S := ve477.v (by omega) (by omega)
    obtain ⟨u483, u483w⟩ : ∃ v : Int32, v = h477.2.1 70 4 := ⟨_, rfl⟩
    have u483e : (h477.2.1 70 4).toInt = u483.toInt := by rw [u483w]
    have u483l : 0 ≤ u483.toInt := by rw [u483w]; exact (hv477.2.1 70 4).1
    have u483u : u483.toInt ≤ 500 := by rw [u483w]; exact (hv477.2.1 70 4).2
    obtain ⟨u484, u484w⟩ : ∃ v : Int32, v = h477.2.1 70 5 := ⟨_, rfl⟩
    have u484e : (h477.2.1 70 5).toInt = u484.toInt := by rw [u484w]
    have u484l : -2147483648 ≤ u484.toInt := by rw [u484w]; exact (hv477.2.1 70 5).1
    have u484u : u484.toInt ≤ 2147483647 := by rw [u484w]; exact (hv477.2.1 70 5).2
    refine go_invS (pc := 21) (sl := 0) (s_X8_kindOf l (d + 3) hv477 v482) mL_X8_201 iM_X8_kindOf rfl rfl (Nat.le_of_ble_eq_true rfl) (show d + 3 + 1 + 1 ≤ d + 5 by omega) (show 8 + (1 + 11) + 40 * (d + 3 + 1) ≤ 40 * (d + 5) by omega) (g_c0 hv477.ln) (Nat.le_of_ble_eq_true rfl) dX8_readItem_21 ?_
    intro r h485 hq _
    obtain ⟨v489, rfl, v489l, v489u, rfl, f486, f487, f488⟩ := hq
    refine go_istore (pc := 24) (Nat.le_of_ble_eq_true rfl) dX8_readItem_24 (go_lv (lv2 := [(0, .ref 70), (1, .int a2), (2, .int a3), (3, .int a4), (4, .int v467), (5, .int v489)]) rfl ?_)
    refine go_iload (pc := 26) rfl dX8_readItem_26 ?_
    refine go_iconst (pc := 28) (v := (-1)) (by decide) dX8_readItem_28 ?_
    refine gf_icmp_ne (pc := 29) (tgt := 37) (ti_rfl v489) (ti_c (v := (-1)) (a := (-1)) (by decide)) (by decide) dX8_readItem_29 (fun q490 => ?_) (fun q490 => ?_)
    ·
      refine go_aload_n (pc := 37) rfl dX8_readItem_37 ?_
      refine go_invV (pc := 38) (sl := 0) (s_X8_isGood l (d + 3) hv477 ) mL_X8_172 iM_X8_isGood sM_X8_isGood (hv477.sh rfl) rfl rfl rfl (Nat.le_of_ble_eq_true rfl) (show d + 3 + 1 + 1 ≤ d + 5 by omega) (show 8 + (1 + 11) + 40 * (d + 3 + 1) ≤ 40 * (d + 5) by omega) (g_c0 hv477.ln) (Nat.le_of_ble_eq_true rfl) dX8_readItem_38 ?_
      intro r h491 hq _
      obtain ⟨v494, rfl, v494l, v494u, rfl, f492, f493⟩ := hq
      refine gf_if_eq (pc := 41) (tgt := 70) (ti_rfl v494) (by decide) dX8_readItem_41 (fun q495 => ?_) (fun q495 => ?_)
      ·
        have g496 : (0 : Int) ≤ (h477.2.1 70 4).toInt := (hv477.2.1 70 4).1
        have g497 : (h477.2.1 70 4).toInt ≤ 500 := (hv477.2.1 70 4).2
        have g498 : (-2147483648 : Int) ≤ (h477.2.1 70 5).toInt := (hv477.2.1 70 5).1
        have g499 : (h477.2.1 70 5).toInt ≤ 2147483647 := (hv477.2.1 70 5).2
        have g500 : (h477.2.1 70 4).toInt = u483.toInt := by rw [← (show u483 = h477.2.1 70 4 from u483w)] <;> exact (ti_rfl u483)
        have g501 : (h477.2.1 70 5).toInt = u484.toInt := by rw [← (show u484 = h477.2.1 70 5 from u484w)] <;> exact (ti_rfl u484)
        exact go_lv rfl ((key 14) a2 a3 a4 v467 v489 _ h477 hv477 (MW.rfl _) (by omega) (by omega) (by omega) (by omega) (by omega) (by omega) (by omega) (by omega) (by omega) (by omega) (ve461.trans ve477) (by omega) (by omega) (by omega) (by omega) (by omega) oh477 ck477 kp477 (by omega) (by omega) (by omega) (by omega) (by omega))
      ·
        refine go_iload (pc := 44) rfl dX8_readItem_44 ?_
        refine go_bipush (pc := 46) (v := 6) (by decide) dX8_readItem_46 ?_
        refine gf_icmp_eq (pc := 48) (tgt := 70) (ti_rfl v489) (ti_c (v := 6) (a := 6) (by decide)) (by decide) dX8_readItem_48 (fun q502 => ?_) (fun q502 => ?_)
        ·
          have g503 : (0 : Int) ≤ (h477.2.1 70 4).toInt := (hv477.2.1 70 4).1
          have g504 : (h477.2.1 70 4).toInt ≤ 500 := (hv477.2.1 70 4).2
          have g505 : (-2147483648 : Int) ≤ (h477.2.1 70 5).toInt := (hv477.2.1 70 5).1
          have g506 : (h477.2.1 70 5).toInt ≤ 2147483647 := (hv477.2.1 70 5).2
          have g507 : (h477.2.1 70 4).toInt = u483.toInt := by rw [← (show u483 = h477.2.1 70 4 from u483w)] <;> exact (ti_rfl u483)
          have g508 : (h477.2.1 70 5).toInt = u484.toInt := by rw [← (show u484 = h477.2.1 70 5 from u484w)] <;> exact (ti_rfl u484)
          exact go_lv rfl ((key 14) a2 a3 a4 v467 v489 _ h477 hv477 (MW.rfl _) (by omega) (by omega) (by omega) (by omega) (by omega) (by omega) (by omega) (by omega) (by omega) (by omega) (ve461.trans ve477) (by omega) (by omega) (by omega) (by omega) (by omega) oh477 ck477 kp477 (by omega) (by omega) (by omega) (by omega) (by omega))
        ·
          refine go_aload_n (pc := 51) rfl dX8_readItem_51 ?_
          refine gi_getF (pc := 52) (q := 75) hv477 fL_X8_23 rfl (Nat.le_of_ble_eq_true rfl) rfl (hv477.rf (by decide)) dX8_readItem_52 ?_
          refine go_aload_n (pc := 55) rfl dX8_readItem_55 ?_
          refine gi_get (pc := 56) (lo := 0) (hi := 1) hv477 fL_X8_187 rfl (Nat.le_of_ble_eq_true rfl) rfl rfl dX8_readItem_56 (fun v509 v509l v509u v509w => ?_)
          have v509S : v509.toInt = S := by rw [v509w]; exact (congrArg Int32.toInt oh477.side).trans hS.symm
          refine gi_iald (pc := 59) (lo := 0) (hi := 40) (len := 2) hv477 (ti_rfl v509) rfl (by omega) (by omega) (fun _ => rfl) dX8_readItem_59 (fun v510 v510l v510u v510w => ?_)
          have v510V : v510.toInt = V h477.2.1 75 S := by rw [v510w, v509S]; rfl
          refine go_bipush (pc := 60) (v := 40) (by decide) dX8_readItem_60 ?_
          refine gf_icmp_ne (pc := 62) (tgt := 70) (ti_rfl v510) (ti_c (v := 40) (a := 40) (by decide)) (by decide) dX8_readItem_62 (fun q511 => ?_) (fun q511 => ?_)
          ·
            have g512 : (0 : Int) ≤ (h477.2.1 70 4).toInt := (hv477.2.1 70 4).1
            have g513 : (h477.2.1 70 4).toInt ≤ 500 := (hv477.2.1 70 4).2
            have g514 : (-2147483648 : Int) ≤ (h477.2.1 70 5).toInt := (hv477.2.1 70 5).1
            have g515 : (h477.2.1 70 5).toInt ≤ 2147483647 := (hv477.2.1 70 5).2
            have g516 : (h477.2.1 70 4).toInt = u483.toInt := by rw [← (show u483 = h477.2.1 70 4 from u483w)] <;> exact (ti_rfl u483)
            have g517 : (h477.2.1 70 5).toInt = u484.toInt := by rw [← (show u484 = h477.2.1 70 5 from u484w)] <;> exact (ti_rfl u484)
            exact go_lv rfl ((key 14) a2 a3 a4 v467 v489 _ h477 hv477 (MW.rfl _) (by omega) (by omega) (by omega) (by omega) (by omega) (by omega) (by omega) (by omega) (by omega) (by omega) (ve461.trans ve477) (by omega) (by omega) (by omega) (by omega) (by omega) oh477 ck477 kp477 (by omega) (by omega) (by omega) (by omega) (by omega))
          ·
            refine go_aload_n (pc := 65) rfl dX8_readItem_65 ?_
            refine go_iconst (pc := 66) (v := 4) (by decide) dX8_readItem_66 ?_
            have g518 : (0 : Int) ≤ (h477.2.1 70 4).toInt := (hv477.2.1 70 4).1
            have g519 : (h477.2.1 70 4).toInt ≤ 500 := (hv477.2.1 70 4).2
            have g520 : (-2147483648 : Int) ≤ (h477.2.1 70 5).toInt := (hv477.2.1 70 5).1
            have g521 : (h477.2.1 70 5).toInt ≤ 2147483647 := (hv477.2.1 70 5).2
            have g522 : (h477.2.1 70 4).toInt = u483.toInt := by rw [← (show u483 = h477.2.1 70 4 from u483w)] <;> exact (ti_rfl u483)
            have g523 : (h477.2.1 70 5).toInt = u484.toInt := by rw [← (show u484 = h477.2.1 70 5 from u484w)] <;> exact (ti_rfl u484)
            refine go_invV (pc := 67) (sl := 0) (s_X8_fails l (d + 3) hv477 4 (by rw [show (4 : Int32).toInt = 4 from (ti_c (v := 4) (a := 4) (by decide))]; omega) (by rw [show (4 : Int32).toInt = 4 from (ti_c (v := 4) (a := 4) (by decide))]; omega)) mL_X8_180 iM_X8_fails sM_X8_fails (hv477.sh rfl) rfl rfl rfl (Nat.le_of_ble_eq_true rfl) (show d + 3 + 1 + 1 ≤ d + 5 by omega) (show 8 + (2 + 11) + 40 * (d + 3 + 1) ≤ 40 * (d + 5) by omega) (g_c0 hv477.ln) (Nat.le_of_ble_eq_true rfl) dX8_readItem_67 ?_
            intro r h524 hq _
            obtain ⟨rfl, hv524, f525, f526⟩ := hq
            try rw [show (4 : Int32).toInt = 4 from (ti_c (v := 4) (a := 4) (by decide))] at f525
            try rw [show (4 : Int32).toInt = 4 from (ti_c (v := 4) (a := 4) (by decide))] at f526
            have ve524 : VE h477.2.1 h524.2.1 := VE.of hv477 hv524
            have oh524 : OH h.2.1 h524.2.1 S := oh477.trans (OH.of hv477 hv524 S)
            have kp524 : KP h.2.1 h524.2.1 := kp477.trans (KP.ve ve524)
            have ck524 : CKF h.2.1 → CKF h524.2.1 := fun z => CKF.ve ve524 (ck477 z)
            have n73_524 : V h524.2.1 73 S = V h477.2.1 73 S := ve524.v (by omega) (by omega)
            have n74_524 : V h524.2.1 74 S = V h477.2.1 74 S := ve524.v (by omega) (by omega)
            have n75_524 : V h524.2.1 75 S = V h477.2.1 75 S := ve524.v (by omega) (by omega)
            obtain ⟨u527, u527w⟩ : ∃ v : Int32, v = h524.2.1 70 4 := ⟨_, rfl⟩
            have u527e : (h524.2.1 70 4).toInt = u527.toInt := by rw [u527w]
            have u527l : 0 ≤ u527.toInt := by rw [u527w]; exact (hv524.2.1 70 4).1
            have u527u : u527.toInt ≤ 500 := by rw [u527w]; exact (hv524.2.1 70 4).2
            obtain ⟨u528, u528w⟩ : ∃ v : Int32, v = h524.2.1 70 5 := ⟨_, rfl⟩
            have u528e : (h524.2.1 70 5).toInt = u528.toInt := by rw [u528w]
            have u528l : -2147483648 ≤ u528.toInt := by rw [u528w]; exact (hv524.2.1 70 5).1
            have u528u : u528.toInt ≤ 2147483647 := by rw [u528w]; exact (hv524.2.1 70 5).2
            have g529 : (0 : Int) ≤ (h524.2.1 70 4).toInt := (hv524.2.1 70 4).1
            have g530 : (h524.2.1 70 4).toInt ≤ 500 := (hv524.2.1 70 4).2
            have g531 : (-2147483648 : Int) ≤ (h524.2.1 70 5).toInt := (hv524.2.1 70 5).1
            have g532 : (h524.2.1 70 5).toInt ≤ 2147483647 := (hv524.2.1 70 5).2
            have g533 : (h524.2.1 70 4).toInt = u527.toInt := by rw [← (show u527 = h524.2.1 70 4 from u527w)] <;> exact (ti_rfl u527)
            have g534 : (h524.2.1 70 5).toInt = u528.toInt := by rw [← (show u528 = h524.2.1 70 5 from u528w)] <;> exact (ti_rfl u528)
            exact go_lv rfl ((key 14) a2 a3 a4 v467 v489 _ h524 hv524 (MW.rfl _) (by omega) (by omega) (by omega) (by omega) (by omega) (by omega) (by omega) (by omega) (by omega) (by omega) ((ve461.trans ve477).trans ve524) (by omega) (by omega) (by omega) (by omega) (by omega) oh524 ck524 kp524 (by omega) (by omega) (by omega) (by omega) (by omega))
    ·
      refine go_aload_n (pc := 32) rfl dX8_readItem_32 ?_
      refine go_iconst (pc := 33) (v := 1) (by decide) dX8_readItem_33 ?_
      have g535 : (0 : Int) ≤ (h477.2.1 70 4).toInt := (hv477.2.1 70 4).1
      have g536 : (h477.2.1 70 4).toInt ≤ 500 := (hv477.2.1 70 4).2
      have g537 : (-2147483648 : Int) ≤ (h477.2.1 70 5).toInt := (hv477.2.1 70 5).1
      have g538 : (h477.2.1 70 5).toInt ≤ 2147483647 := (hv477.2.1 70 5).2
      have g539 : (h477.2.1 70 4).toInt = u483.toInt := by rw [← (show u483 = h477.2.1 70 4 from u483w)] <;> exact (ti_rfl u483)
      have g540 : (h477.2.1 70 5).toInt = u484.toInt := by rw [← (show u484 = h477.2.1 70 5 from u484w)] <;> exact (ti_rfl u484)
      refine go_invV (pc := 34) (sl := 0) (s_X8_fails l (d + 3) hv477 1 (by rw [show (1 : Int32).toInt = 1 from (ti_c (v := 1) (a := 1) (by decide))]; omega) (by rw [show (1 : Int32).toInt = 1 from (ti_c (v := 1) (a := 1) (by decide))]; omega)) mL_X8_180 iM_X8_fails sM_X8_fails (hv477.sh rfl) rfl rfl rfl (Nat.le_of_ble_eq_true rfl) (show d + 3 + 1 + 1 ≤ d + 5 by omega) (show 8 + (2 + 11) + 40 * (d + 3 + 1) ≤ 40 * (d + 5) by omega) (g_c0 hv477.ln) (Nat.le_of_ble_eq_true rfl) dX8_readItem_34 ?_
      intro r h541 hq _
      obtain ⟨rfl, hv541, f542, f543⟩ := hq
      try rw [show (1 : Int32).toInt = 1 from (ti_c (v := 1) (a := 1) (by decide))] at f542
      try rw [show (1 : Int32).toInt = 1 from (ti_c (v := 1) (a := 1) (by decide))] at f543
      have ve541 : VE h477.2.1 h541.2.1 := VE.of hv477 hv541
      have oh541 : OH h.2.1 h541.2.1 S := oh477.trans (OH.of hv477 hv541 S)
      have kp541 : KP h.2.1 h541.2.1 := kp477.trans (KP.ve ve541)
      have ck541 : CKF h.2.1 → CKF h541.2.1 := fun z => CKF.ve ve541 (ck477 z)
      have n73_541 : V h541.2.1 73 S = V h477.2.1 73 S := ve541.v (by omega) (by omega)
      have n74_541 : V h541.2.1 74 S = V h477.2.1 74 S := ve541.v (by omega) (by omega)
      have n75_541 : V h541.2.1 75 S = V h477.2.1 75 S := ve541.v (by omega) (by omega)
      obtain ⟨u544, u544w⟩ : ∃ v : Int32, v = h541.2.1 70 4 := ⟨_, rfl⟩
      have u544e : (h541.2.1 70 4).toInt = u544.toInt := by rw [u544w]
      have u544l : 0 ≤ u544.toInt := by rw [u544w]; exact (hv541.2.1 70 4).1
      have u544u : u544.toInt ≤ 500 := by rw [u544w]; exact (hv541.2.1 70 4).2
      obtain ⟨u545, u545w⟩ : ∃ v : Int32, v = h541.2.1 70 5 := ⟨_, rfl⟩
      have u545e : (h541.2.1 70 5).toInt = u545.toInt := by rw [u545w]
      have u545l : -2147483648 ≤ u545.toInt := by rw [u545w]; exact (hv541.2.1 70 5).1
      have u545u : u545.toInt ≤ 2147483647 := by rw [u545w]; exact (hv541.2.1 70 5).2
      refine go_aload_n (pc := 37) rfl dX8_readItem_37 ?_
      refine go_invV (pc := 38) (sl := 0) (s_X8_isGood l (d + 3) hv541 ) mL_X8_172 iM_X8_isGood sM_X8_isGood (hv541.sh rfl) rfl rfl rfl (Nat.le_of_ble_eq_true rfl) (show d + 3 + 1 + 1 ≤ d + 5 by omega) (show 8 + (1 + 11) + 40 * (d + 3 + 1) ≤ 40 * (d + 5) by omega) (g_c0 hv541.ln) (Nat.le_of_ble_eq_true rfl) dX8_readItem_38 ?_
      intro r h546 hq _
      obtain ⟨v549, rfl, v549l, v549u, rfl, f547, f548⟩ := hq
      refine gf_if_eq (pc := 41) (tgt := 70) (ti_rfl v549) (by decide) dX8_readItem_41 (fun q550 => ?_) (fun q550 => ?_)
      ·
        have g551 : (0 : Int) ≤ (h541.2.1 70 4).toInt := (hv541.2.1 70 4).1
        have g552 : (h541.2.1 70 4).toInt ≤ 500 := (hv541.2.1 70 4).2
        have g553 : (-2147483648 : Int) ≤ (h541.2.1 70 5).toInt := (hv541.2.1 70 5).1
        have g554 : (h541.2.1 70 5).toInt ≤ 2147483647 := (hv541.2.1 70 5).2
        have g555 : (h541.2.1 70 4).toInt = u544.toInt := by rw [← (show u544 = h541.2.1 70 4 from u544w)] <;> exact (ti_rfl u544)
        have g556 : (h541.2.1 70 5).toInt = u545.toInt := by rw [← (show u545 = h541.2.1 70 5 from u545w)] <;> exact (ti_rfl u545)
        exact go_lv rfl ((key 14) a2 a3 a4 v467 v489 _ h541 hv541 (MW.rfl _) (by omega) (by omega) (by omega) (by omega) (by omega) (by omega) (by omega) (by omega) (by omega) (by omega) ((ve461.trans ve477).trans ve541) (by omega) (by omega) (by omega) (by omega) (by omega) oh541 ck541 kp541 (by omega) (by omega) (by omega) (by omega) (by omega))
      ·
        refine go_iload (pc := 44) rfl dX8_readItem_44 ?_
        refine go_bipush (pc := 46) (v := 6) (by decide) dX8_readItem_46 ?_
        refine gf_icmp_eq (pc := 48) (tgt := 70) (ti_rfl v489) (ti_c (v := 6) (a := 6) (by decide)) (by decide) dX8_readItem_48 (fun q557 => False.elim (by omega)) (fun q557 => ?_)
        refine go_aload_n (pc := 51) rfl dX8_readItem_51 ?_
        refine gi_getF (pc := 52) (q := 75) hv541 fL_X8_23 rfl (Nat.le_of_ble_eq_true rfl) rfl (hv541.rf (by decide)) dX8_readItem_52 ?_
        refine go_aload_n (pc := 55) rfl dX8_readItem_55 ?_
        refine gi_get (pc := 56) (lo := 0) (hi := 1) hv541 fL_X8_187 rfl (Nat.le_of_ble_eq_true rfl) rfl rfl dX8_readItem_56 (fun v558 v558l v558u v558w => ?_)
        have v558S : v558.toInt = S := by rw [v558w]; exact (congrArg Int32.toInt oh541.side).trans hS.symm
        refine gi_iald (pc := 59) (lo := 0) (hi := 40) (len := 2) hv541 (ti_rfl v558) rfl (by omega) (by omega) (fun _ => rfl) dX8_readItem_59 (fun v559 v559l v559u v559w => ?_)
        have v559V : v559.toInt = V h541.2.1 75 S := by rw [v559w, v558S]; rfl
        refine go_bipush (pc := 60) (v := 40) (by decide) dX8_readItem_60 ?_
        refine gf_icmp_ne (pc := 62) (tgt := 70) (ti_rfl v559) (ti_c (v := 40) (a := 40) (by decide)) (by decide) dX8_readItem_62 (fun q560 => ?_) (fun q560 => ?_)
        ·
          have g561 : (0 : Int) ≤ (h541.2.1 70 4).toInt := (hv541.2.1 70 4).1
          have g562 : (h541.2.1 70 4).toInt ≤ 500 := (hv541.2.1 70 4).2
          have g563 : (-2147483648 : Int) ≤ (h541.2.1 70 5).toInt := (hv541.2.1 70 5).1
          have g564 : (h541.2.1 70 5).toInt ≤ 2147483647 := (hv541.2.1 70 5).2
          have g565 : (h541.2.1 70 4).toInt = u544.toInt := by rw [← (show u544 = h541.2.1 70 4 from u544w)] <;> exact (ti_rfl u544)
          have g566 : (h541.2.1 70 5).toInt = u545.toInt := by rw [← (show u545 = h541.2.1 70 5 from u545w)] <;> exact (ti_rfl u545)
          exact go_lv rfl ((key 14) a2 a3 a4 v467 v489 _ h541 hv541 (MW.rfl _) (by omega) (by omega) (by omega) (by omega) (by omega) (by omega) (by omega) (by omega) (by omega) (by omega) ((ve461.trans ve477).trans ve541) (by omega) (by omega) (by omega) (by omega) (by omega) oh541 ck541 kp541 (by omega) (by omega) (by omega) (by omega) (by omega))
        ·
          refine go_aload_n (pc := 65) rfl dX8_readItem_65 ?_
          refine go_iconst (pc := 66) (v := 4) (by decide) dX8_readItem_66 ?_
          have g567 : (0 : Int) ≤ (h541.2.1 70 4).toInt := (hv541.2.1 70 4).1
          have g568 : (h541.2.1 70 4).toInt ≤ 500 := (hv541.2.1 70 4).2
          have g569 : (-2147483648 : Int) ≤ (h541.2.1 70 5).toInt := (hv541.2.1 70 5).1
          have g570 : (h541.2.1 70 5).toInt ≤ 2147483647 := (hv541.2.1 70 5).2
          have g571 : (h541.2.1 70 4).toInt = u544.toInt := by rw [← (show u544 = h541.2.1 70 4 from u544w)] <;> exact (ti_rfl u544)
          have g572 : (h541.2.1 70 5).toInt = u545.toInt := by rw [← (show u545 = h541.2.1 70 5 from u545w)] <;> exact (ti_rfl u545)
          refine go_invV (pc := 67) (sl := 0) (s_X8_fails l (d + 3) hv541 4 (by rw [show (4 : Int32).toInt = 4 from (ti_c (v := 4) (a := 4) (by decide))]; omega) (by rw [show (4 : Int32).toInt = 4 from (ti_c (v := 4) (a := 4) (by decide))]; omega)) mL_X8_180 iM_X8_fails sM_X8_fails (hv541.sh rfl) rfl rfl rfl (Nat.le_of_ble_eq_true rfl) (show d + 3 + 1 + 1 ≤ d + 5 by omega) (show 8 + (2 + 11) + 40 * (d + 3 + 1) ≤ 40 * (d + 5) by omega) (g_c0 hv541.ln) (Nat.le_of_ble_eq_true rfl) dX8_readItem_67 ?_
          intro r h573 hq _
          obtain ⟨rfl, hv573, f574, f575⟩ := hq
          try rw [show (4 : Int32).toInt = 4 from (ti_c (v := 4) (a := 4) (by decide))] at f574
          try rw [show (4 : Int32).toInt = 4 from (ti_c (v := 4) (a := 4) (by decide))] at f575
          have ve573 : VE h541.2.1 h573.2.1 := VE.of hv541 hv573
          have oh573 : OH h.2.1 h573.2.1 S := oh541.trans (OH.of hv541 hv573 S)
          have kp573 : KP h.2.1 h573.2.1 := kp541.trans (KP.ve ve573)
          have ck573 : CKF h.2.1 → CKF h573.2.1 := fun z => CKF.ve ve573 (ck541 z)
          have n73_573 : V h573.2.1 73 S = V h541.2.1 73 S := ve573.v (by omega) (by omega)
          have n74_573 : V h573.2.1 74 S = V h541.2.1 74 S := ve573.v (by omega) (by omega)
          have n75_573 : V h573.2.1 75 S = V h541.2.1 75 S := ve573.v (by omega) (by omega)
          obtain ⟨u576, u576w⟩ : ∃ v : Int32, v = h573.2.1 70 4 := ⟨_, rfl⟩
          have u576e : (h573.2.1 70 4).toInt = u576.toInt := by rw [u576w]
          have u576l : 0 ≤ u576.toInt := by rw [u576w]; exact (hv573.2.1 70 4).1
          have u576u : u576.toInt ≤ 500 := by rw [u576w]; exact (hv573.2.1 70 4).2
          obtain ⟨u577, u577w⟩ : ∃ v : Int32, v = h573.2.1 70 5 := ⟨_, rfl⟩
          have u577e : (h573.2.1 70 5).toInt = u577.toInt := by rw [u577w]
          have u577l : -2147483648 ≤ u577.toInt := by rw [u577w]; exact (hv573.2.1 70 5).1
          have u577u : u577.toInt ≤ 2147483647 := by rw [u577w]; exact (hv573.2.1 70 5).2
          have g578 : (0 : Int) ≤ (h573.2.1 70 4).toInt := (hv573.2.1 70 4).1
          have g579 : (h573.2.1 70 4).toInt ≤ 500 := (hv573.2.1 70 4).2
          have g580 : (-2147483648 : Int) ≤ (h573.2.1 70 5).toInt := (hv573.2.1 70 5).1
          have g581 : (h573.2.1 70 5).toInt ≤ 2147483647 := (hv573.2.1 70 5).2
          have g582 : (h573.2.1 70 4).toInt = u576.toInt := by rw [← (show u576 = h573.2.1 70 4 from u576w)] <;> exact (ti_rfl u576)
          have g583 : (h573.2.1 70 5).toInt = u577.toInt := by rw [← (show u577 = h573.2.1 70 5 from u577w)] <;> exact (ti_rfl u577)
          exact go_lv rfl ((key 14) a2 a3 a4 v467 v489 _ h573 hv573 (MW.rfl _) (by omega) (by omega) (by omega) (by omega) (by omega) (by omega) (by omega) (by omega) (by omega) (by omega) (((ve461.trans ve477).trans ve541).trans ve573) (by omega) (by omega) (by omega) (by omega) (by omega) oh573 ck573 kp573 (by omega) (by omega) (by omega) (by omega) (by omega))
  ·
    refine go_iconst (pc := 13) (v := 0) (by decide) dX8_readItem_13 ?_
    refine go_goto (pc := 14) (tgt := 24) (by decide) dX8_readItem_14 ?_
    refine go_istore (pc := 24) (Nat.le_of_ble_eq_true rfl) dX8_readItem_24 (go_lv (lv2 := [(0, .ref 70), (1, .int a2), (2, .int a3), (3, .int a4), (4, .int v467), (5, .int 0)]) rfl ?_)
    refine go_iload (pc := 26) rfl dX8_readItem_26 ?_
    refine go_iconst (pc := 28) (v := (-1)) (by decide) dX8_readItem_28 ?_
    refine gf_icmp_ne (pc := 29) (tgt := 37) (ti_c (v := 0) (a := 0) (by decide)) (ti_c (v := (-1)) (a := (-1)) (by decide)) (by decide) dX8_readItem_29 (fun q584 => ?_) (fun q584 => False.elim (by omega))
    refine go_aload_n (pc := 37) rfl dX8_readItem_37 ?_
    refine go_invV (pc := 38) (sl := 0) (s_X8_isGood l (d + 3) hv461 ) mL_X8_172 iM_X8_isGood sM_X8_isGood (hv461.sh rfl) rfl rfl rfl (Nat.le_of_ble_eq_true rfl) (show d + 3 + 1 + 1 ≤ d + 5 by omega) (show 8 + (1 + 11) + 40 * (d + 3 + 1) ≤ 40 * (d + 5) by omega) (g_c0 hv461.ln) (Nat.le_of_ble_eq_true rfl) dX8_readItem_38 ?_
    intro r h585 hq _
    obtain ⟨v588, rfl, v588l, v588u, rfl, f586, f587⟩ := hq
    refine gf_if_eq (pc := 41) (tgt := 70) (ti_rfl v588) (by decide) dX8_readItem_41 (fun q589 => ?_) (fun q589 => ?_)
    ·
      have z590 : (0 : Int32).toInt = 0 := (ti_c (v := 0) (a := 0) (by decide))
      have g591 : (0 : Int) ≤ (h461.2.1 70 4).toInt := (hv461.2.1 70 4).1
      have g592 : (h461.2.1 70 4).toInt ≤ 500 := (hv461.2.1 70 4).2
      have g593 : (-2147483648 : Int) ≤ (h461.2.1 70 5).toInt := (hv461.2.1 70 5).1
      have g594 : (h461.2.1 70 5).toInt ≤ 2147483647 := (hv461.2.1 70 5).2
      have g595 : (h461.2.1 70 4).toInt = u468.toInt := by rw [← (show u468 = h461.2.1 70 4 from u468w)] <;> exact (ti_rfl u468)
      have g596 : (h461.2.1 70 5).toInt = u469.toInt := by rw [← (show u469 = h461.2.1 70 5 from u469w)] <;> exact (ti_rfl u469)
      exact go_lv rfl ((key 14) a2 a3 a4 v467 0 _ h461 hv461 (MW.rfl _) (by omega) (by omega) (by omega) (by omega) (by omega) (by omega) (by omega) (by omega) (by omega) (by omega) ve461 (by omega) (by omega) (by omega) (by omega) (by omega) oh461 ck461 kp461 (by omega) (by omega) (by omega) (by omega) (by omega))
    ·
      refine go_iload (pc := 44) rfl dX8_readItem_44 ?_
      refine go_bipush (pc := 46) (v := 6) (by decide) dX8_readItem_46 ?_
      refine gf_icmp_eq (pc := 48) (tgt := 70) (ti_c (v := 0) (a := 0) (by decide)) (ti_c (v := 6) (a := 6) (by decide)) (by decide) dX8_readItem_48 (fun q597 => False.elim (by omega)) (fun q597 => ?_)
      refine go_aload_n (pc := 51) rfl dX8_readItem_51 ?_
      refine gi_getF (pc := 52) (q := 75) hv461 fL_X8_23 rfl (Nat.le_of_ble_eq_true rfl) rfl (hv461.rf (by decide)) dX8_readItem_52 ?_
      refine go_aload_n (pc := 55) rfl dX8_readItem_55 ?_
      refine gi_get (pc := 56) (lo := 0) (hi := 1) hv461 fL_X8_187 rfl (Nat.le_of_ble_eq_true rfl) rfl rfl dX8_readItem_56 (fun v598 v598l v598u v598w => ?_)
      have v598S : v598.toInt = S := by rw [v598w]; exact (congrArg Int32.toInt oh461.side).trans hS.symm
      refine gi_iald (pc := 59) (lo := 0) (hi := 40) (len := 2) hv461 (ti_rfl v598) rfl (by omega) (by omega) (fun _ => rfl) dX8_readItem_59 (fun v599 v599l v599u v599w => ?_)
      have v599V : v599.toInt = V h461.2.1 75 S := by rw [v599w, v598S]; rfl
      refine go_bipush (pc := 60) (v := 40) (by decide) dX8_readItem_60 ?_
      refine gf_icmp_ne (pc := 62) (tgt := 70) (ti_rfl v599) (ti_c (v := 40) (a := 40) (by decide)) (by decide) dX8_readItem_62 (fun q600 => ?_) (fun q600 => ?_)
      ·
        have z601 : (0 : Int32).toInt = 0 := (ti_c (v := 0) (a := 0) (by decide))
        have g602 : (0 : Int) ≤ (h461.2.1 70 4).toInt := (hv461.2.1 70 4).1
        have g603 : (h461.2.1 70 4).toInt ≤ 500 := (hv461.2.1 70 4).2
        have g604 : (-2147483648 : Int) ≤ (h461.2.1 70 5).toInt := (hv461.2.1 70 5).1
        have g605 : (h461.2.1 70 5).toInt ≤ 2147483647 := (hv461.2.1 70 5).2
        have g606 : (h461.2.1 70 4).toInt = u468.toInt := by rw [← (show u468 = h461.2.1 70 4 from u468w)] <;> exact (ti_rfl u468)
        have g607 : (h461.2.1 70 5).toInt = u469.toInt := by rw [← (show u469 = h461.2.1 70 5 from u469w)] <;> exact (ti_rfl u469)
        exact go_lv rfl ((key 14) a2 a3 a4 v467 0 _ h461 hv461 (MW.rfl _) (by omega) (by omega) (by omega) (by omega) (by omega) (by omega) (by omega) (by omega) (by omega) (by omega) ve461 (by omega) (by omega) (by omega) (by omega) (by omega) oh461 ck461 kp461 (by omega) (by omega) (by omega) (by omega) (by omega))
      ·
        refine go_aload_n (pc := 65) rfl dX8_readItem_65 ?_
        refine go_iconst (pc := 66) (v := 4) (by decide) dX8_readItem_66 ?_
        have g608 : (0 : Int) ≤ (h461.2.1 70 4).toInt := (hv461.2.1 70 4).1
        have g609 : (h461.2.1 70 4).toInt ≤ 500 := (hv461.2.1 70 4).2
        have g610 : (-2147483648 : Int) ≤ (h461.2.1 70 5).toInt := (hv461.2.1 70 5).1
        have g611 : (h461.2.1 70 5).toInt ≤ 2147483647 := (hv461.2.1 70 5).2
        have g612 : (h461.2.1 70 4).toInt = u468.toInt := by rw [← (show u468 = h461.2.1 70 4 from u468w)] <;> exact (ti_rfl u468)
        have g613 : (h461.2.1 70 5).toInt = u469.toInt := by rw [← (show u469 = h461.2.1 70 5 from u469w)] <;> exact (ti_rfl u469)
        refine go_invV (pc := 67) (sl := 0) (s_X8_fails l (d + 3) hv461 4 (by rw [show (4 : Int32).toInt = 4 from (ti_c (v := 4) (a := 4) (by decide))]; omega) (by rw [show (4 : Int32).toInt = 4 from (ti_c (v := 4) (a := 4) (by decide))]; omega)) mL_X8_180 iM_X8_fails sM_X8_fails (hv461.sh rfl) rfl rfl rfl (Nat.le_of_ble_eq_true rfl) (show d + 3 + 1 + 1 ≤ d + 5 by omega) (show 8 + (2 + 11) + 40 * (d + 3 + 1) ≤ 40 * (d + 5) by omega) (g_c0 hv461.ln) (Nat.le_of_ble_eq_true rfl) dX8_readItem_67 ?_
        intro r h614 hq _
        obtain ⟨rfl, hv614, f615, f616⟩ := hq
        try rw [show (4 : Int32).toInt = 4 from (ti_c (v := 4) (a := 4) (by decide))] at f615
        try rw [show (4 : Int32).toInt = 4 from (ti_c (v := 4) (a := 4) (by decide))] at f616
        have ve614 : VE h461.2.1 h614.2.1 := VE.of hv461 hv614
        have oh614 : OH h.2.1 h614.2.1 S := oh461.trans (OH.of hv461 hv614 S)
        have kp614 : KP h.2.1 h614.2.1 := kp461.trans (KP.ve ve614)
        have ck614 : CKF h.2.1 → CKF h614.2.1 := fun z => CKF.ve ve614 (ck461 z)
        have n73_614 : V h614.2.1 73 S = V h461.2.1 73 S := ve614.v (by omega) (by omega)
        have n74_614 : V h614.2.1 74 S = V h461.2.1 74 S := ve614.v (by omega) (by omega)
        have n75_614 : V h614.2.1 75 S = V h461.2.1 75 S := ve614.v (by omega) (by omega)
        obtain ⟨u617, u617w⟩ : ∃ v : Int32, v = h614.2.1 70 4 := ⟨_, rfl⟩
        have u617e : (h614.2.1 70 4).toInt = u617.toInt := by rw [u617w]
        have u617l : 0 ≤ u617.toInt := by rw [u617w]; exact (hv614.2.1 70 4).1
        have u617u : u617.toInt ≤ 500 := by rw [u617w]; exact (hv614.2.1 70 4).2
        obtain ⟨u618, u618w⟩ : ∃ v : Int32, v = h614.2.1 70 5 := ⟨_, rfl⟩
        have u618e : (h614.2.1 70 5).toInt = u618.toInt := by rw [u618w]
        have u618l : -2147483648 ≤ u618.toInt := by rw [u618w]; exact (hv614.2.1 70 5).1
        have u618u : u618.toInt ≤ 2147483647 := by rw [u618w]; exact (hv614.2.1 70 5).2
        have z619 : (0 : Int32).toInt = 0 := (ti_c (v := 0) (a := 0) (by decide))
        have g620 : (0 : Int) ≤ (h614.2.1 70 4).toInt := (hv614.2.1 70 4).1
        have g621 : (h614.2.1 70 4).toInt ≤ 500 := (hv614.2.1 70 4).2
        have g622 : (-2147483648 : Int) ≤ (h614.2.1 70 5).toInt := (hv614.2.1 70 5).1
        have g623 : (h614.2.1 70 5).toInt ≤ 2147483647 := (hv614.2.1 70 5).2
        have g624 : (h614.2.1 70 4).toInt = u617.toInt := by rw [← (show u617 = h614.2.1 70 4 from u617w)] <;> exact (ti_rfl u617)
        have g625 : (h614.2.1 70 5).toInt = u618.toInt := by rw [← (show u618 = h614.2.1 70 5 from u618w)] <;> exact (ti_rfl u618)
        exact go_lv rfl ((key 14) a2 a3 a4 v467 0 _ h614 hv614 (MW.rfl _) (by omega) (by omega) (by omega) (by omega) (by omega) (by omega) (by omega) (by omega) (by omega) (by omega) (ve461.trans ve614) (by omega) (by omega) (by omega) (by omega) (by omega) oh614 ck614 kp614 (by omega) (by omega) (by omega) (by omega) (by omega))
set_option maxHeartbeats 4000000 in
set_option maxRecDepth 100000 in
theorem s_X8_readTest_b (l : Launch) (d : Nat) {t : Nat} (ihB : ∀ {P : PP} {h : HP} (_ : Iv P h) (a2 : Int32) (a2l : -1 ≤ a2.toInt) (a2u : a2.toInt ≤ 259) (a3 : Int32) (a3l : 0 ≤ a3.toInt) (a3u : a3.toInt ≤ 4) (a4 : Int32) (a4l : 0 ≤ a4.toInt) (a4u : a4.toInt ≤ 7) (hp : (h.2.1 70 5).toInt = 0 → 6 * (V h.2.1 73 (h.2.1 70 6).toInt - V h.2.1 75 (h.2.1 70 6).toInt) ≤ (h.2.1 70 4).toInt + 5 * a4.toInt ∧ 2 * V h.2.1 74 (h.2.1 70 6).toInt ≤ (h.2.1 70 4).toInt + a4.toInt) (ht : (h.2.1 70 5).toInt = 0 → TR h.2.1 (h.2.1 70 6).toInt ∧ OO h.2.1 (h.2.1 70 6).toInt a2.toInt a4.toInt) (hd : 7 ≤ a4.toInt + (t : Int)), Mt l yX8_readBlock cX8_readBlock 5 (some .int) (d + 3) [.ref 70, .int a2, .int a3, .int a4] h 0 0 (fun r h' => ∃ v : Int32, r = some (.int v) ∧ 0 ≤ v.toInt ∧ v.toInt ≤ 559 ∧ (∃ Q : PP, Iv Q h' ∧ MW P Q) ∧ ((h'.2.1 70 5).toInt = 0 → (h.2.1 70 5).toInt = 0) ∧ ((h.2.1 70 4).toInt ≤ (h'.2.1 70 4).toInt) ∧ ((h'.2.1 70 5).toInt = 0 → (h.2.1 70 4).toInt + 2 ≤ (h'.2.1 70 4).toInt ∧ 6 * (V h'.2.1 73 (h.2.1 70 6).toInt - V h'.2.1 75 (h.2.1 70 6).toInt) - (h'.2.1 70 4).toInt ≤ 6 * (V h.2.1 73 (h.2.1 70 6).toInt - V h.2.1 75 (h.2.1 70 6).toInt) - (h.2.1 70 4).toInt - 2 ∧ 2 * V h'.2.1 74 (h.2.1 70 6).toInt - (h'.2.1 70 4).toInt ≤ 2 * V h.2.1 74 (h.2.1 70 6).toInt - (h.2.1 70 4).toInt) ∧ ((h'.2.1 70 5).toInt = 0 → RB h.2.1 h'.2.1 (h.2.1 70 6).toInt a2.toInt a4.toInt v.toInt) ∧ (KP h.2.1 h'.2.1) ∧ (OH h.2.1 h'.2.1 (h.2.1 70 6).toInt) ∧ (CKF h.2.1 → CKF h'.2.1))) {P : PP} {h : HP} (hv : Iv P h) (a2 : Int32) (a2l : 0 ≤ a2.toInt) (a2u : a2.toInt ≤ 259) (a3 : Int32) (a3l : 0 ≤ a3.toInt) (a3u : a3.toInt ≤ 4) (a4 : Int32) (a4l : 0 ≤ a4.toInt) (a4u : a4.toInt ≤ 6) (hi : 130 * (h.2.1 70 6).toInt ≤ a2.toInt ∧ a2.toInt < 130 * (h.2.1 70 6).toInt + 130) (h0 : (h.2.1 70 5).toInt = 0) (hp : 6 * (V h.2.1 73 (h.2.1 70 6).toInt - V h.2.1 75 (h.2.1 70 6).toInt) ≤ (h.2.1 70 4).toInt + 5 * a4.toInt + 5 ∧ 2 * V h.2.1 74 (h.2.1 70 6).toInt ≤ (h.2.1 70 4).toInt + a4.toInt + 1) (ht : TR h.2.1 (h.2.1 70 6).toInt ∧ a2.toInt = 130 * (h.2.1 70 6).toInt + V h.2.1 73 (h.2.1 70 6).toInt - 1 ∧ 0 < V h.2.1 73 (h.2.1 70 6).toInt ∧ V h.2.1 80 a2.toInt = a4.toInt ∧ (V h.2.1 77 a2.toInt = 2 ∨ V h.2.1 77 a2.toInt = 3)) (hd : 7 ≤ a4.toInt + ((t + 1 : Nat) : Int)) : Mt l yX8_readTest cX8_readTest 4 none (d + 4) [.ref 70, .int a2, .int a3, .int a4] h 0 0 (fun r h' => r = none ∧ (∃ Q : PP, Iv Q h' ∧ MW P Q) ∧ ((h'.2.1 70 5).toInt = 0 → (h.2.1 70 5).toInt = 0) ∧ ((h.2.1 70 4).toInt ≤ (h'.2.1 70 4).toInt) ∧ ((h'.2.1 70 5).toInt = 0 → 6 * (V h'.2.1 73 (h.2.1 70 6).toInt - V h'.2.1 75 (h.2.1 70 6).toInt) - (h'.2.1 70 4).toInt ≤ 6 * (V h.2.1 73 (h.2.1 70 6).toInt - V h.2.1 75 (h.2.1 70 6).toInt) - (h.2.1 70 4).toInt - 0 ∧ 2 * V h'.2.1 74 (h.2.1 70 6).toInt - (h'.2.1 70 4).toInt ≤ 2 * V h.2.1 74 (h.2.1 70 6).toInt - (h.2.1 70 4).toInt) ∧ ((h'.2.1 70 5).toInt = 0 → RT h.2.1 h'.2.1 (h.2.1 70 6).toInt a2.toInt a4.toInt) ∧ (KP h.2.1 h'.2.1) ∧ (OH h.2.1 h'.2.1 (h.2.1 70 6).toInt) ∧ (CKF h.2.1 → CKF h'.2.1)) := by
  refine Mt_iv hv (by decide) (Nat.le_of_ble_eq_true rfl) ?_
  show Go l RX8 cX8_readTest 4 (g_rm (d + 4) 0 0) "readTest" none 117 0 0 (fun _ _ => True) (fun r h' => r = none ∧ (∃ Q : PP, Iv Q h' ∧ MW P Q) ∧ ((h'.2.1 70 5).toInt = 0 → (h.2.1 70 5).toInt = 0) ∧ ((h.2.1 70 4).toInt ≤ (h'.2.1 70 4).toInt) ∧ ((h'.2.1 70 5).toInt = 0 → 6 * (V h'.2.1 73 (h.2.1 70 6).toInt - V h'.2.1 75 (h.2.1 70 6).toInt) - (h'.2.1 70 4).toInt ≤ 6 * (V h.2.1 73 (h.2.1 70 6).toInt - V h.2.1 75 (h.2.1 70 6).toInt) - (h.2.1 70 4).toInt - 0 ∧ 2 * V h'.2.1 74 (h.2.1 70 6).toInt - (h'.2.1 70 4).toInt ≤ 2 * V h.2.1 74 (h.2.1 70 6).toInt - (h.2.1 70 4).toInt) ∧ ((h'.2.1 70 5).toInt = 0 → RT h.2.1 h'.2.1 (h.2.1 70 6).toInt a2.toInt a4.toInt) ∧ (KP h.2.1 h'.2.1) ∧ (OH h.2.1 h'.2.1 (h.2.1 70 6).toInt) ∧ (CKF h.2.1 → CKF h'.2.1)) 0 0 [(0, .ref 70), (1, .int a2), (2, .int a3), (3, .int a4)] [] h
  obtain ⟨S, hS⟩ : ∃ S : Int, S = (h.2.1 70 6).toInt := ⟨_, rfl⟩
  have S0 : 0 ≤ S := by rw [hS]; exact (hv.2.1 70 6).1
  have S1 : S ≤ 1 := by rw [hS]; exact (hv.2.1 70 6).2
  have oh : OH h.2.1 h.2.1 S := OH.rfl _ _
  have ck : CKF h.2.1 → CKF h.2.1 := id
  have kp : KP h.2.1 h.2.1 := KP.rfl _
  rw [← hS] at hi
  rw [← hS] at hp
  rw [← hS] at ht
  refine go_aload_n (pc := 0) rfl dX8_readTest_0 ?_
  refine go_iload_n (pc := 1) rfl dX8_readTest_1 ?_
  refine go_iconst (pc := 2) (v := 0) (by decide) dX8_readTest_2 ?_
  have sM1 : (h.2.1 70 6).toInt = S := (congrArg Int32.toInt oh.side).trans hS.symm
  have g2 : (0 : Int) ≤ (h.2.1 70 4).toInt := (hv.2.1 70 4).1
  have g3 : (h.2.1 70 4).toInt ≤ 500 := (hv.2.1 70 4).2
  have g4 : (-2147483648 : Int) ≤ (h.2.1 70 5).toInt := (hv.2.1 70 5).1
  have g5 : (h.2.1 70 5).toInt ≤ 2147483647 := (hv.2.1 70 5).2
  refine go_invV (pc := 3) (sl := 0) (s_X8_operand l (d + 0) hv a2 (by rw [show (a2 : Int32).toInt = a2.toInt from (ti_rfl a2)]; omega) (by rw [show (a2 : Int32).toInt = a2.toInt from (ti_rfl a2)]; omega) 0 (by rw [show (0 : Int32).toInt = 0 from (ti_c (v := 0) (a := 0) (by decide))]; omega) (by rw [show (0 : Int32).toInt = 0 from (ti_c (v := 0) (a := 0) (by decide))]; omega) (by rw [sM1]; exact hi)) mL_X8_218 iM_X8_operand sM_X8_operand (hv.sh rfl) rfl rfl rfl (Nat.le_of_ble_eq_true rfl) (show d + 0 + 3 + 1 ≤ d + 4 by omega) (show 8 + (7 + 11) + 40 * (d + 0 + 3) ≤ 40 * (d + 4) by omega) (g_c0 hv.ln) (Nat.le_of_ble_eq_true rfl) dX8_readTest_3 ?_
  intro r h6 hq _
  obtain ⟨rfl, ⟨Q7, hv6, sq8⟩, f9, f10, f11, f12, f13, f14, f15, f16, f17⟩ := hq
  rw [sM1] at f12
  rw [sM1] at f13
  rw [sM1] at f14
  rw [sM1] at f16
  have oh6 : OH h.2.1 h6.2.1 S := oh.trans f16
  have kp6 : KP h.2.1 h6.2.1 := kp.trans f15
  have ck6 : CKF h.2.1 → CKF h6.2.1 := fun z => f17 (ck z)
  try rw [show (0 : Int32).toInt = 0 from (ti_c (v := 0) (a := 0) (by decide))] at f9
  try rw [show (0 : Int32).toInt = 0 from (ti_c (v := 0) (a := 0) (by decide))] at f10
  try rw [show (0 : Int32).toInt = 0 from (ti_c (v := 0) (a := 0) (by decide))] at f11
  try rw [show (0 : Int32).toInt = 0 from (ti_c (v := 0) (a := 0) (by decide))] at f12
  try rw [show (0 : Int32).toInt = 0 from (ti_c (v := 0) (a := 0) (by decide))] at f13
  try rw [show (0 : Int32).toInt = 0 from (ti_c (v := 0) (a := 0) (by decide))] at f14
  try rw [show (0 : Int32).toInt = 0 from (ti_c (v := 0) (a := 0) (by decide))] at f15
  try rw [show (0 : Int32).toInt = 0 from (ti_c (v := 0) (a := 0) (by decide))] at f16
  try rw [show (0 : Int32).toInt = 0 from (ti_c (v := 0) (a := 0) (by decide))] at f17
  obtain ⟨u18, u18w⟩ : ∃ v : Int32, v = h6.2.1 70 4 := ⟨_, rfl⟩
  have u18e : (h6.2.1 70 4).toInt = u18.toInt := by rw [u18w]
  have u18l : 0 ≤ u18.toInt := by rw [u18w]; exact (hv6.2.1 70 4).1
  have u18u : u18.toInt ≤ 500 := by rw [u18w]; exact (hv6.2.1 70 4).2
  obtain ⟨u19, u19w⟩ : ∃ v : Int32, v = h6.2.1 70 5 := ⟨_, rfl⟩
  have u19e : (h6.2.1 70 5).toInt = u19.toInt := by rw [u19w]
  have u19l : -2147483648 ≤ u19.toInt := by rw [u19w]; exact (hv6.2.1 70 5).1
  have u19u : u19.toInt ≤ 2147483647 := by rw [u19w]; exact (hv6.2.1 70 5).2
  refine go_aload_n (pc := 6) rfl dX8_readTest_6 ?_
  refine go_bipush (pc := 7) (v := 60) (by decide) dX8_readTest_7 ?_
  have g20 : (0 : Int) ≤ (h6.2.1 70 4).toInt := (hv6.2.1 70 4).1
  have g21 : (h6.2.1 70 4).toInt ≤ 500 := (hv6.2.1 70 4).2
  have g22 : (-2147483648 : Int) ≤ (h6.2.1 70 5).toInt := (hv6.2.1 70 5).1
  have g23 : (h6.2.1 70 5).toInt ≤ 2147483647 := (hv6.2.1 70 5).2
  have g24 : (h6.2.1 70 4).toInt = u18.toInt := by rw [← (show u18 = h6.2.1 70 4 from u18w)] <;> exact (ti_rfl u18)
  have g25 : (h6.2.1 70 5).toInt = u19.toInt := by rw [← (show u19 = h6.2.1 70 5 from u19w)] <;> exact (ti_rfl u19)
  refine go_invV (pc := 9) (sl := 0) (s_X8_must l (d + 1) hv6 60 (by rw [show (60 : Int32).toInt = 60 from (ti_c (v := 60) (a := 60) (by decide))]; omega) (by rw [show (60 : Int32).toInt = 60 from (ti_c (v := 60) (a := 60) (by decide))]; omega)) mL_X8_198 iM_X8_must sM_X8_must (hv6.sh rfl) rfl rfl rfl (Nat.le_of_ble_eq_true rfl) (show d + 1 + 2 + 1 ≤ d + 4 by omega) (show 8 + (2 + 11) + 40 * (d + 1 + 2) ≤ 40 * (d + 4) by omega) (g_c0 hv6.ln) (Nat.le_of_ble_eq_true rfl) dX8_readTest_9 ?_
  intro r h26 hq _
  obtain ⟨rfl, hv26, f27, f28, f29⟩ := hq
  try rw [show (60 : Int32).toInt = 60 from (ti_c (v := 60) (a := 60) (by decide))] at f27
  try rw [show (60 : Int32).toInt = 60 from (ti_c (v := 60) (a := 60) (by decide))] at f28
  try rw [show (60 : Int32).toInt = 60 from (ti_c (v := 60) (a := 60) (by decide))] at f29
  have ve26 : VE h6.2.1 h26.2.1 := VE.of hv6 hv26
  have oh26 : OH h.2.1 h26.2.1 S := oh6.trans (OH.of hv6 hv26 S)
  have kp26 : KP h.2.1 h26.2.1 := kp6.trans (KP.ve ve26)
  have ck26 : CKF h.2.1 → CKF h26.2.1 := fun z => CKF.ve ve26 (ck6 z)
  have n73_26 : V h26.2.1 73 S = V h6.2.1 73 S := ve26.v (by omega) (by omega)
  have n74_26 : V h26.2.1 74 S = V h6.2.1 74 S := ve26.v (by omega) (by omega)
  have n75_26 : V h26.2.1 75 S = V h6.2.1 75 S := ve26.v (by omega) (by omega)
  obtain ⟨u30, u30w⟩ : ∃ v : Int32, v = h26.2.1 70 4 := ⟨_, rfl⟩
  have u30e : (h26.2.1 70 4).toInt = u30.toInt := by rw [u30w]
  have u30l : 0 ≤ u30.toInt := by rw [u30w]; exact (hv26.2.1 70 4).1
  have u30u : u30.toInt ≤ 500 := by rw [u30w]; exact (hv26.2.1 70 4).2
  obtain ⟨u31, u31w⟩ : ∃ v : Int32, v = h26.2.1 70 5 := ⟨_, rfl⟩
  have u31e : (h26.2.1 70 5).toInt = u31.toInt := by rw [u31w]
  have u31l : -2147483648 ≤ u31.toInt := by rw [u31w]; exact (hv26.2.1 70 5).1
  have u31u : u31.toInt ≤ 2147483647 := by rw [u31w]; exact (hv26.2.1 70 5).2
  refine go_aload_n (pc := 12) rfl dX8_readTest_12 ?_
  refine go_iload_n (pc := 13) rfl dX8_readTest_13 ?_
  refine go_iconst (pc := 14) (v := 1) (by decide) dX8_readTest_14 ?_
  have sM32 : (h26.2.1 70 6).toInt = S := (congrArg Int32.toInt oh26.side).trans hS.symm
  have g33 : (0 : Int) ≤ (h26.2.1 70 4).toInt := (hv26.2.1 70 4).1
  have g34 : (h26.2.1 70 4).toInt ≤ 500 := (hv26.2.1 70 4).2
  have g35 : (-2147483648 : Int) ≤ (h26.2.1 70 5).toInt := (hv26.2.1 70 5).1
  have g36 : (h26.2.1 70 5).toInt ≤ 2147483647 := (hv26.2.1 70 5).2
  have g37 : (h26.2.1 70 4).toInt = u30.toInt := by rw [← (show u30 = h26.2.1 70 4 from u30w)] <;> exact (ti_rfl u30)
  have g38 : (h26.2.1 70 5).toInt = u31.toInt := by rw [← (show u31 = h26.2.1 70 5 from u31w)] <;> exact (ti_rfl u31)
  refine go_invV (pc := 15) (sl := 0) (s_X8_operand l (d + 0) hv26 a2 (by rw [show (a2 : Int32).toInt = a2.toInt from (ti_rfl a2)]; omega) (by rw [show (a2 : Int32).toInt = a2.toInt from (ti_rfl a2)]; omega) 1 (by rw [show (1 : Int32).toInt = 1 from (ti_c (v := 1) (a := 1) (by decide))]; omega) (by rw [show (1 : Int32).toInt = 1 from (ti_c (v := 1) (a := 1) (by decide))]; omega) (by rw [sM32]; exact hi)) mL_X8_218 iM_X8_operand sM_X8_operand (hv26.sh rfl) rfl rfl rfl (Nat.le_of_ble_eq_true rfl) (show d + 0 + 3 + 1 ≤ d + 4 by omega) (show 8 + (7 + 11) + 40 * (d + 0 + 3) ≤ 40 * (d + 4) by omega) (g_c0 hv26.ln) (Nat.le_of_ble_eq_true rfl) dX8_readTest_15 ?_
  intro r h39 hq _
  obtain ⟨rfl, ⟨Q40, hv39, sq41⟩, f42, f43, f44, f45, f46, f47, f48, f49, f50⟩ := hq
  rw [sM32] at f45
  rw [sM32] at f46
  rw [sM32] at f47
  rw [sM32] at f49
  have oh39 : OH h.2.1 h39.2.1 S := oh26.trans f49
  have kp39 : KP h.2.1 h39.2.1 := kp26.trans f48
  have ck39 : CKF h.2.1 → CKF h39.2.1 := fun z => f50 (ck26 z)
  try rw [show (1 : Int32).toInt = 1 from (ti_c (v := 1) (a := 1) (by decide))] at f42
  try rw [show (1 : Int32).toInt = 1 from (ti_c (v := 1) (a := 1) (by decide))] at f43
  try rw [show (1 : Int32).toInt = 1 from (ti_c (v := 1) (a := 1) (by decide))] at f44
  try rw [show (1 : Int32).toInt = 1 from (ti_c (v := 1) (a := 1) (by decide))] at f45
  try rw [show (1 : Int32).toInt = 1 from (ti_c (v := 1) (a := 1) (by decide))] at f46
  try rw [show (1 : Int32).toInt = 1 from (ti_c (v := 1) (a := 1) (by decide))] at f47
  try rw [show (1 : Int32).toInt = 1 from (ti_c (v := 1) (a := 1) (by decide))] at f48
  try rw [show (1 : Int32).toInt = 1 from (ti_c (v := 1) (a := 1) (by decide))] at f49
  try rw [show (1 : Int32).toInt = 1 from (ti_c (v := 1) (a := 1) (by decide))] at f50
  obtain ⟨u51, u51w⟩ : ∃ v : Int32, v = h39.2.1 70 4 := ⟨_, rfl⟩
  have u51e : (h39.2.1 70 4).toInt = u51.toInt := by rw [u51w]
  have u51l : 0 ≤ u51.toInt := by rw [u51w]; exact (hv39.2.1 70 4).1
  have u51u : u51.toInt ≤ 500 := by rw [u51w]; exact (hv39.2.1 70 4).2
  obtain ⟨u52, u52w⟩ : ∃ v : Int32, v = h39.2.1 70 5 := ⟨_, rfl⟩
  have u52e : (h39.2.1 70 5).toInt = u52.toInt := by rw [u52w]
  have u52l : -2147483648 ≤ u52.toInt := by rw [u52w]; exact (hv39.2.1 70 5).1
  have u52u : u52.toInt ≤ 2147483647 := by rw [u52w]; exact (hv39.2.1 70 5).2
  refine go_aload_n (pc := 18) rfl dX8_readTest_18 ?_
  refine go_invV (pc := 19) (sl := 0) (s_X8_isGood l (d + 2) hv39 ) mL_X8_172 iM_X8_isGood sM_X8_isGood (hv39.sh rfl) rfl rfl rfl (Nat.le_of_ble_eq_true rfl) (show d + 2 + 1 + 1 ≤ d + 4 by omega) (show 8 + (1 + 11) + 40 * (d + 2 + 1) ≤ 40 * (d + 4) by omega) (g_c0 hv39.ln) (Nat.le_of_ble_eq_true rfl) dX8_readTest_19 ?_
  intro r h53 hq _
  obtain ⟨v56, rfl, v56l, v56u, rfl, f54, f55⟩ := hq
  refine gf_if_ne (pc := 22) (tgt := 26) (ti_rfl v56) (by decide) dX8_readTest_22 (fun q57 => ?_) (fun q57 => ?_)
  ·
    refine go_aload_n (pc := 26) rfl dX8_readTest_26 ?_
    refine gi_getF (pc := 27) (q := 85) hv39 fL_X8_53 rfl (Nat.le_of_ble_eq_true rfl) rfl (hv39.rf (by decide)) dX8_readTest_27 ?_
    refine go_iload_n (pc := 30) rfl dX8_readTest_30 ?_
    refine go_aload_n (pc := 31) rfl dX8_readTest_31 ?_
    refine go_iload_n (pc := 32) rfl dX8_readTest_32 ?_
    refine go_iload_n (pc := 33) rfl dX8_readTest_33 ?_
    refine go_iload_n (pc := 34) rfl dX8_readTest_34 ?_
    refine go_iconst (pc := 35) (v := 1) (by decide) dX8_readTest_35 ?_
    refine gf_iadd (pc := 36) (ti_rfl a4) (ti_c (v := 1) (a := 1) (by decide)) (by omega) (by omega) dX8_readTest_36 (fun v58 e59 => ?_)
    have zd : (v58 : Int32).toInt = a4.toInt + 1 := e59
    have op1 : OP h.2.1 h39.2.1 := ((((OP.rfl _).trans (f11 (by omega))).trans (OP.ve ve26)).trans (f44 (by omega)))
    have o80 := (op1 S).2 80 a2.toInt (by omega) (by omega) (by omega) (by omega)
    have sM60 : (h39.2.1 70 6).toInt = S := (congrArg Int32.toInt oh39.side).trans hS.symm
    have g61 : (0 : Int) ≤ (h39.2.1 70 4).toInt := (hv39.2.1 70 4).1
    have g62 : (h39.2.1 70 4).toInt ≤ 500 := (hv39.2.1 70 4).2
    have g63 : (-2147483648 : Int) ≤ (h39.2.1 70 5).toInt := (hv39.2.1 70 5).1
    have g64 : (h39.2.1 70 5).toInt ≤ 2147483647 := (hv39.2.1 70 5).2
    have g65 : (h39.2.1 70 4).toInt = u51.toInt := by rw [← (show u51 = h39.2.1 70 4 from u51w)] <;> exact (ti_rfl u51)
    have g66 : (h39.2.1 70 5).toInt = u52.toInt := by rw [← (show u52 = h39.2.1 70 5 from u52w)] <;> exact (ti_rfl u52)
    refine go_invV (pc := 37) (sl := 0) (ihB hv39 a2 (by rw [show (a2 : Int32).toInt = a2.toInt from (ti_rfl a2)]; omega) (by rw [show (a2 : Int32).toInt = a2.toInt from (ti_rfl a2)]; omega) a3 (by rw [show (a3 : Int32).toInt = a3.toInt from (ti_rfl a3)]; omega) (by rw [show (a3 : Int32).toInt = a3.toInt from (ti_rfl a3)]; omega) v58 (by rw [show (v58 : Int32).toInt = (a4.toInt + 1) from e59]; omega) (by rw [show (v58 : Int32).toInt = (a4.toInt + 1) from e59]; omega) (by rw [sM60]; exact (fun _ => by omega)) (by rw [sM60]; exact (fun _ => by rw [zd]; exact ⟨(op1 S).1 ht.1, OO.last (by omega) (by omega) (by omega)⟩)) (by omega)) mL_X8_224 iM_X8_readBlock sM_X8_readBlock (hv39.sh rfl) rfl rfl rfl (Nat.le_of_ble_eq_true rfl) (show d + 3 + 1 ≤ d + 4 by omega) (show 8 + (5 + 11) + 40 * (d + 3) ≤ 40 * (d + 4) by omega) (g_c0 hv39.ln) (Nat.le_of_ble_eq_true rfl) dX8_readTest_37 ?_
    intro r h67 hq _
    obtain ⟨v77, rfl, v77l, v77u, ⟨Q68, hv67, sq69⟩, f70, f71, f72, f73, f74, f75, f76⟩ := hq
    rw [sM60] at f72
    rw [sM60] at f73
    rw [sM60] at f75
    have oh67 : OH h.2.1 h67.2.1 S := oh39.trans f75
    have kp67 : KP h.2.1 h67.2.1 := kp39.trans f74
    have ck67 : CKF h.2.1 → CKF h67.2.1 := fun z => f76 (ck39 z)
    try rw [show (v58 : Int32).toInt = (a4.toInt + 1) from e59] at f70
    try rw [show (v58 : Int32).toInt = (a4.toInt + 1) from e59] at f71
    try rw [show (v58 : Int32).toInt = (a4.toInt + 1) from e59] at f72
    try rw [show (v58 : Int32).toInt = (a4.toInt + 1) from e59] at f73
    try rw [show (v58 : Int32).toInt = (a4.toInt + 1) from e59] at f74
    try rw [show (v58 : Int32).toInt = (a4.toInt + 1) from e59] at f75
    try rw [show (v58 : Int32).toInt = (a4.toInt + 1) from e59] at f76
    obtain ⟨u78, u78w⟩ : ∃ v : Int32, v = h67.2.1 70 4 := ⟨_, rfl⟩
    have u78e : (h67.2.1 70 4).toInt = u78.toInt := by rw [u78w]
    have u78l : 0 ≤ u78.toInt := by rw [u78w]; exact (hv67.2.1 70 4).1
    have u78u : u78.toInt ≤ 500 := by rw [u78w]; exact (hv67.2.1 70 4).2
    obtain ⟨u79, u79w⟩ : ∃ v : Int32, v = h67.2.1 70 5 := ⟨_, rfl⟩
    have u79e : (h67.2.1 70 5).toInt = u79.toInt := by rw [u79w]
    have u79l : -2147483648 ≤ u79.toInt := by rw [u79w]; exact (hv67.2.1 70 5).1
    have u79u : u79.toInt ≤ 2147483647 := by rw [u79w]; exact (hv67.2.1 70 5).2
    refine gi_fst (pc := 40) (lo := -1) (hi := 559) (len := 260) hv67 (ti_rfl a2) (ti_rfl v77) rfl (by omega) (by omega) (fun _ => rfl) (by omega) (by omega) (by omega) dX8_readTest_40 (fun h80 hv80 hv80e => ?_)
    refine go_aload_n (pc := 41) rfl dX8_readTest_41 ?_
    refine go_invV (pc := 42) (sl := 0) (s_X8_isGood l (d + 2) hv80 ) mL_X8_172 iM_X8_isGood sM_X8_isGood (hv80.sh rfl) rfl rfl rfl (Nat.le_of_ble_eq_true rfl) (show d + 2 + 1 + 1 ≤ d + 4 by omega) (show 8 + (1 + 11) + 40 * (d + 2 + 1) ≤ 40 * (d + 4) by omega) (g_c0 hv80.ln) (Nat.le_of_ble_eq_true rfl) dX8_readTest_42 ?_
    intro r h81 hq _
    obtain ⟨v84, rfl, v84l, v84u, rfl, f82, f83⟩ := hq
    have E80 : h80.2.1 = (w1 h67.2.1 85 a2.toInt (v77 : Int32)) := by
      rw [hv80e]
      rfl
    have oh80 : OH h.2.1 h80.2.1 S := by rw [E80]; exact (oh67.trans (OH.w 130 rfl (by omega) (by omega) (by omega) (by omega)))
    have kp80 : KP h.2.1 h80.2.1 := by rw [E80]; exact (kp67.trans (KP.w (by omega)))
    have n73_80 : V h80.2.1 73 S = V h67.2.1 73 S := by rw [E80, V_ne (by omega)]
    have n74_80 : V h80.2.1 74 S = V h67.2.1 74 S := by rw [E80, V_ne (by omega)]
    have n75_80 : V h80.2.1 75 S = V h67.2.1 75 S := by rw [E80, V_ne (by omega)]
    have ck80 : CKF h.2.1 → CKF h80.2.1 := fun z => by rw [E80]; exact (CKF.w (by omega) (ck67 z))
    refine gf_if_eq (pc := 45) (tgt := 67) (ti_rfl v84) (by decide) dX8_readTest_45 (fun q85 => ?_) (fun q85 => ?_)
    ·
      have g86 : (0 : Int) ≤ (h80.2.1 70 4).toInt := (hv80.2.1 70 4).1
      have g87 : (h80.2.1 70 4).toInt ≤ 500 := (hv80.2.1 70 4).2
      have g88 : (-2147483648 : Int) ≤ (h80.2.1 70 5).toInt := (hv80.2.1 70 5).1
      have g89 : (h80.2.1 70 5).toInt ≤ 2147483647 := (hv80.2.1 70 5).2
      have g90 : (h80.2.1 70 4).toInt = u78.toInt := by rw [← (show u78 = h80.2.1 70 4 from (show u78 = h80.2.1 70 4 from by rw [hv80e]; exact (g_iI rfl u78w.symm).symm))] <;> exact (ti_rfl u78)
      have g91 : (h80.2.1 70 5).toInt = u79.toInt := by rw [← (show u79 = h80.2.1 70 5 from (show u79 = h80.2.1 70 5 from by rw [hv80e]; exact (g_iI rfl u79w.symm).symm))] <;> exact (ti_rfl u79)
      have pp92 : (h80.2.1 70 5).toInt = 0 → (h.2.1 70 5).toInt = 0 := (by omega)
      have pp93 : (h.2.1 70 4).toInt ≤ (h80.2.1 70 4).toInt := (by omega)
      have pp94 : (h80.2.1 70 5).toInt = 0 → 6 * (V h80.2.1 73 S - V h80.2.1 75 S) - (h80.2.1 70 4).toInt ≤ 6 * (V h.2.1 73 S - V h.2.1 75 S) - (h.2.1 70 4).toInt - 0 ∧ 2 * V h80.2.1 74 S - (h80.2.1 70 4).toInt ≤ 2 * V h.2.1 74 S - (h.2.1 70 4).toInt := (by omega)
      have pp95 : (h80.2.1 70 5).toInt = 0 → RT h.2.1 h80.2.1 S a2.toInt a4.toInt := (fun hg => R1.fin (show R1 h.2.1 h80.2.1 S a2.toInt a4.toInt from by rw [E80]; exact R1.mk S0 ((((OP.rfl _).trans (f11 (by omega))).trans (OP.ve ve26)).trans (f44 (by omega))) (f73 (by omega)) rfl) (by omega))
      subst hS
      exact gi_vret (pc := 67) ⟨rfl, ⟨_, hv80, (MW.trans (MW.trans (MW.trans sq8 sq41) sq69) (MW.mz _ _))⟩, pp92, pp93, pp94, pp95, kp80, oh80, ck80⟩ hv80 dX8_readTest_67
    ·
      refine go_aload_n (pc := 48) rfl dX8_readTest_48 ?_
      refine gi_getF (pc := 49) (q := 77) hv80 fL_X8_29 rfl (Nat.le_of_ble_eq_true rfl) rfl (hv80.rf (by decide)) dX8_readTest_49 ?_
      refine go_iload_n (pc := 52) rfl dX8_readTest_52 ?_
      refine gi_iald (pc := 53) (lo := 0) (hi := 6) (len := 260) hv80 (ti_rfl a2) rfl (by omega) (by omega) (fun _ => rfl) dX8_readTest_53 (fun v96 v96l v96u v96w => ?_)
      have v96V : v96.toInt = V h80.2.1 77 a2.toInt := by rw [v96w]; rfl
      refine go_iconst (pc := 54) (v := 3) (by decide) dX8_readTest_54 ?_
      refine gf_icmp_eq (pc := 55) (tgt := 67) (ti_rfl v96) (ti_c (v := 3) (a := 3) (by decide)) (by decide) dX8_readTest_55 (fun q97 => ?_) (fun q97 => ?_)
      ·
        have g98 : (0 : Int) ≤ (h80.2.1 70 4).toInt := (hv80.2.1 70 4).1
        have g99 : (h80.2.1 70 4).toInt ≤ 500 := (hv80.2.1 70 4).2
        have g100 : (-2147483648 : Int) ≤ (h80.2.1 70 5).toInt := (hv80.2.1 70 5).1
        have g101 : (h80.2.1 70 5).toInt ≤ 2147483647 := (hv80.2.1 70 5).2
        have g102 : (h80.2.1 70 4).toInt = u78.toInt := by rw [← (show u78 = h80.2.1 70 4 from (show u78 = h80.2.1 70 4 from by rw [hv80e]; exact (g_iI rfl u78w.symm).symm))] <;> exact (ti_rfl u78)
        have g103 : (h80.2.1 70 5).toInt = u79.toInt := by rw [← (show u79 = h80.2.1 70 5 from (show u79 = h80.2.1 70 5 from by rw [hv80e]; exact (g_iI rfl u79w.symm).symm))] <;> exact (ti_rfl u79)
        have pp104 : (h80.2.1 70 5).toInt = 0 → (h.2.1 70 5).toInt = 0 := (by omega)
        have pp105 : (h.2.1 70 4).toInt ≤ (h80.2.1 70 4).toInt := (by omega)
        have pp106 : (h80.2.1 70 5).toInt = 0 → 6 * (V h80.2.1 73 S - V h80.2.1 75 S) - (h80.2.1 70 4).toInt ≤ 6 * (V h.2.1 73 S - V h.2.1 75 S) - (h.2.1 70 4).toInt - 0 ∧ 2 * V h80.2.1 74 S - (h80.2.1 70 4).toInt ≤ 2 * V h.2.1 74 S - (h.2.1 70 4).toInt := (by omega)
        have pp107 : (h80.2.1 70 5).toInt = 0 → RT h.2.1 h80.2.1 S a2.toInt a4.toInt := (fun hg => R1.fin (show R1 h.2.1 h80.2.1 S a2.toInt a4.toInt from by rw [E80]; exact R1.mk S0 ((((OP.rfl _).trans (f11 (by omega))).trans (OP.ve ve26)).trans (f44 (by omega))) (f73 (by omega)) rfl) (by omega))
        subst hS
        exact gi_vret (pc := 67) ⟨rfl, ⟨_, hv80, (MW.trans (MW.trans (MW.trans sq8 sq41) sq69) (MW.mz _ _))⟩, pp104, pp105, pp106, pp107, kp80, oh80, ck80⟩ hv80 dX8_readTest_67
      ·
        refine go_aload_n (pc := 58) rfl dX8_readTest_58 ?_
        have g108 : (0 : Int) ≤ (h80.2.1 70 4).toInt := (hv80.2.1 70 4).1
        have g109 : (h80.2.1 70 4).toInt ≤ 500 := (hv80.2.1 70 4).2
        have g110 : (-2147483648 : Int) ≤ (h80.2.1 70 5).toInt := (hv80.2.1 70 5).1
        have g111 : (h80.2.1 70 5).toInt ≤ 2147483647 := (hv80.2.1 70 5).2
        have g112 : (h80.2.1 70 4).toInt = u78.toInt := by rw [← (show u78 = h80.2.1 70 4 from (show u78 = h80.2.1 70 4 from by rw [hv80e]; exact (g_iI rfl u78w.symm).symm))] <;> exact (ti_rfl u78)
        have g113 : (h80.2.1 70 5).toInt = u79.toInt := by rw [← (show u79 = h80.2.1 70 5 from (show u79 = h80.2.1 70 5 from by rw [hv80e]; exact (g_iI rfl u79w.symm).symm))] <;> exact (ti_rfl u79)
        refine go_invV (pc := 59) (sl := 0) (s_X8_here l (d + 2) hv80 ) mL_X8_176 iM_X8_here sM_X8_here (hv80.sh rfl) rfl rfl rfl (Nat.le_of_ble_eq_true rfl) (show d + 2 + 1 + 1 ≤ d + 4 by omega) (show 8 + (1 + 11) + 40 * (d + 2 + 1) ≤ 40 * (d + 4) by omega) (g_c0 hv80.ln) (Nat.le_of_ble_eq_true rfl) dX8_readTest_59 ?_
        intro r h114 hq _
        obtain ⟨v119, rfl, v119l, v119u, hv114, f115, f116, f117, f118⟩ := hq
        have ve114 : VE h80.2.1 h114.2.1 := VE.of hv80 hv114
        have oh114 : OH h.2.1 h114.2.1 S := oh80.trans (OH.of hv80 hv114 S)
        have kp114 : KP h.2.1 h114.2.1 := kp80.trans (KP.ve ve114)
        have ck114 : CKF h.2.1 → CKF h114.2.1 := fun z => CKF.ve ve114 (ck80 z)
        have n73_114 : V h114.2.1 73 S = V h80.2.1 73 S := ve114.v (by omega) (by omega)
        have n74_114 : V h114.2.1 74 S = V h80.2.1 74 S := ve114.v (by omega) (by omega)
        have n75_114 : V h114.2.1 75 S = V h80.2.1 75 S := ve114.v (by omega) (by omega)
        obtain ⟨u120, u120w⟩ : ∃ v : Int32, v = h114.2.1 70 4 := ⟨_, rfl⟩
        have u120e : (h114.2.1 70 4).toInt = u120.toInt := by rw [u120w]
        have u120l : 0 ≤ u120.toInt := by rw [u120w]; exact (hv114.2.1 70 4).1
        have u120u : u120.toInt ≤ 500 := by rw [u120w]; exact (hv114.2.1 70 4).2
        obtain ⟨u121, u121w⟩ : ∃ v : Int32, v = h114.2.1 70 5 := ⟨_, rfl⟩
        have u121e : (h114.2.1 70 5).toInt = u121.toInt := by rw [u121w]
        have u121l : -2147483648 ≤ u121.toInt := by rw [u121w]; exact (hv114.2.1 70 5).1
        have u121u : u121.toInt ≤ 2147483647 := by rw [u121w]; exact (hv114.2.1 70 5).2
        refine go_bipush (pc := 62) (v := 58) (by decide) dX8_readTest_62 ?_
        refine gf_icmp_eq (pc := 64) (tgt := 68) (ti_rfl v119) (ti_c (v := 58) (a := 58) (by decide)) (by decide) dX8_readTest_64 (fun q122 => ?_) (fun q122 => ?_)
        ·
          refine go_aload_n (pc := 68) rfl dX8_readTest_68 ?_
          refine go_dup (pc := 69) rfl dX8_readTest_69 ?_
          refine gi_get (pc := 70) (lo := 0) (hi := 500) hv114 fL_X8_163 rfl (Nat.le_of_ble_eq_true rfl) rfl rfl dX8_readTest_70 (fun v123 v123l v123u v123w => ?_)
          have v123r : u120 = h114.2.1 70 4 := u120w
          have v123q : TI v123 u120.toInt := by rw [v123w.trans v123r.symm]; exact (ti_rfl u120)
          refine go_iconst (pc := 73) (v := 1) (by decide) dX8_readTest_73 ?_
          refine gf_iadd (pc := 74) v123q (ti_c (v := 1) (a := 1) (by decide)) (by omega) (by omega) dX8_readTest_74 (fun v124 e125 => ?_)
          refine gi_put (pc := 75) (lo := 0) (hi := 500) hv114 e125 (fP_X8_163 _) rfl (Nat.le_of_ble_eq_true rfl) rfl rfl (by omega) (by omega) rfl rfl (by decide) (by decide) (by decide) (by decide) dX8_readTest_75 (fun h126 hv126 hv126e => ?_)
          have ve126 : VE h114.2.1 h126.2.1 := VE.of hv114 hv126
          have oh126 : OH h.2.1 h126.2.1 S := oh114.trans (OH.of hv114 hv126 S)
          have kp126 : KP h.2.1 h126.2.1 := kp114.trans (KP.ve ve126)
          have ck126 : CKF h.2.1 → CKF h126.2.1 := fun z => CKF.ve ve126 (ck114 z)
          have n73_126 : V h126.2.1 73 S = V h114.2.1 73 S := ve126.v (by omega) (by omega)
          have n74_126 : V h126.2.1 74 S = V h114.2.1 74 S := ve126.v (by omega) (by omega)
          have n75_126 : V h126.2.1 75 S = V h114.2.1 75 S := ve126.v (by omega) (by omega)
          refine go_aload_n (pc := 78) rfl dX8_readTest_78 ?_
          refine gi_getF (pc := 79) (q := 86) hv126 fL_X8_56 rfl (Nat.le_of_ble_eq_true rfl) rfl (hv126.rf (by decide)) dX8_readTest_79 ?_
          refine go_iload_n (pc := 82) rfl dX8_readTest_82 ?_
          refine go_aload_n (pc := 83) rfl dX8_readTest_83 ?_
          refine go_iload_n (pc := 84) rfl dX8_readTest_84 ?_
          refine go_iload_n (pc := 85) rfl dX8_readTest_85 ?_
          refine go_iload_n (pc := 86) rfl dX8_readTest_86 ?_
          refine go_iconst (pc := 87) (v := 1) (by decide) dX8_readTest_87 ?_
          refine gf_iadd (pc := 88) (ti_rfl a4) (ti_c (v := 1) (a := 1) (by decide)) (by omega) (by omega) dX8_readTest_88 (fun v127 e128 => ?_)
          have zd : (v127 : Int32).toInt = a4.toInt + 1 := e128
          have r1 : R1 h.2.1 h126.2.1 S a2.toInt a4.toInt := (R1.ve (R1.ve (show R1 h.2.1 h80.2.1 S a2.toInt a4.toInt from by rw [E80]; exact R1.mk S0 ((((OP.rfl _).trans (f11 (by omega))).trans (OP.ve ve26)).trans (f44 (by omega))) (f73 (by omega)) rfl) ve114) ve126)
          have oo1 := r1.oo ht.1 ht.2.1 ht.2.2.1 ht.2.2.2.1
          have sM129 : (h126.2.1 70 6).toInt = S := (congrArg Int32.toInt oh126.side).trans hS.symm
          have g130 : (0 : Int) ≤ (h126.2.1 70 4).toInt := (hv126.2.1 70 4).1
          have g131 : (h126.2.1 70 4).toInt ≤ 500 := (hv126.2.1 70 4).2
          have g132 : (-2147483648 : Int) ≤ (h126.2.1 70 5).toInt := (hv126.2.1 70 5).1
          have g133 : (h126.2.1 70 5).toInt ≤ 2147483647 := (hv126.2.1 70 5).2
          have g134 : (h126.2.1 70 5).toInt = u121.toInt := by rw [← (show u121 = h126.2.1 70 5 from (show u121 = h126.2.1 70 5 from by rw [hv126e]; exact (g_iI rfl u121w.symm).symm))] <;> exact (ti_rfl u121)
          have g135 : (h126.2.1 70 4).toInt = (u120.toInt + 1) := by rw [← (show v124 = h126.2.1 70 4 from (show v124 = h126.2.1 70 4 from by rw [hv126e]; exact g_iS.symm))] <;> exact e125
          refine go_invV (pc := 89) (sl := 0) (ihB hv126 a2 (by rw [show (a2 : Int32).toInt = a2.toInt from (ti_rfl a2)]; omega) (by rw [show (a2 : Int32).toInt = a2.toInt from (ti_rfl a2)]; omega) a3 (by rw [show (a3 : Int32).toInt = a3.toInt from (ti_rfl a3)]; omega) (by rw [show (a3 : Int32).toInt = a3.toInt from (ti_rfl a3)]; omega) v127 (by rw [show (v127 : Int32).toInt = (a4.toInt + 1) from e128]; omega) (by rw [show (v127 : Int32).toInt = (a4.toInt + 1) from e128]; omega) (by rw [sM129]; exact (fun _ => by omega)) (by rw [sM129]; exact (fun _ => by rw [zd]; exact oo1)) (by omega)) mL_X8_224 iM_X8_readBlock sM_X8_readBlock (hv126.sh rfl) rfl rfl rfl (Nat.le_of_ble_eq_true rfl) (show d + 3 + 1 ≤ d + 4 by omega) (show 8 + (5 + 11) + 40 * (d + 3) ≤ 40 * (d + 4) by omega) (g_c0 hv126.ln) (Nat.le_of_ble_eq_true rfl) dX8_readTest_89 ?_
          intro r h136 hq _
          obtain ⟨v146, rfl, v146l, v146u, ⟨Q137, hv136, sq138⟩, f139, f140, f141, f142, f143, f144, f145⟩ := hq
          rw [sM129] at f141
          rw [sM129] at f142
          rw [sM129] at f144
          have oh136 : OH h.2.1 h136.2.1 S := oh126.trans f144
          have kp136 : KP h.2.1 h136.2.1 := kp126.trans f143
          have ck136 : CKF h.2.1 → CKF h136.2.1 := fun z => f145 (ck126 z)
          try rw [show (v127 : Int32).toInt = (a4.toInt + 1) from e128] at f139
          try rw [show (v127 : Int32).toInt = (a4.toInt + 1) from e128] at f140
          try rw [show (v127 : Int32).toInt = (a4.toInt + 1) from e128] at f141
          try rw [show (v127 : Int32).toInt = (a4.toInt + 1) from e128] at f142
          try rw [show (v127 : Int32).toInt = (a4.toInt + 1) from e128] at f143
          try rw [show (v127 : Int32).toInt = (a4.toInt + 1) from e128] at f144
          try rw [show (v127 : Int32).toInt = (a4.toInt + 1) from e128] at f145
          obtain ⟨u147, u147w⟩ : ∃ v : Int32, v = h136.2.1 70 4 := ⟨_, rfl⟩
          have u147e : (h136.2.1 70 4).toInt = u147.toInt := by rw [u147w]
          have u147l : 0 ≤ u147.toInt := by rw [u147w]; exact (hv136.2.1 70 4).1
          have u147u : u147.toInt ≤ 500 := by rw [u147w]; exact (hv136.2.1 70 4).2
          obtain ⟨u148, u148w⟩ : ∃ v : Int32, v = h136.2.1 70 5 := ⟨_, rfl⟩
          have u148e : (h136.2.1 70 5).toInt = u148.toInt := by rw [u148w]
          have u148l : -2147483648 ≤ u148.toInt := by rw [u148w]; exact (hv136.2.1 70 5).1
          have u148u : u148.toInt ≤ 2147483647 := by rw [u148w]; exact (hv136.2.1 70 5).2
          refine gi_fst (pc := 92) (lo := -1) (hi := 559) (len := 260) hv136 (ti_rfl a2) (ti_rfl v146) rfl (by omega) (by omega) (fun _ => rfl) (by omega) (by omega) (by omega) dX8_readTest_92 (fun h149 hv149 hv149e => ?_)
          have E149 : h149.2.1 = (w1 h136.2.1 86 a2.toInt (v146 : Int32)) := by
            rw [hv149e]
            rfl
          have oh149 : OH h.2.1 h149.2.1 S := by rw [E149]; exact (oh136.trans (OH.w 130 rfl (by omega) (by omega) (by omega) (by omega)))
          have kp149 : KP h.2.1 h149.2.1 := by rw [E149]; exact (kp136.trans (KP.w (by omega)))
          have n73_149 : V h149.2.1 73 S = V h136.2.1 73 S := by rw [E149, V_ne (by omega)]
          have n74_149 : V h149.2.1 74 S = V h136.2.1 74 S := by rw [E149, V_ne (by omega)]
          have n75_149 : V h149.2.1 75 S = V h136.2.1 75 S := by rw [E149, V_ne (by omega)]
          have ck149 : CKF h.2.1 → CKF h149.2.1 := fun z => by rw [E149]; exact (CKF.w (by omega) (ck136 z))
          have g150 : (0 : Int) ≤ (h149.2.1 70 4).toInt := (hv149.2.1 70 4).1
          have g151 : (h149.2.1 70 4).toInt ≤ 500 := (hv149.2.1 70 4).2
          have g152 : (-2147483648 : Int) ≤ (h149.2.1 70 5).toInt := (hv149.2.1 70 5).1
          have g153 : (h149.2.1 70 5).toInt ≤ 2147483647 := (hv149.2.1 70 5).2
          have g154 : (h149.2.1 70 4).toInt = u147.toInt := by rw [← (show u147 = h149.2.1 70 4 from (show u147 = h149.2.1 70 4 from by rw [hv149e]; exact (g_iI rfl u147w.symm).symm))] <;> exact (ti_rfl u147)
          have g155 : (h149.2.1 70 5).toInt = u148.toInt := by rw [← (show u148 = h149.2.1 70 5 from (show u148 = h149.2.1 70 5 from by rw [hv149e]; exact (g_iI rfl u148w.symm).symm))] <;> exact (ti_rfl u148)
          have pp156 : (h149.2.1 70 5).toInt = 0 → (h.2.1 70 5).toInt = 0 := (by omega)
          have pp157 : (h.2.1 70 4).toInt ≤ (h149.2.1 70 4).toInt := (by omega)
          have pp158 : (h149.2.1 70 5).toInt = 0 → 6 * (V h149.2.1 73 S - V h149.2.1 75 S) - (h149.2.1 70 4).toInt ≤ 6 * (V h.2.1 73 S - V h.2.1 75 S) - (h.2.1 70 4).toInt - 0 ∧ 2 * V h149.2.1 74 S - (h149.2.1 70 4).toInt ≤ 2 * V h.2.1 74 S - (h.2.1 70 4).toInt := (by omega)
          have pp159 : (h149.2.1 70 5).toInt = 0 → RT h.2.1 h149.2.1 S a2.toInt a4.toInt := (fun hg => by rw [E149]; exact R1.fin2 S0 r1 (f142 (by omega)) rfl (fun q => by omega))
          subst hS
          exact gi_vret (pc := 93) ⟨rfl, ⟨_, hv149, (MW.trans (MW.trans (MW.trans (MW.trans (MW.trans sq8 sq41) sq69) (MW.mz _ _)) sq138) (MW.mz _ _))⟩, pp156, pp157, pp158, pp159, kp149, oh149, ck149⟩ hv149 dX8_readTest_93
        ·
          have g160 : (0 : Int) ≤ (h114.2.1 70 4).toInt := (hv114.2.1 70 4).1
          have g161 : (h114.2.1 70 4).toInt ≤ 500 := (hv114.2.1 70 4).2
          have g162 : (-2147483648 : Int) ≤ (h114.2.1 70 5).toInt := (hv114.2.1 70 5).1
          have g163 : (h114.2.1 70 5).toInt ≤ 2147483647 := (hv114.2.1 70 5).2
          have g164 : (h114.2.1 70 4).toInt = u120.toInt := by rw [← (show u120 = h114.2.1 70 4 from u120w)] <;> exact (ti_rfl u120)
          have g165 : (h114.2.1 70 5).toInt = u121.toInt := by rw [← (show u121 = h114.2.1 70 5 from u121w)] <;> exact (ti_rfl u121)
          have pp166 : (h114.2.1 70 5).toInt = 0 → (h.2.1 70 5).toInt = 0 := (by omega)
          have pp167 : (h.2.1 70 4).toInt ≤ (h114.2.1 70 4).toInt := (by omega)
          have pp168 : (h114.2.1 70 5).toInt = 0 → 6 * (V h114.2.1 73 S - V h114.2.1 75 S) - (h114.2.1 70 4).toInt ≤ 6 * (V h.2.1 73 S - V h.2.1 75 S) - (h.2.1 70 4).toInt - 0 ∧ 2 * V h114.2.1 74 S - (h114.2.1 70 4).toInt ≤ 2 * V h.2.1 74 S - (h.2.1 70 4).toInt := (by omega)
          have pp169 : (h114.2.1 70 5).toInt = 0 → RT h.2.1 h114.2.1 S a2.toInt a4.toInt := (fun hg => R1.fin (R1.ve (show R1 h.2.1 h80.2.1 S a2.toInt a4.toInt from by rw [E80]; exact R1.mk S0 ((((OP.rfl _).trans (f11 (by omega))).trans (OP.ve ve26)).trans (f44 (by omega))) (f73 (by omega)) rfl) ve114) (by omega))
          subst hS
          exact gi_vret (pc := 67) ⟨rfl, ⟨_, hv114, (MW.trans (MW.trans (MW.trans sq8 sq41) sq69) (MW.mz _ _))⟩, pp166, pp167, pp168, pp169, kp114, oh114, ck114⟩ hv114 dX8_readTest_67
  ·
    have g170 : (0 : Int) ≤ (h39.2.1 70 4).toInt := (hv39.2.1 70 4).1
    have g171 : (h39.2.1 70 4).toInt ≤ 500 := (hv39.2.1 70 4).2
    have g172 : (-2147483648 : Int) ≤ (h39.2.1 70 5).toInt := (hv39.2.1 70 5).1
    have g173 : (h39.2.1 70 5).toInt ≤ 2147483647 := (hv39.2.1 70 5).2
    have g174 : (h39.2.1 70 4).toInt = u51.toInt := by rw [← (show u51 = h39.2.1 70 4 from u51w)] <;> exact (ti_rfl u51)
    have g175 : (h39.2.1 70 5).toInt = u52.toInt := by rw [← (show u52 = h39.2.1 70 5 from u52w)] <;> exact (ti_rfl u52)
    have pp176 : (h39.2.1 70 5).toInt = 0 → (h.2.1 70 5).toInt = 0 := (by omega)
    have pp177 : (h.2.1 70 4).toInt ≤ (h39.2.1 70 4).toInt := (by omega)
    have pp178 : (h39.2.1 70 5).toInt = 0 → 6 * (V h39.2.1 73 S - V h39.2.1 75 S) - (h39.2.1 70 4).toInt ≤ 6 * (V h.2.1 73 S - V h.2.1 75 S) - (h.2.1 70 4).toInt - 0 ∧ 2 * V h39.2.1 74 S - (h39.2.1 70 4).toInt ≤ 2 * V h.2.1 74 S - (h.2.1 70 4).toInt := (by omega)
    have pp179 : (h39.2.1 70 5).toInt = 0 → RT h.2.1 h39.2.1 S a2.toInt a4.toInt := (fun hg => absurd hg (by omega))
    subst hS
    exact gi_vret (pc := 25) ⟨rfl, ⟨_, hv39, (MW.trans sq8 sq41)⟩, pp176, pp177, pp178, pp179, kp39, oh39, ck39⟩ hv39 dX8_readTest_25
set_option maxHeartbeats 4000000 in
set_option maxRecDepth 100000 in
theorem s_X8_readTry_b (l : Launch) (d : Nat) {t : Nat} (ihB : ∀ {P : PP} {h : HP} (_ : Iv P h) (a2 : Int32) (a2l : -1 ≤ a2.toInt) (a2u : a2.toInt ≤ 259) (a3 : Int32) (a3l : 0 ≤ a3.toInt) (a3u : a3.toInt ≤ 4) (a4 : Int32) (a4l : 0 ≤ a4.toInt) (a4u : a4.toInt ≤ 7) (hp : (h.2.1 70 5).toInt = 0 → 6 * (V h.2.1 73 (h.2.1 70 6).toInt - V h.2.1 75 (h.2.1 70 6).toInt) ≤ (h.2.1 70 4).toInt + 5 * a4.toInt ∧ 2 * V h.2.1 74 (h.2.1 70 6).toInt ≤ (h.2.1 70 4).toInt + a4.toInt) (ht : (h.2.1 70 5).toInt = 0 → TR h.2.1 (h.2.1 70 6).toInt ∧ OO h.2.1 (h.2.1 70 6).toInt a2.toInt a4.toInt) (hd : 7 ≤ a4.toInt + (t : Int)), Mt l yX8_readBlock cX8_readBlock 5 (some .int) (d + 2) [.ref 70, .int a2, .int a3, .int a4] h 0 0 (fun r h' => ∃ v : Int32, r = some (.int v) ∧ 0 ≤ v.toInt ∧ v.toInt ≤ 559 ∧ (∃ Q : PP, Iv Q h' ∧ MW P Q) ∧ ((h'.2.1 70 5).toInt = 0 → (h.2.1 70 5).toInt = 0) ∧ ((h.2.1 70 4).toInt ≤ (h'.2.1 70 4).toInt) ∧ ((h'.2.1 70 5).toInt = 0 → (h.2.1 70 4).toInt + 2 ≤ (h'.2.1 70 4).toInt ∧ 6 * (V h'.2.1 73 (h.2.1 70 6).toInt - V h'.2.1 75 (h.2.1 70 6).toInt) - (h'.2.1 70 4).toInt ≤ 6 * (V h.2.1 73 (h.2.1 70 6).toInt - V h.2.1 75 (h.2.1 70 6).toInt) - (h.2.1 70 4).toInt - 2 ∧ 2 * V h'.2.1 74 (h.2.1 70 6).toInt - (h'.2.1 70 4).toInt ≤ 2 * V h.2.1 74 (h.2.1 70 6).toInt - (h.2.1 70 4).toInt) ∧ ((h'.2.1 70 5).toInt = 0 → RB h.2.1 h'.2.1 (h.2.1 70 6).toInt a2.toInt a4.toInt v.toInt) ∧ (KP h.2.1 h'.2.1) ∧ (OH h.2.1 h'.2.1 (h.2.1 70 6).toInt) ∧ (CKF h.2.1 → CKF h'.2.1))) {P : PP} {h : HP} (hv : Iv P h) (a2 : Int32) (a2l : 0 ≤ a2.toInt) (a2u : a2.toInt ≤ 259) (a3 : Int32) (a3l : 0 ≤ a3.toInt) (a3u : a3.toInt ≤ 4) (a4 : Int32) (a4l : 0 ≤ a4.toInt) (a4u : a4.toInt ≤ 6) (hi : 130 * (h.2.1 70 6).toInt ≤ a2.toInt ∧ a2.toInt < 130 * (h.2.1 70 6).toInt + 130) (h0 : (h.2.1 70 5).toInt = 0) (hp : 6 * (V h.2.1 73 (h.2.1 70 6).toInt - V h.2.1 75 (h.2.1 70 6).toInt) ≤ (h.2.1 70 4).toInt + 5 * a4.toInt + 5 ∧ 2 * V h.2.1 74 (h.2.1 70 6).toInt ≤ (h.2.1 70 4).toInt + a4.toInt + 1) (ht : TR h.2.1 (h.2.1 70 6).toInt ∧ a2.toInt = 130 * (h.2.1 70 6).toInt + V h.2.1 73 (h.2.1 70 6).toInt - 1 ∧ 0 < V h.2.1 73 (h.2.1 70 6).toInt ∧ V h.2.1 80 a2.toInt = a4.toInt ∧ V h.2.1 77 a2.toInt = 6) (hd : 7 ≤ a4.toInt + ((t + 1 : Nat) : Int)) : Mt l yX8_readTry cX8_readTry 4 none (d + 3) [.ref 70, .int a2, .int a3, .int a4] h 0 0 (fun r h' => r = none ∧ (∃ Q : PP, Iv Q h' ∧ MW P Q) ∧ ((h'.2.1 70 5).toInt = 0 → (h.2.1 70 5).toInt = 0) ∧ ((h.2.1 70 4).toInt ≤ (h'.2.1 70 4).toInt) ∧ ((h'.2.1 70 5).toInt = 0 → 6 * (V h'.2.1 73 (h.2.1 70 6).toInt - V h'.2.1 75 (h.2.1 70 6).toInt) - (h'.2.1 70 4).toInt ≤ 6 * (V h.2.1 73 (h.2.1 70 6).toInt - V h.2.1 75 (h.2.1 70 6).toInt) - (h.2.1 70 4).toInt - 5 ∧ 2 * V h'.2.1 74 (h.2.1 70 6).toInt - (h'.2.1 70 4).toInt ≤ 2 * V h.2.1 74 (h.2.1 70 6).toInt - (h.2.1 70 4).toInt) ∧ ((h'.2.1 70 5).toInt = 0 → RT h.2.1 h'.2.1 (h.2.1 70 6).toInt a2.toInt a4.toInt) ∧ (KP h.2.1 h'.2.1) ∧ (OH h.2.1 h'.2.1 (h.2.1 70 6).toInt) ∧ (CKF h.2.1 → CKF h'.2.1)) := by
  refine Mt_iv hv (by decide) (Nat.le_of_ble_eq_true rfl) ?_
  show Go l RX8 cX8_readTry 4 (g_rm (d + 3) 0 0) "readTry" none 117 0 0 (fun _ _ => True) (fun r h' => r = none ∧ (∃ Q : PP, Iv Q h' ∧ MW P Q) ∧ ((h'.2.1 70 5).toInt = 0 → (h.2.1 70 5).toInt = 0) ∧ ((h.2.1 70 4).toInt ≤ (h'.2.1 70 4).toInt) ∧ ((h'.2.1 70 5).toInt = 0 → 6 * (V h'.2.1 73 (h.2.1 70 6).toInt - V h'.2.1 75 (h.2.1 70 6).toInt) - (h'.2.1 70 4).toInt ≤ 6 * (V h.2.1 73 (h.2.1 70 6).toInt - V h.2.1 75 (h.2.1 70 6).toInt) - (h.2.1 70 4).toInt - 5 ∧ 2 * V h'.2.1 74 (h.2.1 70 6).toInt - (h'.2.1 70 4).toInt ≤ 2 * V h.2.1 74 (h.2.1 70 6).toInt - (h.2.1 70 4).toInt) ∧ ((h'.2.1 70 5).toInt = 0 → RT h.2.1 h'.2.1 (h.2.1 70 6).toInt a2.toInt a4.toInt) ∧ (KP h.2.1 h'.2.1) ∧ (OH h.2.1 h'.2.1 (h.2.1 70 6).toInt) ∧ (CKF h.2.1 → CKF h'.2.1)) 0 0 [(0, .ref 70), (1, .int a2), (2, .int a3), (3, .int a4)] [] h
  obtain ⟨S, hS⟩ : ∃ S : Int, S = (h.2.1 70 6).toInt := ⟨_, rfl⟩
  have S0 : 0 ≤ S := by rw [hS]; exact (hv.2.1 70 6).1
  have S1 : S ≤ 1 := by rw [hS]; exact (hv.2.1 70 6).2
  have oh : OH h.2.1 h.2.1 S := OH.rfl _ _
  have ck : CKF h.2.1 → CKF h.2.1 := id
  have kp : KP h.2.1 h.2.1 := KP.rfl _
  rw [← hS] at hi
  rw [← hS] at hp
  rw [← hS] at ht
  refine go_aload_n (pc := 0) rfl dX8_readTry_0 ?_
  refine gi_getF (pc := 1) (q := 85) hv fL_X8_53 rfl (Nat.le_of_ble_eq_true rfl) rfl (hv.rf (by decide)) dX8_readTry_1 ?_
  refine go_iload_n (pc := 4) rfl dX8_readTry_4 ?_
  refine go_aload_n (pc := 5) rfl dX8_readTry_5 ?_
  refine go_iload_n (pc := 6) rfl dX8_readTry_6 ?_
  refine go_iload_n (pc := 7) rfl dX8_readTry_7 ?_
  refine go_iload_n (pc := 8) rfl dX8_readTry_8 ?_
  refine go_iconst (pc := 9) (v := 1) (by decide) dX8_readTry_9 ?_
  refine gf_iadd (pc := 10) (ti_rfl a4) (ti_c (v := 1) (a := 1) (by decide)) (by omega) (by omega) dX8_readTry_10 (fun v1 e2 => ?_)
  have zd : (v1 : Int32).toInt = a4.toInt + 1 := e2
  have op1 : OP h.2.1 h.2.1 := (OP.rfl _)
  have o80 := (op1 S).2 80 a2.toInt (by omega) (by omega) (by omega) (by omega)
  have sM3 : (h.2.1 70 6).toInt = S := (congrArg Int32.toInt oh.side).trans hS.symm
  have g4 : (0 : Int) ≤ (h.2.1 70 4).toInt := (hv.2.1 70 4).1
  have g5 : (h.2.1 70 4).toInt ≤ 500 := (hv.2.1 70 4).2
  have g6 : (-2147483648 : Int) ≤ (h.2.1 70 5).toInt := (hv.2.1 70 5).1
  have g7 : (h.2.1 70 5).toInt ≤ 2147483647 := (hv.2.1 70 5).2
  refine go_invV (pc := 11) (sl := 0) (ihB hv a2 (by rw [show (a2 : Int32).toInt = a2.toInt from (ti_rfl a2)]; omega) (by rw [show (a2 : Int32).toInt = a2.toInt from (ti_rfl a2)]; omega) a3 (by rw [show (a3 : Int32).toInt = a3.toInt from (ti_rfl a3)]; omega) (by rw [show (a3 : Int32).toInt = a3.toInt from (ti_rfl a3)]; omega) v1 (by rw [show (v1 : Int32).toInt = (a4.toInt + 1) from e2]; omega) (by rw [show (v1 : Int32).toInt = (a4.toInt + 1) from e2]; omega) (by rw [sM3]; exact (fun _ => by omega)) (by rw [sM3]; exact (fun _ => by rw [zd]; exact ⟨(op1 S).1 ht.1, OO.last (by omega) (by omega) (by omega)⟩)) (by omega)) mL_X8_224 iM_X8_readBlock sM_X8_readBlock (hv.sh rfl) rfl rfl rfl (Nat.le_of_ble_eq_true rfl) (show d + 2 + 1 ≤ d + 3 by omega) (show 8 + (5 + 11) + 40 * (d + 2) ≤ 40 * (d + 3) by omega) (g_c0 hv.ln) (Nat.le_of_ble_eq_true rfl) dX8_readTry_11 ?_
  intro r h8 hq _
  obtain ⟨v18, rfl, v18l, v18u, ⟨Q9, hv8, sq10⟩, f11, f12, f13, f14, f15, f16, f17⟩ := hq
  rw [sM3] at f13
  rw [sM3] at f14
  rw [sM3] at f16
  have oh8 : OH h.2.1 h8.2.1 S := oh.trans f16
  have kp8 : KP h.2.1 h8.2.1 := kp.trans f15
  have ck8 : CKF h.2.1 → CKF h8.2.1 := fun z => f17 (ck z)
  try rw [show (v1 : Int32).toInt = (a4.toInt + 1) from e2] at f11
  try rw [show (v1 : Int32).toInt = (a4.toInt + 1) from e2] at f12
  try rw [show (v1 : Int32).toInt = (a4.toInt + 1) from e2] at f13
  try rw [show (v1 : Int32).toInt = (a4.toInt + 1) from e2] at f14
  try rw [show (v1 : Int32).toInt = (a4.toInt + 1) from e2] at f15
  try rw [show (v1 : Int32).toInt = (a4.toInt + 1) from e2] at f16
  try rw [show (v1 : Int32).toInt = (a4.toInt + 1) from e2] at f17
  obtain ⟨u19, u19w⟩ : ∃ v : Int32, v = h8.2.1 70 4 := ⟨_, rfl⟩
  have u19e : (h8.2.1 70 4).toInt = u19.toInt := by rw [u19w]
  have u19l : 0 ≤ u19.toInt := by rw [u19w]; exact (hv8.2.1 70 4).1
  have u19u : u19.toInt ≤ 500 := by rw [u19w]; exact (hv8.2.1 70 4).2
  obtain ⟨u20, u20w⟩ : ∃ v : Int32, v = h8.2.1 70 5 := ⟨_, rfl⟩
  have u20e : (h8.2.1 70 5).toInt = u20.toInt := by rw [u20w]
  have u20l : -2147483648 ≤ u20.toInt := by rw [u20w]; exact (hv8.2.1 70 5).1
  have u20u : u20.toInt ≤ 2147483647 := by rw [u20w]; exact (hv8.2.1 70 5).2
  refine gi_fst (pc := 14) (lo := -1) (hi := 559) (len := 260) hv8 (ti_rfl a2) (ti_rfl v18) rfl (by omega) (by omega) (fun _ => rfl) (by omega) (by omega) (by omega) dX8_readTry_14 (fun h21 hv21 hv21e => ?_)
  refine go_aload_n (pc := 15) rfl dX8_readTry_15 ?_
  refine go_invV (pc := 16) (sl := 0) (s_X8_isGood l (d + 1) hv21 ) mL_X8_172 iM_X8_isGood sM_X8_isGood (hv21.sh rfl) rfl rfl rfl (Nat.le_of_ble_eq_true rfl) (show d + 1 + 1 + 1 ≤ d + 3 by omega) (show 8 + (1 + 11) + 40 * (d + 1 + 1) ≤ 40 * (d + 3) by omega) (g_c0 hv21.ln) (Nat.le_of_ble_eq_true rfl) dX8_readTry_16 ?_
  intro r h22 hq _
  obtain ⟨v25, rfl, v25l, v25u, rfl, f23, f24⟩ := hq
  have E21 : h21.2.1 = (w1 h8.2.1 85 a2.toInt (v18 : Int32)) := by
    rw [hv21e]
    rfl
  have oh21 : OH h.2.1 h21.2.1 S := by rw [E21]; exact (oh8.trans (OH.w 130 rfl (by omega) (by omega) (by omega) (by omega)))
  have kp21 : KP h.2.1 h21.2.1 := by rw [E21]; exact (kp8.trans (KP.w (by omega)))
  have n73_21 : V h21.2.1 73 S = V h8.2.1 73 S := by rw [E21, V_ne (by omega)]
  have n74_21 : V h21.2.1 74 S = V h8.2.1 74 S := by rw [E21, V_ne (by omega)]
  have n75_21 : V h21.2.1 75 S = V h8.2.1 75 S := by rw [E21, V_ne (by omega)]
  have ck21 : CKF h.2.1 → CKF h21.2.1 := fun z => by rw [E21]; exact (CKF.w (by omega) (ck8 z))
  refine gf_if_ne (pc := 19) (tgt := 23) (ti_rfl v25) (by decide) dX8_readTry_19 (fun q26 => ?_) (fun q26 => ?_)
  ·
    refine go_aload_n (pc := 23) rfl dX8_readTry_23 ?_
    refine gi_getF (pc := 24) (q := 82) hv21 fL_X8_44 rfl (Nat.le_of_ble_eq_true rfl) rfl (hv21.rf (by decide)) dX8_readTry_24 ?_
    refine go_iload_n (pc := 27) rfl dX8_readTry_27 ?_
    refine go_aload_n (pc := 28) rfl dX8_readTry_28 ?_
    refine go_iconst (pc := 29) (v := 0) (by decide) dX8_readTry_29 ?_
    have g27 : (0 : Int) ≤ (h21.2.1 70 4).toInt := (hv21.2.1 70 4).1
    have g28 : (h21.2.1 70 4).toInt ≤ 500 := (hv21.2.1 70 4).2
    have g29 : (-2147483648 : Int) ≤ (h21.2.1 70 5).toInt := (hv21.2.1 70 5).1
    have g30 : (h21.2.1 70 5).toInt ≤ 2147483647 := (hv21.2.1 70 5).2
    have g31 : (h21.2.1 70 4).toInt = u19.toInt := by rw [← (show u19 = h21.2.1 70 4 from (show u19 = h21.2.1 70 4 from by rw [hv21e]; exact (g_iI rfl u19w.symm).symm))] <;> exact (ti_rfl u19)
    have g32 : (h21.2.1 70 5).toInt = u20.toInt := by rw [← (show u20 = h21.2.1 70 5 from (show u20 = h21.2.1 70 5 from by rw [hv21e]; exact (g_iI rfl u20w.symm).symm))] <;> exact (ti_rfl u20)
    refine go_invV (pc := 30) (sl := 0) (s_X8_nameHere l (d + 0) hv21 0 (by rw [show (0 : Int32).toInt = 0 from (ti_c (v := 0) (a := 0) (by decide))]; omega) (by rw [show (0 : Int32).toInt = 0 from (ti_c (v := 0) (a := 0) (by decide))]; omega)) mL_X8_183 iM_X8_nameHere sM_X8_nameHere (hv21.sh rfl) rfl rfl rfl (Nat.le_of_ble_eq_true rfl) (show d + 0 + 2 + 1 ≤ d + 3 by omega) (show 8 + (3 + 11) + 40 * (d + 0 + 2) ≤ 40 * (d + 3) by omega) (g_c0 hv21.ln) (Nat.le_of_ble_eq_true rfl) dX8_readTry_30 ?_
    intro r h33 hq _
    obtain ⟨v39, rfl, v39l, v39u, hv33, f34, f35, f36, f37, f38⟩ := hq
    try rw [show (0 : Int32).toInt = 0 from (ti_c (v := 0) (a := 0) (by decide))] at f34
    try rw [show (0 : Int32).toInt = 0 from (ti_c (v := 0) (a := 0) (by decide))] at f35
    try rw [show (0 : Int32).toInt = 0 from (ti_c (v := 0) (a := 0) (by decide))] at f36
    try rw [show (0 : Int32).toInt = 0 from (ti_c (v := 0) (a := 0) (by decide))] at f37
    try rw [show (0 : Int32).toInt = 0 from (ti_c (v := 0) (a := 0) (by decide))] at f38
    have ve33 : VE h21.2.1 h33.2.1 := VE.of hv21 hv33
    have oh33 : OH h.2.1 h33.2.1 S := oh21.trans (OH.of hv21 hv33 S)
    have kp33 : KP h.2.1 h33.2.1 := kp21.trans (KP.ve ve33)
    have ck33 : CKF h.2.1 → CKF h33.2.1 := fun z => CKF.ve ve33 (ck21 z)
    have n73_33 : V h33.2.1 73 S = V h21.2.1 73 S := ve33.v (by omega) (by omega)
    have n74_33 : V h33.2.1 74 S = V h21.2.1 74 S := ve33.v (by omega) (by omega)
    have n75_33 : V h33.2.1 75 S = V h21.2.1 75 S := ve33.v (by omega) (by omega)
    obtain ⟨u40, u40w⟩ : ∃ v : Int32, v = h33.2.1 70 4 := ⟨_, rfl⟩
    have u40e : (h33.2.1 70 4).toInt = u40.toInt := by rw [u40w]
    have u40l : 0 ≤ u40.toInt := by rw [u40w]; exact (hv33.2.1 70 4).1
    have u40u : u40.toInt ≤ 500 := by rw [u40w]; exact (hv33.2.1 70 4).2
    obtain ⟨u41, u41w⟩ : ∃ v : Int32, v = h33.2.1 70 5 := ⟨_, rfl⟩
    have u41e : (h33.2.1 70 5).toInt = u41.toInt := by rw [u41w]
    have u41l : -2147483648 ≤ u41.toInt := by rw [u41w]; exact (hv33.2.1 70 5).1
    have u41u : u41.toInt ≤ 2147483647 := by rw [u41w]; exact (hv33.2.1 70 5).2
    refine gi_fst (pc := 33) (lo := -1) (hi := 9) (len := 260) hv33 (ti_rfl a2) (ti_rfl v39) rfl (by omega) (by omega) (fun _ => rfl) (by omega) (by omega) (by omega) dX8_readTry_33 (fun h42 hv42 hv42e => ?_)
    refine go_aload_n (pc := 34) rfl dX8_readTry_34 ?_
    refine gi_getF (pc := 35) (q := 82) hv42 fL_X8_44 rfl (Nat.le_of_ble_eq_true rfl) rfl (hv42.rf (by decide)) dX8_readTry_35 ?_
    refine go_iload_n (pc := 38) rfl dX8_readTry_38 ?_
    have E42 : h42.2.1 = (w1 h33.2.1 82 a2.toInt (v39 : Int32)) := by
      rw [hv42e]
      rfl
    have oh42 : OH h.2.1 h42.2.1 S := by rw [E42]; exact (oh33.trans (OH.w 130 rfl (by omega) (by omega) (by omega) (by omega)))
    have kp42 : KP h.2.1 h42.2.1 := by rw [E42]; exact (kp33.trans (KP.w (by omega)))
    have n73_42 : V h42.2.1 73 S = V h33.2.1 73 S := by rw [E42, V_ne (by omega)]
    have n74_42 : V h42.2.1 74 S = V h33.2.1 74 S := by rw [E42, V_ne (by omega)]
    have n75_42 : V h42.2.1 75 S = V h33.2.1 75 S := by rw [E42, V_ne (by omega)]
    have ck42 : CKF h.2.1 → CKF h42.2.1 := fun z => by rw [E42]; exact (CKF.w (by omega) (ck33 z))
    refine gi_iald (pc := 39) (lo := -1) (hi := 9) (len := 260) hv42 (ti_rfl a2) rfl (by omega) (by omega) (fun _ => rfl) dX8_readTry_39 (fun v43 v43l v43u v43w => ?_)
    have v43V : v43.toInt = V h42.2.1 82 a2.toInt := by rw [v43w]; rfl
    have vn0 : V h42.2.1 82 a2.toInt = v39.toInt := by rw [E42, V_eq]; exact (ti_rfl v39)
    refine go_iconst (pc := 40) (v := (-1)) (by decide) dX8_readTry_40 ?_
    refine gf_icmp_ne (pc := 41) (tgt := 50) (ti_rfl v43) (ti_c (v := (-1)) (a := (-1)) (by decide)) (by decide) dX8_readTry_41 (fun q44 => ?_) (fun q44 => ?_)
    ·
      refine go_aload_n (pc := 50) rfl dX8_readTry_50 ?_
      refine go_dup (pc := 51) rfl dX8_readTry_51 ?_
      refine gi_get (pc := 52) (lo := 0) (hi := 500) hv42 fL_X8_163 rfl (Nat.le_of_ble_eq_true rfl) rfl rfl dX8_readTry_52 (fun v45 v45l v45u v45w => ?_)
      have v45r : u40 = h42.2.1 70 4 := (show u40 = h42.2.1 70 4 from by rw [hv42e]; exact (g_iI rfl u40w.symm).symm)
      have v45q : TI v45 u40.toInt := by rw [v45w.trans v45r.symm]; exact (ti_rfl u40)
      refine go_iconst (pc := 55) (v := 1) (by decide) dX8_readTry_55 ?_
      refine gf_iadd (pc := 56) v45q (ti_c (v := 1) (a := 1) (by decide)) (by omega) (by omega) dX8_readTry_56 (fun v46 e47 => ?_)
      refine gi_put (pc := 57) (lo := 0) (hi := 500) hv42 e47 (fP_X8_163 _) rfl (Nat.le_of_ble_eq_true rfl) rfl rfl (by omega) (by omega) rfl rfl (by decide) (by decide) (by decide) (by decide) dX8_readTry_57 (fun h48 hv48 hv48e => ?_)
      have ve48 : VE h42.2.1 h48.2.1 := VE.of hv42 hv48
      have oh48 : OH h.2.1 h48.2.1 S := oh42.trans (OH.of hv42 hv48 S)
      have kp48 : KP h.2.1 h48.2.1 := kp42.trans (KP.ve ve48)
      have ck48 : CKF h.2.1 → CKF h48.2.1 := fun z => CKF.ve ve48 (ck42 z)
      have n73_48 : V h48.2.1 73 S = V h42.2.1 73 S := ve48.v (by omega) (by omega)
      have n74_48 : V h48.2.1 74 S = V h42.2.1 74 S := ve48.v (by omega) (by omega)
      have n75_48 : V h48.2.1 75 S = V h42.2.1 75 S := ve48.v (by omega) (by omega)
      refine go_aload_n (pc := 60) rfl dX8_readTry_60 ?_
      refine gi_getF (pc := 61) (q := 86) hv48 fL_X8_56 rfl (Nat.le_of_ble_eq_true rfl) rfl (hv48.rf (by decide)) dX8_readTry_61 ?_
      refine go_iload_n (pc := 64) rfl dX8_readTry_64 ?_
      refine go_aload_n (pc := 65) rfl dX8_readTry_65 ?_
      refine go_iload_n (pc := 66) rfl dX8_readTry_66 ?_
      refine go_iload_n (pc := 67) rfl dX8_readTry_67 ?_
      refine go_iload_n (pc := 68) rfl dX8_readTry_68 ?_
      refine go_iconst (pc := 69) (v := 1) (by decide) dX8_readTry_69 ?_
      refine gf_iadd (pc := 70) (ti_rfl a4) (ti_c (v := 1) (a := 1) (by decide)) (by omega) (by omega) dX8_readTry_70 (fun v49 e50 => ?_)
      have zd : (v49 : Int32).toInt = a4.toInt + 1 := e50
      have r1 : R1 h.2.1 h48.2.1 S a2.toInt a4.toInt := (R1.ve (show R1 h.2.1 h42.2.1 S a2.toInt a4.toInt from by rw [E42]; exact R1.nm S0 (R1.ve (show R1 h.2.1 h21.2.1 S a2.toInt a4.toInt from by rw [E21]; exact R1.mk S0 (OP.rfl _) (f14 (by omega)) rfl) ve33) (by omega)) ve48)
      have oo1 := r1.oo ht.1 ht.2.1 ht.2.2.1 ht.2.2.2.1
      have sM51 : (h48.2.1 70 6).toInt = S := (congrArg Int32.toInt oh48.side).trans hS.symm
      have g52 : (0 : Int) ≤ (h48.2.1 70 4).toInt := (hv48.2.1 70 4).1
      have g53 : (h48.2.1 70 4).toInt ≤ 500 := (hv48.2.1 70 4).2
      have g54 : (-2147483648 : Int) ≤ (h48.2.1 70 5).toInt := (hv48.2.1 70 5).1
      have g55 : (h48.2.1 70 5).toInt ≤ 2147483647 := (hv48.2.1 70 5).2
      have g56 : (h48.2.1 70 5).toInt = u41.toInt := by rw [← (show u41 = h48.2.1 70 5 from (show u41 = h48.2.1 70 5 from by rw [hv48e]; exact (g_iI rfl (show u41 = h42.2.1 70 5 from by rw [hv42e]; exact (g_iI rfl u41w.symm).symm).symm).symm))] <;> exact (ti_rfl u41)
      have g57 : (h48.2.1 70 4).toInt = (u40.toInt + 1) := by rw [← (show v46 = h48.2.1 70 4 from (show v46 = h48.2.1 70 4 from by rw [hv48e]; exact g_iS.symm))] <;> exact e47
      refine go_invV (pc := 71) (sl := 0) (ihB hv48 a2 (by rw [show (a2 : Int32).toInt = a2.toInt from (ti_rfl a2)]; omega) (by rw [show (a2 : Int32).toInt = a2.toInt from (ti_rfl a2)]; omega) a3 (by rw [show (a3 : Int32).toInt = a3.toInt from (ti_rfl a3)]; omega) (by rw [show (a3 : Int32).toInt = a3.toInt from (ti_rfl a3)]; omega) v49 (by rw [show (v49 : Int32).toInt = (a4.toInt + 1) from e50]; omega) (by rw [show (v49 : Int32).toInt = (a4.toInt + 1) from e50]; omega) (by rw [sM51]; exact (fun _ => by omega)) (by rw [sM51]; exact (fun _ => by rw [zd]; exact oo1)) (by omega)) mL_X8_224 iM_X8_readBlock sM_X8_readBlock (hv48.sh rfl) rfl rfl rfl (Nat.le_of_ble_eq_true rfl) (show d + 2 + 1 ≤ d + 3 by omega) (show 8 + (5 + 11) + 40 * (d + 2) ≤ 40 * (d + 3) by omega) (g_c0 hv48.ln) (Nat.le_of_ble_eq_true rfl) dX8_readTry_71 ?_
      intro r h58 hq _
      obtain ⟨v68, rfl, v68l, v68u, ⟨Q59, hv58, sq60⟩, f61, f62, f63, f64, f65, f66, f67⟩ := hq
      rw [sM51] at f63
      rw [sM51] at f64
      rw [sM51] at f66
      have oh58 : OH h.2.1 h58.2.1 S := oh48.trans f66
      have kp58 : KP h.2.1 h58.2.1 := kp48.trans f65
      have ck58 : CKF h.2.1 → CKF h58.2.1 := fun z => f67 (ck48 z)
      try rw [show (v49 : Int32).toInt = (a4.toInt + 1) from e50] at f61
      try rw [show (v49 : Int32).toInt = (a4.toInt + 1) from e50] at f62
      try rw [show (v49 : Int32).toInt = (a4.toInt + 1) from e50] at f63
      try rw [show (v49 : Int32).toInt = (a4.toInt + 1) from e50] at f64
      try rw [show (v49 : Int32).toInt = (a4.toInt + 1) from e50] at f65
      try rw [show (v49 : Int32).toInt = (a4.toInt + 1) from e50] at f66
      try rw [show (v49 : Int32).toInt = (a4.toInt + 1) from e50] at f67
      obtain ⟨u69, u69w⟩ : ∃ v : Int32, v = h58.2.1 70 4 := ⟨_, rfl⟩
      have u69e : (h58.2.1 70 4).toInt = u69.toInt := by rw [u69w]
      have u69l : 0 ≤ u69.toInt := by rw [u69w]; exact (hv58.2.1 70 4).1
      have u69u : u69.toInt ≤ 500 := by rw [u69w]; exact (hv58.2.1 70 4).2
      obtain ⟨u70, u70w⟩ : ∃ v : Int32, v = h58.2.1 70 5 := ⟨_, rfl⟩
      have u70e : (h58.2.1 70 5).toInt = u70.toInt := by rw [u70w]
      have u70l : -2147483648 ≤ u70.toInt := by rw [u70w]; exact (hv58.2.1 70 5).1
      have u70u : u70.toInt ≤ 2147483647 := by rw [u70w]; exact (hv58.2.1 70 5).2
      refine gi_fst (pc := 74) (lo := -1) (hi := 559) (len := 260) hv58 (ti_rfl a2) (ti_rfl v68) rfl (by omega) (by omega) (fun _ => rfl) (by omega) (by omega) (by omega) dX8_readTry_74 (fun h71 hv71 hv71e => ?_)
      have E71 : h71.2.1 = (w1 h58.2.1 86 a2.toInt (v68 : Int32)) := by
        rw [hv71e]
        rfl
      have oh71 : OH h.2.1 h71.2.1 S := by rw [E71]; exact (oh58.trans (OH.w 130 rfl (by omega) (by omega) (by omega) (by omega)))
      have kp71 : KP h.2.1 h71.2.1 := by rw [E71]; exact (kp58.trans (KP.w (by omega)))
      have n73_71 : V h71.2.1 73 S = V h58.2.1 73 S := by rw [E71, V_ne (by omega)]
      have n74_71 : V h71.2.1 74 S = V h58.2.1 74 S := by rw [E71, V_ne (by omega)]
      have n75_71 : V h71.2.1 75 S = V h58.2.1 75 S := by rw [E71, V_ne (by omega)]
      have ck71 : CKF h.2.1 → CKF h71.2.1 := fun z => by rw [E71]; exact (CKF.w (by omega) (ck58 z))
      have g72 : (0 : Int) ≤ (h71.2.1 70 4).toInt := (hv71.2.1 70 4).1
      have g73 : (h71.2.1 70 4).toInt ≤ 500 := (hv71.2.1 70 4).2
      have g74 : (-2147483648 : Int) ≤ (h71.2.1 70 5).toInt := (hv71.2.1 70 5).1
      have g75 : (h71.2.1 70 5).toInt ≤ 2147483647 := (hv71.2.1 70 5).2
      have g76 : (h71.2.1 70 4).toInt = u69.toInt := by rw [← (show u69 = h71.2.1 70 4 from (show u69 = h71.2.1 70 4 from by rw [hv71e]; exact (g_iI rfl u69w.symm).symm))] <;> exact (ti_rfl u69)
      have g77 : (h71.2.1 70 5).toInt = u70.toInt := by rw [← (show u70 = h71.2.1 70 5 from (show u70 = h71.2.1 70 5 from by rw [hv71e]; exact (g_iI rfl u70w.symm).symm))] <;> exact (ti_rfl u70)
      have pp78 : (h71.2.1 70 5).toInt = 0 → (h.2.1 70 5).toInt = 0 := (by omega)
      have pp79 : (h.2.1 70 4).toInt ≤ (h71.2.1 70 4).toInt := (by omega)
      have pp80 : (h71.2.1 70 5).toInt = 0 → 6 * (V h71.2.1 73 S - V h71.2.1 75 S) - (h71.2.1 70 4).toInt ≤ 6 * (V h.2.1 73 S - V h.2.1 75 S) - (h.2.1 70 4).toInt - 5 ∧ 2 * V h71.2.1 74 S - (h71.2.1 70 4).toInt ≤ 2 * V h.2.1 74 S - (h.2.1 70 4).toInt := (by omega)
      have vn1 : V h48.2.1 82 a2.toInt = V h42.2.1 82 a2.toInt := by rw [ve48.v (by omega) (by omega)]
      have vn2 : V h42.2.1 82 a2.toInt = v39.toInt := by rw [E42, V_eq]; exact (ti_rfl v39)
      have pp81 : (h71.2.1 70 5).toInt = 0 → RT h.2.1 h71.2.1 S a2.toInt a4.toInt := (fun hg => by rw [E71]; exact R1.fin2 S0 r1 (f64 (by omega)) rfl (fun _ => by omega))
      subst hS
      exact gi_vret (pc := 75) ⟨rfl, ⟨_, hv71, (MW.trans (MW.trans (MW.trans (MW.trans sq10 (MW.mz _ _)) (MW.mz _ _)) sq60) (MW.mz _ _))⟩, pp78, pp79, pp80, pp81, kp71, oh71, ck71⟩ hv71 dX8_readTry_75
    ·
      refine go_aload_n (pc := 44) rfl dX8_readTry_44 ?_
      refine go_iconst (pc := 45) (v := 1) (by decide) dX8_readTry_45 ?_
      have g82 : (0 : Int) ≤ (h42.2.1 70 4).toInt := (hv42.2.1 70 4).1
      have g83 : (h42.2.1 70 4).toInt ≤ 500 := (hv42.2.1 70 4).2
      have g84 : (-2147483648 : Int) ≤ (h42.2.1 70 5).toInt := (hv42.2.1 70 5).1
      have g85 : (h42.2.1 70 5).toInt ≤ 2147483647 := (hv42.2.1 70 5).2
      have g86 : (h42.2.1 70 4).toInt = u40.toInt := by rw [← (show u40 = h42.2.1 70 4 from (show u40 = h42.2.1 70 4 from by rw [hv42e]; exact (g_iI rfl u40w.symm).symm))] <;> exact (ti_rfl u40)
      have g87 : (h42.2.1 70 5).toInt = u41.toInt := by rw [← (show u41 = h42.2.1 70 5 from (show u41 = h42.2.1 70 5 from by rw [hv42e]; exact (g_iI rfl u41w.symm).symm))] <;> exact (ti_rfl u41)
      refine go_invV (pc := 46) (sl := 0) (s_X8_fails l (d + 1) hv42 1 (by rw [show (1 : Int32).toInt = 1 from (ti_c (v := 1) (a := 1) (by decide))]; omega) (by rw [show (1 : Int32).toInt = 1 from (ti_c (v := 1) (a := 1) (by decide))]; omega)) mL_X8_180 iM_X8_fails sM_X8_fails (hv42.sh rfl) rfl rfl rfl (Nat.le_of_ble_eq_true rfl) (show d + 1 + 1 + 1 ≤ d + 3 by omega) (show 8 + (2 + 11) + 40 * (d + 1 + 1) ≤ 40 * (d + 3) by omega) (g_c0 hv42.ln) (Nat.le_of_ble_eq_true rfl) dX8_readTry_46 ?_
      intro r h88 hq _
      obtain ⟨rfl, hv88, f89, f90⟩ := hq
      try rw [show (1 : Int32).toInt = 1 from (ti_c (v := 1) (a := 1) (by decide))] at f89
      try rw [show (1 : Int32).toInt = 1 from (ti_c (v := 1) (a := 1) (by decide))] at f90
      have ve88 : VE h42.2.1 h88.2.1 := VE.of hv42 hv88
      have oh88 : OH h.2.1 h88.2.1 S := oh42.trans (OH.of hv42 hv88 S)
      have kp88 : KP h.2.1 h88.2.1 := kp42.trans (KP.ve ve88)
      have ck88 : CKF h.2.1 → CKF h88.2.1 := fun z => CKF.ve ve88 (ck42 z)
      have n73_88 : V h88.2.1 73 S = V h42.2.1 73 S := ve88.v (by omega) (by omega)
      have n74_88 : V h88.2.1 74 S = V h42.2.1 74 S := ve88.v (by omega) (by omega)
      have n75_88 : V h88.2.1 75 S = V h42.2.1 75 S := ve88.v (by omega) (by omega)
      obtain ⟨u91, u91w⟩ : ∃ v : Int32, v = h88.2.1 70 4 := ⟨_, rfl⟩
      have u91e : (h88.2.1 70 4).toInt = u91.toInt := by rw [u91w]
      have u91l : 0 ≤ u91.toInt := by rw [u91w]; exact (hv88.2.1 70 4).1
      have u91u : u91.toInt ≤ 500 := by rw [u91w]; exact (hv88.2.1 70 4).2
      obtain ⟨u92, u92w⟩ : ∃ v : Int32, v = h88.2.1 70 5 := ⟨_, rfl⟩
      have u92e : (h88.2.1 70 5).toInt = u92.toInt := by rw [u92w]
      have u92l : -2147483648 ≤ u92.toInt := by rw [u92w]; exact (hv88.2.1 70 5).1
      have u92u : u92.toInt ≤ 2147483647 := by rw [u92w]; exact (hv88.2.1 70 5).2
      have g93 : (0 : Int) ≤ (h88.2.1 70 4).toInt := (hv88.2.1 70 4).1
      have g94 : (h88.2.1 70 4).toInt ≤ 500 := (hv88.2.1 70 4).2
      have g95 : (-2147483648 : Int) ≤ (h88.2.1 70 5).toInt := (hv88.2.1 70 5).1
      have g96 : (h88.2.1 70 5).toInt ≤ 2147483647 := (hv88.2.1 70 5).2
      have g97 : (h88.2.1 70 4).toInt = u91.toInt := by rw [← (show u91 = h88.2.1 70 4 from u91w)] <;> exact (ti_rfl u91)
      have g98 : (h88.2.1 70 5).toInt = u92.toInt := by rw [← (show u92 = h88.2.1 70 5 from u92w)] <;> exact (ti_rfl u92)
      have pp99 : (h88.2.1 70 5).toInt = 0 → (h.2.1 70 5).toInt = 0 := (by omega)
      have pp100 : (h.2.1 70 4).toInt ≤ (h88.2.1 70 4).toInt := (by omega)
      have pp101 : (h88.2.1 70 5).toInt = 0 → 6 * (V h88.2.1 73 S - V h88.2.1 75 S) - (h88.2.1 70 4).toInt ≤ 6 * (V h.2.1 73 S - V h.2.1 75 S) - (h.2.1 70 4).toInt - 5 ∧ 2 * V h88.2.1 74 S - (h88.2.1 70 4).toInt ≤ 2 * V h.2.1 74 S - (h.2.1 70 4).toInt := (by omega)
      have pp102 : (h88.2.1 70 5).toInt = 0 → RT h.2.1 h88.2.1 S a2.toInt a4.toInt := (fun hg => absurd hg (by omega))
      subst hS
      exact gi_vret (pc := 49) ⟨rfl, ⟨_, hv88, (MW.trans (MW.trans sq10 (MW.mz _ _)) (MW.mz _ _))⟩, pp99, pp100, pp101, pp102, kp88, oh88, ck88⟩ hv88 dX8_readTry_49
  ·
    have g103 : (0 : Int) ≤ (h21.2.1 70 4).toInt := (hv21.2.1 70 4).1
    have g104 : (h21.2.1 70 4).toInt ≤ 500 := (hv21.2.1 70 4).2
    have g105 : (-2147483648 : Int) ≤ (h21.2.1 70 5).toInt := (hv21.2.1 70 5).1
    have g106 : (h21.2.1 70 5).toInt ≤ 2147483647 := (hv21.2.1 70 5).2
    have g107 : (h21.2.1 70 4).toInt = u19.toInt := by rw [← (show u19 = h21.2.1 70 4 from (show u19 = h21.2.1 70 4 from by rw [hv21e]; exact (g_iI rfl u19w.symm).symm))] <;> exact (ti_rfl u19)
    have g108 : (h21.2.1 70 5).toInt = u20.toInt := by rw [← (show u20 = h21.2.1 70 5 from (show u20 = h21.2.1 70 5 from by rw [hv21e]; exact (g_iI rfl u20w.symm).symm))] <;> exact (ti_rfl u20)
    have pp109 : (h21.2.1 70 5).toInt = 0 → (h.2.1 70 5).toInt = 0 := (by omega)
    have pp110 : (h.2.1 70 4).toInt ≤ (h21.2.1 70 4).toInt := (by omega)
    have pp111 : (h21.2.1 70 5).toInt = 0 → 6 * (V h21.2.1 73 S - V h21.2.1 75 S) - (h21.2.1 70 4).toInt ≤ 6 * (V h.2.1 73 S - V h.2.1 75 S) - (h.2.1 70 4).toInt - 5 ∧ 2 * V h21.2.1 74 S - (h21.2.1 70 4).toInt ≤ 2 * V h.2.1 74 S - (h.2.1 70 4).toInt := (by omega)
    have pp112 : (h21.2.1 70 5).toInt = 0 → RT h.2.1 h21.2.1 S a2.toInt a4.toInt := (fun hg => absurd hg (by omega))
    subst hS
    exact gi_vret (pc := 22) ⟨rfl, ⟨_, hv21, (MW.trans sq10 (MW.mz _ _))⟩, pp109, pp110, pp111, pp112, kp21, oh21, ck21⟩ hv21 dX8_readTry_22
