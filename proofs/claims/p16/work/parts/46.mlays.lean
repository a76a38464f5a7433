theorem CK.of {P : PP} {h : HP} (hv : Iv P h) (c : CKF h.2.1) : CK P := fun j => by
  rw [← hv.fz (c := 77) (by omega) (by omega), ← hv.fz (c := 84) (by omega) (by omega)]
  exact c j
theorem WI.ve {F G : FN} (h : VE F G) {S : Int} (w : WI F S) : WI G S := fun k a b q => by
  rw [h.v (c := 75) (by omega) (by omega)] at b
  rw [h.v (c := 77) (by omega) (by omega), h.v (c := 93) (by omega) (by omega)] at q
  rw [h.v (c := 96) (by omega) (by omega)]
  exact w k a b q
theorem dX8_laysAll_0 : decode cX8_laysAll 0 = .ok (.iconst 0, 1) := by decide +kernel
theorem dX8_laysAll_1 : decode cX8_laysAll 1 = .ok (.istore_n 1, 1) := by decide +kernel
theorem dX8_laysAll_2 : decode cX8_laysAll 2 = .ok (.iload_n 1, 1) := by decide +kernel
theorem dX8_laysAll_3 : decode cX8_laysAll 3 = .ok (.sipush 11115, 3) := by decide +kernel
theorem dX8_laysAll_6 : decode cX8_laysAll 6 = .ok (.if_icmp .ge 16, 3) := by decide +kernel
theorem dX8_laysAll_9 : decode cX8_laysAll 9 = .ok (.aload_n 0, 1) := by decide +kernel
theorem dX8_laysAll_10 : decode cX8_laysAll 10 = .ok (.getfield 108, 3) := by decide +kernel
theorem dX8_laysAll_13 : decode cX8_laysAll 13 = .ok (.iload_n 1, 1) := by decide +kernel
theorem dX8_laysAll_14 : decode cX8_laysAll 14 = .ok (.iconst 0, 1) := by decide +kernel
theorem dX8_laysAll_15 : decode cX8_laysAll 15 = .ok (.iastore, 1) := by decide +kernel
theorem dX8_laysAll_16 : decode cX8_laysAll 16 = .ok (.iinc 1 1, 3) := by decide +kernel
theorem dX8_laysAll_19 : decode cX8_laysAll 19 = .ok (.goto (-17), 3) := by decide +kernel
theorem dX8_laysAll_22 : decode cX8_laysAll 22 = .ok (.aload_n 0, 1) := by decide +kernel
theorem dX8_laysAll_23 : decode cX8_laysAll 23 = .ok (.invokevirtual 363, 3) := by decide +kernel
theorem dX8_laysAll_26 : decode cX8_laysAll 26 = .ok (.aload_n 0, 1) := by decide +kernel
theorem dX8_laysAll_27 : decode cX8_laysAll 27 = .ok (.invokevirtual 366, 3) := by decide +kernel
theorem dX8_laysAll_30 : decode cX8_laysAll 30 = .ok (.aload_n 0, 1) := by decide +kernel
theorem dX8_laysAll_31 : decode cX8_laysAll 31 = .ok (.invokevirtual 369, 3) := by decide +kernel
theorem dX8_laysAll_34 : decode cX8_laysAll 34 = .ok (.iconst 0, 1) := by decide +kernel
theorem dX8_laysAll_35 : decode cX8_laysAll 35 = .ok (.istore_n 1, 1) := by decide +kernel
theorem dX8_laysAll_36 : decode cX8_laysAll 36 = .ok (.iload_n 1, 1) := by decide +kernel
theorem dX8_laysAll_37 : decode cX8_laysAll 37 = .ok (.aload_n 0, 1) := by decide +kernel
theorem dX8_laysAll_38 : decode cX8_laysAll 38 = .ok (.getfield 23, 3) := by decide +kernel
theorem dX8_laysAll_41 : decode cX8_laysAll 41 = .ok (.aload_n 0, 1) := by decide +kernel
theorem dX8_laysAll_42 : decode cX8_laysAll 42 = .ok (.getfield 187, 3) := by decide +kernel
theorem dX8_laysAll_45 : decode cX8_laysAll 45 = .ok (.iaload, 1) := by decide +kernel
theorem dX8_laysAll_46 : decode cX8_laysAll 46 = .ok (.if_icmp .ge 32, 3) := by decide +kernel
theorem dX8_laysAll_49 : decode cX8_laysAll 49 = .ok (.aload_n 0, 1) := by decide +kernel
theorem dX8_laysAll_50 : decode cX8_laysAll 50 = .ok (.invokevirtual 356, 3) := by decide +kernel
theorem dX8_laysAll_53 : decode cX8_laysAll 53 = .ok (.aload_n 0, 1) := by decide +kernel
theorem dX8_laysAll_54 : decode cX8_laysAll 54 = .ok (.iload_n 1, 1) := by decide +kernel
theorem dX8_laysAll_55 : decode cX8_laysAll 55 = .ok (.invokevirtual 372, 3) := by decide +kernel
theorem dX8_laysAll_58 : decode cX8_laysAll 58 = .ok (.aload_n 0, 1) := by decide +kernel
theorem dX8_laysAll_59 : decode cX8_laysAll 59 = .ok (.invokevirtual 375, 3) := by decide +kernel
theorem dX8_laysAll_62 : decode cX8_laysAll 62 = .ok (.aload_n 0, 1) := by decide +kernel
theorem dX8_laysAll_63 : decode cX8_laysAll 63 = .ok (.getfield 133, 3) := by decide +kernel
theorem dX8_laysAll_66 : decode cX8_laysAll 66 = .ok (.iload_n 1, 1) := by decide +kernel
theorem dX8_laysAll_67 : decode cX8_laysAll 67 = .ok (.aload_n 0, 1) := by decide +kernel
theorem dX8_laysAll_68 : decode cX8_laysAll 68 = .ok (.invokevirtual 378, 3) := by decide +kernel
theorem dX8_laysAll_71 : decode cX8_laysAll 71 = .ok (.lastore, 1) := by decide +kernel
theorem dX8_laysAll_72 : decode cX8_laysAll 72 = .ok (.iinc 1 1, 3) := by decide +kernel
theorem dX8_laysAll_75 : decode cX8_laysAll 75 = .ok (.goto (-39), 3) := by decide +kernel
theorem dX8_laysAll_78 : decode cX8_laysAll 78 = .ok (.return_, 1) := by decide +kernel
theorem dX8_laysValues_0 : decode cX8_laysValues 0 = .ok (.iconst 0, 1) := by decide +kernel
theorem dX8_laysValues_1 : decode cX8_laysValues 1 = .ok (.istore_n 1, 1) := by decide +kernel
theorem dX8_laysValues_2 : decode cX8_laysValues 2 = .ok (.iload_n 1, 1) := by decide +kernel
theorem dX8_laysValues_3 : decode cX8_laysValues 3 = .ok (.aload_n 0, 1) := by decide +kernel
theorem dX8_laysValues_4 : decode cX8_laysValues 4 = .ok (.getfield 23, 3) := by decide +kernel
theorem dX8_laysValues_7 : decode cX8_laysValues 7 = .ok (.aload_n 0, 1) := by decide +kernel
theorem dX8_laysValues_8 : decode cX8_laysValues 8 = .ok (.getfield 187, 3) := by decide +kernel
theorem dX8_laysValues_11 : decode cX8_laysValues 11 = .ok (.iaload, 1) := by decide +kernel
theorem dX8_laysValues_12 : decode cX8_laysValues 12 = .ok (.if_icmp .ge 96, 3) := by decide +kernel
theorem dX8_laysValues_15 : decode cX8_laysValues 15 = .ok (.aload_n 0, 1) := by decide +kernel
theorem dX8_laysValues_16 : decode cX8_laysValues 16 = .ok (.iload_n 1, 1) := by decide +kernel
theorem dX8_laysValues_17 : decode cX8_laysValues 17 = .ok (.invokevirtual 271, 3) := by decide +kernel
theorem dX8_laysValues_20 : decode cX8_laysValues 20 = .ok (.iconst 1, 1) := by decide +kernel
theorem dX8_laysValues_21 : decode cX8_laysValues 21 = .ok (.if_icmp .ne 7, 3) := by decide +kernel
theorem dX8_laysValues_24 : decode cX8_laysValues 24 = .ok (.iconst 1, 1) := by decide +kernel
theorem dX8_laysValues_25 : decode cX8_laysValues 25 = .ok (.goto 4, 3) := by decide +kernel
theorem dX8_laysValues_28 : decode cX8_laysValues 28 = .ok (.iconst 0, 1) := by decide +kernel
theorem dX8_laysValues_29 : decode cX8_laysValues 29 = .ok (.istore_n 2, 1) := by decide +kernel
theorem dX8_laysValues_30 : decode cX8_laysValues 30 = .ok (.iconst 0, 1) := by decide +kernel
theorem dX8_laysValues_31 : decode cX8_laysValues 31 = .ok (.istore_n 3, 1) := by decide +kernel
theorem dX8_laysValues_32 : decode cX8_laysValues 32 = .ok (.iload_n 3, 1) := by decide +kernel
theorem dX8_laysValues_33 : decode cX8_laysValues 33 = .ok (.iconst 2, 1) := by decide +kernel
theorem dX8_laysValues_34 : decode cX8_laysValues 34 = .ok (.if_icmp .ge 30, 3) := by decide +kernel
theorem dX8_laysValues_37 : decode cX8_laysValues 37 = .ok (.aload_n 0, 1) := by decide +kernel
theorem dX8_laysValues_38 : decode cX8_laysValues 38 = .ok (.iload_n 1, 1) := by decide +kernel
theorem dX8_laysValues_39 : decode cX8_laysValues 39 = .ok (.iload_n 2, 1) := by decide +kernel
theorem dX8_laysValues_40 : decode cX8_laysValues 40 = .ok (.ifCond .eq 9, 3) := by decide +kernel
theorem dX8_laysValues_43 : decode cX8_laysValues 43 = .ok (.iconst 1, 1) := by decide +kernel
theorem dX8_laysValues_44 : decode cX8_laysValues 44 = .ok (.iload_n 3, 1) := by decide +kernel
theorem dX8_laysValues_45 : decode cX8_laysValues 45 = .ok (.iadd, 1) := by decide +kernel
theorem dX8_laysValues_46 : decode cX8_laysValues 46 = .ok (.goto 4, 3) := by decide +kernel
theorem dX8_laysValues_49 : decode cX8_laysValues 49 = .ok (.iconst 0, 1) := by decide +kernel
theorem dX8_laysValues_50 : decode cX8_laysValues 50 = .ok (.invokestatic 291, 3) := by decide +kernel
theorem dX8_laysValues_53 : decode cX8_laysValues 53 = .ok (.iload_n 1, 1) := by decide +kernel
theorem dX8_laysValues_54 : decode cX8_laysValues 54 = .ok (.iload_n 3, 1) := by decide +kernel
theorem dX8_laysValues_55 : decode cX8_laysValues 55 = .ok (.invokevirtual 316, 3) := by decide +kernel
theorem dX8_laysValues_58 : decode cX8_laysValues 58 = .ok (.iinc 3 1, 3) := by decide +kernel
theorem dX8_laysValues_61 : decode cX8_laysValues 61 = .ok (.goto (-29), 3) := by decide +kernel
theorem dX8_laysValues_64 : decode cX8_laysValues 64 = .ok (.iconst 0, 1) := by decide +kernel
theorem dX8_laysValues_65 : decode cX8_laysValues 65 = .ok (.istore_n 3, 1) := by decide +kernel
theorem dX8_laysValues_66 : decode cX8_laysValues 66 = .ok (.iload_n 3, 1) := by decide +kernel
theorem dX8_laysValues_67 : decode cX8_laysValues 67 = .ok (.iconst 4, 1) := by decide +kernel
theorem dX8_laysValues_68 : decode cX8_laysValues 68 = .ok (.if_icmp .ge 34, 3) := by decide +kernel
theorem dX8_laysValues_71 : decode cX8_laysValues 71 = .ok (.iload_n 2, 1) := by decide +kernel
theorem dX8_laysValues_72 : decode cX8_laysValues 72 = .ok (.ifCond .eq 30, 3) := by decide +kernel
theorem dX8_laysValues_75 : decode cX8_laysValues 75 = .ok (.aload_n 0, 1) := by decide +kernel
theorem dX8_laysValues_76 : decode cX8_laysValues 76 = .ok (.iload_n 1, 1) := by decide +kernel
theorem dX8_laysValues_77 : decode cX8_laysValues 77 = .ok (.iconst 3, 1) := by decide +kernel
theorem dX8_laysValues_78 : decode cX8_laysValues 78 = .ok (.iload_n 3, 1) := by decide +kernel
theorem dX8_laysValues_79 : decode cX8_laysValues 79 = .ok (.iadd, 1) := by decide +kernel
theorem dX8_laysValues_80 : decode cX8_laysValues 80 = .ok (.invokestatic 291, 3) := by decide +kernel
theorem dX8_laysValues_83 : decode cX8_laysValues 83 = .ok (.aload_n 0, 1) := by decide +kernel
theorem dX8_laysValues_84 : decode cX8_laysValues 84 = .ok (.iload_n 1, 1) := by decide +kernel
theorem dX8_laysValues_85 : decode cX8_laysValues 85 = .ok (.invokevirtual 306, 3) := by decide +kernel
theorem dX8_laysValues_88 : decode cX8_laysValues 88 = .ok (.iload_n 1, 1) := by decide +kernel
theorem dX8_laysValues_89 : decode cX8_laysValues 89 = .ok (.bipush 6, 2) := by decide +kernel
theorem dX8_laysValues_91 : decode cX8_laysValues 91 = .ok (.iload_n 3, 1) := by decide +kernel
theorem dX8_laysValues_92 : decode cX8_laysValues 92 = .ok (.iadd, 1) := by decide +kernel
theorem dX8_laysValues_93 : decode cX8_laysValues 93 = .ok (.invokevirtual 312, 3) := by decide +kernel
theorem dX8_laysValues_96 : decode cX8_laysValues 96 = .ok (.iinc 3 1, 3) := by decide +kernel
theorem dX8_laysValues_99 : decode cX8_laysValues 99 = .ok (.goto (-33), 3) := by decide +kernel
theorem dX8_laysValues_102 : decode cX8_laysValues 102 = .ok (.iinc 1 1, 3) := by decide +kernel
theorem dX8_laysValues_105 : decode cX8_laysValues 105 = .ok (.goto (-103), 3) := by decide +kernel
theorem dX8_laysValues_108 : decode cX8_laysValues 108 = .ok (.iconst 0, 1) := by decide +kernel
theorem dX8_laysValues_109 : decode cX8_laysValues 109 = .ok (.istore_n 1, 1) := by decide +kernel
theorem dX8_laysValues_110 : decode cX8_laysValues 110 = .ok (.iload_n 1, 1) := by decide +kernel
theorem dX8_laysValues_111 : decode cX8_laysValues 111 = .ok (.aload_n 0, 1) := by decide +kernel
theorem dX8_laysValues_112 : decode cX8_laysValues 112 = .ok (.getfield 26, 3) := by decide +kernel
theorem dX8_laysValues_115 : decode cX8_laysValues 115 = .ok (.aload_n 0, 1) := by decide +kernel
theorem dX8_laysValues_116 : decode cX8_laysValues 116 = .ok (.getfield 187, 3) := by decide +kernel
theorem dX8_laysValues_119 : decode cX8_laysValues 119 = .ok (.iaload, 1) := by decide +kernel
theorem dX8_laysValues_120 : decode cX8_laysValues 120 = .ok (.if_icmp .ge 40, 3) := by decide +kernel
theorem dX8_laysValues_123 : decode cX8_laysValues 123 = .ok (.iconst 0, 1) := by decide +kernel
theorem dX8_laysValues_124 : decode cX8_laysValues 124 = .ok (.istore_n 2, 1) := by decide +kernel
theorem dX8_laysValues_125 : decode cX8_laysValues 125 = .ok (.iload_n 2, 1) := by decide +kernel
theorem dX8_laysValues_126 : decode cX8_laysValues 126 = .ok (.iconst 4, 1) := by decide +kernel
theorem dX8_laysValues_127 : decode cX8_laysValues 127 = .ok (.if_icmp .ge 27, 3) := by decide +kernel
theorem dX8_laysValues_130 : decode cX8_laysValues 130 = .ok (.aload_n 0, 1) := by decide +kernel
theorem dX8_laysValues_131 : decode cX8_laysValues 131 = .ok (.iload_n 1, 1) := by decide +kernel
theorem dX8_laysValues_132 : decode cX8_laysValues 132 = .ok (.bipush 9, 2) := by decide +kernel
theorem dX8_laysValues_134 : decode cX8_laysValues 134 = .ok (.iload_n 2, 1) := by decide +kernel
theorem dX8_laysValues_135 : decode cX8_laysValues 135 = .ok (.iadd, 1) := by decide +kernel
theorem dX8_laysValues_136 : decode cX8_laysValues 136 = .ok (.invokestatic 300, 3) := by decide +kernel
theorem dX8_laysValues_139 : decode cX8_laysValues 139 = .ok (.iload_n 1, 1) := by decide +kernel
theorem dX8_laysValues_140 : decode cX8_laysValues 140 = .ok (.iconst (-1), 1) := by decide +kernel
theorem dX8_laysValues_141 : decode cX8_laysValues 141 = .ok (.bipush 6, 2) := by decide +kernel
theorem dX8_laysValues_143 : decode cX8_laysValues 143 = .ok (.iload_n 2, 1) := by decide +kernel
theorem dX8_laysValues_144 : decode cX8_laysValues 144 = .ok (.iadd, 1) := by decide +kernel
theorem dX8_laysValues_145 : decode cX8_laysValues 145 = .ok (.invokevirtual 312, 3) := by decide +kernel
theorem dX8_laysValues_148 : decode cX8_laysValues 148 = .ok (.iinc 2 1, 3) := by decide +kernel
theorem dX8_laysValues_151 : decode cX8_laysValues 151 = .ok (.goto (-26), 3) := by decide +kernel
theorem dX8_laysValues_154 : decode cX8_laysValues 154 = .ok (.iinc 1 1, 3) := by decide +kernel
theorem dX8_laysValues_157 : decode cX8_laysValues 157 = .ok (.goto (-47), 3) := by decide +kernel
theorem dX8_laysValues_160 : decode cX8_laysValues 160 = .ok (.iconst 0, 1) := by decide +kernel
theorem dX8_laysValues_161 : decode cX8_laysValues 161 = .ok (.istore_n 1, 1) := by decide +kernel
theorem dX8_laysValues_162 : decode cX8_laysValues 162 = .ok (.iload_n 1, 1) := by decide +kernel
theorem dX8_laysValues_163 : decode cX8_laysValues 163 = .ok (.aload_n 0, 1) := by decide +kernel
theorem dX8_laysValues_164 : decode cX8_laysValues 164 = .ok (.getfield 23, 3) := by decide +kernel
theorem dX8_laysValues_167 : decode cX8_laysValues 167 = .ok (.aload_n 0, 1) := by decide +kernel
theorem dX8_laysValues_168 : decode cX8_laysValues 168 = .ok (.getfield 187, 3) := by decide +kernel
theorem dX8_laysValues_171 : decode cX8_laysValues 171 = .ok (.iaload, 1) := by decide +kernel
theorem dX8_laysValues_172 : decode cX8_laysValues 172 = .ok (.if_icmp .ge 62, 3) := by decide +kernel
theorem dX8_laysValues_175 : decode cX8_laysValues 175 = .ok (.aload_n 0, 1) := by decide +kernel
theorem dX8_laysValues_176 : decode cX8_laysValues 176 = .ok (.getfield 111, 3) := by decide +kernel
theorem dX8_laysValues_179 : decode cX8_laysValues 179 = .ok (.iload_n 1, 1) := by decide +kernel
theorem dX8_laysValues_180 : decode cX8_laysValues 180 = .ok (.lconst 0, 1) := by decide +kernel
theorem dX8_laysValues_181 : decode cX8_laysValues 181 = .ok (.lastore, 1) := by decide +kernel
theorem dX8_laysValues_182 : decode cX8_laysValues 182 = .ok (.iconst 0, 1) := by decide +kernel
theorem dX8_laysValues_183 : decode cX8_laysValues 183 = .ok (.istore_n 2, 1) := by decide +kernel
theorem dX8_laysValues_184 : decode cX8_laysValues 184 = .ok (.iload_n 2, 1) := by decide +kernel
theorem dX8_laysValues_185 : decode cX8_laysValues 185 = .ok (.aload_n 0, 1) := by decide +kernel
theorem dX8_laysValues_186 : decode cX8_laysValues 186 = .ok (.getfield 23, 3) := by decide +kernel
theorem dX8_laysValues_189 : decode cX8_laysValues 189 = .ok (.aload_n 0, 1) := by decide +kernel
theorem dX8_laysValues_190 : decode cX8_laysValues 190 = .ok (.getfield 187, 3) := by decide +kernel
theorem dX8_laysValues_193 : decode cX8_laysValues 193 = .ok (.iaload, 1) := by decide +kernel
theorem dX8_laysValues_194 : decode cX8_laysValues 194 = .ok (.if_icmp .ge 34, 3) := by decide +kernel
theorem dX8_laysValues_197 : decode cX8_laysValues 197 = .ok (.aload_n 0, 1) := by decide +kernel
theorem dX8_laysValues_198 : decode cX8_laysValues 198 = .ok (.getfield 111, 3) := by decide +kernel
theorem dX8_laysValues_201 : decode cX8_laysValues 201 = .ok (.iload_n 1, 1) := by decide +kernel
theorem dX8_laysValues_202 : decode cX8_laysValues 202 = .ok (.dup2, 1) := by decide +kernel
theorem dX8_laysValues_203 : decode cX8_laysValues 203 = .ok (.laload, 1) := by decide +kernel
theorem dX8_laysValues_204 : decode cX8_laysValues 204 = .ok (.aload_n 0, 1) := by decide +kernel
theorem dX8_laysValues_205 : decode cX8_laysValues 205 = .ok (.iload_n 1, 1) := by decide +kernel
theorem dX8_laysValues_206 : decode cX8_laysValues 206 = .ok (.iload_n 2, 1) := by decide +kernel
theorem dX8_laysValues_207 : decode cX8_laysValues 207 = .ok (.invokevirtual 319, 3) := by decide +kernel
theorem dX8_laysValues_210 : decode cX8_laysValues 210 = .ok (.ifCond .eq 9, 3) := by decide +kernel
theorem dX8_laysValues_213 : decode cX8_laysValues 213 = .ok (.lconst 1, 1) := by decide +kernel
theorem dX8_laysValues_214 : decode cX8_laysValues 214 = .ok (.iload_n 2, 1) := by decide +kernel
theorem dX8_laysValues_215 : decode cX8_laysValues 215 = .ok (.lshl, 1) := by decide +kernel
theorem dX8_laysValues_216 : decode cX8_laysValues 216 = .ok (.goto 4, 3) := by decide +kernel
theorem dX8_laysValues_219 : decode cX8_laysValues 219 = .ok (.lconst 0, 1) := by decide +kernel
theorem dX8_laysValues_220 : decode cX8_laysValues 220 = .ok (.lor, 1) := by decide +kernel
theorem dX8_laysValues_221 : decode cX8_laysValues 221 = .ok (.lastore, 1) := by decide +kernel
theorem dX8_laysValues_222 : decode cX8_laysValues 222 = .ok (.iinc 2 1, 3) := by decide +kernel
theorem dX8_laysValues_225 : decode cX8_laysValues 225 = .ok (.goto (-41), 3) := by decide +kernel
theorem dX8_laysValues_228 : decode cX8_laysValues 228 = .ok (.iinc 1 1, 3) := by decide +kernel
theorem dX8_laysValues_231 : decode cX8_laysValues 231 = .ok (.goto (-69), 3) := by decide +kernel
theorem dX8_laysValues_234 : decode cX8_laysValues 234 = .ok (.iconst 0, 1) := by decide +kernel
theorem dX8_laysValues_235 : decode cX8_laysValues 235 = .ok (.istore_n 1, 1) := by decide +kernel
theorem dX8_laysValues_236 : decode cX8_laysValues 236 = .ok (.iload_n 1, 1) := by decide +kernel
theorem dX8_laysValues_237 : decode cX8_laysValues 237 = .ok (.aload_n 0, 1) := by decide +kernel
theorem dX8_laysValues_238 : decode cX8_laysValues 238 = .ok (.getfield 23, 3) := by decide +kernel
theorem dX8_laysValues_241 : decode cX8_laysValues 241 = .ok (.aload_n 0, 1) := by decide +kernel
theorem dX8_laysValues_242 : decode cX8_laysValues 242 = .ok (.getfield 187, 3) := by decide +kernel
theorem dX8_laysValues_245 : decode cX8_laysValues 245 = .ok (.iaload, 1) := by decide +kernel
theorem dX8_laysValues_246 : decode cX8_laysValues 246 = .ok (.if_icmp .ge 14, 3) := by decide +kernel
theorem dX8_laysValues_249 : decode cX8_laysValues 249 = .ok (.aload_n 0, 1) := by decide +kernel
theorem dX8_laysValues_250 : decode cX8_laysValues 250 = .ok (.iload_n 1, 1) := by decide +kernel
theorem dX8_laysValues_251 : decode cX8_laysValues 251 = .ok (.invokevirtual 323, 3) := by decide +kernel
theorem dX8_laysValues_254 : decode cX8_laysValues 254 = .ok (.iinc 1 1, 3) := by decide +kernel
theorem dX8_laysValues_257 : decode cX8_laysValues 257 = .ok (.goto (-21), 3) := by decide +kernel
theorem dX8_laysValues_260 : decode cX8_laysValues 260 = .ok (.return_, 1) := by decide +kernel
theorem dX8_uses_0 : decode cX8_uses 0 = .ok (.lconst 0, 1) := by decide +kernel
theorem dX8_uses_1 : decode cX8_uses 1 = .ok (.lstore 5, 2) := by decide +kernel
theorem dX8_uses_3 : decode cX8_uses 3 = .ok (.iload_n 3, 1) := by decide +kernel
theorem dX8_uses_4 : decode cX8_uses 4 = .ok (.iconst (-1), 1) := by decide +kernel
theorem dX8_uses_5 : decode cX8_uses 5 = .ok (.if_icmp .ne 7, 3) := by decide +kernel
theorem dX8_uses_8 : decode cX8_uses 8 = .ok (.lconst 0, 1) := by decide +kernel
theorem dX8_uses_9 : decode cX8_uses 9 = .ok (.goto 6, 3) := by decide +kernel
theorem dX8_uses_12 : decode cX8_uses 12 = .ok (.lconst 1, 1) := by decide +kernel
theorem dX8_uses_13 : decode cX8_uses 13 = .ok (.iload_n 3, 1) := by decide +kernel
theorem dX8_uses_14 : decode cX8_uses 14 = .ok (.lshl, 1) := by decide +kernel
theorem dX8_uses_15 : decode cX8_uses 15 = .ok (.lstore 7, 2) := by decide +kernel
theorem dX8_uses_17 : decode cX8_uses 17 = .ok (.iload_n 3, 1) := by decide +kernel
theorem dX8_uses_18 : decode cX8_uses 18 = .ok (.iconst (-1), 1) := by decide +kernel
theorem dX8_uses_19 : decode cX8_uses 19 = .ok (.if_icmp .ne 7, 3) := by decide +kernel
theorem dX8_uses_22 : decode cX8_uses 22 = .ok (.iconst 1, 1) := by decide +kernel
theorem dX8_uses_23 : decode cX8_uses 23 = .ok (.goto 4, 3) := by decide +kernel
theorem dX8_uses_26 : decode cX8_uses 26 = .ok (.iconst 0, 1) := by decide +kernel
theorem dX8_uses_27 : decode cX8_uses 27 = .ok (.istore 9, 2) := by decide +kernel
theorem dX8_uses_29 : decode cX8_uses 29 = .ok (.iload 9, 2) := by decide +kernel
theorem dX8_uses_31 : decode cX8_uses 31 = .ok (.ifCond .ne 10, 3) := by decide +kernel
theorem dX8_uses_34 : decode cX8_uses 34 = .ok (.lload 7, 2) := by decide +kernel
theorem dX8_uses_36 : decode cX8_uses 36 = .ok (.lconst 0, 1) := by decide +kernel
theorem dX8_uses_37 : decode cX8_uses 37 = .ok (.lcmp, 1) := by decide +kernel
theorem dX8_uses_38 : decode cX8_uses 38 = .ok (.ifCond .eq 216, 3) := by decide +kernel
theorem dX8_uses_41 : decode cX8_uses 41 = .ok (.iload 9, 2) := by decide +kernel
theorem dX8_uses_43 : decode cX8_uses 43 = .ok (.ifCond .eq 7, 3) := by decide +kernel
theorem dX8_uses_46 : decode cX8_uses 46 = .ok (.iconst (-1), 1) := by decide +kernel
theorem dX8_uses_47 : decode cX8_uses 47 = .ok (.goto 8, 3) := by decide +kernel
theorem dX8_uses_50 : decode cX8_uses 50 = .ok (.lload 7, 2) := by decide +kernel
theorem dX8_uses_52 : decode cX8_uses 52 = .ok (.invokestatic 294, 3) := by decide +kernel
theorem dX8_uses_55 : decode cX8_uses 55 = .ok (.istore 10, 2) := by decide +kernel
theorem dX8_uses_57 : decode cX8_uses 57 = .ok (.iload 9, 2) := by decide +kernel
theorem dX8_uses_59 : decode cX8_uses 59 = .ok (.ifCond .ne 21, 3) := by decide +kernel
theorem dX8_uses_62 : decode cX8_uses 62 = .ok (.lload 7, 2) := by decide +kernel
theorem dX8_uses_64 : decode cX8_uses 64 = .ok (.lload 7, 2) := by decide +kernel
theorem dX8_uses_66 : decode cX8_uses 66 = .ok (.lconst 1, 1) := by decide +kernel
theorem dX8_uses_67 : decode cX8_uses 67 = .ok (.lsub, 1) := by decide +kernel
theorem dX8_uses_68 : decode cX8_uses 68 = .ok (.land, 1) := by decide +kernel
theorem dX8_uses_69 : decode cX8_uses 69 = .ok (.lstore 7, 2) := by decide +kernel
theorem dX8_uses_71 : decode cX8_uses 71 = .ok (.lload 5, 2) := by decide +kernel
theorem dX8_uses_73 : decode cX8_uses 73 = .ok (.lconst 1, 1) := by decide +kernel
theorem dX8_uses_74 : decode cX8_uses 74 = .ok (.iload 10, 2) := by decide +kernel
theorem dX8_uses_76 : decode cX8_uses 76 = .ok (.lshl, 1) := by decide +kernel
theorem dX8_uses_77 : decode cX8_uses 77 = .ok (.lor, 1) := by decide +kernel
theorem dX8_uses_78 : decode cX8_uses 78 = .ok (.lstore 5, 2) := by decide +kernel
theorem dX8_uses_80 : decode cX8_uses 80 = .ok (.iconst 0, 1) := by decide +kernel
theorem dX8_uses_81 : decode cX8_uses 81 = .ok (.istore 9, 2) := by decide +kernel
theorem dX8_uses_83 : decode cX8_uses 83 = .ok (.aload_n 0, 1) := by decide +kernel
theorem dX8_uses_84 : decode cX8_uses 84 = .ok (.getfield 98, 3) := by decide +kernel
theorem dX8_uses_87 : decode cX8_uses 87 = .ok (.iconst 5, 1) := by decide +kernel
theorem dX8_uses_88 : decode cX8_uses 88 = .ok (.aload_n 0, 1) := by decide +kernel
theorem dX8_uses_89 : decode cX8_uses 89 = .ok (.getfield 187, 3) := by decide +kernel
theorem dX8_uses_92 : decode cX8_uses 92 = .ok (.imul, 1) := by decide +kernel
theorem dX8_uses_93 : decode cX8_uses 93 = .ok (.iload_n 2, 1) := by decide +kernel
theorem dX8_uses_94 : decode cX8_uses 94 = .ok (.iadd, 1) := by decide +kernel
theorem dX8_uses_95 : decode cX8_uses 95 = .ok (.iaload, 1) := by decide +kernel
theorem dX8_uses_96 : decode cX8_uses 96 = .ok (.iload 10, 2) := by decide +kernel
theorem dX8_uses_98 : decode cX8_uses 98 = .ok (.if_icmp .ne 42, 3) := by decide +kernel
theorem dX8_uses_101 : decode cX8_uses 101 = .ok (.iload 4, 2) := by decide +kernel
theorem dX8_uses_103 : decode cX8_uses 103 = .ok (.iconst 2, 1) := by decide +kernel
theorem dX8_uses_104 : decode cX8_uses 104 = .ok (.if_icmp .lt 10, 3) := by decide +kernel
theorem dX8_uses_107 : decode cX8_uses 107 = .ok (.iload 4, 2) := by decide +kernel
theorem dX8_uses_109 : decode cX8_uses 109 = .ok (.bipush 6, 2) := by decide +kernel
theorem dX8_uses_111 : decode cX8_uses 111 = .ok (.if_icmp .lt 29, 3) := by decide +kernel
theorem dX8_uses_114 : decode cX8_uses 114 = .ok (.aload_n 0, 1) := by decide +kernel
theorem dX8_uses_115 : decode cX8_uses 115 = .ok (.iload_n 1, 1) := by decide +kernel
theorem dX8_uses_116 : decode cX8_uses 116 = .ok (.iload_n 2, 1) := by decide +kernel
theorem dX8_uses_117 : decode cX8_uses 117 = .ok (.iconst 1, 1) := by decide +kernel
theorem dX8_uses_118 : decode cX8_uses 118 = .ok (.iload 4, 2) := by decide +kernel
theorem dX8_uses_120 : decode cX8_uses 120 = .ok (.iconst 2, 1) := by decide +kernel
theorem dX8_uses_121 : decode cX8_uses 121 = .ok (.if_icmp .ge 8, 3) := by decide +kernel
theorem dX8_uses_124 : decode cX8_uses 124 = .ok (.iload 4, 2) := by decide +kernel
theorem dX8_uses_126 : decode cX8_uses 126 = .ok (.goto 7, 3) := by decide +kernel
theorem dX8_uses_129 : decode cX8_uses 129 = .ok (.iload 4, 2) := by decide +kernel
theorem dX8_uses_131 : decode cX8_uses 131 = .ok (.iconst 4, 1) := by decide +kernel
theorem dX8_uses_132 : decode cX8_uses 132 = .ok (.isub, 1) := by decide +kernel
theorem dX8_uses_133 : decode cX8_uses 133 = .ok (.iadd, 1) := by decide +kernel
theorem dX8_uses_134 : decode cX8_uses 134 = .ok (.invokestatic 300, 3) := by decide +kernel
theorem dX8_uses_137 : decode cX8_uses 137 = .ok (.invokevirtual 303, 3) := by decide +kernel
theorem dX8_uses_140 : decode cX8_uses 140 = .ok (.iconst 0, 1) := by decide +kernel
theorem dX8_uses_141 : decode cX8_uses 141 = .ok (.istore 11, 2) := by decide +kernel
theorem dX8_uses_143 : decode cX8_uses 143 = .ok (.iload 11, 2) := by decide +kernel
theorem dX8_uses_145 : decode cX8_uses 145 = .ok (.aload_n 0, 1) := by decide +kernel
theorem dX8_uses_146 : decode cX8_uses 146 = .ok (.getfield 23, 3) := by decide +kernel
theorem dX8_uses_149 : decode cX8_uses 149 = .ok (.aload_n 0, 1) := by decide +kernel
theorem dX8_uses_150 : decode cX8_uses 150 = .ok (.getfield 187, 3) := by decide +kernel
theorem dX8_uses_153 : decode cX8_uses 153 = .ok (.iaload, 1) := by decide +kernel
theorem dX8_uses_154 : decode cX8_uses 154 = .ok (.if_icmp .ge 97, 3) := by decide +kernel
theorem dX8_uses_157 : decode cX8_uses 157 = .ok (.iconst 0, 1) := by decide +kernel
theorem dX8_uses_158 : decode cX8_uses 158 = .ok (.istore 12, 2) := by decide +kernel
theorem dX8_uses_160 : decode cX8_uses 160 = .ok (.iload 12, 2) := by decide +kernel
theorem dX8_uses_162 : decode cX8_uses 162 = .ok (.iconst 2, 1) := by decide +kernel
theorem dX8_uses_163 : decode cX8_uses 163 = .ok (.if_icmp .ge 82, 3) := by decide +kernel
theorem dX8_uses_166 : decode cX8_uses 166 = .ok (.aload_n 0, 1) := by decide +kernel
theorem dX8_uses_167 : decode cX8_uses 167 = .ok (.iload 11, 2) := by decide +kernel
theorem dX8_uses_169 : decode cX8_uses 169 = .ok (.invokevirtual 306, 3) := by decide +kernel
theorem dX8_uses_172 : decode cX8_uses 172 = .ok (.iload_n 2, 1) := by decide +kernel
theorem dX8_uses_173 : decode cX8_uses 173 = .ok (.if_icmp .ne 72, 3) := by decide +kernel
theorem dX8_uses_176 : decode cX8_uses 176 = .ok (.aload_n 0, 1) := by decide +kernel
theorem dX8_uses_177 : decode cX8_uses 177 = .ok (.iload 11, 2) := by decide +kernel
theorem dX8_uses_179 : decode cX8_uses 179 = .ok (.iload 12, 2) := by decide +kernel
theorem dX8_uses_181 : decode cX8_uses 181 = .ok (.invokevirtual 284, 3) := by decide +kernel
theorem dX8_uses_184 : decode cX8_uses 184 = .ok (.iload 10, 2) := by decide +kernel
theorem dX8_uses_186 : decode cX8_uses 186 = .ok (.if_icmp .eq 6, 3) := by decide +kernel
theorem dX8_uses_189 : decode cX8_uses 189 = .ok (.goto 50, 3) := by decide +kernel
theorem dX8_uses_192 : decode cX8_uses 192 = .ok (.aload_n 0, 1) := by decide +kernel
theorem dX8_uses_193 : decode cX8_uses 193 = .ok (.iload 11, 2) := by decide +kernel
theorem dX8_uses_195 : decode cX8_uses 195 = .ok (.iload 12, 2) := by decide +kernel
theorem dX8_uses_197 : decode cX8_uses 197 = .ok (.iload 4, 2) := by decide +kernel
theorem dX8_uses_199 : decode cX8_uses 199 = .ok (.invokevirtual 309, 3) := by decide +kernel
theorem dX8_uses_202 : decode cX8_uses 202 = .ok (.istore 13, 2) := by decide +kernel
theorem dX8_uses_204 : decode cX8_uses 204 = .ok (.iload 13, 2) := by decide +kernel
theorem dX8_uses_206 : decode cX8_uses 206 = .ok (.iconst (-1), 1) := by decide +kernel
theorem dX8_uses_207 : decode cX8_uses 207 = .ok (.if_icmp .eq 13, 3) := by decide +kernel
theorem dX8_uses_210 : decode cX8_uses 210 = .ok (.aload_n 0, 1) := by decide +kernel
theorem dX8_uses_211 : decode cX8_uses 211 = .ok (.iload_n 1, 1) := by decide +kernel
theorem dX8_uses_212 : decode cX8_uses 212 = .ok (.iload 13, 2) := by decide +kernel
theorem dX8_uses_214 : decode cX8_uses 214 = .ok (.invokevirtual 303, 3) := by decide +kernel
theorem dX8_uses_217 : decode cX8_uses 217 = .ok (.goto 22, 3) := by decide +kernel
theorem dX8_uses_220 : decode cX8_uses 220 = .ok (.lload 5, 2) := by decide +kernel
theorem dX8_uses_222 : decode cX8_uses 222 = .ok (.iload 11, 2) := by decide +kernel
theorem dX8_uses_224 : decode cX8_uses 224 = .ok (.invokestatic 280, 3) := by decide +kernel
theorem dX8_uses_227 : decode cX8_uses 227 = .ok (.ifCond .ne 12, 3) := by decide +kernel
theorem dX8_uses_230 : decode cX8_uses 230 = .ok (.lload 7, 2) := by decide +kernel
theorem dX8_uses_232 : decode cX8_uses 232 = .ok (.lconst 1, 1) := by decide +kernel
theorem dX8_uses_233 : decode cX8_uses 233 = .ok (.iload 11, 2) := by decide +kernel
theorem dX8_uses_235 : decode cX8_uses 235 = .ok (.lshl, 1) := by decide +kernel
theorem dX8_uses_236 : decode cX8_uses 236 = .ok (.lor, 1) := by decide +kernel
theorem dX8_uses_237 : decode cX8_uses 237 = .ok (.lstore 7, 2) := by decide +kernel
theorem dX8_uses_239 : decode cX8_uses 239 = .ok (.iinc 12 1, 3) := by decide +kernel
theorem dX8_uses_242 : decode cX8_uses 242 = .ok (.goto (-82), 3) := by decide +kernel
theorem dX8_uses_245 : decode cX8_uses 245 = .ok (.iinc 11 1, 3) := by decide +kernel
theorem dX8_uses_248 : decode cX8_uses 248 = .ok (.goto (-105), 3) := by decide +kernel
theorem dX8_uses_251 : decode cX8_uses 251 = .ok (.goto (-222), 3) := by decide +kernel
theorem dX8_uses_254 : decode cX8_uses 254 = .ok (.return_, 1) := by decide +kernel
theorem dX8_usesOperand_0 : decode cX8_usesOperand 0 = .ok (.aload_n 0, 1) := by decide +kernel
theorem dX8_usesOperand_1 : decode cX8_usesOperand 1 = .ok (.getfield 65, 3) := by decide +kernel
theorem dX8_usesOperand_4 : decode cX8_usesOperand 4 = .ok (.iconst 2, 1) := by decide +kernel
theorem dX8_usesOperand_5 : decode cX8_usesOperand 5 = .ok (.aload_n 0, 1) := by decide +kernel
theorem dX8_usesOperand_6 : decode cX8_usesOperand 6 = .ok (.iload_n 2, 1) := by decide +kernel
theorem dX8_usesOperand_7 : decode cX8_usesOperand 7 = .ok (.invokevirtual 268, 3) := by decide +kernel
theorem dX8_usesOperand_10 : decode cX8_usesOperand 10 = .ok (.imul, 1) := by decide +kernel
theorem dX8_usesOperand_11 : decode cX8_usesOperand 11 = .ok (.iload_n 3, 1) := by decide +kernel
theorem dX8_usesOperand_12 : decode cX8_usesOperand 12 = .ok (.iadd, 1) := by decide +kernel
theorem dX8_usesOperand_13 : decode cX8_usesOperand 13 = .ok (.iaload, 1) := by decide +kernel
theorem dX8_usesOperand_14 : decode cX8_usesOperand 14 = .ok (.istore 4, 2) := by decide +kernel
theorem dX8_usesOperand_16 : decode cX8_usesOperand 16 = .ok (.iload 4, 2) := by decide +kernel
theorem dX8_usesOperand_18 : decode cX8_usesOperand 18 = .ok (.sipush 1000, 3) := by decide +kernel
theorem dX8_usesOperand_21 : decode cX8_usesOperand 21 = .ok (.if_icmp .lt 20, 3) := by decide +kernel
theorem dX8_usesOperand_24 : decode cX8_usesOperand 24 = .ok (.aload_n 0, 1) := by decide +kernel
theorem dX8_usesOperand_25 : decode cX8_usesOperand 25 = .ok (.iload_n 1, 1) := by decide +kernel
theorem dX8_usesOperand_26 : decode cX8_usesOperand 26 = .ok (.aload_n 0, 1) := by decide +kernel
theorem dX8_usesOperand_27 : decode cX8_usesOperand 27 = .ok (.iload_n 2, 1) := by decide +kernel
theorem dX8_usesOperand_28 : decode cX8_usesOperand 28 = .ok (.invokevirtual 306, 3) := by decide +kernel
theorem dX8_usesOperand_31 : decode cX8_usesOperand 31 = .ok (.iload_n 2, 1) := by decide +kernel
theorem dX8_usesOperand_32 : decode cX8_usesOperand 32 = .ok (.iload 4, 2) := by decide +kernel
theorem dX8_usesOperand_34 : decode cX8_usesOperand 34 = .ok (.sipush 1000, 3) := by decide +kernel
theorem dX8_usesOperand_37 : decode cX8_usesOperand 37 = .ok (.isub, 1) := by decide +kernel
theorem dX8_usesOperand_38 : decode cX8_usesOperand 38 = .ok (.invokevirtual 312, 3) := by decide +kernel
theorem dX8_usesOperand_41 : decode cX8_usesOperand 41 = .ok (.return_, 1) := by decide +kernel
