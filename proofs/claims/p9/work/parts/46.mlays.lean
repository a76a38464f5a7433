theorem CK.of {P : PP} {h : HP} (hv : Iv P h) (c : CKF h.2.1) : CK P := fun j => by
  rw [← hv.fz (c := 77) (by omega) (by omega), ← hv.fz (c := 84) (by omega) (by omega)]
  exact c j
theorem WI.ve {F G : FN} (h : VE F G) {S : Int} (w : WI F S) : WI G S := fun k a b q => by
  rw [h.v (c := 75) (by omega) (by omega)] at b
  rw [h.v (c := 77) (by omega) (by omega), h.v (c := 93) (by omega) (by omega)] at q
  rw [h.v (c := 96) (by omega) (by omega)]
  exact w k a b q
theorem dX8_laysAll_0 : decode cX8_laysAll 0 = .ok (.iconst 0, 1) := by decide +kernel
theorem dX8_laysAll_1 : decode cX8_laysAll 1 = .ok (.istore_n 1, 1) := by decide +kernel
theorem dX8_laysAll_2 : decode cX8_laysAll 2 = .ok (.iload_n 1, 1) := by decide +kernel
theorem dX8_laysAll_3 : decode cX8_laysAll 3 = .ok (.sipush 11115, 3) := by decide +kernel
theorem dX8_laysAll_6 : decode cX8_laysAll 6 = .ok (.if_icmp .ge 16, 3) := by decide +kernel
theorem dX8_laysAll_9 : decode cX8_laysAll 9 = .ok (.aload_n 0, 1) := by decide +kernel
theorem dX8_laysAll_10 : decode cX8_laysAll 10 = .ok (.getfield 108, 3) := by decide +kernel
theorem dX8_laysAll_13 : decode cX8_laysAll 13 = .ok (.iload_n 1, 1) := by decide +kernel
theorem dX8_laysAll_14 : decode cX8_laysAll 14 = .ok (.iconst 0, 1) := by decide +kernel
theorem dX8_laysAll_15 : decode cX8_laysAll 15 = .ok (.iastore, 1) := by decide +kernel
theorem dX8_laysAll_16 : decode cX8_laysAll 16 = .ok (.iinc 1 1, 3) := by decide +kernel
theorem dX8_laysAll_19 : decode cX8_laysAll 19 = .ok (.goto (-17), 3) := by decide +kernel
theorem dX8_laysAll_22 : decode cX8_laysAll 22 = .ok (.aload_n 0, 1) := by decide +kernel
theorem dX8_laysAll_23 : decode cX8_laysAll 23 = .ok (.invokevirtual 363, 3) := by decide +kernel
theorem dX8_laysAll_26 : decode cX8_laysAll 26 = .ok (.aload_n 0, 1) := by decide +kernel
theorem dX8_laysAll_27 : decode cX8_laysAll 27 = .ok (.invokevirtual 366, 3) := by decide +kernel
theorem dX8_laysAll_30 : decode cX8_laysAll 30 = .ok (.aload_n 0, 1) := by decide +kernel
theorem dX8_laysAll_31 : decode cX8_laysAll 31 = .ok (.invokevirtual 369, 3) := by decide +kernel
theorem dX8_laysAll_34 : decode cX8_laysAll 34 = .ok (.iconst 0, 1) := by decide +kernel
theorem dX8_laysAll_35 : decode cX8_laysAll 35 = .ok (.istore_n 1, 1) := by decide +kernel
theorem dX8_laysAll_36 : decode cX8_laysAll 36 = .ok (.iload_n 1, 1) := by decide +kernel
theorem dX8_laysAll_37 : decode cX8_laysAll 37 = .ok (.aload_n 0, 1) := by decide +kernel
theorem dX8_laysAll_38 : decode cX8_laysAll 38 = .ok (.getfield 23, 3) := by decide +kernel
theorem dX8_laysAll_41 : decode cX8_laysAll 41 = .ok (.aload_n 0, 1) := by decide +kernel
theorem dX8_laysAll_42 : decode cX8_laysAll 42 = .ok (.getfield 187, 3) := by decide +kernel
theorem dX8_laysAll_45 : decode cX8_laysAll 45 = .ok (.iaload, 1) := by decide +kernel
theorem dX8_laysAll_46 : decode cX8_laysAll 46 = .ok (.if_icmp .ge 32, 3) := by decide +kernel
theorem dX8_laysAll_49 : decode cX8_laysAll 49 = .ok (.aload_n 0, 1) := by decide +kernel
theorem dX8_laysAll_50 : decode cX8_laysAll 50 = .ok (.invokevirtual 356, 3) := by decide +kernel
theorem dX8_laysAll_53 : decode cX8_laysAll 53 = .ok (.aload_n 0, 1) := by decide +kernel
theorem dX8_laysAll_54 : decode cX8_laysAll 54 = .ok (.iload_n 1, 1) := by decide +kernel
theorem dX8_laysAll_55 : decode cX8_laysAll 55 = .ok (.invokevirtual 372, 3) := by decide +kernel
theorem dX8_laysAll_58 : decode cX8_laysAll 58 = .ok (.aload_n 0, 1) := by decide +kernel
theorem dX8_laysAll_59 : decode cX8_laysAll 59 = .ok (.invokevirtual 375, 3) := by decide +kernel
theorem dX8_laysAll_62 : decode cX8_laysAll 62 = .ok (.aload_n 0, 1) := by decide +kernel
theorem dX8_laysAll_63 : decode cX8_laysAll 63 = .ok (.getfield 133, 3) := by decide +kernel
theorem dX8_laysAll_66 : decode cX8_laysAll 66 = .ok (.iload_n 1, 1) := by decide +kernel
theorem dX8_laysAll_67 : decode cX8_laysAll 67 = .ok (.aload_n 0, 1) := by decide +kernel
theorem dX8_laysAll_68 : decode cX8_laysAll 68 = .ok (.invokevirtual 378, 3) := by decide +kernel
theorem dX8_laysAll_71 : decode cX8_laysAll 71 = .ok (.lastore, 1) := by decide +kernel
theorem dX8_laysAll_72 : decode cX8_laysAll 72 = .ok (.iinc 1 1, 3) := by decide +kernel
theorem dX8_laysAll_75 : decode cX8_laysAll 75 = .ok (.goto (-39), 3) := by decide +kernel
theorem dX8_laysAll_78 : decode cX8_laysAll 78 = .ok (.return_, 1) := by decide +kernel
theorem dX8_laysValues_0 : decode cX8_laysValues 0 = .ok (.iconst 0, 1) := by decide +kernel
theorem dX8_laysValues_1 : decode cX8_laysValues 1 = .ok (.istore_n 1, 1) := by decide +kernel
theorem dX8_laysValues_2 : decode cX8_laysValues 2 = .ok (.iload_n 1, 1) := by decide +kernel
theorem dX8_laysValues_3 : decode cX8_laysValues 3 = .ok (.aload_n 0, 1) := by decide +kernel
theorem dX8_laysValues_4 : decode cX8_laysValues 4 = .ok (.getfield 23, 3) := by decide +kernel
theorem dX8_laysValues_7 : decode cX8_laysValues 7 = .ok (.aload_n 0, 1) := by decide +kernel
theorem dX8_laysValues_8 : decode cX8_laysValues 8 = .ok (.getfield 187, 3) := by decide +kernel
theorem dX8_laysValues_11 : decode cX8_laysValues 11 = .ok (.iaload, 1) := by decide +kernel
theorem dX8_laysValues_12 : decode cX8_laysValues 12 = .ok (.if_icmp .ge 96, 3) := by decide +kernel
theorem dX8_laysValues_15 : decode cX8_laysValues 15 = .ok (.aload_n 0, 1) := by decide +kernel
theorem dX8_laysValues_16 : decode cX8_laysValues 16 = .ok (.iload_n 1, 1) := by decide +kernel
theorem dX8_laysValues_17 : decode cX8_laysValues 17 = .ok (.invokevirtual 271, 3) := by decide +kernel
theorem dX8_laysValues_20 : decode cX8_laysValues 20 = .ok (.iconst 1, 1) := by decide +kernel
theorem dX8_laysValues_21 : decode cX8_laysValues 21 = .ok (.if_icmp .ne 7, 3) := by decide +kernel
theorem dX8_laysValues_24 : decode cX8_laysValues 24 = .ok (.iconst 1, 1) := by decide +kernel
theorem dX8_laysValues_25 : decode cX8_laysValues 25 = .ok (.goto 4, 3) := by decide +kernel
theorem dX8_laysValues_28 : decode cX8_laysValues 28 = .ok (.iconst 0, 1) := by decide +kernel
theorem dX8_laysValues_29 : decode cX8_laysValues 29 = .ok (.istore_n 2, 1) := by decide +kernel
theorem dX8_laysValues_30 : decode cX8_laysValues 30 = .ok (.iconst 0, 1) := by decide +kernel
theorem dX8_laysValues_31 : decode cX8_laysValues 31 = .ok (.istore_n 3, 1) := by decide +kernel
theorem dX8_laysValues_32 : decode cX8_laysValues 32 = .ok (.iload_n 3, 1) := by decide +kernel
theorem dX8_laysValues_33 : decode cX8_laysValues 33 = .ok (.iconst 2, 1) := by decide +kernel
theorem dX8_laysValues_34 : decode cX8_laysValues 34 = .ok (.if_icmp .ge 30, 3) := by decide +kernel
theorem dX8_laysValues_37 : decode cX8_laysValues 37 = .ok (.aload_n 0, 1) := by decide +kernel
theorem dX8_laysValues_38 : decode cX8_laysValues 38 = .ok (.iload_n 1, 1) := by decide +kernel
theorem dX8_laysValues_39 : decode cX8_laysValues 39 = .ok (.iload_n 2, 1) := by decide +kernel
theorem dX8_laysValues_40 : decode cX8_laysValues 40 = .ok (.ifCond .eq 9, 3) := by decide +kernel
theorem dX8_laysValues_43 : decode cX8_laysValues 43 = .ok (.iconst 1, 1) := by decide +kernel
theorem dX8_laysValues_44 : decode cX8_laysValues 44 = .ok (.iload_n 3, 1) := by decide +kernel
theorem dX8_laysValues_45 : decode cX8_laysValues 45 = .ok (.iadd, 1) := by decide +kernel
theorem dX8_laysValues_46 : decode cX8_laysValues 46 = .ok (.goto 4, 3) := by decide +kernel
theorem dX8_laysValues_49 : decode cX8_laysValues 49 = .ok (.iconst 0, 1) := by decide +kernel
theorem dX8_laysValues_50 : decode cX8_laysValues 50 = .ok (.invokestatic 291, 3) := by decide +kernel
theorem dX8_laysValues_53 : decode cX8_laysValues 53 = .ok (.iload_n 1, 1) := by decide +kernel
theorem dX8_laysValues_54 : decode cX8_laysValues 54 = .ok (.iload_n 3, 1) := by decide +kernel
theorem dX8_laysValues_55 : decode cX8_laysValues 55 = .ok (.invokevirtual 316, 3) := by decide +kernel
theorem dX8_laysValues_58 : decode cX8_laysValues 58 = .ok (.iinc 3 1, 3) := by decide +kernel
theorem dX8_laysValues_61 : decode cX8_laysValues 61 = .ok (.goto (-29), 3) := by decide +kernel
theorem dX8_laysValues_64 : decode cX8_laysValues 64 = .ok (.iconst 0, 1) := by decide +kernel
theorem dX8_laysValues_65 : decode cX8_laysValues 65 = .ok (.istore_n 3, 1) := by decide +kernel
theorem dX8_laysValues_66 : decode cX8_laysValues 66 = .ok (.iload_n 3, 1) := by decide +kernel
theorem dX8_laysValues_67 : decode cX8_laysValues 67 = .ok (.iconst 4, 1) := by decide +kernel
theorem dX8_laysValues_68 : decode cX8_laysValues 68 = .ok (.if_icmp .ge 34, 3) := by decide +kernel
theorem dX8_laysValues_71 : decode cX8_laysValues 71 = .ok (.iload_n 2, 1) := by decide +kernel
theorem dX8_laysValues_72 : decode cX8_laysValues 72 = .ok (.ifCond .eq 30, 3) := by decide +kernel
theorem dX8_laysValues_75 : decode cX8_laysValues 75 = .ok (.aload_n 0, 1) := by decide +kernel
theorem dX8_laysValues_76 : decode cX8_laysValues 76 = .ok (.iload_n 1, 1) := by decide +kernel
theorem dX8_laysValues_77 : decode cX8_laysValues 77 = .ok (.iconst 3, 1) := by decide +kernel
theorem dX8_laysValues_78 : decode cX8_laysValues 78 = .ok (.iload_n 3, 1) := by decide +kernel
theorem dX8_laysValues_79 : decode cX8_laysValues 79 = .ok (.iadd, 1) := by decide +kernel
theorem dX8_laysValues_80 : decode cX8_laysValues 80 = .ok (.invokestatic 291, 3) := by decide +kernel
theorem dX8_laysValues_83 : decode cX8_laysValues 83 = .ok (.aload_n 0, 1) := by decide +kernel
theorem dX8_laysValues_84 : decode cX8_laysValues 84 = .ok (.iload_n 1, 1) := by decide +kernel
theorem dX8_laysValues_85 : decode cX8_laysValues 85 = .ok (.invokevirtual 306, 3) := by decide +kernel
theorem dX8_laysValues_88 : decode cX8_laysValues 88 = .ok (.iload_n 1, 1) := by decide +kernel
theorem dX8_laysValues_89 : decode cX8_laysValues 89 = .ok (.bipush 6, 2) := by decide +kernel
theorem dX8_laysValues_91 : decode cX8_laysValues 91 = .ok (.iload_n 3, 1) := by decide +kernel
theorem dX8_laysValues_92 : decode cX8_laysValues 92 = .ok (.iadd, 1) := by decide +kernel
theorem dX8_laysValues_93 : decode cX8_laysValues 93 = .ok (.invokevirtual 312, 3) := by decide +kernel
theorem dX8_laysValues_96 : decode cX8_laysValues 96 = .ok (.iinc 3 1, 3) := by decide +kernel
theorem dX8_laysValues_99 : decode cX8_laysValues 99 = .ok (.goto (-33), 3) := by decide +kernel
theorem dX8_laysValues_102 : decode cX8_laysValues 102 = .ok (.iinc 1 1, 3) := by decide +kernel
theorem dX8_laysValues_105 : decode cX8_laysValues 105 = .ok (.goto (-103), 3) := by decide +kernel
theorem dX8_laysValues_108 : decode cX8_laysValues 108 = .ok (.iconst 0, 1) := by decide +kernel
theorem dX8_laysValues_109 : decode cX8_laysValues 109 = .ok (.istore_n 1, 1) := by decide +kernel
theorem dX8_laysValues_110 : decode cX8_laysValues 110 = .ok (.iload_n 1, 1) := by decide +kernel
theorem dX8_laysValues_111 : decode cX8_laysValues 111 = .ok (.aload_n 0, 1) := by decide +kernel
theorem dX8_laysValues_112 : decode cX8_laysValues 112 = .ok (.getfield 26, 3) := by decide +kernel
theorem dX8_laysValues_115 : decode cX8_laysValues 115 = .ok (.aload_n 0, 1) := by decide +kernel
theorem dX8_laysValues_116 : decode cX8_laysValues 116 = .ok (.getfield 187, 3) := by decide +kernel
theorem dX8_laysValues_119 : decode cX8_laysValues 119 = .ok (.iaload, 1) := by decide +kernel
theorem dX8_laysValues_120 : decode cX8_laysValues 120 = .ok (.if_icmp .ge 40, 3) := by decide +kernel
theorem dX8_laysValues_123 : decode cX8_laysValues 123 = .ok (.iconst 0, 1) := by decide +kernel
theorem dX8_laysValues_124 : decode cX8_laysValues 124 = .ok (.istore_n 2, 1) := by decide +kernel
theorem dX8_laysValues_125 : decode cX8_laysValues 125 = .ok (.iload_n 2, 1) := by decide +kernel
theorem dX8_laysValues_126 : decode cX8_laysValues 126 = .ok (.iconst 4, 1) := by decide +kernel
theorem dX8_laysValues_127 : decode cX8_laysValues 127 = .ok (.if_icmp .ge 27, 3) := by decide +kernel
theorem dX8_laysValues_130 : decode cX8_laysValues 130 = .ok (.aload_n 0, 1) := by decide +kernel
theorem dX8_laysValues_131 : decode cX8_laysValues 131 = .ok (.iload_n 1, 1) := by decide +kernel
theorem dX8_laysValues_132 : decode cX8_laysValues 132 = .ok (.bipush 9, 2) := by decide +kernel
theorem dX8_laysValues_134 : decode cX8_laysValues 134 = .ok (.iload_n 2, 1) := by decide +kernel
theorem dX8_laysValues_135 : decode cX8_laysValues 135 = .ok (.iadd, 1) := by decide +kernel
theorem dX8_laysValues_136 : decode cX8_laysValues 136 = .ok (.invokestatic 300, 3) := by decide +kernel
theorem dX8_laysValues_139 : decode cX8_laysValues 139 = .ok (.iload_n 1, 1) := by decide +kernel
theorem dX8_laysValues_140 : decode cX8_laysValues 140 = .ok (.iconst (-1), 1) := by decide +kernel
theorem dX8_laysValues_141 : decode cX8_laysValues 141 = .ok (.bipush 6, 2) := by decide +kernel
theorem dX8_laysValues_143 : decode cX8_laysValues 143 = .ok (.iload_n 2, 1) := by decide +kernel
theorem dX8_laysValues_144 : decode cX8_laysValues 144 = .ok (.iadd, 1) := by decide +kernel
theorem dX8_laysValues_145 : decode cX8_laysValues 145 = .ok (.invokevirtual 312, 3) := by decide +kernel
theorem dX8_laysValues_148 : decode cX8_laysValues 148 = .ok (.iinc 2 1, 3) := by decide +kernel
theorem dX8_laysValues_151 : decode cX8_laysValues 151 = .ok (.goto (-26), 3) := by decide +kernel
theorem dX8_laysValues_154 : decode cX8_laysValues 154 = .ok (.iinc 1 1, 3) := by decide +kernel
theorem dX8_laysValues_157 : decode cX8_laysValues 157 = .ok (.goto (-47), 3) := by decide +kernel
theorem dX8_laysValues_160 : decode cX8_laysValues 160 = .ok (.iconst 0, 1) := by decide +kernel
theorem dX8_laysValues_161 : decode cX8_laysValues 161 = .ok (.istore_n 1, 1) := by decide +kernel
theorem dX8_laysValues_162 : decode cX8_laysValues 162 = .ok (.iload_n 1, 1) := by decide +kernel
theorem dX8_laysValues_163 : decode cX8_laysValues 163 = .ok (.aload_n 0, 1) := by decide +kernel
theorem dX8_laysValues_164 : decode cX8_laysValues 164 = .ok (.getfield 23, 3) := by decide +kernel
theorem dX8_laysValues_167 : decode cX8_laysValues 167 = .ok (.aload_n 0, 1) := by decide +kernel
theorem dX8_laysValues_168 : decode cX8_laysValues 168 = .ok (.getfield 187, 3) := by decide +kernel
theorem dX8_laysValues_171 : decode cX8_laysValues 171 = .ok (.iaload, 1) := by decide +kernel
theorem dX8_laysValues_172 : decode cX8_laysValues 172 = .ok (.if_icmp .ge 62, 3) := by decide +kernel
theorem dX8_laysValues_175 : decode cX8_laysValues 175 = .ok (.aload_n 0, 1) := by decide +kernel
theorem dX8_laysValues_176 : decode cX8_laysValues 176 = .ok (.getfield 111, 3) := by decide +kernel
theorem dX8_laysValues_179 : decode cX8_laysValues 179 = .ok (.iload_n 1, 1) := by decide +kernel
theorem dX8_laysValues_180 : decode cX8_laysValues 180 = .ok (.lconst 0, 1) := by decide +kernel
theorem dX8_laysValues_181 : decode cX8_laysValues 181 = .ok (.lastore, 1) := by decide +kernel
theorem dX8_laysValues_182 : decode cX8_laysValues 182 = .ok (.iconst 0, 1) := by decide +kernel
theorem dX8_laysValues_183 : decode cX8_laysValues 183 = .ok (.istore_n 2, 1) := by decide +kernel
theorem dX8_laysValues_184 : decode cX8_laysValues 184 = .ok (.iload_n 2, 1) := by decide +kernel
theorem dX8_laysValues_185 : decode cX8_laysValues 185 = .ok (.aload_n 0, 1) := by decide +kernel
theorem dX8_laysValues_186 : decode cX8_laysValues 186 = .ok (.getfield 23, 3) := by decide +kernel
theorem dX8_laysValues_189 : decode cX8_laysValues 189 = .ok (.aload_n 0, 1) := by decide +kernel
theorem dX8_laysValues_190 : decode cX8_laysValues 190 = .ok (.getfield 187, 3) := by decide +kernel
theorem dX8_laysValues_193 : decode cX8_laysValues 193 = .ok (.iaload, 1) := by decide +kernel
theorem dX8_laysValues_194 : decode cX8_laysValues 194 = .ok (.if_icmp .ge 34, 3) := by decide +kernel
theorem dX8_laysValues_197 : decode cX8_laysValues 197 = .ok (.aload_n 0, 1) := by decide +kernel
theorem dX8_laysValues_198 : decode cX8_laysValues 198 = .ok (.getfield 111, 3) := by decide +kernel
theorem dX8_laysValues_201 : decode cX8_laysValues 201 = .ok (.iload_n 1, 1) := by decide +kernel
theorem dX8_laysValues_202 : decode cX8_laysValues 202 = .ok (.dup2, 1) := by decide +kernel
theorem dX8_laysValues_203 : decode cX8_laysValues 203 = .ok (.laload, 1) := by decide +kernel
theorem dX8_laysValues_204 : decode cX8_laysValues 204 = .ok (.aload_n 0, 1) := by decide +kernel
theorem dX8_laysValues_205 : decode cX8_laysValues 205 = .ok (.iload_n 1, 1) := by decide +kernel
theorem dX8_laysValues_206 : decode cX8_laysValues 206 = .ok (.iload_n 2, 1) := by decide +kernel
theorem dX8_laysValues_207 : decode cX8_laysValues 207 = .ok (.invokevirtual 319, 3) := by decide +kernel
theorem dX8_laysValues_210 : decode cX8_laysValues 210 = .ok (.ifCond .eq 9, 3) := by decide +kernel
theorem dX8_laysValues_213 : decode cX8_laysValues 213 = .ok (.lconst 1, 1) := by decide +kernel
theorem dX8_laysValues_214 : decode cX8_laysValues 214 = .ok (.iload_n 2, 1) := by decide +kernel
theorem dX8_laysValues_215 : decode cX8_laysValues 215 = .ok (.lshl, 1) := by decide +kernel
theorem dX8_laysValues_216 : decode cX8_laysValues 216 = .ok (.goto 4, 3) := by decide +kernel
theorem dX8_laysValues_219 : decode cX8_laysValues 219 = .ok (.lconst 0, 1) := by decide +kernel
theorem dX8_laysValues_220 : decode cX8_laysValues 220 = .ok (.lor, 1) := by decide +kernel
theorem dX8_laysValues_221 : decode cX8_laysValues 221 = .ok (.lastore, 1) := by decide +kernel
theorem dX8_laysValues_222 : decode cX8_laysValues 222 = .ok (.iinc 2 1, 3) := by decide +kernel
theorem dX8_laysValues_225 : decode cX8_laysValues 225 = .ok (.goto (-41), 3) := by decide +kernel
theorem dX8_laysValues_228 : decode cX8_laysValues 228 = .ok (.iinc 1 1, 3) := by decide +kernel
theorem dX8_laysValues_231 : decode cX8_laysValues 231 = .ok (.goto (-69), 3) := by decide +kernel
theorem dX8_laysValues_234 : decode cX8_laysValues 234 = .ok (.iconst 0, 1) := by decide +kernel
theorem dX8_laysValues_235 : decode cX8_laysValues 235 = .ok (.istore_n 1, 1) := by decide +kernel
theorem dX8_laysValues_236 : decode cX8_laysValues 236 = .ok (.iload_n 1, 1) := by decide +kernel
theorem dX8_laysValues_237 : decode cX8_laysValues 237 = .ok (.aload_n 0, 1) := by decide +kernel
theorem dX8_laysValues_238 : decode cX8_laysValues 238 = .ok (.getfield 23, 3) := by decide +kernel
theorem dX8_laysValues_241 : decode cX8_laysValues 241 = .ok (.aload_n 0, 1) := by decide +kernel
theorem dX8_laysValues_242 : decode cX8_laysValues 242 = .ok (.getfield 187, 3) := by decide +kernel
theorem dX8_laysValues_245 : decode cX8_laysValues 245 = .ok (.iaload, 1) := by decide +kernel
theorem dX8_laysValues_246 : decode cX8_laysValues 246 = .ok (.if_icmp .ge 14, 3) := by decide +kernel
theorem dX8_laysValues_249 : decode cX8_laysValues 249 = .ok (.aload_n 0, 1) := by decide +kernel
theorem dX8_laysValues_250 : decode cX8_laysValues 250 = .ok (.iload_n 1, 1) := by decide +kernel
theorem dX8_laysValues_251 : decode cX8_laysValues 251 = .ok (.invokevirtual 323, 3) := by decide +kernel
theorem dX8_laysValues_254 : decode cX8_laysValues 254 = .ok (.iinc 1 1, 3) := by decide +kernel
theorem dX8_laysValues_257 : decode cX8_laysValues 257 = .ok (.goto (-21), 3) := by decide +kernel
theorem dX8_laysValues_260 : decode cX8_laysValues 260 = .ok (.return_, 1) := by decide +kernel
theorem dX8_uses_0 : decode cX8_uses 0 = .ok (.lconst 0, 1) := by decide +kernel
theorem dX8_uses_1 : decode cX8_uses 1 = .ok (.lstore 5, 2) := by decide +kernel
theorem dX8_uses_3 : decode cX8_uses 3 = .ok (.iload_n 3, 1) := by decide +kernel
theorem dX8_uses_4 : decode cX8_uses 4 = .ok (.iconst (-1), 1) := by decide +kernel
theorem dX8_uses_5 : decode cX8_uses 5 = .ok (.if_icmp .ne 7, 3) := by decide +kernel
theorem dX8_uses_8 : decode cX8_uses 8 = .ok (.lconst 0, 1) := by decide +kernel
theorem dX8_uses_9 : decode cX8_uses 9 = .ok (.goto 6, 3) := by decide +kernel
theorem dX8_uses_12 : decode cX8_uses 12 = .ok (.lconst 1, 1) := by decide +kernel
theorem dX8_uses_13 : decode cX8_uses 13 = .ok (.iload_n 3, 1) := by decide +kernel
theorem dX8_uses_14 : decode cX8_uses 14 = .ok (.lshl, 1) := by decide +kernel
theorem dX8_uses_15 : decode cX8_uses 15 = .ok (.lstore 7, 2) := by decide +kernel
theorem dX8_uses_17 : decode cX8_uses 17 = .ok (.iload_n 3, 1) := by decide +kernel
theorem dX8_uses_18 : decode cX8_uses 18 = .ok (.iconst (-1), 1) := by decide +kernel
theorem dX8_uses_19 : decode cX8_uses 19 = .ok (.if_icmp .ne 7, 3) := by decide +kernel
theorem dX8_uses_22 : decode cX8_uses 22 = .ok (.iconst 1, 1) := by decide +kernel
theorem dX8_uses_23 : decode cX8_uses 23 = .ok (.goto 4, 3) := by decide +kernel
theorem dX8_uses_26 : decode cX8_uses 26 = .ok (.iconst 0, 1) := by decide +kernel
theorem dX8_uses_27 : decode cX8_uses 27 = .ok (.istore 9, 2) := by decide +kernel
theorem dX8_uses_29 : decode cX8_uses 29 = .ok (.iload 9, 2) := by decide +kernel
theorem dX8_uses_31 : decode cX8_uses 31 = .ok (.ifCond .ne 10, 3) := by decide +kernel
theorem dX8_uses_34 : decode cX8_uses 34 = .ok (.lload 7, 2) := by decide +kernel
theorem dX8_uses_36 : decode cX8_uses 36 = .ok (.lconst 0, 1) := by decide +kernel
theorem dX8_uses_37 : decode cX8_uses 37 = .ok (.lcmp, 1) := by decide +kernel
theorem dX8_uses_38 : decode cX8_uses 38 = .ok (.ifCond .eq 216, 3) := by decide +kernel
theorem dX8_uses_41 : decode cX8_uses 41 = .ok (.iload 9, 2) := by decide +kernel
theorem dX8_uses_43 : decode cX8_uses 43 = .ok (.ifCond .eq 7, 3) := by decide +kernel
theorem dX8_uses_46 : decode cX8_uses 46 = .ok (.iconst (-1), 1) := by decide +kernel
theorem dX8_uses_47 : decode cX8_uses 47 = .ok (.goto 8, 3) := by decide +kernel
theorem dX8_uses_50 : decode cX8_uses 50 = .ok (.lload 7, 2) := by decide +kernel
theorem dX8_uses_52 : decode cX8_uses 52 = .ok (.invokestatic 294, 3) := by decide +kernel
theorem dX8_uses_55 : decode cX8_uses 55 = .ok (.istore 10, 2) := by decide +kernel
theorem dX8_uses_57 : decode cX8_uses 57 = .ok (.iload 9, 2) := by decide +kernel
theorem dX8_uses_59 : decode cX8_uses 59 = .ok (.ifCond .ne 21, 3) := by decide +kernel
theorem dX8_uses_62 : decode cX8_uses 62 = .ok (.lload 7, 2) := by decide +kernel
theorem dX8_uses_64 : decode cX8_uses 64 = .ok (.lload 7, 2) := by decide +kernel
theorem dX8_uses_66 : decode cX8_uses 66 = .ok (.lconst 1, 1) := by decide +kernel
theorem dX8_uses_67 : decode cX8_uses 67 = .ok (.lsub, 1) := by decide +kernel
theorem dX8_uses_68 : decode cX8_uses 68 = .ok (.land, 1) := by decide +kernel
theorem dX8_uses_69 : decode cX8_uses 69 = .ok (.lstore 7, 2) := by decide +kernel
theorem dX8_uses_71 : decode cX8_uses 71 = .ok (.lload 5, 2) := by decide +kernel
theorem dX8_uses_73 : decode cX8_uses 73 = .ok (.lconst 1, 1) := by decide +kernel
theorem dX8_uses_74 : decode cX8_uses 74 = .ok (.iload 10, 2) := by decide +kernel
theorem dX8_uses_76 : decode cX8_uses 76 = .ok (.lshl, 1) := by decide +kernel
theorem dX8_uses_77 : decode cX8_uses 77 = .ok (.lor, 1) := by decide +kernel
theorem dX8_uses_78 : decode cX8_uses 78 = .ok (.lstore 5, 2) := by decide +kernel
theorem dX8_uses_80 : decode cX8_uses 80 = .ok (.iconst 0, 1) := by decide +kernel
theorem dX8_uses_81 : decode cX8_uses 81 = .ok (.istore 9, 2) := by decide +kernel
theorem dX8_uses_83 : decode cX8_uses 83 = .ok (.aload_n 0, 1) := by decide +kernel
theorem dX8_uses_84 : decode cX8_uses 84 = .ok (.getfield 98, 3) := by decide +kernel
theorem dX8_uses_87 : decode cX8_uses 87 = .ok (.iconst 5, 1) := by decide +kernel
theorem dX8_uses_88 : decode cX8_uses 88 = .ok (.aload_n 0, 1) := by decide +kernel
theorem dX8_uses_89 : decode cX8_uses 89 = .ok (.getfield 187, 3) := by decide +kernel
theorem dX8_uses_92 : decode cX8_uses 92 = .ok (.imul, 1) := by decide +kernel
theorem dX8_uses_93 : decode cX8_uses 93 = .ok (.iload_n 2, 1) := by decide +kernel
theorem dX8_uses_94 : decode cX8_uses 94 = .ok (.iadd, 1) := by decide +kernel
theorem dX8_uses_95 : decode cX8_uses 95 = .ok (.iaload, 1) := by decide +kernel
theorem dX8_uses_96 : decode cX8_uses 96 = .ok (.iload 10, 2) := by decide +kernel
theorem dX8_uses_98 : decode cX8_uses 98 = .ok (.if_icmp .ne 42, 3) := by decide +kernel
theorem dX8_uses_101 : decode cX8_uses 101 = .ok (.iload 4, 2) := by decide +kernel
theorem dX8_uses_103 : decode cX8_uses 103 = .ok (.iconst 2, 1) := by decide +kernel
theorem dX8_uses_104 : decode cX8_uses 104 = .ok (.if_icmp .lt 10, 3) := by decide +kernel
theorem dX8_uses_107 : decode cX8_uses 107 = .ok (.iload 4, 2) := by decide +kernel
theorem dX8_uses_109 : decode cX8_uses 109 = .ok (.bipush 6, 2) := by decide +kernel
theorem dX8_uses_111 : decode cX8_uses 111 = .ok (.if_icmp .lt 29, 3) := by decide +kernel
theorem dX8_uses_114 : decode cX8_uses 114 = .ok (.aload_n 0, 1) := by decide +kernel
theorem dX8_uses_115 : decode cX8_uses 115 = .ok (.iload_n 1, 1) := by decide +kernel
theorem dX8_uses_116 : decode cX8_uses 116 = .ok (.iload_n 2, 1) := by decide +kernel
theorem dX8_uses_117 : decode cX8_uses 117 = .ok (.iconst 1, 1) := by decide +kernel
theorem dX8_uses_118 : decode cX8_uses 118 = .ok (.iload 4, 2) := by decide +kernel
theorem dX8_uses_120 : decode cX8_uses 120 = .ok (.iconst 2, 1) := by decide +kernel
theorem dX8_uses_121 : decode cX8_uses 121 = .ok (.if_icmp .ge 8, 3) := by decide +kernel
theorem dX8_uses_124 : decode cX8_uses 124 = .ok (.iload 4, 2) := by decide +kernel
theorem dX8_uses_126 : decode cX8_uses 126 = .ok (.goto 7, 3) := by decide +kernel
theorem dX8_uses_129 : decode cX8_uses 129 = .ok (.iload 4, 2) := by decide +kernel
theorem dX8_uses_131 : decode cX8_uses 131 = .ok (.iconst 4, 1) := by decide +kernel
theorem dX8_uses_132 : decode cX8_uses 132 = .ok (.isub, 1) := by decide +kernel
theorem dX8_uses_133 : decode cX8_uses 133 = .ok (.iadd, 1) := by decide +kernel
theorem dX8_uses_134 : decode cX8_uses 134 = .ok (.invokestatic 300, 3) := by decide +kernel
theorem dX8_uses_137 : decode cX8_uses 137 = .ok (.invokevirtual 303, 3) := by decide +kernel
theorem dX8_uses_140 : decode cX8_uses 140 = .ok (.iconst 0, 1) := by decide +kernel
theorem dX8_uses_141 : decode cX8_uses 141 = .ok (.istore 11, 2) := by decide +kernel
theorem dX8_uses_143 : decode cX8_uses 143 = .ok (.iload 11, 2) := by decide +kernel
theorem dX8_uses_145 : decode cX8_uses 145 = .ok (.aload_n 0, 1) := by decide +kernel
theorem dX8_uses_146 : decode cX8_uses 146 = .ok (.getfield 23, 3) := by decide +kernel
theorem dX8_uses_149 : decode cX8_uses 149 = .ok (.aload_n 0, 1) := by decide +kernel
theorem dX8_uses_150 : decode cX8_uses 150 = .ok (.getfield 187, 3) := by decide +kernel
theorem dX8_uses_153 : decode cX8_uses 153 = .ok (.iaload, 1) := by decide +kernel
theorem dX8_uses_154 : decode cX8_uses 154 = .ok (.if_icmp .ge 97, 3) := by decide +kernel
theorem dX8_uses_157 : decode cX8_uses 157 = .ok (.iconst 0, 1) := by decide +kernel
theorem dX8_uses_158 : decode cX8_uses 158 = .ok (.istore 12, 2) := by decide +kernel
theorem dX8_uses_160 : decode cX8_uses 160 = .ok (.iload 12, 2) := by decide +kernel
theorem dX8_uses_162 : decode cX8_uses 162 = .ok (.iconst 2, 1) := by decide +kernel
theorem dX8_uses_163 : decode cX8_uses 163 = .ok (.if_icmp .ge 82, 3) := by decide +kernel
theorem dX8_uses_166 : decode cX8_uses 166 = .ok (.aload_n 0, 1) := by decide +kernel
theorem dX8_uses_167 : decode cX8_uses 167 = .ok (.iload 11, 2) := by decide +kernel
theorem dX8_uses_169 : decode cX8_uses 169 = .ok (.invokevirtual 306, 3) := by decide +kernel
theorem dX8_uses_172 : decode cX8_uses 172 = .ok (.iload_n 2, 1) := by decide +kernel
theorem dX8_uses_173 : decode cX8_uses 173 = .ok (.if_icmp .ne 72, 3) := by decide +kernel
theorem dX8_uses_176 : decode cX8_uses 176 = .ok (.aload_n 0, 1) := by decide +kernel
theorem dX8_uses_177 : decode cX8_uses 177 = .ok (.iload 11, 2) := by decide +kernel
theorem dX8_uses_179 : decode cX8_uses 179 = .ok (.iload 12, 2) := by decide +kernel
theorem dX8_uses_181 : decode cX8_uses 181 = .ok (.invokevirtual 284, 3) := by decide +kernel
theorem dX8_uses_184 : decode cX8_uses 184 = .ok (.iload 10, 2) := by decide +kernel
theorem dX8_uses_186 : decode cX8_uses 186 = .ok (.if_icmp .eq 6, 3) := by decide +kernel
theorem dX8_uses_189 : decode cX8_uses 189 = .ok (.goto 50, 3) := by decide +kernel
theorem dX8_uses_192 : decode cX8_uses 192 = .ok (.aload_n 0, 1) := by decide +kernel
theorem dX8_uses_193 : decode cX8_uses 193 = .ok (.iload 11, 2) := by decide +kernel
theorem dX8_uses_195 : decode cX8_uses 195 = .ok (.iload 12, 2) := by decide +kernel
theorem dX8_uses_197 : decode cX8_uses 197 = .ok (.iload 4, 2) := by decide +kernel
theorem dX8_uses_199 : decode cX8_uses 199 = .ok (.invokevirtual 309, 3) := by decide +kernel
theorem dX8_uses_202 : decode cX8_uses 202 = .ok (.istore 13, 2) := by decide +kernel
theorem dX8_uses_204 : decode cX8_uses 204 = .ok (.iload 13, 2) := by decide +kernel
theorem dX8_uses_206 : decode cX8_uses 206 = .ok (.iconst (-1), 1) := by decide +kernel
theorem dX8_uses_207 : decode cX8_uses 207 = .ok (.if_icmp .eq 13, 3) := by decide +kernel
theorem dX8_uses_210 : decode cX8_uses 210 = .ok (.aload_n 0, 1) := by decide +kernel
theorem dX8_uses_211 : decode cX8_uses 211 = .ok (.iload_n 1, 1) := by decide +kernel
theorem dX8_uses_212 : decode cX8_uses 212 = .ok (.iload 13, 2) := by decide +kernel
theorem dX8_uses_214 : decode cX8_uses 214 = .ok (.invokevirtual 303, 3) := by decide +kernel
theorem dX8_uses_217 : decode cX8_uses 217 = .ok (.goto 22, 3) := by decide +kernel
theorem dX8_uses_220 : decode cX8_uses 220 = .ok (.lload 5, 2) := by decide +kernel
theorem dX8_uses_222 : decode cX8_uses 222 = .ok (.iload 11, 2) := by decide +kernel
theorem dX8_uses_224 : decode cX8_uses 224 = .ok (.invokestatic 280, 3) := by decide +kernel
theorem dX8_uses_227 : decode cX8_uses 227 = .ok (.ifCond .ne 12, 3) := by decide +kernel
theorem dX8_uses_230 : decode cX8_uses 230 = .ok (.lload 7, 2) := by decide +kernel
theorem dX8_uses_232 : decode cX8_uses 232 = .ok (.lconst 1, 1) := by decide +kernel
theorem dX8_uses_233 : decode cX8_uses 233 = .ok (.iload 11, 2) := by decide +kernel
theorem dX8_uses_235 : decode cX8_uses 235 = .ok (.lshl, 1) := by decide +kernel
theorem dX8_uses_236 : decode cX8_uses 236 = .ok (.lor, 1) := by decide +kernel
theorem dX8_uses_237 : decode cX8_uses 237 = .ok (.lstore 7, 2) := by decide +kernel
theorem dX8_uses_239 : decode cX8_uses 239 = .ok (.iinc 12 1, 3) := by decide +kernel
theorem dX8_uses_242 : decode cX8_uses 242 = .ok (.goto (-82), 3) := by decide +kernel
theorem dX8_uses_245 : decode cX8_uses 245 = .ok (.iinc 11 1, 3) := by decide +kernel
theorem dX8_uses_248 : decode cX8_uses 248 = .ok (.goto (-105), 3) := by decide +kernel
theorem dX8_uses_251 : decode cX8_uses 251 = .ok (.goto (-222), 3) := by decide +kernel
theorem dX8_uses_254 : decode cX8_uses 254 = .ok (.return_, 1) := by decide +kernel
theorem dX8_usesOperand_0 : decode cX8_usesOperand 0 = .ok (.aload_n 0, 1) := by decide +kernel
theorem dX8_usesOperand_1 : decode cX8_usesOperand 1 = .ok (.getfield 65, 3) := by decide +kernel
theorem dX8_usesOperand_4 : decode cX8_usesOperand 4 = .ok (.iconst 2, 1) := by decide +kernel
theorem dX8_usesOperand_5 : decode cX8_usesOperand 5 = .ok (.aload_n 0, 1) := by decide +kernel
theorem dX8_usesOperand_6 : decode cX8_usesOperand 6 = .ok (.iload_n 2, 1) := by decide +kernel
theorem dX8_usesOperand_7 : decode cX8_usesOperand 7 = .ok (.invokevirtual 268, 3) := by decide +kernel
theorem dX8_usesOperand_10 : decode cX8_usesOperand 10 = .ok (.imul, 1) := by decide +kernel
theorem dX8_usesOperand_11 : decode cX8_usesOperand 11 = .ok (.iload_n 3, 1) := by decide +kernel
theorem dX8_usesOperand_12 : decode cX8_usesOperand 12 = .ok (.iadd, 1) := by decide +kernel
theorem dX8_usesOperand_13 : decode cX8_usesOperand 13 = .ok (.iaload, 1) := by decide +kernel
theorem dX8_usesOperand_14 : decode cX8_usesOperand 14 = .ok (.istore 4, 2) := by decide +kernel
theorem dX8_usesOperand_16 : decode cX8_usesOperand 16 = .ok (.iload 4, 2) := by decide +kernel
theorem dX8_usesOperand_18 : decode cX8_usesOperand 18 = .ok (.sipush 1000, 3) := by decide +kernel
theorem dX8_usesOperand_21 : decode cX8_usesOperand 21 = .ok (.if_icmp .lt 20, 3) := by decide +kernel
theorem dX8_usesOperand_24 : decode cX8_usesOperand 24 = .ok (.aload_n 0, 1) := by decide +kernel
theorem dX8_usesOperand_25 : decode cX8_usesOperand 25 = .ok (.iload_n 1, 1) := by decide +kernel
theorem dX8_usesOperand_26 : decode cX8_usesOperand 26 = .ok (.aload_n 0, 1) := by decide +kernel
theorem dX8_usesOperand_27 : decode cX8_usesOperand 27 = .ok (.iload_n 2, 1) := by decide +kernel
theorem dX8_usesOperand_28 : decode cX8_usesOperand 28 = .ok (.invokevirtual 306, 3) := by decide +kernel
theorem dX8_usesOperand_31 : decode cX8_usesOperand 31 = .ok (.iload_n 2, 1) := by decide +kernel
theorem dX8_usesOperand_32 : decode cX8_usesOperand 32 = .ok (.iload 4, 2) := by decide +kernel
theorem dX8_usesOperand_34 : decode cX8_usesOperand 34 = .ok (.sipush 1000, 3) := by decide +kernel
theorem dX8_usesOperand_37 : decode cX8_usesOperand 37 = .ok (.isub, 1) := by decide +kernel
theorem dX8_usesOperand_38 : decode cX8_usesOperand 38 = .ok (.invokevirtual 312, 3) := by decide +kernel
theorem dX8_usesOperand_41 : decode cX8_usesOperand 41 = .ok (.return_, 1) := by decide +kernel
set_option maxHeartbeats 4000000 in
set_option maxRecDepth 100000 in
theorem s_X8_ends_x (l : Launch) (d : Nat) {P : PP} {h : HP} (hv : Iv P h) (a2 : Int32) (a2l : 0 ≤ a2.toInt) (a2u : a2.toInt ≤ 39) (ckf : CKF h.2.1) : Mt l yX8_ends cX8_ends 6 none (d + 4) [.ref 70, .int a2] h 0 0 (fun r h' => r = none ∧ Iv P h') := by
  refine Mt_iv hv (by decide) (Nat.le_of_ble_eq_true rfl) ?_
  show Go l RX8 cX8_ends 6 (g_rm (d + 4) 0 0) "ends" none 117 0 0 (fun _ _ => True) (fun r h' => r = none ∧ Iv P h') 0 0 [(0, .ref 70), (1, .int a2)] [] h
  have ck : CK P := CK.of hv ckf
  have key : ∀ n : Nat, (∀ (l1 : Int32) (l2 : Int32) (hx : HP), Iv P hx → 0 ≤ l1.toInt → l1.toInt ≤ 39 → 0 ≤ l2.toInt → l2.toInt ≤ 4 → (11 : Int) < n → Go l RX8 cX8_ends 6 (g_rm (d + 4) 0 0) "ends" none 117 0 0 (fun _ _ => True) (fun r h' => r = none ∧ Iv P h') 0 46 [(0, .ref 70), (1, .int l1), (2, .int l2)] [] hx) ∧ (∀ (l1 : Int32) (l2 : Int32) (s0 : Int32) (hx : HP), Iv P hx → 0 ≤ l1.toInt → l1.toInt ≤ 39 → 0 ≤ l2.toInt → l2.toInt ≤ 4 → 0 ≤ s0.toInt → s0.toInt ≤ 1 → (10 : Int) < n → Go l RX8 cX8_ends 6 (g_rm (d + 4) 0 0) "ends" none 117 0 0 (fun _ _ => True) (fun r h' => r = none ∧ Iv P h') 0 47 [(0, .ref 70), (1, .int l1), (2, .int l2)] [.int s0] hx) ∧ (∀ (l1 : Int32) (l2 : Int32) (l3 : Int32) (hx : HP), Iv P hx → 0 ≤ l1.toInt → l1.toInt ≤ 39 → 0 ≤ l2.toInt → l2.toInt ≤ 4 → 0 ≤ l3.toInt → l3.toInt ≤ 1 → (8 : Int) < n → Go l RX8 cX8_ends 6 (g_rm (d + 4) 0 0) "ends" none 117 0 0 (fun _ _ => True) (fun r h' => r = none ∧ Iv P h') 0 70 [(0, .ref 70), (1, .int l1), (2, .int l2), (3, .int l3)] [] hx) ∧ (∀ (l1 : Int32) (l2 : Int32) (l3 : Int32) (hx : HP), Iv P hx → 0 ≤ l1.toInt → l1.toInt ≤ 39 → 0 ≤ l2.toInt → l2.toInt ≤ 4 → 0 ≤ l3.toInt → l3.toInt ≤ 1 → (9 : Int) < n → Go l RX8 cX8_ends 6 (g_rm (d + 4) 0 0) "ends" none 117 0 0 (fun _ _ => True) (fun r h' => r = none ∧ Iv P h') 0 74 [(0, .ref 70), (1, .int l1), (2, .int l2), (3, .int l3)] [] hx) ∧ (∀ (l1 : Int32) (l2 : Int32) (l3 : Int32) (s0 : Int32) (hx : HP), Iv P hx → 0 ≤ l1.toInt → l1.toInt ≤ 39 → 0 ≤ l2.toInt → l2.toInt ≤ 4 → 0 ≤ l3.toInt → l3.toInt ≤ 1 → 0 ≤ s0.toInt → s0.toInt ≤ 1 → (7 : Int) < n → Go l RX8 cX8_ends 6 (g_rm (d + 4) 0 0) "ends" none 117 0 0 (fun _ _ => True) (fun r h' => r = none ∧ Iv P h') 0 75 [(0, .ref 70), (1, .int l1), (2, .int l2), (3, .int l3)] [.int s0] hx) ∧ (∀ (l1 : Int32) (l2 : Int32) (l4 : Int32) (hx : HP), Iv P hx → 0 ≤ l1.toInt → l1.toInt ≤ 39 → 0 ≤ l2.toInt → l2.toInt ≤ 4 → 0 ≤ l4.toInt → l4.toInt ≤ 1 → (6 : Int) < n → Go l RX8 cX8_ends 6 (g_rm (d + 4) 0 0) "ends" none 117 0 0 (fun _ _ => True) (fun r h' => r = none ∧ Iv P h') 0 93 [(0, .ref 70), (1, .int l1), (2, .int l2), (4, .int l4)] [] hx) ∧ (∀ (l1 : Int32) (l2 : Int32) (l4 : Int32) (s0 : Int32) (hx : HP), Iv P hx → 0 ≤ l1.toInt → l1.toInt ≤ 39 → 0 ≤ l2.toInt → l2.toInt ≤ 4 → 0 ≤ l4.toInt → l4.toInt ≤ 1 → 0 ≤ s0.toInt → s0.toInt ≤ 1 → (5 : Int) < n → Go l RX8 cX8_ends 6 (g_rm (d + 4) 0 0) "ends" none 117 0 0 (fun _ _ => True) (fun r h' => r = none ∧ Iv P h') 0 94 [(0, .ref 70), (1, .int l1), (2, .int l2), (4, .int l4)] [.int s0] hx) ∧ (∀ (l1 : Int32) (l2 : Int32) (l4 : Int32) (l5 : Int32) (hx : HP), Iv P hx → 0 ≤ l1.toInt → l1.toInt ≤ 39 → 0 ≤ l2.toInt → l2.toInt ≤ 4 → 0 ≤ l4.toInt → l4.toInt ≤ 1 → 0 ≤ l5.toInt → l5.toInt ≤ 1 → (4 : Int) < n → Go l RX8 cX8_ends 6 (g_rm (d + 4) 0 0) "ends" none 117 0 0 (fun _ _ => True) (fun r h' => r = none ∧ Iv P h') 0 116 [(0, .ref 70), (1, .int l1), (2, .int l2), (4, .int l4), (5, .int l5)] [] hx) ∧ (∀ (l1 : Int32) (l2 : Int32) (l4 : Int32) (l5 : Int32) (hx : HP), Iv P hx → 0 ≤ l1.toInt → l1.toInt ≤ 39 → 0 ≤ l2.toInt → l2.toInt ≤ 4 → 0 ≤ l4.toInt → l4.toInt ≤ 1 → 0 ≤ l5.toInt → l5.toInt ≤ 1 → (3 : Int) < n → Go l RX8 cX8_ends 6 (g_rm (d + 4) 0 0) "ends" none 117 0 0 (fun _ _ => True) (fun r h' => r = none ∧ Iv P h') 0 137 [(0, .ref 70), (1, .int l1), (2, .int l2), (4, .int l4), (5, .int l5)] [] hx) ∧ (∀ (l1 : Int32) (l2 : Int32) (l5 : Int32) (hx : HP), Iv P hx → 0 ≤ l1.toInt → l1.toInt ≤ 39 → 0 ≤ l2.toInt → l2.toInt ≤ 4 → 0 ≤ l5.toInt → l5.toInt ≤ 1 → (2 : Int) < n → Go l RX8 cX8_ends 6 (g_rm (d + 4) 0 0) "ends" none 117 0 0 (fun _ _ => True) (fun r h' => r = none ∧ Iv P h') 0 174 [(0, .ref 70), (1, .int l1), (2, .int l2), (5, .int l5)] [] hx) ∧ (∀  (hx : HP), Iv P hx → (1 : Int) < n → Go l RX8 cX8_ends 6 (g_rm (d + 4) 0 0) "ends" none 117 0 0 (fun _ _ => True) (fun r h' => r = none ∧ Iv P h') 0 195 [] [] hx) := by
    intro n
    induction n with
    | zero => exact ⟨(by intros; omega), (by intros; omega), (by intros; omega), (by intros; omega), (by intros; omega), (by intros; omega), (by intros; omega), (by intros; omega), (by intros; omega), (by intros; omega), (by intros; omega)⟩
    | succ n ih =>
      refine ⟨?_, ?_, ?_, ?_, ?_, ?_, ?_, ?_, ?_, ?_, ?_⟩
      ·
        intro l1 l2 hx hvx l1l l1u l2l l2u hm
        refine go_iconst (pc := 46) (v := 0) (by decide) dX8_ends_46 ?_
        have z1 : (0 : Int32).toInt = 0 := (ti_c (v := 0) (a := 0) (by decide))
        exact go_lv rfl (ih.2.1 l1 l2 0 hx hvx (by omega) (by omega) (by omega) (by omega) (by omega) (by omega) (by omega))
      ·
        intro l1 l2 s0 hx hvx l1l l1u l2l l2u s0l s0u hm
        refine go_istore_n (pc := 47) (Nat.le_of_ble_eq_true rfl) dX8_ends_47 (go_lv (lv2 := [(0, .ref 70), (1, .int l1), (2, .int l2), (3, .int s0)]) rfl ?_)
        refine go_aload_n (pc := 48) rfl dX8_ends_48 ?_
        refine go_iload_n (pc := 49) rfl dX8_ends_49 ?_
        refine go_invV (pc := 50) (sl := 0) (s_X8_kindAt l (d + 1) hvx l1 (by rw [show (l1 : Int32).toInt = l1.toInt from (ti_rfl l1)]; omega) (by rw [show (l1 : Int32).toInt = l1.toInt from (ti_rfl l1)]; omega)) mL_X8_271 iM_X8_kindAt sM_X8_kindAt (hvx.sh rfl) rfl rfl rfl (Nat.le_of_ble_eq_true rfl) (show d + 1 + 2 + 1 ≤ d + 4 by omega) (show 8 + (2 + 11) + 40 * (d + 1 + 2) ≤ 40 * (d + 4) by omega) (g_c0 hvx.ln) (Nat.le_of_ble_eq_true rfl) dX8_ends_50 ?_
        intro r h2 hq _
        obtain ⟨v4, rfl, v4l, v4u, rfl, f3⟩ := hq
        refine go_iconst (pc := 53) (v := 5) (by decide) dX8_ends_53 ?_
        refine gf_icmp_eq (pc := 54) (tgt := 70) (ti_rfl v4) (ti_c (v := 5) (a := 5) (by decide)) (by decide) dX8_ends_54 (fun q5 => ?_) (fun q5 => ?_)
        ·
          exact go_lv rfl (ih.2.2.1 l1 l2 s0 hx hvx (by omega) (by omega) (by omega) (by omega) (by omega) (by omega) (by omega))
        ·
          refine go_aload_n (pc := 57) rfl dX8_ends_57 ?_
          refine go_iload_n (pc := 58) rfl dX8_ends_58 ?_
          refine go_invV (pc := 59) (sl := 0) (s_X8_kindAt l (d + 1) hvx l1 (by rw [show (l1 : Int32).toInt = l1.toInt from (ti_rfl l1)]; omega) (by rw [show (l1 : Int32).toInt = l1.toInt from (ti_rfl l1)]; omega)) mL_X8_271 iM_X8_kindAt sM_X8_kindAt (hvx.sh rfl) rfl rfl rfl (Nat.le_of_ble_eq_true rfl) (show d + 1 + 2 + 1 ≤ d + 4 by omega) (show 8 + (2 + 11) + 40 * (d + 1 + 2) ≤ 40 * (d + 4) by omega) (g_c0 hvx.ln) (Nat.le_of_ble_eq_true rfl) dX8_ends_59 ?_
          intro r h6 hq _
          obtain ⟨v8, rfl, v8l, v8u, rfl, f7⟩ := hq
          refine go_iconst (pc := 62) (v := 4) (by decide) dX8_ends_62 ?_
          refine gf_icmp_ne (pc := 63) (tgt := 74) (ti_rfl v8) (ti_c (v := 4) (a := 4) (by decide)) (by decide) dX8_ends_63 (fun q9 => ?_) (fun q9 => ?_)
          ·
            exact go_lv rfl (ih.2.2.2.1 l1 l2 s0 hx hvx (by omega) (by omega) (by omega) (by omega) (by omega) (by omega) (by omega))
          ·
            refine go_iload_n (pc := 66) rfl dX8_ends_66 ?_
            refine gf_if_eq (pc := 67) (tgt := 74) (ti_rfl s0) (by decide) dX8_ends_67 (fun q10 => ?_) (fun q10 => ?_)
            ·
              exact go_lv rfl (ih.2.2.2.1 l1 l2 s0 hx hvx (by omega) (by omega) (by omega) (by omega) (by omega) (by omega) (by omega))
            ·
              exact go_lv rfl (ih.2.2.1 l1 l2 s0 hx hvx (by omega) (by omega) (by omega) (by omega) (by omega) (by omega) (by omega))
      ·
        intro l1 l2 l3 hx hvx l1l l1u l2l l2u l3l l3u hm
        refine go_iconst (pc := 70) (v := 1) (by decide) dX8_ends_70 ?_
        refine go_goto (pc := 71) (tgt := 75) (by decide) dX8_ends_71 ?_
        have z11 : (1 : Int32).toInt = 1 := (ti_c (v := 1) (a := 1) (by decide))
        exact go_lv rfl (ih.2.2.2.2.1 l1 l2 l3 1 hx hvx (by omega) (by omega) (by omega) (by omega) (by omega) (by omega) (by omega) (by omega) (by omega))
      ·
        intro l1 l2 l3 hx hvx l1l l1u l2l l2u l3l l3u hm
        refine go_iconst (pc := 74) (v := 0) (by decide) dX8_ends_74 ?_
        have z12 : (0 : Int32).toInt = 0 := (ti_c (v := 0) (a := 0) (by decide))
        exact go_lv rfl (ih.2.2.2.2.1 l1 l2 l3 0 hx hvx (by omega) (by omega) (by omega) (by omega) (by omega) (by omega) (by omega) (by omega) (by omega))
      ·
        intro l1 l2 l3 s0 hx hvx l1l l1u l2l l2u l3l l3u s0l s0u hm
        refine go_istore (pc := 75) (Nat.le_of_ble_eq_true rfl) dX8_ends_75 (go_lv (lv2 := [(0, .ref 70), (1, .int l1), (2, .int l2), (3, .int l3), (4, .int s0)]) rfl ?_)
        refine go_aload_n (pc := 77) rfl dX8_ends_77 ?_
        refine go_iload_n (pc := 78) rfl dX8_ends_78 ?_
        refine go_invV (pc := 79) (sl := 0) (s_X8_isThrowing l (d + 0) hvx l1 (by rw [show (l1 : Int32).toInt = l1.toInt from (ti_rfl l1)]; omega) (by rw [show (l1 : Int32).toInt = l1.toInt from (ti_rfl l1)]; omega) ck) mL_X8_277 iM_X8_isThrowing sM_X8_isThrowing (hvx.sh rfl) rfl rfl rfl (Nat.le_of_ble_eq_true rfl) (show d + 0 + 3 + 1 ≤ d + 4 by omega) (show 8 + (2 + 11) + 40 * (d + 0 + 3) ≤ 40 * (d + 4) by omega) (g_c0 hvx.ln) (Nat.le_of_ble_eq_true rfl) dX8_ends_79 ?_
        intro r h13 hq _
        obtain ⟨v14, rfl, v14l, v14u, rfl⟩ := hq
        refine gf_if_eq (pc := 82) (tgt := 93) (ti_rfl v14) (by decide) dX8_ends_82 (fun q15 => ?_) (fun q15 => ?_)
        ·
          exact go_lv rfl (ih.2.2.2.2.2.1 l1 l2 s0 hx hvx (by omega) (by omega) (by omega) (by omega) (by omega) (by omega) (by omega))
        ·
          refine go_iload_n (pc := 85) rfl dX8_ends_85 ?_
          refine gf_if_eq (pc := 86) (tgt := 93) (ti_rfl l3) (by decide) dX8_ends_86 (fun q16 => ?_) (fun q16 => ?_)
          ·
            exact go_lv rfl (ih.2.2.2.2.2.1 l1 l2 s0 hx hvx (by omega) (by omega) (by omega) (by omega) (by omega) (by omega) (by omega))
          ·
            refine go_iconst (pc := 89) (v := 1) (by decide) dX8_ends_89 ?_
            refine go_goto (pc := 90) (tgt := 94) (by decide) dX8_ends_90 ?_
            have z17 : (1 : Int32).toInt = 1 := (ti_c (v := 1) (a := 1) (by decide))
            exact go_lv rfl (ih.2.2.2.2.2.2.1 l1 l2 s0 1 hx hvx (by omega) (by omega) (by omega) (by omega) (by omega) (by omega) (by omega) (by omega) (by omega))
      ·
        intro l1 l2 l4 hx hvx l1l l1u l2l l2u l4l l4u hm
        refine go_iconst (pc := 93) (v := 0) (by decide) dX8_ends_93 ?_
        have z18 : (0 : Int32).toInt = 0 := (ti_c (v := 0) (a := 0) (by decide))
        exact go_lv rfl (ih.2.2.2.2.2.2.1 l1 l2 l4 0 hx hvx (by omega) (by omega) (by omega) (by omega) (by omega) (by omega) (by omega) (by omega) (by omega))
      ·
        intro l1 l2 l4 s0 hx hvx l1l l1u l2l l2u l4l l4u s0l s0u hm
        refine go_istore (pc := 94) (Nat.le_of_ble_eq_true rfl) dX8_ends_94 (go_lv (lv2 := [(0, .ref 70), (1, .int l1), (2, .int l2), (4, .int l4), (5, .int s0)]) rfl ?_)
        refine go_iload (pc := 96) rfl dX8_ends_96 ?_
        refine gf_if_eq (pc := 98) (tgt := 116) (ti_rfl l4) (by decide) dX8_ends_98 (fun q19 => ?_) (fun q19 => ?_)
        ·
          exact go_lv rfl (ih.2.2.2.2.2.2.2.1 l1 l2 l4 s0 hx hvx (by omega) (by omega) (by omega) (by omega) (by omega) (by omega) (by omega) (by omega) (by omega))
        ·
          refine go_aload_n (pc := 101) rfl dX8_ends_101 ?_
          refine go_iload_n (pc := 102) rfl dX8_ends_102 ?_
          refine go_bipush (pc := 103) (v := 7) (by decide) dX8_ends_103 ?_
          refine go_invS (pc := 105) (sl := 0) (s_X8_procedurePlace l (d + 2) hvx l2 (by rw [show (l2 : Int32).toInt = l2.toInt from (ti_rfl l2)]; omega) (by rw [show (l2 : Int32).toInt = l2.toInt from (ti_rfl l2)]; omega) 7 (by rw [show (7 : Int32).toInt = 7 from (ti_c (v := 7) (a := 7) (by decide))]; omega) (by rw [show (7 : Int32).toInt = 7 from (ti_c (v := 7) (a := 7) (by decide))]; omega)) mL_X8_300 iM_X8_procedurePlace rfl rfl (Nat.le_of_ble_eq_true rfl) (show d + 2 + 1 + 1 ≤ d + 4 by omega) (show 8 + (2 + 11) + 40 * (d + 2 + 1) ≤ 40 * (d + 4) by omega) (g_c0 hvx.ln) (Nat.le_of_ble_eq_true rfl) dX8_ends_105 ?_
          intro r h20 hq _
          obtain ⟨v21, rfl, v21l, v21u, rfl⟩ := hq
          refine go_iload_n (pc := 108) rfl dX8_ends_108 ?_
          refine go_iconst (pc := 109) (v := 0) (by decide) dX8_ends_109 ?_
          refine go_invS (pc := 110) (sl := 0) (s_X8_statementPlace l (d + 2) hvx l1 (by rw [show (l1 : Int32).toInt = l1.toInt from (ti_rfl l1)]; omega) (by rw [show (l1 : Int32).toInt = l1.toInt from (ti_rfl l1)]; omega) 0 (by rw [show (0 : Int32).toInt = 0 from (ti_c (v := 0) (a := 0) (by decide))]; omega) (by rw [show (0 : Int32).toInt = 0 from (ti_c (v := 0) (a := 0) (by decide))]; omega)) mL_X8_291 iM_X8_statementPlace rfl rfl (Nat.le_of_ble_eq_true rfl) (show d + 2 + 1 + 1 ≤ d + 4 by omega) (show 8 + (2 + 11) + 40 * (d + 2 + 1) ≤ 40 * (d + 4) by omega) (g_c0 hvx.ln) (Nat.le_of_ble_eq_true rfl) dX8_ends_110 ?_
          intro r h22 hq _
          obtain ⟨v23, rfl, v23l, v23u, rfl⟩ := hq
          refine go_invV (pc := 113) (sl := 0) (s_X8_hang l (d + 2) hvx v21 (by rw [show (v21 : Int32).toInt = v21.toInt from (ti_rfl v21)]; omega) (by rw [show (v21 : Int32).toInt = v21.toInt from (ti_rfl v21)]; omega) v23 (by rw [show (v23 : Int32).toInt = v23.toInt from (ti_rfl v23)]; omega) (by rw [show (v23 : Int32).toInt = v23.toInt from (ti_rfl v23)]; omega)) mL_X8_303 iM_X8_hang sM_X8_hang (hvx.sh rfl) rfl rfl rfl (Nat.le_of_ble_eq_true rfl) (show d + 2 + 1 + 1 ≤ d + 4 by omega) (show 8 + (3 + 11) + 40 * (d + 2 + 1) ≤ 40 * (d + 4) by omega) (g_c0 hvx.ln) (Nat.le_of_ble_eq_true rfl) dX8_ends_113 ?_
          intro r h24 hq _
          obtain ⟨rfl, hv24⟩ := hq
          exact go_lv rfl (ih.2.2.2.2.2.2.2.1 l1 l2 l4 s0 h24 hv24 (by omega) (by omega) (by omega) (by omega) (by omega) (by omega) (by omega) (by omega) (by omega))
      ·
        intro l1 l2 l4 l5 hx hvx l1l l1u l2l l2u l4l l4u l5l l5u hm
        refine go_iload (pc := 116) rfl dX8_ends_116 ?_
        refine gf_if_eq (pc := 118) (tgt := 137) (ti_rfl l5) (by decide) dX8_ends_118 (fun q25 => ?_) (fun q25 => ?_)
        ·
          exact go_lv rfl (ih.2.2.2.2.2.2.2.2.1 l1 l2 l4 l5 hx hvx (by omega) (by omega) (by omega) (by omega) (by omega) (by omega) (by omega) (by omega) (by omega))
        ·
          refine go_aload_n (pc := 121) rfl dX8_ends_121 ?_
          refine go_iload_n (pc := 122) rfl dX8_ends_122 ?_
          refine go_bipush (pc := 123) (v := 7) (by decide) dX8_ends_123 ?_
          refine go_invS (pc := 125) (sl := 0) (s_X8_procedurePlace l (d + 2) hvx l2 (by rw [show (l2 : Int32).toInt = l2.toInt from (ti_rfl l2)]; omega) (by rw [show (l2 : Int32).toInt = l2.toInt from (ti_rfl l2)]; omega) 7 (by rw [show (7 : Int32).toInt = 7 from (ti_c (v := 7) (a := 7) (by decide))]; omega) (by rw [show (7 : Int32).toInt = 7 from (ti_c (v := 7) (a := 7) (by decide))]; omega)) mL_X8_300 iM_X8_procedurePlace rfl rfl (Nat.le_of_ble_eq_true rfl) (show d + 2 + 1 + 1 ≤ d + 4 by omega) (show 8 + (2 + 11) + 40 * (d + 2 + 1) ≤ 40 * (d + 4) by omega) (g_c0 hvx.ln) (Nat.le_of_ble_eq_true rfl) dX8_ends_125 ?_
          intro r h26 hq _
          obtain ⟨v27, rfl, v27l, v27u, rfl⟩ := hq
          refine go_iload_n (pc := 128) rfl dX8_ends_128 ?_
          refine go_bipush (pc := 129) (v := 7) (by decide) dX8_ends_129 ?_
          refine go_invS (pc := 131) (sl := 0) (s_X8_statementPlace l (d + 2) hvx l1 (by rw [show (l1 : Int32).toInt = l1.toInt from (ti_rfl l1)]; omega) (by rw [show (l1 : Int32).toInt = l1.toInt from (ti_rfl l1)]; omega) 7 (by rw [show (7 : Int32).toInt = 7 from (ti_c (v := 7) (a := 7) (by decide))]; omega) (by rw [show (7 : Int32).toInt = 7 from (ti_c (v := 7) (a := 7) (by decide))]; omega)) mL_X8_291 iM_X8_statementPlace rfl rfl (Nat.le_of_ble_eq_true rfl) (show d + 2 + 1 + 1 ≤ d + 4 by omega) (show 8 + (2 + 11) + 40 * (d + 2 + 1) ≤ 40 * (d + 4) by omega) (g_c0 hvx.ln) (Nat.le_of_ble_eq_true rfl) dX8_ends_131 ?_
          intro r h28 hq _
          obtain ⟨v29, rfl, v29l, v29u, rfl⟩ := hq
          refine go_invV (pc := 134) (sl := 0) (s_X8_hang l (d + 2) hvx v27 (by rw [show (v27 : Int32).toInt = v27.toInt from (ti_rfl v27)]; omega) (by rw [show (v27 : Int32).toInt = v27.toInt from (ti_rfl v27)]; omega) v29 (by rw [show (v29 : Int32).toInt = v29.toInt from (ti_rfl v29)]; omega) (by rw [show (v29 : Int32).toInt = v29.toInt from (ti_rfl v29)]; omega)) mL_X8_303 iM_X8_hang sM_X8_hang (hvx.sh rfl) rfl rfl rfl (Nat.le_of_ble_eq_true rfl) (show d + 2 + 1 + 1 ≤ d + 4 by omega) (show 8 + (3 + 11) + 40 * (d + 2 + 1) ≤ 40 * (d + 4) by omega) (g_c0 hvx.ln) (Nat.le_of_ble_eq_true rfl) dX8_ends_134 ?_
          intro r h30 hq _
          obtain ⟨rfl, hv30⟩ := hq
          exact go_lv rfl (ih.2.2.2.2.2.2.2.2.1 l1 l2 l4 l5 h30 hv30 (by omega) (by omega) (by omega) (by omega) (by omega) (by omega) (by omega) (by omega) (by omega))
      ·
        intro l1 l2 l4 l5 hx hvx l1l l1u l2l l2u l4l l4u l5l l5u hm
        refine go_aload_n (pc := 137) rfl dX8_ends_137 ?_
        refine gi_getF (pc := 138) (q := 102) hvx fL_X8_105 rfl (Nat.le_of_ble_eq_true rfl) rfl (hvx.rf (by decide)) dX8_ends_138 ?_
        refine go_iconst (pc := 141) (v := 5) (by decide) dX8_ends_141 ?_
        refine go_aload_n (pc := 142) rfl dX8_ends_142 ?_
        refine gi_get (pc := 143) (lo := 0) (hi := 1) hvx fL_X8_187 rfl (Nat.le_of_ble_eq_true rfl) rfl rfl dX8_ends_143 (fun v31 v31l v31u v31w => ?_)
        refine gf_imul (pc := 146) (ti_c (v := 5) (a := 5) (by decide)) (ti_rfl v31) (by omega) (by omega) dX8_ends_146 (fun v32 e33 => ?_)
        refine go_iload_n (pc := 147) rfl dX8_ends_147 ?_
        refine gf_iadd (pc := 148) e33 (ti_rfl l2) (by omega) (by omega) dX8_ends_148 (fun v34 e35 => ?_)
        refine gi_zald (pc := 149) (lo := 0) (hi := 1) (len := 10) hvx e35 rfl (by omega) (by omega) (fun _ => rfl) dX8_ends_149 (fun v36 v36l v36u v36w => ?_)
        refine gf_if_ne (pc := 150) (tgt := 154) (ti_rfl v36) (by decide) dX8_ends_150 (fun q37 => ?_) (fun q37 => ?_)
        ·
          refine go_iload (pc := 154) rfl dX8_ends_154 ?_
          refine gf_if_eq (pc := 156) (tgt := 174) (ti_rfl l4) (by decide) dX8_ends_156 (fun q38 => ?_) (fun q38 => ?_)
          ·
            exact go_lv rfl (ih.2.2.2.2.2.2.2.2.2.1 l1 l2 l5 hx hvx (by omega) (by omega) (by omega) (by omega) (by omega) (by omega) (by omega))
          ·
            refine go_aload_n (pc := 159) rfl dX8_ends_159 ?_
            refine go_iload_n (pc := 160) rfl dX8_ends_160 ?_
            refine go_bipush (pc := 161) (v := 8) (by decide) dX8_ends_161 ?_
            refine go_invS (pc := 163) (sl := 0) (s_X8_procedurePlace l (d + 2) hvx l2 (by rw [show (l2 : Int32).toInt = l2.toInt from (ti_rfl l2)]; omega) (by rw [show (l2 : Int32).toInt = l2.toInt from (ti_rfl l2)]; omega) 8 (by rw [show (8 : Int32).toInt = 8 from (ti_c (v := 8) (a := 8) (by decide))]; omega) (by rw [show (8 : Int32).toInt = 8 from (ti_c (v := 8) (a := 8) (by decide))]; omega)) mL_X8_300 iM_X8_procedurePlace rfl rfl (Nat.le_of_ble_eq_true rfl) (show d + 2 + 1 + 1 ≤ d + 4 by omega) (show 8 + (2 + 11) + 40 * (d + 2 + 1) ≤ 40 * (d + 4) by omega) (g_c0 hvx.ln) (Nat.le_of_ble_eq_true rfl) dX8_ends_163 ?_
            intro r h39 hq _
            obtain ⟨v40, rfl, v40l, v40u, rfl⟩ := hq
            refine go_iload_n (pc := 166) rfl dX8_ends_166 ?_
            refine go_iconst (pc := 167) (v := 0) (by decide) dX8_ends_167 ?_
            refine go_invS (pc := 168) (sl := 0) (s_X8_statementPlace l (d + 2) hvx l1 (by rw [show (l1 : Int32).toInt = l1.toInt from (ti_rfl l1)]; omega) (by rw [show (l1 : Int32).toInt = l1.toInt from (ti_rfl l1)]; omega) 0 (by rw [show (0 : Int32).toInt = 0 from (ti_c (v := 0) (a := 0) (by decide))]; omega) (by rw [show (0 : Int32).toInt = 0 from (ti_c (v := 0) (a := 0) (by decide))]; omega)) mL_X8_291 iM_X8_statementPlace rfl rfl (Nat.le_of_ble_eq_true rfl) (show d + 2 + 1 + 1 ≤ d + 4 by omega) (show 8 + (2 + 11) + 40 * (d + 2 + 1) ≤ 40 * (d + 4) by omega) (g_c0 hvx.ln) (Nat.le_of_ble_eq_true rfl) dX8_ends_168 ?_
            intro r h41 hq _
            obtain ⟨v42, rfl, v42l, v42u, rfl⟩ := hq
            refine go_invV (pc := 171) (sl := 0) (s_X8_hang l (d + 2) hvx v40 (by rw [show (v40 : Int32).toInt = v40.toInt from (ti_rfl v40)]; omega) (by rw [show (v40 : Int32).toInt = v40.toInt from (ti_rfl v40)]; omega) v42 (by rw [show (v42 : Int32).toInt = v42.toInt from (ti_rfl v42)]; omega) (by rw [show (v42 : Int32).toInt = v42.toInt from (ti_rfl v42)]; omega)) mL_X8_303 iM_X8_hang sM_X8_hang (hvx.sh rfl) rfl rfl rfl (Nat.le_of_ble_eq_true rfl) (show d + 2 + 1 + 1 ≤ d + 4 by omega) (show 8 + (3 + 11) + 40 * (d + 2 + 1) ≤ 40 * (d + 4) by omega) (g_c0 hvx.ln) (Nat.le_of_ble_eq_true rfl) dX8_ends_171 ?_
            intro r h43 hq _
            obtain ⟨rfl, hv43⟩ := hq
            exact go_lv rfl (ih.2.2.2.2.2.2.2.2.2.1 l1 l2 l5 h43 hv43 (by omega) (by omega) (by omega) (by omega) (by omega) (by omega) (by omega))
        ·
          exact gi_vret (pc := 153) ⟨rfl, hvx⟩ hvx dX8_ends_153
      ·
        intro l1 l2 l5 hx hvx l1l l1u l2l l2u l5l l5u hm
        refine go_iload (pc := 174) rfl dX8_ends_174 ?_
        refine gf_if_eq (pc := 176) (tgt := 195) (ti_rfl l5) (by decide) dX8_ends_176 (fun q44 => ?_) (fun q44 => ?_)
        ·
          exact go_lv rfl (ih.2.2.2.2.2.2.2.2.2.2  hx hvx  (by omega))
        ·
          refine go_aload_n (pc := 179) rfl dX8_ends_179 ?_
          refine go_iload_n (pc := 180) rfl dX8_ends_180 ?_
          refine go_bipush (pc := 181) (v := 8) (by decide) dX8_ends_181 ?_
          refine go_invS (pc := 183) (sl := 0) (s_X8_procedurePlace l (d + 2) hvx l2 (by rw [show (l2 : Int32).toInt = l2.toInt from (ti_rfl l2)]; omega) (by rw [show (l2 : Int32).toInt = l2.toInt from (ti_rfl l2)]; omega) 8 (by rw [show (8 : Int32).toInt = 8 from (ti_c (v := 8) (a := 8) (by decide))]; omega) (by rw [show (8 : Int32).toInt = 8 from (ti_c (v := 8) (a := 8) (by decide))]; omega)) mL_X8_300 iM_X8_procedurePlace rfl rfl (Nat.le_of_ble_eq_true rfl) (show d + 2 + 1 + 1 ≤ d + 4 by omega) (show 8 + (2 + 11) + 40 * (d + 2 + 1) ≤ 40 * (d + 4) by omega) (g_c0 hvx.ln) (Nat.le_of_ble_eq_true rfl) dX8_ends_183 ?_
          intro r h45 hq _
          obtain ⟨v46, rfl, v46l, v46u, rfl⟩ := hq
          refine go_iload_n (pc := 186) rfl dX8_ends_186 ?_
          refine go_bipush (pc := 187) (v := 8) (by decide) dX8_ends_187 ?_
          refine go_invS (pc := 189) (sl := 0) (s_X8_statementPlace l (d + 2) hvx l1 (by rw [show (l1 : Int32).toInt = l1.toInt from (ti_rfl l1)]; omega) (by rw [show (l1 : Int32).toInt = l1.toInt from (ti_rfl l1)]; omega) 8 (by rw [show (8 : Int32).toInt = 8 from (ti_c (v := 8) (a := 8) (by decide))]; omega) (by rw [show (8 : Int32).toInt = 8 from (ti_c (v := 8) (a := 8) (by decide))]; omega)) mL_X8_291 iM_X8_statementPlace rfl rfl (Nat.le_of_ble_eq_true rfl) (show d + 2 + 1 + 1 ≤ d + 4 by omega) (show 8 + (2 + 11) + 40 * (d + 2 + 1) ≤ 40 * (d + 4) by omega) (g_c0 hvx.ln) (Nat.le_of_ble_eq_true rfl) dX8_ends_189 ?_
          intro r h47 hq _
          obtain ⟨v48, rfl, v48l, v48u, rfl⟩ := hq
          refine go_invV (pc := 192) (sl := 0) (s_X8_hang l (d + 2) hvx v46 (by rw [show (v46 : Int32).toInt = v46.toInt from (ti_rfl v46)]; omega) (by rw [show (v46 : Int32).toInt = v46.toInt from (ti_rfl v46)]; omega) v48 (by rw [show (v48 : Int32).toInt = v48.toInt from (ti_rfl v48)]; omega) (by rw [show (v48 : Int32).toInt = v48.toInt from (ti_rfl v48)]; omega)) mL_X8_303 iM_X8_hang sM_X8_hang (hvx.sh rfl) rfl rfl rfl (Nat.le_of_ble_eq_true rfl) (show d + 2 + 1 + 1 ≤ d + 4 by omega) (show 8 + (3 + 11) + 40 * (d + 2 + 1) ≤ 40 * (d + 4) by omega) (g_c0 hvx.ln) (Nat.le_of_ble_eq_true rfl) dX8_ends_192 ?_
          intro r h49 hq _
          obtain ⟨rfl, hv49⟩ := hq
          exact go_lv rfl (ih.2.2.2.2.2.2.2.2.2.2  h49 hv49  (by omega))
      ·
        intro hx hvx hm
        exact gi_vret (pc := 195) ⟨rfl, hvx⟩ hvx dX8_ends_195
  refine go_aload_n (pc := 0) rfl dX8_ends_0 ?_
  refine go_iload_n (pc := 1) rfl dX8_ends_1 ?_
  refine go_invV (pc := 2) (sl := 0) (s_X8_procedureOf l (d + 1) hv a2 (by rw [show (a2 : Int32).toInt = a2.toInt from (ti_rfl a2)]; omega) (by rw [show (a2 : Int32).toInt = a2.toInt from (ti_rfl a2)]; omega)) mL_X8_306 iM_X8_procedureOf sM_X8_procedureOf (hv.sh rfl) rfl rfl rfl (Nat.le_of_ble_eq_true rfl) (show d + 1 + 2 + 1 ≤ d + 4 by omega) (show 8 + (2 + 11) + 40 * (d + 1 + 2) ≤ 40 * (d + 4) by omega) (g_c0 hv.ln) (Nat.le_of_ble_eq_true rfl) dX8_ends_2 ?_
  intro r h50 hq _
  obtain ⟨v51, rfl, v51l, v51u, rfl⟩ := hq
  refine go_istore_n (pc := 5) (Nat.le_of_ble_eq_true rfl) dX8_ends_5 (go_lv (lv2 := [(0, .ref 70), (1, .int a2), (2, .int v51)]) rfl ?_)
  refine go_aload_n (pc := 6) rfl dX8_ends_6 ?_
  refine gi_getF (pc := 7) (q := 98) hv fL_X8_92 rfl (Nat.le_of_ble_eq_true rfl) rfl (hv.rf (by decide)) dX8_ends_7 ?_
  refine go_bipush (pc := 10) (v := 40) (by decide) dX8_ends_10 ?_
  refine go_aload_n (pc := 12) rfl dX8_ends_12 ?_
  refine gi_get (pc := 13) (lo := 0) (hi := 1) hv fL_X8_187 rfl (Nat.le_of_ble_eq_true rfl) rfl rfl dX8_ends_13 (fun v52 v52l v52u v52w => ?_)
  refine gf_imul (pc := 16) (ti_c (v := 40) (a := 40) (by decide)) (ti_rfl v52) (by omega) (by omega) dX8_ends_16 (fun v53 e54 => ?_)
  refine go_iload_n (pc := 17) rfl dX8_ends_17 ?_
  refine gf_iadd (pc := 18) e54 (ti_rfl a2) (by omega) (by omega) dX8_ends_18 (fun v55 e56 => ?_)
  refine gi_iald (pc := 19) (lo := -1) (hi := 39) (len := 80) hv e56 rfl (by omega) (by omega) (fun _ => rfl) dX8_ends_19 (fun v57 v57l v57u v57w => ?_)
  refine go_iconst (pc := 20) (v := (-1)) (by decide) dX8_ends_20 ?_
  refine gf_icmp_ne (pc := 21) (tgt := 46) (ti_rfl v57) (ti_c (v := (-1)) (a := (-1)) (by decide)) (by decide) dX8_ends_21 (fun q58 => ?_) (fun q58 => ?_)
  ·
    exact go_lv rfl ((key 24).1 a2 v51 h hv (by omega) (by omega) (by omega) (by omega) (by omega))
  ·
    refine go_aload_n (pc := 24) rfl dX8_ends_24 ?_
    refine gi_getF (pc := 25) (q := 99) hv fL_X8_95 rfl (Nat.le_of_ble_eq_true rfl) rfl (hv.rf (by decide)) dX8_ends_25 ?_
    refine go_bipush (pc := 28) (v := 40) (by decide) dX8_ends_28 ?_
    refine go_aload_n (pc := 30) rfl dX8_ends_30 ?_
    refine gi_get (pc := 31) (lo := 0) (hi := 1) hv fL_X8_187 rfl (Nat.le_of_ble_eq_true rfl) rfl rfl dX8_ends_31 (fun v59 v59l v59u v59w => ?_)
    have v59r : v52 = h.2.1 70 6 := v52w
    have v59q : TI v59 v52.toInt := by rw [v59w.trans v59r.symm]; exact (ti_rfl v52)
    refine gf_imul (pc := 34) (ti_c (v := 40) (a := 40) (by decide)) v59q (by omega) (by omega) dX8_ends_34 (fun v60 e61 => ?_)
    refine go_iload_n (pc := 35) rfl dX8_ends_35 ?_
    refine gf_iadd (pc := 36) e61 (ti_rfl a2) (by omega) (by omega) dX8_ends_36 (fun v62 e63 => ?_)
    refine gi_iald (pc := 37) (lo := -1) (hi := 5) (len := 80) hv e63 rfl (by omega) (by omega) (fun _ => rfl) dX8_ends_37 (fun v64 v64l v64u v64w => ?_)
    refine go_iconst (pc := 38) (v := (-1)) (by decide) dX8_ends_38 ?_
    refine gf_icmp_ne (pc := 39) (tgt := 46) (ti_rfl v64) (ti_c (v := (-1)) (a := (-1)) (by decide)) (by decide) dX8_ends_39 (fun q65 => ?_) (fun q65 => ?_)
    ·
      exact go_lv rfl ((key 24).1 a2 v51 h hv (by omega) (by omega) (by omega) (by omega) (by omega))
    ·
      refine go_iconst (pc := 42) (v := 1) (by decide) dX8_ends_42 ?_
      refine go_goto (pc := 43) (tgt := 47) (by decide) dX8_ends_43 ?_
      have z66 : (1 : Int32).toInt = 1 := (ti_c (v := 1) (a := 1) (by decide))
      exact go_lv rfl ((key 24).2.1 a2 v51 1 h hv (by omega) (by omega) (by omega) (by omega) (by omega) (by omega) (by omega))
set_option maxHeartbeats 4000000 in
set_option maxRecDepth 100000 in
theorem s_X8_uses (l : Launch) (d : Nat) {P : PP} {h : HP} (hv : Iv P h) (a2 : Int32) (a2l : 0 ≤ a2.toInt) (a2u : a2.toInt ≤ 584) (a3 : Int32) (a3l : 0 ≤ a3.toInt) (a3u : a3.toInt ≤ 4) (a4 : Int32) (a4l : -1 ≤ a4.toInt) (a4u : a4.toInt ≤ 39) (a5 : Int32) (a5l : 0 ≤ a5.toInt) (a5u : a5.toInt ≤ 9) (ckf : CKF h.2.1) : Mt l yX8_uses cX8_uses 14 none (d + 5) [.ref 70, .int a2, .int a3, .int a4, .int a5] h 0 0 (fun r h' => r = none ∧ Iv P h') := by
  refine Mt_iv hv (by decide) (Nat.le_of_ble_eq_true rfl) ?_
  show Go l RX8 cX8_uses 14 (g_rm (d + 5) 0 0) "uses" none 117 0 0 (fun _ _ => True) (fun r h' => r = none ∧ Iv P h') 0 0 [(0, .ref 70), (1, .int a2), (2, .int a3), (3, .int a4), (4, .int a5)] [] h
  obtain ⟨S, hS⟩ : ∃ S : Int, S = (h.2.1 70 6).toInt := ⟨_, rfl⟩
  have S0 : 0 ≤ S := by rw [hS]; exact (hv.2.1 70 6).1
  have S1 : S ≤ 1 := by rw [hS]; exact (hv.2.1 70 6).2
  have key : ∀ n : Nat, (∀ (l1 : Int32) (l2 : Int32) (l4 : Int32) (l5 : Int64) (l7 : Int64) (l9 : Int32) (hx : HP), Iv P hx → 0 ≤ l1.toInt → l1.toInt ≤ 584 → 0 ≤ l2.toInt → l2.toInt ≤ 4 → 0 ≤ l4.toInt → l4.toInt ≤ 9 → 0 ≤ l9.toInt → l9.toInt ≤ 1 → (DJ l7 l5) → (0 ≤ un l5 ∧ un l5 < 18446744073709551616) → (10000 * (18446744073709551616 - un l5) + 5000 * l9.toInt : Int) < n → Go l RX8 cX8_uses 14 (g_rm (d + 5) 0 0) "uses" none 117 0 0 (fun _ _ => True) (fun r h' => r = none ∧ Iv P h') 0 29 [(0, .ref 70), (1, .int l1), (2, .int l2), (4, .int l4), (5, .long l5), (7, .long l7), (9, .int l9)] [] hx) ∧ (∀ (l1 : Int32) (l2 : Int32) (l4 : Int32) (l5 : Int64) (l7 : Int64) (l9 : Int32) (l10 : Int32) (hx : HP), Iv P hx → 0 ≤ l1.toInt → l1.toInt ≤ 584 → 0 ≤ l2.toInt → l2.toInt ≤ 4 → 0 ≤ l4.toInt → l4.toInt ≤ 9 → 0 ≤ l9.toInt → l9.toInt ≤ 0 → -1 ≤ l10.toInt → l10.toInt ≤ 63 → (DJ l7 l5) → (0 ≤ un l5 ∧ un l5 < 18446744073709551616) → (10000 * (18446744073709551616 - un l5) + 4900 : Int) < n → Go l RX8 cX8_uses 14 (g_rm (d + 5) 0 0) "uses" none 117 0 0 (fun _ _ => True) (fun r h' => r = none ∧ Iv P h') 0 83 [(0, .ref 70), (1, .int l1), (2, .int l2), (4, .int l4), (5, .long l5), (7, .long l7), (9, .int l9), (10, .int l10)] [] hx) ∧ (∀ (l1 : Int32) (l2 : Int32) (l4 : Int32) (l5 : Int64) (l7 : Int64) (l9 : Int32) (l10 : Int32) (hx : HP), Iv P hx → 0 ≤ l1.toInt → l1.toInt ≤ 584 → 0 ≤ l2.toInt → l2.toInt ≤ 4 → 0 ≤ l4.toInt → l4.toInt ≤ 9 → 0 ≤ l9.toInt → l9.toInt ≤ 0 → -1 ≤ l10.toInt → l10.toInt ≤ 63 → (DJ l7 l5) → (0 ≤ un l5 ∧ un l5 < 18446744073709551616) → (10000 * (18446744073709551616 - un l5) + 4800 : Int) < n → Go l RX8 cX8_uses 14 (g_rm (d + 5) 0 0) "uses" none 117 0 0 (fun _ _ => True) (fun r h' => r = none ∧ Iv P h') 0 140 [(0, .ref 70), (1, .int l1), (2, .int l2), (4, .int l4), (5, .long l5), (7, .long l7), (9, .int l9), (10, .int l10)] [] hx) ∧ (∀ (l1 : Int32) (l2 : Int32) (l4 : Int32) (l5 : Int64) (l7 : Int64) (l9 : Int32) (l10 : Int32) (l11 : Int32) (hx : HP), Iv P hx → 0 ≤ l1.toInt → l1.toInt ≤ 584 → 0 ≤ l2.toInt → l2.toInt ≤ 4 → 0 ≤ l4.toInt → l4.toInt ≤ 9 → 0 ≤ l9.toInt → l9.toInt ≤ 0 → -1 ≤ l10.toInt → l10.toInt ≤ 63 → 0 ≤ l11.toInt → l11.toInt ≤ 40 → (DJ l7 l5) → (0 ≤ un l5 ∧ un l5 < 18446744073709551616) → (10000 * (18446744073709551616 - un l5) + 100 * (40 - l11.toInt) + 50 : Int) < n → Go l RX8 cX8_uses 14 (g_rm (d + 5) 0 0) "uses" none 117 0 0 (fun _ _ => True) (fun r h' => r = none ∧ Iv P h') 0 143 [(0, .ref 70), (1, .int l1), (2, .int l2), (4, .int l4), (5, .long l5), (7, .long l7), (9, .int l9), (10, .int l10), (11, .int l11)] [] hx) ∧ (∀ (l1 : Int32) (l2 : Int32) (l4 : Int32) (l5 : Int64) (l7 : Int64) (l9 : Int32) (l10 : Int32) (l11 : Int32) (l12 : Int32) (hx : HP), Iv P hx → 0 ≤ l1.toInt → l1.toInt ≤ 584 → 0 ≤ l2.toInt → l2.toInt ≤ 4 → 0 ≤ l4.toInt → l4.toInt ≤ 9 → 0 ≤ l9.toInt → l9.toInt ≤ 0 → -1 ≤ l10.toInt → l10.toInt ≤ 63 → 0 ≤ l11.toInt → l11.toInt ≤ 39 → 0 ≤ l12.toInt → l12.toInt ≤ 2 → (DJ l7 l5) → (0 ≤ un l5 ∧ un l5 < 18446744073709551616) → (10000 * (18446744073709551616 - un l5) + 100 * (40 - l11.toInt) + (2 - l12.toInt) : Int) < n → Go l RX8 cX8_uses 14 (g_rm (d + 5) 0 0) "uses" none 117 0 0 (fun _ _ => True) (fun r h' => r = none ∧ Iv P h') 0 160 [(0, .ref 70), (1, .int l1), (2, .int l2), (4, .int l4), (5, .long l5), (7, .long l7), (9, .int l9), (10, .int l10), (11, .int l11), (12, .int l12)] [] hx) := by
    intro n
    induction n with
    | zero => exact ⟨(by intros; omega), (by intros; omega), (by intros; omega), (by intros; omega), (by intros; omega)⟩
    | succ n ih =>
      refine ⟨?_, ?_, ?_, ?_, ?_⟩
      ·
        intro l1 l2 l4 l5 l7 l9 hx hvx l1l l1u l2l l2u l4l l4u l9l l9u x0 x1 hm
        refine go_iload (pc := 29) rfl dX8_uses_29 ?_
        refine gf_if_ne (pc := 31) (tgt := 41) (ti_rfl l9) (by decide) dX8_uses_31 (fun q1 => ?_) (fun q1 => ?_)
        ·
          refine go_iload (pc := 41) rfl dX8_uses_41 ?_
          refine gf_if_eq (pc := 43) (tgt := 50) (ti_rfl l9) (by decide) dX8_uses_43 (fun q2 => False.elim (by omega)) (fun q2 => ?_)
          refine go_iconst (pc := 46) (v := (-1)) (by decide) dX8_uses_46 ?_
          refine go_goto (pc := 47) (tgt := 55) (by decide) dX8_uses_47 ?_
          refine go_istore (pc := 55) (Nat.le_of_ble_eq_true rfl) dX8_uses_55 (go_lv (lv2 := [(0, .ref 70), (1, .int l1), (2, .int l2), (4, .int l4), (5, .long l5), (7, .long l7), (9, .int l9), (10, .int (-1))]) rfl ?_)
          refine go_iload (pc := 57) rfl dX8_uses_57 ?_
          refine gf_if_ne (pc := 59) (tgt := 80) (ti_rfl l9) (by decide) dX8_uses_59 (fun q3 => ?_) (fun q3 => False.elim (by omega))
          refine go_iconst (pc := 80) (v := 0) (by decide) dX8_uses_80 ?_
          refine go_istore (pc := 81) (Nat.le_of_ble_eq_true rfl) dX8_uses_81 (go_lv (lv2 := [(0, .ref 70), (1, .int l1), (2, .int l2), (4, .int l4), (5, .long l5), (7, .long l7), (9, .int 0), (10, .int (-1))]) rfl ?_)
          have z4 : (0 : Int32).toInt = 0 := (ti_c (v := 0) (a := 0) (by decide))
          have z5 : ((-1) : Int32).toInt = (-1) := (ti_c (v := (-1)) (a := (-1)) (by decide))
          exact go_lv rfl (ih.2.1 l1 l2 l4 l5 l7 0 (-1) hx hvx (by omega) (by omega) (by omega) (by omega) (by omega) (by omega) (by omega) (by omega) (by omega) (by omega) x0 ⟨un_lo _, un_hi _⟩ (by omega))
        ·
          refine go_lload (pc := 34) rfl dX8_uses_34 ?_
          refine go_lconst (pc := 36) (v := 0) (by decide) dX8_uses_36 ?_
          refine gx_lcmp (pc := 37) dX8_uses_37 (fun v6 v6x => ?_)
          refine gf_if_eq (pc := 38) (tgt := 254) (ti_rfl v6) (by decide) dX8_uses_38 (fun q7 => ?_) (fun q7 => ?_)
          ·
            exact gi_vret (pc := 254) ⟨rfl, hvx⟩ hvx dX8_uses_254
          ·
            refine go_iload (pc := 41) rfl dX8_uses_41 ?_
            refine gf_if_eq (pc := 43) (tgt := 50) (ti_rfl l9) (by decide) dX8_uses_43 (fun q8 => ?_) (fun q8 => False.elim (by omega))
            refine go_lload (pc := 50) rfl dX8_uses_50 ?_
            refine go_invS (pc := 52) (sl := 0) (s_J13_numberOfTrailingZeros_95d88 l (d + 2) hvx l7) mL_X8_294 iM_J13_numberOfTrailingZeros_95d88 rfl rfl (Nat.le_of_ble_eq_true rfl) (show d + 2 + 2 + 1 ≤ d + 5 by omega) (show 8 + (3 + 11) + 40 * (d + 2 + 2) ≤ 40 * (d + 5) by omega) (g_c0 hvx.ln) (Nat.le_of_ble_eq_true rfl) dX8_uses_52 ?_
            intro r h9 hq _
            obtain ⟨v11, rfl, v11l, v11u, rfl, f10⟩ := hq
            have nz : ¬ l7 = 0 := fun z => absurd (show (v6 : Int32).toInt = 0 from by rw [v6x]; exact (cmp_eq _ _).mpr z) (by omega)
            have lb := f10 nz
            refine go_istore (pc := 55) (Nat.le_of_ble_eq_true rfl) dX8_uses_55 (go_lv (lv2 := [(0, .ref 70), (1, .int l1), (2, .int l2), (4, .int l4), (5, .long l5), (7, .long l7), (9, .int l9), (10, .int v11)]) rfl ?_)
            refine go_iload (pc := 57) rfl dX8_uses_57 ?_
            refine gf_if_ne (pc := 59) (tgt := 80) (ti_rfl l9) (by decide) dX8_uses_59 (fun q12 => False.elim (by omega)) (fun q12 => ?_)
            refine go_lload (pc := 62) rfl dX8_uses_62 ?_
            refine go_lload (pc := 64) rfl dX8_uses_64 ?_
            refine go_lconst (pc := 66) (v := 1) (by decide) dX8_uses_66 ?_
            refine gx_lsub (pc := 67) dX8_uses_67 (fun v13 v13x => ?_)
            refine gx_land (pc := 68) dX8_uses_68 (fun v14 v14x => ?_)
            refine go_lstore (pc := 69) (Nat.le_of_ble_eq_true rfl) dX8_uses_69 (go_lv (lv2 := [(0, .ref 70), (1, .int l1), (2, .int l2), (4, .int l4), (5, .long l5), (7, .long v14), (9, .int l9), (10, .int v11)]) rfl ?_)
            refine go_lload (pc := 71) rfl dX8_uses_71 ?_
            refine go_lconst (pc := 73) (v := 1) (by decide) dX8_uses_73 ?_
            refine go_iload (pc := 74) rfl dX8_uses_74 ?_
            refine gx_lshl (pc := 76) dX8_uses_76 (fun v15 v15x => ?_)
            refine gx_lor (pc := 77) dX8_uses_77 (fun v16 v16x => ?_)
            have dl := DJ.low (n := v11) x0 lb.2 (by omega) (by omega)
            rw [← v15x, ← v16x] at dl
            rw [← v13x, ← v14x] at dl
            have dl2 := dl.2
            refine go_lstore (pc := 78) (Nat.le_of_ble_eq_true rfl) dX8_uses_78 (go_lv (lv2 := [(0, .ref 70), (1, .int l1), (2, .int l2), (4, .int l4), (5, .long v16), (7, .long v14), (9, .int l9), (10, .int v11)]) rfl ?_)
            refine go_iconst (pc := 80) (v := 0) (by decide) dX8_uses_80 ?_
            refine go_istore (pc := 81) (Nat.le_of_ble_eq_true rfl) dX8_uses_81 (go_lv (lv2 := [(0, .ref 70), (1, .int l1), (2, .int l2), (4, .int l4), (5, .long v16), (7, .long v14), (9, .int 0), (10, .int v11)]) rfl ?_)
            have z17 : (0 : Int32).toInt = 0 := (ti_c (v := 0) (a := 0) (by decide))
            exact go_lv rfl (ih.2.1 l1 l2 l4 v16 v14 0 v11 hx hvx (by omega) (by omega) (by omega) (by omega) (by omega) (by omega) (by omega) (by omega) (by omega) (by omega) dl.1 ⟨un_lo _, un_hi _⟩ (by omega))
      ·
        intro l1 l2 l4 l5 l7 l9 l10 hx hvx l1l l1u l2l l2u l4l l4u l9l l9u l10l l10u x0 x1 hm
        refine go_aload_n (pc := 83) rfl dX8_uses_83 ?_
        refine gi_getF (pc := 84) (q := 100) hvx fL_X8_98 rfl (Nat.le_of_ble_eq_true rfl) rfl (hvx.rf (by decide)) dX8_uses_84 ?_
        refine go_iconst (pc := 87) (v := 5) (by decide) dX8_uses_87 ?_
        refine go_aload_n (pc := 88) rfl dX8_uses_88 ?_
        refine gi_get (pc := 89) (lo := 0) (hi := 1) hvx fL_X8_187 rfl (Nat.le_of_ble_eq_true rfl) rfl rfl dX8_uses_89 (fun v18 v18l v18u v18w => ?_)
        have v18S : v18.toInt = S := by rw [v18w, hvx.fy (j := 6) (by omega), ← hv.fy (j := 6) (by omega)]; exact hS.symm
        refine gf_imul (pc := 92) (ti_c (v := 5) (a := 5) (by decide)) (ti_rfl v18) (by omega) (by omega) dX8_uses_92 (fun v19 e20 => ?_)
        refine go_iload_n (pc := 93) rfl dX8_uses_93 ?_
        refine gf_iadd (pc := 94) e20 (ti_rfl l2) (by omega) (by omega) dX8_uses_94 (fun v21 e22 => ?_)
        refine gi_iald (pc := 95) (lo := -1) (hi := 39) (len := 10) hvx e22 rfl (by omega) (by omega) (fun _ => rfl) dX8_uses_95 (fun v23 v23l v23u v23w => ?_)
        have v23V : v23.toInt = V h.2.1 100 (((5 * S) + l2.toInt)) := by rw [v23w, v18S, hvx.fz (c := 100) (by omega) (by omega), ← hv.fz (c := 100) (by omega) (by omega)]; rfl
        refine go_iload (pc := 96) rfl dX8_uses_96 ?_
        refine gf_icmp_ne (pc := 98) (tgt := 140) (ti_rfl v23) (ti_rfl l10) (by decide) dX8_uses_98 (fun q24 => ?_) (fun q24 => ?_)
        ·
          exact go_lv rfl (ih.2.2.1 l1 l2 l4 l5 l7 l9 l10 hx hvx (by omega) (by omega) (by omega) (by omega) (by omega) (by omega) (by omega) (by omega) (by omega) (by omega) x0 ⟨un_lo _, un_hi _⟩ (by omega))
        ·
          refine go_iload (pc := 101) rfl dX8_uses_101 ?_
          refine go_iconst (pc := 103) (v := 2) (by decide) dX8_uses_103 ?_
          refine gf_icmp_lt (pc := 104) (tgt := 114) (ti_rfl l4) (ti_c (v := 2) (a := 2) (by decide)) (by decide) dX8_uses_104 (fun q25 => ?_) (fun q25 => ?_)
          ·
            refine go_aload_n (pc := 114) rfl dX8_uses_114 ?_
            refine go_iload_n (pc := 115) rfl dX8_uses_115 ?_
            refine go_iload_n (pc := 116) rfl dX8_uses_116 ?_
            refine go_iconst (pc := 117) (v := 1) (by decide) dX8_uses_117 ?_
            refine go_iload (pc := 118) rfl dX8_uses_118 ?_
            refine go_iconst (pc := 120) (v := 2) (by decide) dX8_uses_120 ?_
            refine gf_icmp_ge (pc := 121) (tgt := 129) (ti_rfl l4) (ti_c (v := 2) (a := 2) (by decide)) (by decide) dX8_uses_121 (fun q26 => False.elim (by omega)) (fun q26 => ?_)
            refine go_iload (pc := 124) rfl dX8_uses_124 ?_
            refine go_goto (pc := 126) (tgt := 133) (by decide) dX8_uses_126 ?_
            refine gf_iadd (pc := 133) (ti_c (v := 1) (a := 1) (by decide)) (ti_rfl l4) (by omega) (by omega) dX8_uses_133 (fun v27 e28 => ?_)
            refine go_invS (pc := 134) (sl := 0) (s_X8_procedurePlace l (d + 3) hvx l2 (by rw [show (l2 : Int32).toInt = l2.toInt from (ti_rfl l2)]; omega) (by rw [show (l2 : Int32).toInt = l2.toInt from (ti_rfl l2)]; omega) v27 (by rw [show (v27 : Int32).toInt = (1 + l4.toInt) from e28]; omega) (by rw [show (v27 : Int32).toInt = (1 + l4.toInt) from e28]; omega)) mL_X8_300 iM_X8_procedurePlace rfl rfl (Nat.le_of_ble_eq_true rfl) (show d + 3 + 1 + 1 ≤ d + 5 by omega) (show 8 + (2 + 11) + 40 * (d + 3 + 1) ≤ 40 * (d + 5) by omega) (g_c0 hvx.ln) (Nat.le_of_ble_eq_true rfl) dX8_uses_134 ?_
            intro r h29 hq _
            obtain ⟨v30, rfl, v30l, v30u, rfl⟩ := hq
            refine go_invV (pc := 137) (sl := 0) (s_X8_hang l (d + 3) hvx l1 (by rw [show (l1 : Int32).toInt = l1.toInt from (ti_rfl l1)]; omega) (by rw [show (l1 : Int32).toInt = l1.toInt from (ti_rfl l1)]; omega) v30 (by rw [show (v30 : Int32).toInt = v30.toInt from (ti_rfl v30)]; omega) (by rw [show (v30 : Int32).toInt = v30.toInt from (ti_rfl v30)]; omega)) mL_X8_303 iM_X8_hang sM_X8_hang (hvx.sh rfl) rfl rfl rfl (Nat.le_of_ble_eq_true rfl) (show d + 3 + 1 + 1 ≤ d + 5 by omega) (show 8 + (3 + 11) + 40 * (d + 3 + 1) ≤ 40 * (d + 5) by omega) (g_c0 hvx.ln) (Nat.le_of_ble_eq_true rfl) dX8_uses_137 ?_
            intro r h31 hq _
            obtain ⟨rfl, hv31⟩ := hq
            exact go_lv rfl (ih.2.2.1 l1 l2 l4 l5 l7 l9 l10 h31 hv31 (by omega) (by omega) (by omega) (by omega) (by omega) (by omega) (by omega) (by omega) (by omega) (by omega) x0 ⟨un_lo _, un_hi _⟩ (by omega))
          ·
            refine go_iload (pc := 107) rfl dX8_uses_107 ?_
            refine go_bipush (pc := 109) (v := 6) (by decide) dX8_uses_109 ?_
            refine gf_icmp_lt (pc := 111) (tgt := 140) (ti_rfl l4) (ti_c (v := 6) (a := 6) (by decide)) (by decide) dX8_uses_111 (fun q32 => ?_) (fun q32 => ?_)
            ·
              exact go_lv rfl (ih.2.2.1 l1 l2 l4 l5 l7 l9 l10 hx hvx (by omega) (by omega) (by omega) (by omega) (by omega) (by omega) (by omega) (by omega) (by omega) (by omega) x0 ⟨un_lo _, un_hi _⟩ (by omega))
            ·
              refine go_aload_n (pc := 114) rfl dX8_uses_114 ?_
              refine go_iload_n (pc := 115) rfl dX8_uses_115 ?_
              refine go_iload_n (pc := 116) rfl dX8_uses_116 ?_
              refine go_iconst (pc := 117) (v := 1) (by decide) dX8_uses_117 ?_
              refine go_iload (pc := 118) rfl dX8_uses_118 ?_
              refine go_iconst (pc := 120) (v := 2) (by decide) dX8_uses_120 ?_
              refine gf_icmp_ge (pc := 121) (tgt := 129) (ti_rfl l4) (ti_c (v := 2) (a := 2) (by decide)) (by decide) dX8_uses_121 (fun q33 => ?_) (fun q33 => False.elim (by omega))
              refine go_iload (pc := 129) rfl dX8_uses_129 ?_
              refine go_iconst (pc := 131) (v := 4) (by decide) dX8_uses_131 ?_
              refine gf_isub (pc := 132) (ti_rfl l4) (ti_c (v := 4) (a := 4) (by decide)) (by omega) (by omega) dX8_uses_132 (fun v34 e35 => ?_)
              refine gf_iadd (pc := 133) (ti_c (v := 1) (a := 1) (by decide)) e35 (by omega) (by omega) dX8_uses_133 (fun v36 e37 => ?_)
              refine go_invS (pc := 134) (sl := 0) (s_X8_procedurePlace l (d + 3) hvx l2 (by rw [show (l2 : Int32).toInt = l2.toInt from (ti_rfl l2)]; omega) (by rw [show (l2 : Int32).toInt = l2.toInt from (ti_rfl l2)]; omega) v36 (by rw [show (v36 : Int32).toInt = (1 + (l4.toInt - 4)) from e37]; omega) (by rw [show (v36 : Int32).toInt = (1 + (l4.toInt - 4)) from e37]; omega)) mL_X8_300 iM_X8_procedurePlace rfl rfl (Nat.le_of_ble_eq_true rfl) (show d + 3 + 1 + 1 ≤ d + 5 by omega) (show 8 + (2 + 11) + 40 * (d + 3 + 1) ≤ 40 * (d + 5) by omega) (g_c0 hvx.ln) (Nat.le_of_ble_eq_true rfl) dX8_uses_134 ?_
              intro r h38 hq _
              obtain ⟨v39, rfl, v39l, v39u, rfl⟩ := hq
              refine go_invV (pc := 137) (sl := 0) (s_X8_hang l (d + 3) hvx l1 (by rw [show (l1 : Int32).toInt = l1.toInt from (ti_rfl l1)]; omega) (by rw [show (l1 : Int32).toInt = l1.toInt from (ti_rfl l1)]; omega) v39 (by rw [show (v39 : Int32).toInt = v39.toInt from (ti_rfl v39)]; omega) (by rw [show (v39 : Int32).toInt = v39.toInt from (ti_rfl v39)]; omega)) mL_X8_303 iM_X8_hang sM_X8_hang (hvx.sh rfl) rfl rfl rfl (Nat.le_of_ble_eq_true rfl) (show d + 3 + 1 + 1 ≤ d + 5 by omega) (show 8 + (3 + 11) + 40 * (d + 3 + 1) ≤ 40 * (d + 5) by omega) (g_c0 hvx.ln) (Nat.le_of_ble_eq_true rfl) dX8_uses_137 ?_
              intro r h40 hq _
              obtain ⟨rfl, hv40⟩ := hq
              exact go_lv rfl (ih.2.2.1 l1 l2 l4 l5 l7 l9 l10 h40 hv40 (by omega) (by omega) (by omega) (by omega) (by omega) (by omega) (by omega) (by omega) (by omega) (by omega) x0 ⟨un_lo _, un_hi _⟩ (by omega))
      ·
        intro l1 l2 l4 l5 l7 l9 l10 hx hvx l1l l1u l2l l2u l4l l4u l9l l9u l10l l10u x0 x1 hm
        refine go_iconst (pc := 140) (v := 0) (by decide) dX8_uses_140 ?_
        refine go_istore (pc := 141) (Nat.le_of_ble_eq_true rfl) dX8_uses_141 (go_lv (lv2 := [(0, .ref 70), (1, .int l1), (2, .int l2), (4, .int l4), (5, .long l5), (7, .long l7), (9, .int l9), (10, .int l10), (11, .int 0)]) rfl ?_)
        have z41 : (0 : Int32).toInt = 0 := (ti_c (v := 0) (a := 0) (by decide))
        exact go_lv rfl (ih.2.2.2.1 l1 l2 l4 l5 l7 l9 l10 0 hx hvx (by omega) (by omega) (by omega) (by omega) (by omega) (by omega) (by omega) (by omega) (by omega) (by omega) (by omega) (by omega) x0 ⟨un_lo _, un_hi _⟩ (by omega))
      ·
        intro l1 l2 l4 l5 l7 l9 l10 l11 hx hvx l1l l1u l2l l2u l4l l4u l9l l9u l10l l10u l11l l11u x0 x1 hm
        refine go_iload (pc := 143) rfl dX8_uses_143 ?_
        refine go_aload_n (pc := 145) rfl dX8_uses_145 ?_
        refine gi_getF (pc := 146) (q := 75) hvx fL_X8_23 rfl (Nat.le_of_ble_eq_true rfl) rfl (hvx.rf (by decide)) dX8_uses_146 ?_
        refine go_aload_n (pc := 149) rfl dX8_uses_149 ?_
        refine gi_get (pc := 150) (lo := 0) (hi := 1) hvx fL_X8_187 rfl (Nat.le_of_ble_eq_true rfl) rfl rfl dX8_uses_150 (fun v42 v42l v42u v42w => ?_)
        have v42S : v42.toInt = S := by rw [v42w, hvx.fy (j := 6) (by omega), ← hv.fy (j := 6) (by omega)]; exact hS.symm
        refine gi_iald (pc := 153) (lo := 0) (hi := 40) (len := 2) hvx (ti_rfl v42) rfl (by omega) (by omega) (fun _ => rfl) dX8_uses_153 (fun v43 v43l v43u v43w => ?_)
        have v43V : v43.toInt = V h.2.1 75 S := by rw [v43w, v42S, hvx.fz (c := 75) (by omega) (by omega), ← hv.fz (c := 75) (by omega) (by omega)]; rfl
        refine gf_icmp_ge (pc := 154) (tgt := 251) (ti_rfl l11) (ti_rfl v43) (by decide) dX8_uses_154 (fun q44 => ?_) (fun q44 => ?_)
        ·
          refine go_goto (pc := 251) (tgt := 29) (by decide) dX8_uses_251 ?_
          exact go_lv rfl (ih.1 l1 l2 l4 l5 l7 l9 hx hvx (by omega) (by omega) (by omega) (by omega) (by omega) (by omega) (by omega) (by omega) x0 ⟨un_lo _, un_hi _⟩ (by omega))
        ·
          refine go_iconst (pc := 157) (v := 0) (by decide) dX8_uses_157 ?_
          refine go_istore (pc := 158) (Nat.le_of_ble_eq_true rfl) dX8_uses_158 (go_lv (lv2 := [(0, .ref 70), (1, .int l1), (2, .int l2), (4, .int l4), (5, .long l5), (7, .long l7), (9, .int l9), (10, .int l10), (11, .int l11), (12, .int 0)]) rfl ?_)
          have z45 : (0 : Int32).toInt = 0 := (ti_c (v := 0) (a := 0) (by decide))
          exact go_lv rfl (ih.2.2.2.2 l1 l2 l4 l5 l7 l9 l10 l11 0 hx hvx (by omega) (by omega) (by omega) (by omega) (by omega) (by omega) (by omega) (by omega) (by omega) (by omega) (by omega) (by omega) (by omega) (by omega) x0 ⟨un_lo _, un_hi _⟩ (by omega))
      ·
        intro l1 l2 l4 l5 l7 l9 l10 l11 l12 hx hvx l1l l1u l2l l2u l4l l4u l9l l9u l10l l10u l11l l11u l12l l12u x0 x1 hm
        refine go_iload (pc := 160) rfl dX8_uses_160 ?_
        refine go_iconst (pc := 162) (v := 2) (by decide) dX8_uses_162 ?_
        refine gf_icmp_ge (pc := 163) (tgt := 245) (ti_rfl l12) (ti_c (v := 2) (a := 2) (by decide)) (by decide) dX8_uses_163 (fun q46 => ?_) (fun q46 => ?_)
        ·
          refine gf_iinc (pc := 245) (Nat.le_of_ble_eq_true rfl) rfl (ti_rfl l11) (ti_c (by decide)) (by omega) (by omega) dX8_uses_245 (fun v47 e48 => ?_)
          refine go_lv (lv2 := [(0, .ref 70), (1, .int l1), (2, .int l2), (4, .int l4), (5, .long l5), (7, .long l7), (9, .int l9), (10, .int l10), (11, .int v47), (12, .int l12)]) rfl ?_
          refine go_goto (pc := 248) (tgt := 143) (by decide) dX8_uses_248 ?_
          have z49 : (v47 : Int32).toInt = (l11.toInt + 1) := e48
          exact go_lv rfl (ih.2.2.2.1 l1 l2 l4 l5 l7 l9 l10 v47 hx hvx (by omega) (by omega) (by omega) (by omega) (by omega) (by omega) (by omega) (by omega) (by omega) (by omega) (by omega) (by omega) x0 ⟨un_lo _, un_hi _⟩ (by omega))
        ·
          refine go_aload_n (pc := 166) rfl dX8_uses_166 ?_
          refine go_iload (pc := 167) rfl dX8_uses_167 ?_
          refine go_invV (pc := 169) (sl := 0) (s_X8_procedureOf l (d + 2) hvx l11 (by rw [show (l11 : Int32).toInt = l11.toInt from (ti_rfl l11)]; omega) (by rw [show (l11 : Int32).toInt = l11.toInt from (ti_rfl l11)]; omega)) mL_X8_306 iM_X8_procedureOf sM_X8_procedureOf (hvx.sh rfl) rfl rfl rfl (Nat.le_of_ble_eq_true rfl) (show d + 2 + 2 + 1 ≤ d + 5 by omega) (show 8 + (2 + 11) + 40 * (d + 2 + 2) ≤ 40 * (d + 5) by omega) (g_c0 hvx.ln) (Nat.le_of_ble_eq_true rfl) dX8_uses_169 ?_
          intro r h50 hq _
          obtain ⟨v51, rfl, v51l, v51u, rfl⟩ := hq
          refine go_iload_n (pc := 172) rfl dX8_uses_172 ?_
          refine gf_icmp_ne (pc := 173) (tgt := 245) (ti_rfl v51) (ti_rfl l2) (by decide) dX8_uses_173 (fun q52 => ?_) (fun q52 => ?_)
          ·
            refine gf_iinc (pc := 245) (Nat.le_of_ble_eq_true rfl) rfl (ti_rfl l11) (ti_c (by decide)) (by omega) (by omega) dX8_uses_245 (fun v53 e54 => ?_)
            refine go_lv (lv2 := [(0, .ref 70), (1, .int l1), (2, .int l2), (4, .int l4), (5, .long l5), (7, .long l7), (9, .int l9), (10, .int l10), (11, .int v53), (12, .int l12)]) rfl ?_
            refine go_goto (pc := 248) (tgt := 143) (by decide) dX8_uses_248 ?_
            have z55 : (v53 : Int32).toInt = (l11.toInt + 1) := e54
            exact go_lv rfl (ih.2.2.2.1 l1 l2 l4 l5 l7 l9 l10 v53 hx hvx (by omega) (by omega) (by omega) (by omega) (by omega) (by omega) (by omega) (by omega) (by omega) (by omega) (by omega) (by omega) x0 ⟨un_lo _, un_hi _⟩ (by omega))
          ·
            refine go_aload_n (pc := 176) rfl dX8_uses_176 ?_
            refine go_iload (pc := 177) rfl dX8_uses_177 ?_
            refine go_iload (pc := 179) rfl dX8_uses_179 ?_
            have sM56 : (hx.2.1 70 6).toInt = S := by rw [hvx.fy (j := 6) (by omega), ← hv.fy (j := 6) (by omega)]; exact hS.symm
            refine go_invV (pc := 181) (sl := 0) (s_X8_way_x l (d + 0) hvx l11 (by rw [show (l11 : Int32).toInt = l11.toInt from (ti_rfl l11)]; omega) (by rw [show (l11 : Int32).toInt = l11.toInt from (ti_rfl l11)]; omega) l12 (by rw [show (l12 : Int32).toInt = l12.toInt from (ti_rfl l12)]; omega) (by rw [show (l12 : Int32).toInt = l12.toInt from (ti_rfl l12)]; omega) (CKF.ve (VE.of hv hvx) ckf)) mL_X8_284 iM_X8_way sM_X8_way (hvx.sh rfl) rfl rfl rfl (Nat.le_of_ble_eq_true rfl) (show d + 0 + 4 + 1 ≤ d + 5 by omega) (show 8 + (4 + 11) + 40 * (d + 0 + 4) ≤ 40 * (d + 5) by omega) (g_c0 hvx.ln) (Nat.le_of_ble_eq_true rfl) dX8_uses_181 ?_
            intro r h57 hq _
            obtain ⟨v59, rfl, v59l, v59u, rfl, f58⟩ := hq
            rw [sM56] at f58
            refine go_iload (pc := 184) rfl dX8_uses_184 ?_
            refine gf_icmp_eq (pc := 186) (tgt := 192) (ti_rfl v59) (ti_rfl l10) (by decide) dX8_uses_186 (fun q60 => ?_) (fun q60 => ?_)
            ·
              refine go_aload_n (pc := 192) rfl dX8_uses_192 ?_
              refine go_iload (pc := 193) rfl dX8_uses_193 ?_
              refine go_iload (pc := 195) rfl dX8_uses_195 ?_
              refine go_iload (pc := 197) rfl dX8_uses_197 ?_
              refine go_invV (pc := 199) (sl := 0) (s_X8_tells l (d + 2) hvx l11 (by rw [show (l11 : Int32).toInt = l11.toInt from (ti_rfl l11)]; omega) (by rw [show (l11 : Int32).toInt = l11.toInt from (ti_rfl l11)]; omega) l12 l4 (by rw [show (l4 : Int32).toInt = l4.toInt from (ti_rfl l4)]; omega) (by rw [show (l4 : Int32).toInt = l4.toInt from (ti_rfl l4)]; omega)) mL_X8_309 iM_X8_tells sM_X8_tells (hvx.sh rfl) rfl rfl rfl (Nat.le_of_ble_eq_true rfl) (show d + 2 + 2 + 1 ≤ d + 5 by omega) (show 8 + (6 + 11) + 40 * (d + 2 + 2) ≤ 40 * (d + 5) by omega) (g_c0 hvx.ln) (Nat.le_of_ble_eq_true rfl) dX8_uses_199 ?_
              intro r h61 hq _
              obtain ⟨v62, rfl, v62l, v62u, rfl⟩ := hq
              refine go_istore (pc := 202) (Nat.le_of_ble_eq_true rfl) dX8_uses_202 (go_lv (lv2 := [(0, .ref 70), (1, .int l1), (2, .int l2), (4, .int l4), (5, .long l5), (7, .long l7), (9, .int l9), (10, .int l10), (11, .int l11), (12, .int l12), (13, .int v62)]) rfl ?_)
              refine go_iload (pc := 204) rfl dX8_uses_204 ?_
              refine go_iconst (pc := 206) (v := (-1)) (by decide) dX8_uses_206 ?_
              refine gf_icmp_eq (pc := 207) (tgt := 220) (ti_rfl v62) (ti_c (v := (-1)) (a := (-1)) (by decide)) (by decide) dX8_uses_207 (fun q63 => ?_) (fun q63 => ?_)
              ·
                refine go_lload (pc := 220) rfl dX8_uses_220 ?_
                refine go_iload (pc := 222) rfl dX8_uses_222 ?_
                refine go_invS (pc := 224) (sl := 0) (s_X8_has_x l (d + 3) hvx l5 l11 (by rw [show (l11 : Int32).toInt = l11.toInt from (ti_rfl l11)]; omega) (by rw [show (l11 : Int32).toInt = l11.toInt from (ti_rfl l11)]; omega)) mL_X8_280 iM_X8_has rfl rfl (Nat.le_of_ble_eq_true rfl) (show d + 3 + 1 + 1 ≤ d + 5 by omega) (show 8 + (3 + 11) + 40 * (d + 3 + 1) ≤ 40 * (d + 5) by omega) (g_c0 hvx.ln) (Nat.le_of_ble_eq_true rfl) dX8_uses_224 ?_
                intro r h64 hq _
                obtain ⟨v66, rfl, v66l, v66u, rfl, f65⟩ := hq
                refine gf_if_ne (pc := 227) (tgt := 239) (ti_rfl v66) (by decide) dX8_uses_227 (fun q67 => ?_) (fun q67 => ?_)
                ·
                  refine gf_iinc (pc := 239) (Nat.le_of_ble_eq_true rfl) rfl (ti_rfl l12) (ti_c (by decide)) (by omega) (by omega) dX8_uses_239 (fun v68 e69 => ?_)
                  refine go_lv (lv2 := [(0, .ref 70), (1, .int l1), (2, .int l2), (4, .int l4), (5, .long l5), (7, .long l7), (9, .int l9), (10, .int l10), (11, .int l11), (12, .int v68), (13, .int v62)]) rfl ?_
                  refine go_goto (pc := 242) (tgt := 160) (by decide) dX8_uses_242 ?_
                  have z70 : (v68 : Int32).toInt = (l12.toInt + 1) := e69
                  exact go_lv rfl (ih.2.2.2.2 l1 l2 l4 l5 l7 l9 l10 l11 v68 hx hvx (by omega) (by omega) (by omega) (by omega) (by omega) (by omega) (by omega) (by omega) (by omega) (by omega) (by omega) (by omega) (by omega) (by omega) x0 ⟨un_lo _, un_hi _⟩ (by omega))
                ·
                  refine go_lload (pc := 230) rfl dX8_uses_230 ?_
                  refine go_lconst (pc := 232) (v := 1) (by decide) dX8_uses_232 ?_
                  refine go_iload (pc := 233) rfl dX8_uses_233 ?_
                  refine gx_lshl (pc := 235) dX8_uses_235 (fun v71 v71x => ?_)
                  refine gx_lor (pc := 236) dX8_uses_236 (fun v72 v72x => ?_)
                  refine go_lstore (pc := 237) (Nat.le_of_ble_eq_true rfl) dX8_uses_237 (go_lv (lv2 := [(0, .ref 70), (1, .int l1), (2, .int l2), (4, .int l4), (5, .long l5), (7, .long v72), (9, .int l9), (10, .int l10), (11, .int l11), (12, .int l12), (13, .int v62)]) rfl ?_)
                  refine gf_iinc (pc := 239) (Nat.le_of_ble_eq_true rfl) rfl (ti_rfl l12) (ti_c (by decide)) (by omega) (by omega) dX8_uses_239 (fun v73 e74 => ?_)
                  refine go_lv (lv2 := [(0, .ref 70), (1, .int l1), (2, .int l2), (4, .int l4), (5, .long l5), (7, .long v72), (9, .int l9), (10, .int l10), (11, .int l11), (12, .int v73), (13, .int v62)]) rfl ?_
                  refine go_goto (pc := 242) (tgt := 160) (by decide) dX8_uses_242 ?_
                  have z75 : (v73 : Int32).toInt = (l12.toInt + 1) := e74
                  exact go_lv rfl (ih.2.2.2.2 l1 l2 l4 l5 v72 l9 l10 l11 v73 hx hvx (by omega) (by omega) (by omega) (by omega) (by omega) (by omega) (by omega) (by omega) (by omega) (by omega) (by omega) (by omega) (by omega) (by omega) (by rw [v72x, v71x]; exact DJ.add x0 (by omega) (by omega) (f65.2 (by omega))) ⟨un_lo _, un_hi _⟩ (by omega))
              ·
                refine go_aload_n (pc := 210) rfl dX8_uses_210 ?_
                refine go_iload_n (pc := 211) rfl dX8_uses_211 ?_
                refine go_iload (pc := 212) rfl dX8_uses_212 ?_
                refine go_invV (pc := 214) (sl := 0) (s_X8_hang l (d + 3) hvx l1 (by rw [show (l1 : Int32).toInt = l1.toInt from (ti_rfl l1)]; omega) (by rw [show (l1 : Int32).toInt = l1.toInt from (ti_rfl l1)]; omega) v62 (by rw [show (v62 : Int32).toInt = v62.toInt from (ti_rfl v62)]; omega) (by rw [show (v62 : Int32).toInt = v62.toInt from (ti_rfl v62)]; omega)) mL_X8_303 iM_X8_hang sM_X8_hang (hvx.sh rfl) rfl rfl rfl (Nat.le_of_ble_eq_true rfl) (show d + 3 + 1 + 1 ≤ d + 5 by omega) (show 8 + (3 + 11) + 40 * (d + 3 + 1) ≤ 40 * (d + 5) by omega) (g_c0 hvx.ln) (Nat.le_of_ble_eq_true rfl) dX8_uses_214 ?_
                intro r h76 hq _
                obtain ⟨rfl, hv76⟩ := hq
                refine go_goto (pc := 217) (tgt := 239) (by decide) dX8_uses_217 ?_
                refine gf_iinc (pc := 239) (Nat.le_of_ble_eq_true rfl) rfl (ti_rfl l12) (ti_c (by decide)) (by omega) (by omega) dX8_uses_239 (fun v77 e78 => ?_)
                refine go_lv (lv2 := [(0, .ref 70), (1, .int l1), (2, .int l2), (4, .int l4), (5, .long l5), (7, .long l7), (9, .int l9), (10, .int l10), (11, .int l11), (12, .int v77), (13, .int v62)]) rfl ?_
                refine go_goto (pc := 242) (tgt := 160) (by decide) dX8_uses_242 ?_
                have z79 : (v77 : Int32).toInt = (l12.toInt + 1) := e78
                exact go_lv rfl (ih.2.2.2.2 l1 l2 l4 l5 l7 l9 l10 l11 v77 h76 hv76 (by omega) (by omega) (by omega) (by omega) (by omega) (by omega) (by omega) (by omega) (by omega) (by omega) (by omega) (by omega) (by omega) (by omega) x0 ⟨un_lo _, un_hi _⟩ (by omega))
            ·
              refine go_goto (pc := 189) (tgt := 239) (by decide) dX8_uses_189 ?_
              refine gf_iinc (pc := 239) (Nat.le_of_ble_eq_true rfl) rfl (ti_rfl l12) (ti_c (by decide)) (by omega) (by omega) dX8_uses_239 (fun v80 e81 => ?_)
              refine go_lv (lv2 := [(0, .ref 70), (1, .int l1), (2, .int l2), (4, .int l4), (5, .long l5), (7, .long l7), (9, .int l9), (10, .int l10), (11, .int l11), (12, .int v80)]) rfl ?_
              refine go_goto (pc := 242) (tgt := 160) (by decide) dX8_uses_242 ?_
              have z82 : (v80 : Int32).toInt = (l12.toInt + 1) := e81
              exact go_lv rfl (ih.2.2.2.2 l1 l2 l4 l5 l7 l9 l10 l11 v80 hx hvx (by omega) (by omega) (by omega) (by omega) (by omega) (by omega) (by omega) (by omega) (by omega) (by omega) (by omega) (by omega) (by omega) (by omega) x0 ⟨un_lo _, un_hi _⟩ (by omega))
  have uz := un_lo 0
  refine go_lconst (pc := 0) (v := 0) (by decide) dX8_uses_0 ?_
  refine go_lstore (pc := 1) (Nat.le_of_ble_eq_true rfl) dX8_uses_1 (go_lv (lv2 := [(0, .ref 70), (1, .int a2), (2, .int a3), (3, .int a4), (4, .int a5), (5, .long 0)]) rfl ?_)
  refine go_iload_n (pc := 3) rfl dX8_uses_3 ?_
  refine go_iconst (pc := 4) (v := (-1)) (by decide) dX8_uses_4 ?_
  refine gf_icmp_ne (pc := 5) (tgt := 12) (ti_rfl a4) (ti_c (v := (-1)) (a := (-1)) (by decide)) (by decide) dX8_uses_5 (fun q83 => ?_) (fun q83 => ?_)
  ·
    refine go_lconst (pc := 12) (v := 1) (by decide) dX8_uses_12 ?_
    refine go_iload_n (pc := 13) rfl dX8_uses_13 ?_
    refine gx_lshl (pc := 14) dX8_uses_14 (fun v84 v84x => ?_)
    refine go_lstore (pc := 15) (Nat.le_of_ble_eq_true rfl) dX8_uses_15 (go_lv (lv2 := [(0, .ref 70), (1, .int a2), (2, .int a3), (3, .int a4), (4, .int a5), (5, .long 0), (7, .long v84)]) rfl ?_)
    refine go_iload_n (pc := 17) rfl dX8_uses_17 ?_
    refine go_iconst (pc := 18) (v := (-1)) (by decide) dX8_uses_18 ?_
    refine gf_icmp_ne (pc := 19) (tgt := 26) (ti_rfl a4) (ti_c (v := (-1)) (a := (-1)) (by decide)) (by decide) dX8_uses_19 (fun q85 => ?_) (fun q85 => False.elim (by omega))
    refine go_iconst (pc := 26) (v := 0) (by decide) dX8_uses_26 ?_
    refine go_istore (pc := 27) (Nat.le_of_ble_eq_true rfl) dX8_uses_27 (go_lv (lv2 := [(0, .ref 70), (1, .int a2), (2, .int a3), (3, .int a4), (4, .int a5), (5, .long 0), (7, .long v84), (9, .int 0)]) rfl ?_)
    have z86 : (0 : Int32).toInt = 0 := (ti_c (v := 0) (a := 0) (by decide))
    exact go_lv rfl ((key 184467440737095516170001).1 a2 a3 a5 0 v84 0 h hv (by omega) (by omega) (by omega) (by omega) (by omega) (by omega) (by omega) (by omega) (DJ.zero _) ⟨un_lo _, un_hi _⟩ (by omega))
  ·
    refine go_lconst (pc := 8) (v := 0) (by decide) dX8_uses_8 ?_
    refine go_goto (pc := 9) (tgt := 15) (by decide) dX8_uses_9 ?_
    refine go_lstore (pc := 15) (Nat.le_of_ble_eq_true rfl) dX8_uses_15 (go_lv (lv2 := [(0, .ref 70), (1, .int a2), (2, .int a3), (3, .int a4), (4, .int a5), (5, .long 0), (7, .long 0)]) rfl ?_)
    refine go_iload_n (pc := 17) rfl dX8_uses_17 ?_
    refine go_iconst (pc := 18) (v := (-1)) (by decide) dX8_uses_18 ?_
    refine gf_icmp_ne (pc := 19) (tgt := 26) (ti_rfl a4) (ti_c (v := (-1)) (a := (-1)) (by decide)) (by decide) dX8_uses_19 (fun q87 => False.elim (by omega)) (fun q87 => ?_)
    refine go_iconst (pc := 22) (v := 1) (by decide) dX8_uses_22 ?_
    refine go_goto (pc := 23) (tgt := 27) (by decide) dX8_uses_23 ?_
    refine go_istore (pc := 27) (Nat.le_of_ble_eq_true rfl) dX8_uses_27 (go_lv (lv2 := [(0, .ref 70), (1, .int a2), (2, .int a3), (3, .int a4), (4, .int a5), (5, .long 0), (7, .long 0), (9, .int 1)]) rfl ?_)
    have z88 : (1 : Int32).toInt = 1 := (ti_c (v := 1) (a := 1) (by decide))
    exact go_lv rfl ((key 184467440737095516170001).1 a2 a3 a5 0 0 1 h hv (by omega) (by omega) (by omega) (by omega) (by omega) (by omega) (by omega) (by omega) (DJ.zero _) ⟨un_lo _, un_hi _⟩ (by omega))
set_option maxHeartbeats 4000000 in
set_option maxRecDepth 100000 in
theorem s_X8_usesOperand (l : Launch) (d : Nat) {P : PP} {h : HP} (hv : Iv P h) (a2 : Int32) (a2l : 0 ≤ a2.toInt) (a2u : a2.toInt ≤ 584) (a3 : Int32) (a3l : 0 ≤ a3.toInt) (a3u : a3.toInt ≤ 39) (a4 : Int32) (a4l : 0 ≤ a4.toInt) (a4u : a4.toInt ≤ 1) (ckf : CKF h.2.1) (ht : TR h.2.1 (h.2.1 70 6).toInt) (hs : a3.toInt < V h.2.1 75 (h.2.1 70 6).toInt) : Mt l yX8_usesOperand cX8_usesOperand 5 none (d + 6) [.ref 70, .int a2, .int a3, .int a4] h 0 0 (fun r h' => r = none ∧ Iv P h') := by
  refine Mt_iv hv (by decide) (Nat.le_of_ble_eq_true rfl) ?_
  show Go l RX8 cX8_usesOperand 5 (g_rm (d + 6) 0 0) "usesOperand" none 117 0 0 (fun _ _ => True) (fun r h' => r = none ∧ Iv P h') 0 0 [(0, .ref 70), (1, .int a2), (2, .int a3), (3, .int a4)] [] h
  obtain ⟨S, hS⟩ : ∃ S : Int, S = (h.2.1 70 6).toInt := ⟨_, rfl⟩
  have S0 : 0 ≤ S := by rw [hS]; exact (hv.2.1 70 6).1
  have S1 : S ≤ 1 := by rw [hS]; exact (hv.2.1 70 6).2
  rw [← hS] at ht
  rw [← hS] at hs
  refine go_aload_n (pc := 0) rfl dX8_usesOperand_0 ?_
  refine gi_getF (pc := 1) (q := 89) hv fL_X8_65 rfl (Nat.le_of_ble_eq_true rfl) rfl (hv.rf (by decide)) dX8_usesOperand_1 ?_
  refine go_iconst (pc := 4) (v := 2) (by decide) dX8_usesOperand_4 ?_
  refine go_aload_n (pc := 5) rfl dX8_usesOperand_5 ?_
  refine go_iload_n (pc := 6) rfl dX8_usesOperand_6 ?_
  refine go_invV (pc := 7) (sl := 0) (s_X8_item l (d + 4) hv a3 (by rw [show (a3 : Int32).toInt = a3.toInt from (ti_rfl a3)]; omega) (by rw [show (a3 : Int32).toInt = a3.toInt from (ti_rfl a3)]; omega)) mL_X8_268 iM_X8_item sM_X8_item (hv.sh rfl) rfl rfl rfl (Nat.le_of_ble_eq_true rfl) (show d + 4 + 1 + 1 ≤ d + 6 by omega) (show 8 + (2 + 11) + 40 * (d + 4 + 1) ≤ 40 * (d + 6) by omega) (g_c0 hv.ln) (Nat.le_of_ble_eq_true rfl) dX8_usesOperand_7 ?_
  intro r h1 hq _
  obtain ⟨v3, rfl, v3l, v3u, rfl, f2⟩ := hq
  have v3K : v3.toInt = V h.2.1 93 (40 * S + a3.toInt) := by rw [f2]; unfold g_it; rw [← hS]; rfl
  refine gf_imul (pc := 10) (ti_c (v := 2) (a := 2) (by decide)) (ti_rfl v3) (by omega) (by omega) dX8_usesOperand_10 (fun v4 e5 => ?_)
  refine go_iload_n (pc := 11) rfl dX8_usesOperand_11 ?_
  refine gf_iadd (pc := 12) e5 (ti_rfl a4) (by omega) (by omega) dX8_usesOperand_12 (fun v6 e7 => ?_)
  refine gi_iald (pc := 13) (lo := 0) (hi := 9999) (len := 520) hv e7 rfl (by omega) (by omega) (fun _ => rfl) dX8_usesOperand_13 (fun v8 v8l v8u v8w => ?_)
  have v8V : v8.toInt = V h.2.1 89 (((2 * v3.toInt) + a4.toInt)) := by rw [v8w]; rfl
  have ii : II h.2.1 S v3.toInt := by rw [v3K]; exact ht.2.2.2.2.2.2 a3.toInt (by omega) hs
  have t3 := (ht.2.2.2.1 v3.toInt ii).2.2.2
  have k9 : v8.toInt ≤ 1009 := by
    have e : a4.toInt = 0 ∨ a4.toInt = 1 := by omega
    rcases e with e | e
    · rw [v8V, e, Int.add_zero]; exact t3.1
    · rw [v8V, e]; exact t3.2
  refine go_istore (pc := 14) (Nat.le_of_ble_eq_true rfl) dX8_usesOperand_14 (go_lv (lv2 := [(0, .ref 70), (1, .int a2), (2, .int a3), (3, .int a4), (4, .int v8)]) rfl ?_)
  refine go_iload (pc := 16) rfl dX8_usesOperand_16 ?_
  refine go_sipush (pc := 18) (v := 1000) (by decide) dX8_usesOperand_18 ?_
  refine gf_icmp_lt (pc := 21) (tgt := 41) (ti_rfl v8) (ti_c (v := 1000) (a := 1000) (by decide)) (by decide) dX8_usesOperand_21 (fun q9 => ?_) (fun q9 => ?_)
  ·
    exact gi_vret (pc := 41) ⟨rfl, hv⟩ hv dX8_usesOperand_41
  ·
    refine go_aload_n (pc := 24) rfl dX8_usesOperand_24 ?_
    refine go_iload_n (pc := 25) rfl dX8_usesOperand_25 ?_
    refine go_aload_n (pc := 26) rfl dX8_usesOperand_26 ?_
    refine go_iload_n (pc := 27) rfl dX8_usesOperand_27 ?_
    refine go_invV (pc := 28) (sl := 0) (s_X8_procedureOf l (d + 3) hv a3 (by rw [show (a3 : Int32).toInt = a3.toInt from (ti_rfl a3)]; omega) (by rw [show (a3 : Int32).toInt = a3.toInt from (ti_rfl a3)]; omega)) mL_X8_306 iM_X8_procedureOf sM_X8_procedureOf (hv.sh rfl) rfl rfl rfl (Nat.le_of_ble_eq_true rfl) (show d + 3 + 2 + 1 ≤ d + 6 by omega) (show 8 + (2 + 11) + 40 * (d + 3 + 2) ≤ 40 * (d + 6) by omega) (g_c0 hv.ln) (Nat.le_of_ble_eq_true rfl) dX8_usesOperand_28 ?_
    intro r h10 hq _
    obtain ⟨v11, rfl, v11l, v11u, rfl⟩ := hq
    refine go_iload_n (pc := 31) rfl dX8_usesOperand_31 ?_
    refine go_iload (pc := 32) rfl dX8_usesOperand_32 ?_
    refine go_sipush (pc := 34) (v := 1000) (by decide) dX8_usesOperand_34 ?_
    refine gf_isub (pc := 37) (ti_rfl v8) (ti_c (v := 1000) (a := 1000) (by decide)) (by omega) (by omega) dX8_usesOperand_37 (fun v12 e13 => ?_)
    refine go_invV (pc := 38) (sl := 0) (s_X8_uses l (d + 0) hv a2 (by rw [show (a2 : Int32).toInt = a2.toInt from (ti_rfl a2)]; omega) (by rw [show (a2 : Int32).toInt = a2.toInt from (ti_rfl a2)]; omega) v11 (by rw [show (v11 : Int32).toInt = v11.toInt from (ti_rfl v11)]; omega) (by rw [show (v11 : Int32).toInt = v11.toInt from (ti_rfl v11)]; omega) a3 (by rw [show (a3 : Int32).toInt = a3.toInt from (ti_rfl a3)]; omega) (by rw [show (a3 : Int32).toInt = a3.toInt from (ti_rfl a3)]; omega) v12 (by rw [show (v12 : Int32).toInt = (v8.toInt - 1000) from e13]; omega) (by rw [show (v12 : Int32).toInt = (v8.toInt - 1000) from e13]; omega) (CKF.ve (VE.of hv hv) ckf)) mL_X8_312 iM_X8_uses sM_X8_uses (hv.sh rfl) rfl rfl rfl (Nat.le_of_ble_eq_true rfl) (show d + 0 + 5 + 1 ≤ d + 6 by omega) (show 8 + (14 + 11) + 40 * (d + 0 + 5) ≤ 40 * (d + 6) by omega) (g_c0 hv.ln) (Nat.le_of_ble_eq_true rfl) dX8_usesOperand_38 ?_
    intro r h14 hq _
    obtain ⟨rfl, hv14⟩ := hq
    exact gi_vret (pc := 41) ⟨rfl, hv14⟩ hv14 dX8_usesOperand_41
set_option maxHeartbeats 4000000 in
set_option maxRecDepth 100000 in
theorem s_X8_laysValues (l : Launch) (d : Nat) {P : PP} {h : HP} (hv : Iv P h) (ckf : CKF h.2.1) (ht : TR h.2.1 (h.2.1 70 6).toInt) : Mt l yX8_laysValues cX8_laysValues 4 none (d + 7) [.ref 70] h 0 0 (fun r h' => r = none ∧ Iv P h') := by
  refine Mt_iv hv (by decide) (Nat.le_of_ble_eq_true rfl) ?_
  show Go l RX8 cX8_laysValues 4 (g_rm (d + 7) 0 0) "laysValues" none 117 0 0 (fun _ _ => True) (fun r h' => r = none ∧ Iv P h') 0 0 [(0, .ref 70)] [] h
  obtain ⟨S, hS⟩ : ∃ S : Int, S = (h.2.1 70 6).toInt := ⟨_, rfl⟩
  have S0 : 0 ≤ S := by rw [hS]; exact (hv.2.1 70 6).1
  have S1 : S ≤ 1 := by rw [hS]; exact (hv.2.1 70 6).2
  rw [← hS] at ht
  have key : ∀ n : Nat, (∀ (l1 : Int32) (hx : HP), Iv P hx → 0 ≤ l1.toInt → l1.toInt ≤ 40 → (33 * (40 - l1.toInt) + 5723 : Int) < n → Go l RX8 cX8_laysValues 4 (g_rm (d + 7) 0 0) "laysValues" none 117 0 0 (fun _ _ => True) (fun r h' => r = none ∧ Iv P h') 0 2 [(0, .ref 70), (1, .int l1)] [] hx) ∧ (∀ (l1 : Int32) (l2 : Int32) (l3 : Int32) (hx : HP), Iv P hx → 0 ≤ l1.toInt → l1.toInt ≤ 39 → 0 ≤ l2.toInt → l2.toInt ≤ 1 → 0 ≤ l3.toInt → l3.toInt ≤ 2 → (l1.toInt < V h.2.1 75 S) → (3 * (2 - l3.toInt) + 33 * (40 - l1.toInt) + 5712 : Int) < n → Go l RX8 cX8_laysValues 4 (g_rm (d + 7) 0 0) "laysValues" none 117 0 0 (fun _ _ => True) (fun r h' => r = none ∧ Iv P h') 0 32 [(0, .ref 70), (1, .int l1), (2, .int l2), (3, .int l3)] [] hx) ∧ (∀ (l1 : Int32) (l2 : Int32) (l3 : Int32) (hx : HP), Iv P hx → 0 ≤ l1.toInt → l1.toInt ≤ 39 → 0 ≤ l2.toInt → l2.toInt ≤ 1 → 0 ≤ l3.toInt → l3.toInt ≤ 4 → (l1.toInt < V h.2.1 75 S) → (3 * (4 - l3.toInt) + 33 * (40 - l1.toInt) + 5694 : Int) < n → Go l RX8 cX8_laysValues 4 (g_rm (d + 7) 0 0) "laysValues" none 117 0 0 (fun _ _ => True) (fun r h' => r = none ∧ Iv P h') 0 66 [(0, .ref 70), (1, .int l1), (2, .int l2), (3, .int l3)] [] hx) ∧ (∀ (l1 : Int32) (hx : HP), Iv P hx → 0 ≤ l1.toInt → l1.toInt ≤ 5 → (21 * (5 - l1.toInt) + 5564 : Int) < n → Go l RX8 cX8_laysValues 4 (g_rm (d + 7) 0 0) "laysValues" none 117 0 0 (fun _ _ => True) (fun r h' => r = none ∧ Iv P h') 0 110 [(0, .ref 70), (1, .int l1)] [] hx) ∧ (∀ (l1 : Int32) (l2 : Int32) (hx : HP), Iv P hx → 0 ≤ l1.toInt → l1.toInt ≤ 4 → 0 ≤ l2.toInt → l2.toInt ≤ 4 → (3 * (4 - l2.toInt) + 21 * (5 - l1.toInt) + 5547 : Int) < n → Go l RX8 cX8_laysValues 4 (g_rm (d + 7) 0 0) "laysValues" none 117 0 0 (fun _ _ => True) (fun r h' => r = none ∧ Iv P h') 0 125 [(0, .ref 70), (1, .int l1), (2, .int l2)] [] hx) ∧ (∀ (l1 : Int32) (hx : HP), Iv P hx → 0 ≤ l1.toInt → l1.toInt ≤ 40 → (129 * (40 - l1.toInt) + 254 : Int) < n → Go l RX8 cX8_laysValues 4 (g_rm (d + 7) 0 0) "laysValues" none 117 0 0 (fun _ _ => True) (fun r h' => r = none ∧ Iv P h') 0 162 [(0, .ref 70), (1, .int l1)] [] hx) ∧ (∀ (l1 : Int32) (l2 : Int32) (hx : HP), Iv P hx → 0 ≤ l1.toInt → l1.toInt ≤ 39 → 0 ≤ l2.toInt → l2.toInt ≤ 40 → (3 * (40 - l2.toInt) + 129 * (40 - l1.toInt) + 129 : Int) < n → Go l RX8 cX8_laysValues 4 (g_rm (d + 7) 0 0) "laysValues" none 117 0 0 (fun _ _ => True) (fun r h' => r = none ∧ Iv P h') 0 184 [(0, .ref 70), (1, .int l1), (2, .int l2)] [] hx) ∧ (∀ (l1 : Int32) (hx : HP), Iv P hx → 0 ≤ l1.toInt → l1.toInt ≤ 40 → (3 * (40 - l1.toInt) + 2 : Int) < n → Go l RX8 cX8_laysValues 4 (g_rm (d + 7) 0 0) "laysValues" none 117 0 0 (fun _ _ => True) (fun r h' => r = none ∧ Iv P h') 0 236 [(0, .ref 70), (1, .int l1)] [] hx) := by
    intro n
    induction n with
    | zero => exact ⟨(by intros; omega), (by intros; omega), (by intros; omega), (by intros; omega), (by intros; omega), (by intros; omega), (by intros; omega), (by intros; omega)⟩
    | succ n ih =>
      refine ⟨?_, ?_, ?_, ?_, ?_, ?_, ?_, ?_⟩
      ·
        intro l1 hx hvx l1l l1u hm
        refine go_iload_n (pc := 2) rfl dX8_laysValues_2 ?_
        refine go_aload_n (pc := 3) rfl dX8_laysValues_3 ?_
        refine gi_getF (pc := 4) (q := 75) hvx fL_X8_23 rfl (Nat.le_of_ble_eq_true rfl) rfl (hvx.rf (by decide)) dX8_laysValues_4 ?_
        refine go_aload_n (pc := 7) rfl dX8_laysValues_7 ?_
        refine gi_get (pc := 8) (lo := 0) (hi := 1) hvx fL_X8_187 rfl (Nat.le_of_ble_eq_true rfl) rfl rfl dX8_laysValues_8 (fun v1 v1l v1u v1w => ?_)
        have v1S : v1.toInt = S := by rw [v1w, hvx.fy (j := 6) (by omega), ← hv.fy (j := 6) (by omega)]; exact hS.symm
        refine gi_iald (pc := 11) (lo := 0) (hi := 40) (len := 2) hvx (ti_rfl v1) rfl (by omega) (by omega) (fun _ => rfl) dX8_laysValues_11 (fun v2 v2l v2u v2w => ?_)
        have v2V : v2.toInt = V h.2.1 75 S := by rw [v2w, v1S, hvx.fz (c := 75) (by omega) (by omega), ← hv.fz (c := 75) (by omega) (by omega)]; rfl
        refine gf_icmp_ge (pc := 12) (tgt := 108) (ti_rfl l1) (ti_rfl v2) (by decide) dX8_laysValues_12 (fun q3 => ?_) (fun q3 => ?_)
        ·
          refine go_iconst (pc := 108) (v := 0) (by decide) dX8_laysValues_108 ?_
          refine go_istore_n (pc := 109) (Nat.le_of_ble_eq_true rfl) dX8_laysValues_109 (go_lv (lv2 := [(0, .ref 70), (1, .int 0)]) rfl ?_)
          have z4 : (0 : Int32).toInt = 0 := (ti_c (v := 0) (a := 0) (by decide))
          exact go_lv rfl (ih.2.2.2.1 0 hx hvx (by omega) (by omega) (by omega))
        ·
          refine go_aload_n (pc := 15) rfl dX8_laysValues_15 ?_
          refine go_iload_n (pc := 16) rfl dX8_laysValues_16 ?_
          refine go_invV (pc := 17) (sl := 0) (s_X8_kindAt l (d + 4) hvx l1 (by rw [show (l1 : Int32).toInt = l1.toInt from (ti_rfl l1)]; omega) (by rw [show (l1 : Int32).toInt = l1.toInt from (ti_rfl l1)]; omega)) mL_X8_271 iM_X8_kindAt sM_X8_kindAt (hvx.sh rfl) rfl rfl rfl (Nat.le_of_ble_eq_true rfl) (show d + 4 + 2 + 1 ≤ d + 7 by omega) (show 8 + (2 + 11) + 40 * (d + 4 + 2) ≤ 40 * (d + 7) by omega) (g_c0 hvx.ln) (Nat.le_of_ble_eq_true rfl) dX8_laysValues_17 ?_
          intro r h5 hq _
          obtain ⟨v7, rfl, v7l, v7u, rfl, f6⟩ := hq
          have v7K : v7.toInt = V h.2.1 77 (V h.2.1 93 (40 * S + l1.toInt)) := by rw [f6]; unfold g_kd g_it; rw [hvx.fy (j := 6) (by omega), ← hv.fy (j := 6) (by omega), ← hS, hvx.fz (c := 93) (by omega) (by omega), ← hv.fz (c := 93) (by omega) (by omega), hvx.fz (c := 77) (by omega) (by omega), ← hv.fz (c := 77) (by omega) (by omega)]; rfl
          refine go_iconst (pc := 20) (v := 1) (by decide) dX8_laysValues_20 ?_
          refine gf_icmp_ne (pc := 21) (tgt := 28) (ti_rfl v7) (ti_c (v := 1) (a := 1) (by decide)) (by decide) dX8_laysValues_21 (fun q8 => ?_) (fun q8 => ?_)
          ·
            refine go_iconst (pc := 28) (v := 0) (by decide) dX8_laysValues_28 ?_
            refine go_istore_n (pc := 29) (Nat.le_of_ble_eq_true rfl) dX8_laysValues_29 (go_lv (lv2 := [(0, .ref 70), (1, .int l1), (2, .int 0)]) rfl ?_)
            refine go_iconst (pc := 30) (v := 0) (by decide) dX8_laysValues_30 ?_
            refine go_istore_n (pc := 31) (Nat.le_of_ble_eq_true rfl) dX8_laysValues_31 (go_lv (lv2 := [(0, .ref 70), (1, .int l1), (2, .int 0), (3, .int 0)]) rfl ?_)
            have z9 : (0 : Int32).toInt = 0 := (ti_c (v := 0) (a := 0) (by decide))
            have z10 : (0 : Int32).toInt = 0 := (ti_c (v := 0) (a := 0) (by decide))
            exact go_lv rfl (ih.2.1 l1 0 0 hx hvx (by omega) (by omega) (by omega) (by omega) (by omega) (by omega) (by omega) (by omega))
          ·
            refine go_iconst (pc := 24) (v := 1) (by decide) dX8_laysValues_24 ?_
            refine go_goto (pc := 25) (tgt := 29) (by decide) dX8_laysValues_25 ?_
            refine go_istore_n (pc := 29) (Nat.le_of_ble_eq_true rfl) dX8_laysValues_29 (go_lv (lv2 := [(0, .ref 70), (1, .int l1), (2, .int 1)]) rfl ?_)
            refine go_iconst (pc := 30) (v := 0) (by decide) dX8_laysValues_30 ?_
            refine go_istore_n (pc := 31) (Nat.le_of_ble_eq_true rfl) dX8_laysValues_31 (go_lv (lv2 := [(0, .ref 70), (1, .int l1), (2, .int 1), (3, .int 0)]) rfl ?_)
            have z11 : (1 : Int32).toInt = 1 := (ti_c (v := 1) (a := 1) (by decide))
            have z12 : (0 : Int32).toInt = 0 := (ti_c (v := 0) (a := 0) (by decide))
            exact go_lv rfl (ih.2.1 l1 1 0 hx hvx (by omega) (by omega) (by omega) (by omega) (by omega) (by omega) (by omega) (by omega))
      ·
        intro l1 l2 l3 hx hvx l1l l1u l2l l2u l3l l3u x0 hm
        refine go_iload_n (pc := 32) rfl dX8_laysValues_32 ?_
        refine go_iconst (pc := 33) (v := 2) (by decide) dX8_laysValues_33 ?_
        refine gf_icmp_ge (pc := 34) (tgt := 64) (ti_rfl l3) (ti_c (v := 2) (a := 2) (by decide)) (by decide) dX8_laysValues_34 (fun q13 => ?_) (fun q13 => ?_)
        ·
          refine go_iconst (pc := 64) (v := 0) (by decide) dX8_laysValues_64 ?_
          refine go_istore_n (pc := 65) (Nat.le_of_ble_eq_true rfl) dX8_laysValues_65 (go_lv (lv2 := [(0, .ref 70), (1, .int l1), (2, .int l2), (3, .int 0)]) rfl ?_)
          have z14 : (0 : Int32).toInt = 0 := (ti_c (v := 0) (a := 0) (by decide))
          exact go_lv rfl (ih.2.2.1 l1 l2 0 hx hvx (by omega) (by omega) (by omega) (by omega) (by omega) (by omega) (by omega) (by omega))
        ·
          refine go_aload_n (pc := 37) rfl dX8_laysValues_37 ?_
          refine go_iload_n (pc := 38) rfl dX8_laysValues_38 ?_
          refine go_iload_n (pc := 39) rfl dX8_laysValues_39 ?_
          refine gf_if_eq (pc := 40) (tgt := 49) (ti_rfl l2) (by decide) dX8_laysValues_40 (fun q15 => ?_) (fun q15 => ?_)
          ·
            refine go_iconst (pc := 49) (v := 0) (by decide) dX8_laysValues_49 ?_
            refine go_invS (pc := 50) (sl := 0) (s_X8_statementPlace l (d + 5) hvx l1 (by rw [show (l1 : Int32).toInt = l1.toInt from (ti_rfl l1)]; omega) (by rw [show (l1 : Int32).toInt = l1.toInt from (ti_rfl l1)]; omega) 0 (by rw [show (0 : Int32).toInt = 0 from (ti_c (v := 0) (a := 0) (by decide))]; omega) (by rw [show (0 : Int32).toInt = 0 from (ti_c (v := 0) (a := 0) (by decide))]; omega)) mL_X8_291 iM_X8_statementPlace rfl rfl (Nat.le_of_ble_eq_true rfl) (show d + 5 + 1 + 1 ≤ d + 7 by omega) (show 8 + (2 + 11) + 40 * (d + 5 + 1) ≤ 40 * (d + 7) by omega) (g_c0 hvx.ln) (Nat.le_of_ble_eq_true rfl) dX8_laysValues_50 ?_
            intro r h16 hq _
            obtain ⟨v17, rfl, v17l, v17u, rfl⟩ := hq
            refine go_iload_n (pc := 53) rfl dX8_laysValues_53 ?_
            refine go_iload_n (pc := 54) rfl dX8_laysValues_54 ?_
            have sM18 : (hx.2.1 70 6).toInt = S := by rw [hvx.fy (j := 6) (by omega), ← hv.fy (j := 6) (by omega)]; exact hS.symm
            refine go_invV (pc := 55) (sl := 0) (s_X8_usesOperand l (d + 0) hvx v17 (by rw [show (v17 : Int32).toInt = v17.toInt from (ti_rfl v17)]; omega) (by rw [show (v17 : Int32).toInt = v17.toInt from (ti_rfl v17)]; omega) l1 (by rw [show (l1 : Int32).toInt = l1.toInt from (ti_rfl l1)]; omega) (by rw [show (l1 : Int32).toInt = l1.toInt from (ti_rfl l1)]; omega) l3 (by rw [show (l3 : Int32).toInt = l3.toInt from (ti_rfl l3)]; omega) (by rw [show (l3 : Int32).toInt = l3.toInt from (ti_rfl l3)]; omega) (CKF.ve (VE.of hv hvx) ckf) (by rw [sM18]; exact (TR.ve (VE.of hv hvx) ht)) (by rw [sM18]; exact (by rw [VE.v (VE.of hv hvx) (c := 75) (by omega) (by omega)]; omega))) mL_X8_316 iM_X8_usesOperand sM_X8_usesOperand (hvx.sh rfl) rfl rfl rfl (Nat.le_of_ble_eq_true rfl) (show d + 0 + 6 + 1 ≤ d + 7 by omega) (show 8 + (5 + 11) + 40 * (d + 0 + 6) ≤ 40 * (d + 7) by omega) (g_c0 hvx.ln) (Nat.le_of_ble_eq_true rfl) dX8_laysValues_55 ?_
            intro r h19 hq _
            obtain ⟨rfl, hv19⟩ := hq
            refine gf_iinc (pc := 58) (Nat.le_of_ble_eq_true rfl) rfl (ti_rfl l3) (ti_c (by decide)) (by omega) (by omega) dX8_laysValues_58 (fun v20 e21 => ?_)
            refine go_lv (lv2 := [(0, .ref 70), (1, .int l1), (2, .int l2), (3, .int v20)]) rfl ?_
            refine go_goto (pc := 61) (tgt := 32) (by decide) dX8_laysValues_61 ?_
            have z22 : (v20 : Int32).toInt = (l3.toInt + 1) := e21
            exact go_lv rfl (ih.2.1 l1 l2 v20 h19 hv19 (by omega) (by omega) (by omega) (by omega) (by omega) (by omega) (by omega) (by omega))
          ·
            refine go_iconst (pc := 43) (v := 1) (by decide) dX8_laysValues_43 ?_
            refine go_iload_n (pc := 44) rfl dX8_laysValues_44 ?_
            refine gf_iadd (pc := 45) (ti_c (v := 1) (a := 1) (by decide)) (ti_rfl l3) (by omega) (by omega) dX8_laysValues_45 (fun v23 e24 => ?_)
            refine go_goto (pc := 46) (tgt := 50) (by decide) dX8_laysValues_46 ?_
            refine go_invS (pc := 50) (sl := 0) (s_X8_statementPlace l (d + 5) hvx l1 (by rw [show (l1 : Int32).toInt = l1.toInt from (ti_rfl l1)]; omega) (by rw [show (l1 : Int32).toInt = l1.toInt from (ti_rfl l1)]; omega) v23 (by rw [show (v23 : Int32).toInt = (1 + l3.toInt) from e24]; omega) (by rw [show (v23 : Int32).toInt = (1 + l3.toInt) from e24]; omega)) mL_X8_291 iM_X8_statementPlace rfl rfl (Nat.le_of_ble_eq_true rfl) (show d + 5 + 1 + 1 ≤ d + 7 by omega) (show 8 + (2 + 11) + 40 * (d + 5 + 1) ≤ 40 * (d + 7) by omega) (g_c0 hvx.ln) (Nat.le_of_ble_eq_true rfl) dX8_laysValues_50 ?_
            intro r h25 hq _
            obtain ⟨v26, rfl, v26l, v26u, rfl⟩ := hq
            refine go_iload_n (pc := 53) rfl dX8_laysValues_53 ?_
            refine go_iload_n (pc := 54) rfl dX8_laysValues_54 ?_
            have sM27 : (hx.2.1 70 6).toInt = S := by rw [hvx.fy (j := 6) (by omega), ← hv.fy (j := 6) (by omega)]; exact hS.symm
            refine go_invV (pc := 55) (sl := 0) (s_X8_usesOperand l (d + 0) hvx v26 (by rw [show (v26 : Int32).toInt = v26.toInt from (ti_rfl v26)]; omega) (by rw [show (v26 : Int32).toInt = v26.toInt from (ti_rfl v26)]; omega) l1 (by rw [show (l1 : Int32).toInt = l1.toInt from (ti_rfl l1)]; omega) (by rw [show (l1 : Int32).toInt = l1.toInt from (ti_rfl l1)]; omega) l3 (by rw [show (l3 : Int32).toInt = l3.toInt from (ti_rfl l3)]; omega) (by rw [show (l3 : Int32).toInt = l3.toInt from (ti_rfl l3)]; omega) (CKF.ve (VE.of hv hvx) ckf) (by rw [sM27]; exact (TR.ve (VE.of hv hvx) ht)) (by rw [sM27]; exact (by rw [VE.v (VE.of hv hvx) (c := 75) (by omega) (by omega)]; omega))) mL_X8_316 iM_X8_usesOperand sM_X8_usesOperand (hvx.sh rfl) rfl rfl rfl (Nat.le_of_ble_eq_true rfl) (show d + 0 + 6 + 1 ≤ d + 7 by omega) (show 8 + (5 + 11) + 40 * (d + 0 + 6) ≤ 40 * (d + 7) by omega) (g_c0 hvx.ln) (Nat.le_of_ble_eq_true rfl) dX8_laysValues_55 ?_
            intro r h28 hq _
            obtain ⟨rfl, hv28⟩ := hq
            refine gf_iinc (pc := 58) (Nat.le_of_ble_eq_true rfl) rfl (ti_rfl l3) (ti_c (by decide)) (by omega) (by omega) dX8_laysValues_58 (fun v29 e30 => ?_)
            refine go_lv (lv2 := [(0, .ref 70), (1, .int l1), (2, .int l2), (3, .int v29)]) rfl ?_
            refine go_goto (pc := 61) (tgt := 32) (by decide) dX8_laysValues_61 ?_
            have z31 : (v29 : Int32).toInt = (l3.toInt + 1) := e30
            exact go_lv rfl (ih.2.1 l1 l2 v29 h28 hv28 (by omega) (by omega) (by omega) (by omega) (by omega) (by omega) (by omega) (by omega))
      ·
        intro l1 l2 l3 hx hvx l1l l1u l2l l2u l3l l3u x0 hm
        refine go_iload_n (pc := 66) rfl dX8_laysValues_66 ?_
        refine go_iconst (pc := 67) (v := 4) (by decide) dX8_laysValues_67 ?_
        refine gf_icmp_ge (pc := 68) (tgt := 102) (ti_rfl l3) (ti_c (v := 4) (a := 4) (by decide)) (by decide) dX8_laysValues_68 (fun q32 => ?_) (fun q32 => ?_)
        ·
          refine gf_iinc (pc := 102) (Nat.le_of_ble_eq_true rfl) rfl (ti_rfl l1) (ti_c (by decide)) (by omega) (by omega) dX8_laysValues_102 (fun v33 e34 => ?_)
          refine go_lv (lv2 := [(0, .ref 70), (1, .int v33), (2, .int l2), (3, .int l3)]) rfl ?_
          refine go_goto (pc := 105) (tgt := 2) (by decide) dX8_laysValues_105 ?_
          have z35 : (v33 : Int32).toInt = (l1.toInt + 1) := e34
          exact go_lv rfl (ih.1 v33 hx hvx (by omega) (by omega) (by omega))
        ·
          refine go_iload_n (pc := 71) rfl dX8_laysValues_71 ?_
          refine gf_if_eq (pc := 72) (tgt := 102) (ti_rfl l2) (by decide) dX8_laysValues_72 (fun q36 => ?_) (fun q36 => ?_)
          ·
            refine gf_iinc (pc := 102) (Nat.le_of_ble_eq_true rfl) rfl (ti_rfl l1) (ti_c (by decide)) (by omega) (by omega) dX8_laysValues_102 (fun v37 e38 => ?_)
            refine go_lv (lv2 := [(0, .ref 70), (1, .int v37), (2, .int l2), (3, .int l3)]) rfl ?_
            refine go_goto (pc := 105) (tgt := 2) (by decide) dX8_laysValues_105 ?_
            have z39 : (v37 : Int32).toInt = (l1.toInt + 1) := e38
            exact go_lv rfl (ih.1 v37 hx hvx (by omega) (by omega) (by omega))
          ·
            refine go_aload_n (pc := 75) rfl dX8_laysValues_75 ?_
            refine go_iload_n (pc := 76) rfl dX8_laysValues_76 ?_
            refine go_iconst (pc := 77) (v := 3) (by decide) dX8_laysValues_77 ?_
            refine go_iload_n (pc := 78) rfl dX8_laysValues_78 ?_
            refine gf_iadd (pc := 79) (ti_c (v := 3) (a := 3) (by decide)) (ti_rfl l3) (by omega) (by omega) dX8_laysValues_79 (fun v40 e41 => ?_)
            refine go_invS (pc := 80) (sl := 0) (s_X8_statementPlace l (d + 5) hvx l1 (by rw [show (l1 : Int32).toInt = l1.toInt from (ti_rfl l1)]; omega) (by rw [show (l1 : Int32).toInt = l1.toInt from (ti_rfl l1)]; omega) v40 (by rw [show (v40 : Int32).toInt = (3 + l3.toInt) from e41]; omega) (by rw [show (v40 : Int32).toInt = (3 + l3.toInt) from e41]; omega)) mL_X8_291 iM_X8_statementPlace rfl rfl (Nat.le_of_ble_eq_true rfl) (show d + 5 + 1 + 1 ≤ d + 7 by omega) (show 8 + (2 + 11) + 40 * (d + 5 + 1) ≤ 40 * (d + 7) by omega) (g_c0 hvx.ln) (Nat.le_of_ble_eq_true rfl) dX8_laysValues_80 ?_
            intro r h42 hq _
            obtain ⟨v43, rfl, v43l, v43u, rfl⟩ := hq
            refine go_aload_n (pc := 83) rfl dX8_laysValues_83 ?_
            refine go_iload_n (pc := 84) rfl dX8_laysValues_84 ?_
            refine go_invV (pc := 85) (sl := 0) (s_X8_procedureOf l (d + 4) hvx l1 (by rw [show (l1 : Int32).toInt = l1.toInt from (ti_rfl l1)]; omega) (by rw [show (l1 : Int32).toInt = l1.toInt from (ti_rfl l1)]; omega)) mL_X8_306 iM_X8_procedureOf sM_X8_procedureOf (hvx.sh rfl) rfl rfl rfl (Nat.le_of_ble_eq_true rfl) (show d + 4 + 2 + 1 ≤ d + 7 by omega) (show 8 + (2 + 11) + 40 * (d + 4 + 2) ≤ 40 * (d + 7) by omega) (g_c0 hvx.ln) (Nat.le_of_ble_eq_true rfl) dX8_laysValues_85 ?_
            intro r h44 hq _
            obtain ⟨v45, rfl, v45l, v45u, rfl⟩ := hq
            refine go_iload_n (pc := 88) rfl dX8_laysValues_88 ?_
            refine go_bipush (pc := 89) (v := 6) (by decide) dX8_laysValues_89 ?_
            refine go_iload_n (pc := 91) rfl dX8_laysValues_91 ?_
            refine gf_iadd (pc := 92) (ti_c (v := 6) (a := 6) (by decide)) (ti_rfl l3) (by omega) (by omega) dX8_laysValues_92 (fun v46 e47 => ?_)
            refine go_invV (pc := 93) (sl := 0) (s_X8_uses l (d + 1) hvx v43 (by rw [show (v43 : Int32).toInt = v43.toInt from (ti_rfl v43)]; omega) (by rw [show (v43 : Int32).toInt = v43.toInt from (ti_rfl v43)]; omega) v45 (by rw [show (v45 : Int32).toInt = v45.toInt from (ti_rfl v45)]; omega) (by rw [show (v45 : Int32).toInt = v45.toInt from (ti_rfl v45)]; omega) l1 (by rw [show (l1 : Int32).toInt = l1.toInt from (ti_rfl l1)]; omega) (by rw [show (l1 : Int32).toInt = l1.toInt from (ti_rfl l1)]; omega) v46 (by rw [show (v46 : Int32).toInt = (6 + l3.toInt) from e47]; omega) (by rw [show (v46 : Int32).toInt = (6 + l3.toInt) from e47]; omega) (CKF.ve (VE.of hv hvx) ckf)) mL_X8_312 iM_X8_uses sM_X8_uses (hvx.sh rfl) rfl rfl rfl (Nat.le_of_ble_eq_true rfl) (show d + 1 + 5 + 1 ≤ d + 7 by omega) (show 8 + (14 + 11) + 40 * (d + 1 + 5) ≤ 40 * (d + 7) by omega) (g_c0 hvx.ln) (Nat.le_of_ble_eq_true rfl) dX8_laysValues_93 ?_
            intro r h48 hq _
            obtain ⟨rfl, hv48⟩ := hq
            refine gf_iinc (pc := 96) (Nat.le_of_ble_eq_true rfl) rfl (ti_rfl l3) (ti_c (by decide)) (by omega) (by omega) dX8_laysValues_96 (fun v49 e50 => ?_)
            refine go_lv (lv2 := [(0, .ref 70), (1, .int l1), (2, .int l2), (3, .int v49)]) rfl ?_
            refine go_goto (pc := 99) (tgt := 66) (by decide) dX8_laysValues_99 ?_
            have z51 : (v49 : Int32).toInt = (l3.toInt + 1) := e50
            exact go_lv rfl (ih.2.2.1 l1 l2 v49 h48 hv48 (by omega) (by omega) (by omega) (by omega) (by omega) (by omega) (by omega) (by omega))
      ·
        intro l1 hx hvx l1l l1u hm
        refine go_iload_n (pc := 110) rfl dX8_laysValues_110 ?_
        refine go_aload_n (pc := 111) rfl dX8_laysValues_111 ?_
        refine gi_getF (pc := 112) (q := 76) hvx fL_X8_26 rfl (Nat.le_of_ble_eq_true rfl) rfl (hvx.rf (by decide)) dX8_laysValues_112 ?_
        refine go_aload_n (pc := 115) rfl dX8_laysValues_115 ?_
        refine gi_get (pc := 116) (lo := 0) (hi := 1) hvx fL_X8_187 rfl (Nat.le_of_ble_eq_true rfl) rfl rfl dX8_laysValues_116 (fun v52 v52l v52u v52w => ?_)
        have v52S : v52.toInt = S := by rw [v52w, hvx.fy (j := 6) (by omega), ← hv.fy (j := 6) (by omega)]; exact hS.symm
        refine gi_iald (pc := 119) (lo := 0) (hi := 5) (len := 2) hvx (ti_rfl v52) rfl (by omega) (by omega) (fun _ => rfl) dX8_laysValues_119 (fun v53 v53l v53u v53w => ?_)
        have v53V : v53.toInt = V h.2.1 76 S := by rw [v53w, v52S, hvx.fz (c := 76) (by omega) (by omega), ← hv.fz (c := 76) (by omega) (by omega)]; rfl
        refine gf_icmp_ge (pc := 120) (tgt := 160) (ti_rfl l1) (ti_rfl v53) (by decide) dX8_laysValues_120 (fun q54 => ?_) (fun q54 => ?_)
        ·
          refine go_iconst (pc := 160) (v := 0) (by decide) dX8_laysValues_160 ?_
          refine go_istore_n (pc := 161) (Nat.le_of_ble_eq_true rfl) dX8_laysValues_161 (go_lv (lv2 := [(0, .ref 70), (1, .int 0)]) rfl ?_)
          have z55 : (0 : Int32).toInt = 0 := (ti_c (v := 0) (a := 0) (by decide))
          exact go_lv rfl (ih.2.2.2.2.2.1 0 hx hvx (by omega) (by omega) (by omega))
        ·
          refine go_iconst (pc := 123) (v := 0) (by decide) dX8_laysValues_123 ?_
          refine go_istore_n (pc := 124) (Nat.le_of_ble_eq_true rfl) dX8_laysValues_124 (go_lv (lv2 := [(0, .ref 70), (1, .int l1), (2, .int 0)]) rfl ?_)
          have z56 : (0 : Int32).toInt = 0 := (ti_c (v := 0) (a := 0) (by decide))
          exact go_lv rfl (ih.2.2.2.2.1 l1 0 hx hvx (by omega) (by omega) (by omega) (by omega) (by omega))
      ·
        intro l1 l2 hx hvx l1l l1u l2l l2u hm
        refine go_iload_n (pc := 125) rfl dX8_laysValues_125 ?_
        refine go_iconst (pc := 126) (v := 4) (by decide) dX8_laysValues_126 ?_
        refine gf_icmp_ge (pc := 127) (tgt := 154) (ti_rfl l2) (ti_c (v := 4) (a := 4) (by decide)) (by decide) dX8_laysValues_127 (fun q57 => ?_) (fun q57 => ?_)
        ·
          refine gf_iinc (pc := 154) (Nat.le_of_ble_eq_true rfl) rfl (ti_rfl l1) (ti_c (by decide)) (by omega) (by omega) dX8_laysValues_154 (fun v58 e59 => ?_)
          refine go_lv (lv2 := [(0, .ref 70), (1, .int v58), (2, .int l2)]) rfl ?_
          refine go_goto (pc := 157) (tgt := 110) (by decide) dX8_laysValues_157 ?_
          have z60 : (v58 : Int32).toInt = (l1.toInt + 1) := e59
          exact go_lv rfl (ih.2.2.2.1 v58 hx hvx (by omega) (by omega) (by omega))
        ·
          refine go_aload_n (pc := 130) rfl dX8_laysValues_130 ?_
          refine go_iload_n (pc := 131) rfl dX8_laysValues_131 ?_
          refine go_bipush (pc := 132) (v := 9) (by decide) dX8_laysValues_132 ?_
          refine go_iload_n (pc := 134) rfl dX8_laysValues_134 ?_
          refine gf_iadd (pc := 135) (ti_c (v := 9) (a := 9) (by decide)) (ti_rfl l2) (by omega) (by omega) dX8_laysValues_135 (fun v61 e62 => ?_)
          refine go_invS (pc := 136) (sl := 0) (s_X8_procedurePlace l (d + 5) hvx l1 (by rw [show (l1 : Int32).toInt = l1.toInt from (ti_rfl l1)]; omega) (by rw [show (l1 : Int32).toInt = l1.toInt from (ti_rfl l1)]; omega) v61 (by rw [show (v61 : Int32).toInt = (9 + l2.toInt) from e62]; omega) (by rw [show (v61 : Int32).toInt = (9 + l2.toInt) from e62]; omega)) mL_X8_300 iM_X8_procedurePlace rfl rfl (Nat.le_of_ble_eq_true rfl) (show d + 5 + 1 + 1 ≤ d + 7 by omega) (show 8 + (2 + 11) + 40 * (d + 5 + 1) ≤ 40 * (d + 7) by omega) (g_c0 hvx.ln) (Nat.le_of_ble_eq_true rfl) dX8_laysValues_136 ?_
          intro r h63 hq _
          obtain ⟨v64, rfl, v64l, v64u, rfl⟩ := hq
          refine go_iload_n (pc := 139) rfl dX8_laysValues_139 ?_
          refine go_iconst (pc := 140) (v := (-1)) (by decide) dX8_laysValues_140 ?_
          refine go_bipush (pc := 141) (v := 6) (by decide) dX8_laysValues_141 ?_
          refine go_iload_n (pc := 143) rfl dX8_laysValues_143 ?_
          refine gf_iadd (pc := 144) (ti_c (v := 6) (a := 6) (by decide)) (ti_rfl l2) (by omega) (by omega) dX8_laysValues_144 (fun v65 e66 => ?_)
          refine go_invV (pc := 145) (sl := 0) (s_X8_uses l (d + 1) hvx v64 (by rw [show (v64 : Int32).toInt = v64.toInt from (ti_rfl v64)]; omega) (by rw [show (v64 : Int32).toInt = v64.toInt from (ti_rfl v64)]; omega) l1 (by rw [show (l1 : Int32).toInt = l1.toInt from (ti_rfl l1)]; omega) (by rw [show (l1 : Int32).toInt = l1.toInt from (ti_rfl l1)]; omega) (-1) (by rw [show ((-1) : Int32).toInt = (-1) from (ti_c (v := (-1)) (a := (-1)) (by decide))]; omega) (by rw [show ((-1) : Int32).toInt = (-1) from (ti_c (v := (-1)) (a := (-1)) (by decide))]; omega) v65 (by rw [show (v65 : Int32).toInt = (6 + l2.toInt) from e66]; omega) (by rw [show (v65 : Int32).toInt = (6 + l2.toInt) from e66]; omega) (CKF.ve (VE.of hv hvx) ckf)) mL_X8_312 iM_X8_uses sM_X8_uses (hvx.sh rfl) rfl rfl rfl (Nat.le_of_ble_eq_true rfl) (show d + 1 + 5 + 1 ≤ d + 7 by omega) (show 8 + (14 + 11) + 40 * (d + 1 + 5) ≤ 40 * (d + 7) by omega) (g_c0 hvx.ln) (Nat.le_of_ble_eq_true rfl) dX8_laysValues_145 ?_
          intro r h67 hq _
          obtain ⟨rfl, hv67⟩ := hq
          refine gf_iinc (pc := 148) (Nat.le_of_ble_eq_true rfl) rfl (ti_rfl l2) (ti_c (by decide)) (by omega) (by omega) dX8_laysValues_148 (fun v68 e69 => ?_)
          refine go_lv (lv2 := [(0, .ref 70), (1, .int l1), (2, .int v68)]) rfl ?_
          refine go_goto (pc := 151) (tgt := 125) (by decide) dX8_laysValues_151 ?_
          have z70 : (v68 : Int32).toInt = (l2.toInt + 1) := e69
          exact go_lv rfl (ih.2.2.2.2.1 l1 v68 h67 hv67 (by omega) (by omega) (by omega) (by omega) (by omega))
      ·
        intro l1 hx hvx l1l l1u hm
        refine go_iload_n (pc := 162) rfl dX8_laysValues_162 ?_
        refine go_aload_n (pc := 163) rfl dX8_laysValues_163 ?_
        refine gi_getF (pc := 164) (q := 75) hvx fL_X8_23 rfl (Nat.le_of_ble_eq_true rfl) rfl (hvx.rf (by decide)) dX8_laysValues_164 ?_
        refine go_aload_n (pc := 167) rfl dX8_laysValues_167 ?_
        refine gi_get (pc := 168) (lo := 0) (hi := 1) hvx fL_X8_187 rfl (Nat.le_of_ble_eq_true rfl) rfl rfl dX8_laysValues_168 (fun v71 v71l v71u v71w => ?_)
        have v71S : v71.toInt = S := by rw [v71w, hvx.fy (j := 6) (by omega), ← hv.fy (j := 6) (by omega)]; exact hS.symm
        refine gi_iald (pc := 171) (lo := 0) (hi := 40) (len := 2) hvx (ti_rfl v71) rfl (by omega) (by omega) (fun _ => rfl) dX8_laysValues_171 (fun v72 v72l v72u v72w => ?_)
        have v72V : v72.toInt = V h.2.1 75 S := by rw [v72w, v71S, hvx.fz (c := 75) (by omega) (by omega), ← hv.fz (c := 75) (by omega) (by omega)]; rfl
        refine gf_icmp_ge (pc := 172) (tgt := 234) (ti_rfl l1) (ti_rfl v72) (by decide) dX8_laysValues_172 (fun q73 => ?_) (fun q73 => ?_)
        ·
          refine go_iconst (pc := 234) (v := 0) (by decide) dX8_laysValues_234 ?_
          refine go_istore_n (pc := 235) (Nat.le_of_ble_eq_true rfl) dX8_laysValues_235 (go_lv (lv2 := [(0, .ref 70), (1, .int 0)]) rfl ?_)
          have z74 : (0 : Int32).toInt = 0 := (ti_c (v := 0) (a := 0) (by decide))
          exact go_lv rfl (ih.2.2.2.2.2.2.2 0 hx hvx (by omega) (by omega) (by omega))
        ·
          refine go_aload_n (pc := 175) rfl dX8_laysValues_175 ?_
          refine gi_getF (pc := 176) (q := 104) hvx fL_X8_111 rfl (Nat.le_of_ble_eq_true rfl) rfl (hvx.rf (by decide)) dX8_laysValues_176 ?_
          refine go_iload_n (pc := 179) rfl dX8_laysValues_179 ?_
          refine go_lconst (pc := 180) (v := 0) (by decide) dX8_laysValues_180 ?_
          refine gi_last (pc := 181) (len := 40) hvx (ti_rfl l1) rfl (by omega) (by omega) dX8_laysValues_181 (fun h75 hv75 hv75e => ?_)
          refine go_iconst (pc := 182) (v := 0) (by decide) dX8_laysValues_182 ?_
          refine go_istore_n (pc := 183) (Nat.le_of_ble_eq_true rfl) dX8_laysValues_183 (go_lv (lv2 := [(0, .ref 70), (1, .int l1), (2, .int 0)]) rfl ?_)
          have z76 : (0 : Int32).toInt = 0 := (ti_c (v := 0) (a := 0) (by decide))
          exact go_lv rfl (ih.2.2.2.2.2.2.1 l1 0 h75 hv75 (by omega) (by omega) (by omega) (by omega) (by omega))
      ·
        intro l1 l2 hx hvx l1l l1u l2l l2u hm
        refine go_iload_n (pc := 184) rfl dX8_laysValues_184 ?_
        refine go_aload_n (pc := 185) rfl dX8_laysValues_185 ?_
        refine gi_getF (pc := 186) (q := 75) hvx fL_X8_23 rfl (Nat.le_of_ble_eq_true rfl) rfl (hvx.rf (by decide)) dX8_laysValues_186 ?_
        refine go_aload_n (pc := 189) rfl dX8_laysValues_189 ?_
        refine gi_get (pc := 190) (lo := 0) (hi := 1) hvx fL_X8_187 rfl (Nat.le_of_ble_eq_true rfl) rfl rfl dX8_laysValues_190 (fun v77 v77l v77u v77w => ?_)
        have v77S : v77.toInt = S := by rw [v77w, hvx.fy (j := 6) (by omega), ← hv.fy (j := 6) (by omega)]; exact hS.symm
        refine gi_iald (pc := 193) (lo := 0) (hi := 40) (len := 2) hvx (ti_rfl v77) rfl (by omega) (by omega) (fun _ => rfl) dX8_laysValues_193 (fun v78 v78l v78u v78w => ?_)
        have v78V : v78.toInt = V h.2.1 75 S := by rw [v78w, v77S, hvx.fz (c := 75) (by omega) (by omega), ← hv.fz (c := 75) (by omega) (by omega)]; rfl
        refine gf_icmp_ge (pc := 194) (tgt := 228) (ti_rfl l2) (ti_rfl v78) (by decide) dX8_laysValues_194 (fun q79 => ?_) (fun q79 => ?_)
        ·
          refine gf_iinc (pc := 228) (Nat.le_of_ble_eq_true rfl) rfl (ti_rfl l1) (ti_c (by decide)) (by omega) (by omega) dX8_laysValues_228 (fun v80 e81 => ?_)
          refine go_lv (lv2 := [(0, .ref 70), (1, .int v80), (2, .int l2)]) rfl ?_
          refine go_goto (pc := 231) (tgt := 162) (by decide) dX8_laysValues_231 ?_
          have z82 : (v80 : Int32).toInt = (l1.toInt + 1) := e81
          exact go_lv rfl (ih.2.2.2.2.2.1 v80 hx hvx (by omega) (by omega) (by omega))
        ·
          refine go_aload_n (pc := 197) rfl dX8_laysValues_197 ?_
          refine gi_getF (pc := 198) (q := 104) hvx fL_X8_111 rfl (Nat.le_of_ble_eq_true rfl) rfl (hvx.rf (by decide)) dX8_laysValues_198 ?_
          refine go_iload_n (pc := 201) rfl dX8_laysValues_201 ?_
          refine go_dup2 (pc := 202) rfl rfl dX8_laysValues_202 ?_
          refine gi_lald (pc := 203) (len := 40) hvx (ti_rfl l1) rfl (by omega) (by omega) dX8_laysValues_203 (fun v83 v83w => ?_)
          refine go_aload_n (pc := 204) rfl dX8_laysValues_204 ?_
          refine go_iload_n (pc := 205) rfl dX8_laysValues_205 ?_
          refine go_iload_n (pc := 206) rfl dX8_laysValues_206 ?_
          refine go_invV (pc := 207) (sl := 0) (s_X8_isAnyHung l (d + 4) hvx l1 (by rw [show (l1 : Int32).toInt = l1.toInt from (ti_rfl l1)]; omega) (by rw [show (l1 : Int32).toInt = l1.toInt from (ti_rfl l1)]; omega) l2 (by rw [show (l2 : Int32).toInt = l2.toInt from (ti_rfl l2)]; omega) (by rw [show (l2 : Int32).toInt = l2.toInt from (ti_rfl l2)]; omega)) mL_X8_319 iM_X8_isAnyHung sM_X8_isAnyHung (hvx.sh rfl) rfl rfl rfl (Nat.le_of_ble_eq_true rfl) (show d + 4 + 2 + 1 ≤ d + 7 by omega) (show 8 + (5 + 11) + 40 * (d + 4 + 2) ≤ 40 * (d + 7) by omega) (g_c0 hvx.ln) (Nat.le_of_ble_eq_true rfl) dX8_laysValues_207 ?_
          intro r h84 hq _
          obtain ⟨v85, rfl, v85l, v85u, rfl⟩ := hq
          refine gf_if_eq (pc := 210) (tgt := 219) (ti_rfl v85) (by decide) dX8_laysValues_210 (fun q86 => ?_) (fun q86 => ?_)
          ·
            refine go_lconst (pc := 219) (v := 0) (by decide) dX8_laysValues_219 ?_
            refine gu_lor (pc := 220) dX8_laysValues_220 (fun v87 => ?_)
            refine gi_last (pc := 221) (len := 40) hvx (ti_rfl l1) rfl (by omega) (by omega) dX8_laysValues_221 (fun h88 hv88 hv88e => ?_)
            refine gf_iinc (pc := 222) (Nat.le_of_ble_eq_true rfl) rfl (ti_rfl l2) (ti_c (by decide)) (by omega) (by omega) dX8_laysValues_222 (fun v89 e90 => ?_)
            refine go_lv (lv2 := [(0, .ref 70), (1, .int l1), (2, .int v89)]) rfl ?_
            refine go_goto (pc := 225) (tgt := 184) (by decide) dX8_laysValues_225 ?_
            have z91 : (v89 : Int32).toInt = (l2.toInt + 1) := e90
            exact go_lv rfl (ih.2.2.2.2.2.2.1 l1 v89 h88 hv88 (by omega) (by omega) (by omega) (by omega) (by omega))
          ·
            refine go_lconst (pc := 213) (v := 1) (by decide) dX8_laysValues_213 ?_
            refine go_iload_n (pc := 214) rfl dX8_laysValues_214 ?_
            refine gu_lshl (pc := 215) dX8_laysValues_215 (fun v92 => ?_)
            refine go_goto (pc := 216) (tgt := 220) (by decide) dX8_laysValues_216 ?_
            refine gu_lor (pc := 220) dX8_laysValues_220 (fun v93 => ?_)
            refine gi_last (pc := 221) (len := 40) hvx (ti_rfl l1) rfl (by omega) (by omega) dX8_laysValues_221 (fun h94 hv94 hv94e => ?_)
            refine gf_iinc (pc := 222) (Nat.le_of_ble_eq_true rfl) rfl (ti_rfl l2) (ti_c (by decide)) (by omega) (by omega) dX8_laysValues_222 (fun v95 e96 => ?_)
            refine go_lv (lv2 := [(0, .ref 70), (1, .int l1), (2, .int v95)]) rfl ?_
            refine go_goto (pc := 225) (tgt := 184) (by decide) dX8_laysValues_225 ?_
            have z97 : (v95 : Int32).toInt = (l2.toInt + 1) := e96
            exact go_lv rfl (ih.2.2.2.2.2.2.1 l1 v95 h94 hv94 (by omega) (by omega) (by omega) (by omega) (by omega))
      ·
        intro l1 hx hvx l1l l1u hm
        refine go_iload_n (pc := 236) rfl dX8_laysValues_236 ?_
        refine go_aload_n (pc := 237) rfl dX8_laysValues_237 ?_
        refine gi_getF (pc := 238) (q := 75) hvx fL_X8_23 rfl (Nat.le_of_ble_eq_true rfl) rfl (hvx.rf (by decide)) dX8_laysValues_238 ?_
        refine go_aload_n (pc := 241) rfl dX8_laysValues_241 ?_
        refine gi_get (pc := 242) (lo := 0) (hi := 1) hvx fL_X8_187 rfl (Nat.le_of_ble_eq_true rfl) rfl rfl dX8_laysValues_242 (fun v98 v98l v98u v98w => ?_)
        have v98S : v98.toInt = S := by rw [v98w, hvx.fy (j := 6) (by omega), ← hv.fy (j := 6) (by omega)]; exact hS.symm
        refine gi_iald (pc := 245) (lo := 0) (hi := 40) (len := 2) hvx (ti_rfl v98) rfl (by omega) (by omega) (fun _ => rfl) dX8_laysValues_245 (fun v99 v99l v99u v99w => ?_)
        have v99V : v99.toInt = V h.2.1 75 S := by rw [v99w, v98S, hvx.fz (c := 75) (by omega) (by omega), ← hv.fz (c := 75) (by omega) (by omega)]; rfl
        refine gf_icmp_ge (pc := 246) (tgt := 260) (ti_rfl l1) (ti_rfl v99) (by decide) dX8_laysValues_246 (fun q100 => ?_) (fun q100 => ?_)
        ·
          exact gi_vret (pc := 260) ⟨rfl, hvx⟩ hvx dX8_laysValues_260
        ·
          refine go_aload_n (pc := 249) rfl dX8_laysValues_249 ?_
          refine go_iload_n (pc := 250) rfl dX8_laysValues_250 ?_
          refine go_invV (pc := 251) (sl := 0) (s_X8_ends_x l (d + 2) hvx l1 (by rw [show (l1 : Int32).toInt = l1.toInt from (ti_rfl l1)]; omega) (by rw [show (l1 : Int32).toInt = l1.toInt from (ti_rfl l1)]; omega) (CKF.ve (VE.of hv hvx) ckf)) mL_X8_323 iM_X8_ends sM_X8_ends (hvx.sh rfl) rfl rfl rfl (Nat.le_of_ble_eq_true rfl) (show d + 2 + 4 + 1 ≤ d + 7 by omega) (show 8 + (6 + 11) + 40 * (d + 2 + 4) ≤ 40 * (d + 7) by omega) (g_c0 hvx.ln) (Nat.le_of_ble_eq_true rfl) dX8_laysValues_251 ?_
          intro r h101 hq _
          obtain ⟨rfl, hv101⟩ := hq
          refine gf_iinc (pc := 254) (Nat.le_of_ble_eq_true rfl) rfl (ti_rfl l1) (ti_c (by decide)) (by omega) (by omega) dX8_laysValues_254 (fun v102 e103 => ?_)
          refine go_lv (lv2 := [(0, .ref 70), (1, .int v102)]) rfl ?_
          refine go_goto (pc := 257) (tgt := 236) (by decide) dX8_laysValues_257 ?_
          have z104 : (v102 : Int32).toInt = (l1.toInt + 1) := e103
          exact go_lv rfl (ih.2.2.2.2.2.2.2 v102 h101 hv101 (by omega) (by omega) (by omega))
  refine go_iconst (pc := 0) (v := 0) (by decide) dX8_laysValues_0 ?_
  refine go_istore_n (pc := 1) (Nat.le_of_ble_eq_true rfl) dX8_laysValues_1 (go_lv (lv2 := [(0, .ref 70), (1, .int 0)]) rfl ?_)
  have z105 : (0 : Int32).toInt = 0 := (ti_c (v := 0) (a := 0) (by decide))
  exact go_lv rfl ((key 7090).1 0 h hv (by omega) (by omega) (by omega))
set_option maxHeartbeats 4000000 in
set_option maxRecDepth 100000 in
theorem s_X8_laysAll (l : Launch) (d : Nat) {P : PP} {h : HP} (hv : Iv P h) (ckf : CKF h.2.1) (ht : TR h.2.1 (h.2.1 70 6).toInt) (hwi : WI h.2.1 (h.2.1 70 6).toInt) : Mt l yX8_laysAll cX8_laysAll 2 none (d + 8) [.ref 70] h 0 0 (fun r h' => r = none ∧ Iv P h') := by
  refine Mt_iv hv (by decide) (Nat.le_of_ble_eq_true rfl) ?_
  show Go l RX8 cX8_laysAll 2 (g_rm (d + 8) 0 0) "laysAll" none 117 0 0 (fun _ _ => True) (fun r h' => r = none ∧ Iv P h') 0 0 [(0, .ref 70)] [] h
  obtain ⟨S, hS⟩ : ∃ S : Int, S = (h.2.1 70 6).toInt := ⟨_, rfl⟩
  have S0 : 0 ≤ S := by rw [hS]; exact (hv.2.1 70 6).1
  have S1 : S ≤ 1 := by rw [hS]; exact (hv.2.1 70 6).2
  rw [← hS] at ht
  rw [← hS] at hwi
  have key : ∀ n : Nat, (∀ (l1 : Int32) (hx : HP), Iv P hx → 0 ≤ l1.toInt → l1.toInt ≤ 11115 → (3 * (11115 - l1.toInt) + 128 : Int) < n → Go l RX8 cX8_laysAll 2 (g_rm (d + 8) 0 0) "laysAll" none 117 0 0 (fun _ _ => True) (fun r h' => r = none ∧ Iv P h') 0 2 [(0, .ref 70), (1, .int l1)] [] hx) ∧ (∀ (l1 : Int32) (hx : HP), Iv P hx → 0 ≤ l1.toInt → l1.toInt ≤ 40 → (3 * (40 - l1.toInt) + 2 : Int) < n → Go l RX8 cX8_laysAll 2 (g_rm (d + 8) 0 0) "laysAll" none 117 0 0 (fun _ _ => True) (fun r h' => r = none ∧ Iv P h') 0 36 [(0, .ref 70), (1, .int l1)] [] hx) := by
    intro n
    induction n with
    | zero => exact ⟨(by intros; omega), (by intros; omega)⟩
    | succ n ih =>
      refine ⟨?_, ?_⟩
      ·
        intro l1 hx hvx l1l l1u hm
        refine go_iload_n (pc := 2) rfl dX8_laysAll_2 ?_
        refine go_sipush (pc := 3) (v := 11115) (by decide) dX8_laysAll_3 ?_
        refine gf_icmp_ge (pc := 6) (tgt := 22) (ti_rfl l1) (ti_c (v := 11115) (a := 11115) (by decide)) (by decide) dX8_laysAll_6 (fun q1 => ?_) (fun q1 => ?_)
        ·
          refine go_aload_n (pc := 22) rfl dX8_laysAll_22 ?_
          have sM2 : (hx.2.1 70 6).toInt = S := by rw [hvx.fy (j := 6) (by omega), ← hv.fy (j := 6) (by omega)]; exact hS.symm
          refine go_invV (pc := 23) (sl := 0) (s_X8_laysValues l (d + 0) hvx (CKF.ve (VE.of hv hvx) ckf) (by rw [sM2]; exact (TR.ve (VE.of hv hvx) ht))) mL_X8_363 iM_X8_laysValues sM_X8_laysValues (hvx.sh rfl) rfl rfl rfl (Nat.le_of_ble_eq_true rfl) (show d + 0 + 7 + 1 ≤ d + 8 by omega) (show 8 + (4 + 11) + 40 * (d + 0 + 7) ≤ 40 * (d + 8) by omega) (g_c0 hvx.ln) (Nat.le_of_ble_eq_true rfl) dX8_laysAll_23 ?_
          intro r h3 hq _
          obtain ⟨rfl, hv3⟩ := hq
          refine go_aload_n (pc := 26) rfl dX8_laysAll_26 ?_
          have sM4 : (h3.2.1 70 6).toInt = S := by rw [hv3.fy (j := 6) (by omega), ← hv.fy (j := 6) (by omega)]; exact hS.symm
          refine go_invV (pc := 27) (sl := 0) (s_X8_laysWay l (d + 1) hv3 (CKF.ve (VE.of hv hv3) ckf) (by rw [sM4]; exact (WI.ve (VE.of hv hv3) hwi))) mL_X8_366 iM_X8_laysWay sM_X8_laysWay (hv3.sh rfl) rfl rfl rfl (Nat.le_of_ble_eq_true rfl) (show d + 1 + 6 + 1 ≤ d + 8 by omega) (show 8 + (6 + 11) + 40 * (d + 1 + 6) ≤ 40 * (d + 8) by omega) (g_c0 hv3.ln) (Nat.le_of_ble_eq_true rfl) dX8_laysAll_27 ?_
          intro r h5 hq _
          obtain ⟨rfl, hv5⟩ := hq
          refine go_aload_n (pc := 30) rfl dX8_laysAll_30 ?_
          refine go_invV (pc := 31) (sl := 0) (s_X8_laysThrough l (d + 2) hv5 (CKF.ve (VE.of hv hv5) ckf)) mL_X8_369 iM_X8_laysThrough sM_X8_laysThrough (hv5.sh rfl) rfl rfl rfl (Nat.le_of_ble_eq_true rfl) (show d + 2 + 5 + 1 ≤ d + 8 by omega) (show 8 + (5 + 11) + 40 * (d + 2 + 5) ≤ 40 * (d + 8) by omega) (g_c0 hv5.ln) (Nat.le_of_ble_eq_true rfl) dX8_laysAll_31 ?_
          intro r h6 hq _
          obtain ⟨rfl, hv6, f7⟩ := hq
          refine go_iconst (pc := 34) (v := 0) (by decide) dX8_laysAll_34 ?_
          refine go_istore_n (pc := 35) (Nat.le_of_ble_eq_true rfl) dX8_laysAll_35 (go_lv (lv2 := [(0, .ref 70), (1, .int 0)]) rfl ?_)
          have z8 : (0 : Int32).toInt = 0 := (ti_c (v := 0) (a := 0) (by decide))
          exact go_lv rfl (ih.2 0 h6 hv6 (by omega) (by omega) (by omega))
        ·
          refine go_aload_n (pc := 9) rfl dX8_laysAll_9 ?_
          refine gi_getF (pc := 10) (q := 103) hvx fL_X8_108 rfl (Nat.le_of_ble_eq_true rfl) rfl (hvx.rf (by decide)) dX8_laysAll_10 ?_
          refine go_iload_n (pc := 13) rfl dX8_laysAll_13 ?_
          refine go_iconst (pc := 14) (v := 0) (by decide) dX8_laysAll_14 ?_
          refine gi_iast (pc := 15) (lo := -2147483648) (hi := 2147483647) (len := 11115) hvx (ti_rfl l1) (ti_c (v := 0) (a := 0) (by decide)) rfl (by omega) (by omega) (fun _ => rfl) (ti_ge (ti_c (v := 0) (a := 0) (by decide))) (ti_le2 (ti_c (v := 0) (a := 0) (by decide))) (by decide) dX8_laysAll_15 (fun h9 hv9 hv9e => ?_)
          refine gf_iinc (pc := 16) (Nat.le_of_ble_eq_true rfl) rfl (ti_rfl l1) (ti_c (by decide)) (by omega) (by omega) dX8_laysAll_16 (fun v10 e11 => ?_)
          refine go_lv (lv2 := [(0, .ref 70), (1, .int v10)]) rfl ?_
          refine go_goto (pc := 19) (tgt := 2) (by decide) dX8_laysAll_19 ?_
          have z12 : (v10 : Int32).toInt = (l1.toInt + 1) := e11
          exact go_lv rfl (ih.1 v10 h9 hv9 (by omega) (by omega) (by omega))
      ·
        intro l1 hx hvx l1l l1u hm
        refine go_iload_n (pc := 36) rfl dX8_laysAll_36 ?_
        refine go_aload_n (pc := 37) rfl dX8_laysAll_37 ?_
        refine gi_getF (pc := 38) (q := 75) hvx fL_X8_23 rfl (Nat.le_of_ble_eq_true rfl) rfl (hvx.rf (by decide)) dX8_laysAll_38 ?_
        refine go_aload_n (pc := 41) rfl dX8_laysAll_41 ?_
        refine gi_get (pc := 42) (lo := 0) (hi := 1) hvx fL_X8_187 rfl (Nat.le_of_ble_eq_true rfl) rfl rfl dX8_laysAll_42 (fun v13 v13l v13u v13w => ?_)
        have v13S : v13.toInt = S := by rw [v13w, hvx.fy (j := 6) (by omega), ← hv.fy (j := 6) (by omega)]; exact hS.symm
        refine gi_iald (pc := 45) (lo := 0) (hi := 40) (len := 2) hvx (ti_rfl v13) rfl (by omega) (by omega) (fun _ => rfl) dX8_laysAll_45 (fun v14 v14l v14u v14w => ?_)
        have v14V : v14.toInt = V h.2.1 75 S := by rw [v14w, v13S, hvx.fz (c := 75) (by omega) (by omega), ← hv.fz (c := 75) (by omega) (by omega)]; rfl
        refine gf_icmp_ge (pc := 46) (tgt := 78) (ti_rfl l1) (ti_rfl v14) (by decide) dX8_laysAll_46 (fun q15 => ?_) (fun q15 => ?_)
        ·
          exact gi_vret (pc := 78) ⟨rfl, hvx⟩ hvx dX8_laysAll_78
        ·
          refine go_aload_n (pc := 49) rfl dX8_laysAll_49 ?_
          refine go_invV (pc := 50) (sl := 0) (s_X8_empties_x l (d + 6) hvx ) mL_X8_356 iM_X8_empties sM_X8_empties (hvx.sh rfl) rfl rfl rfl (Nat.le_of_ble_eq_true rfl) (show d + 6 + 1 + 1 ≤ d + 8 by omega) (show 8 + (2 + 11) + 40 * (d + 6 + 1) ≤ 40 * (d + 8) by omega) (g_c0 hvx.ln) (Nat.le_of_ble_eq_true rfl) dX8_laysAll_50 ?_
          intro r h16 hq _
          obtain ⟨rfl, hv16, f17, f18⟩ := hq
          refine go_aload_n (pc := 53) rfl dX8_laysAll_53 ?_
          refine go_iload_n (pc := 54) rfl dX8_laysAll_54 ?_
          refine go_invV (pc := 55) (sl := 0) (s_X8_reachAll l (d + 4) hv16 l1 (by rw [show (l1 : Int32).toInt = l1.toInt from (ti_rfl l1)]; omega) (by rw [show (l1 : Int32).toInt = l1.toInt from (ti_rfl l1)]; omega) (EM.hw f17)) mL_X8_372 iM_X8_reachAll sM_X8_reachAll (hv16.sh rfl) rfl rfl rfl (Nat.le_of_ble_eq_true rfl) (show d + 4 + 3 + 1 ≤ d + 8 by omega) (show 8 + (3 + 11) + 40 * (d + 4 + 3) ≤ 40 * (d + 8) by omega) (g_c0 hv16.ln) (Nat.le_of_ble_eq_true rfl) dX8_laysAll_55 ?_
          intro r h19 hq _
          obtain ⟨rfl, hv19, f20⟩ := hq
          refine go_aload_n (pc := 58) rfl dX8_laysAll_58 ?_
          refine go_invV (pc := 59) (sl := 0) (s_X8_goesBack l (d + 2) hv19 f20.1 (CKF.ve (VE.of hv hv19) ckf)) mL_X8_375 iM_X8_goesBack sM_X8_goesBack (hv19.sh rfl) rfl rfl rfl (Nat.le_of_ble_eq_true rfl) (show d + 2 + 5 + 1 ≤ d + 8 by omega) (show 8 + (2 + 11) + 40 * (d + 2 + 5) ≤ 40 * (d + 8) by omega) (g_c0 hv19.ln) (Nat.le_of_ble_eq_true rfl) dX8_laysAll_59 ?_
          intro r h21 hq _
          obtain ⟨rfl, hv21, f22, f23⟩ := hq
          refine go_aload_n (pc := 62) rfl dX8_laysAll_62 ?_
          refine gi_getF (pc := 63) (q := 111) hv21 fL_X8_133 rfl (Nat.le_of_ble_eq_true rfl) rfl (hv21.rf (by decide)) dX8_laysAll_63 ?_
          refine go_iload_n (pc := 66) rfl dX8_laysAll_66 ?_
          refine go_aload_n (pc := 67) rfl dX8_laysAll_67 ?_
          refine go_invV (pc := 68) (sl := 0) (s_X8_inSet l (d + 5) hv21 ) mL_X8_378 iM_X8_inSet sM_X8_inSet (hv21.sh rfl) rfl rfl rfl (Nat.le_of_ble_eq_true rfl) (show d + 5 + 2 + 1 ≤ d + 8 by omega) (show 8 + (5 + 11) + 40 * (d + 5 + 2) ≤ 40 * (d + 8) by omega) (g_c0 hv21.ln) (Nat.le_of_ble_eq_true rfl) dX8_laysAll_68 ?_
          intro r h24 hq _
          obtain ⟨v25, rfl, rfl⟩ := hq
          refine gi_last (pc := 71) (len := 40) hv21 (ti_rfl l1) rfl (by omega) (by omega) dX8_laysAll_71 (fun h26 hv26 hv26e => ?_)
          refine gf_iinc (pc := 72) (Nat.le_of_ble_eq_true rfl) rfl (ti_rfl l1) (ti_c (by decide)) (by omega) (by omega) dX8_laysAll_72 (fun v27 e28 => ?_)
          refine go_lv (lv2 := [(0, .ref 70), (1, .int v27)]) rfl ?_
          refine go_goto (pc := 75) (tgt := 36) (by decide) dX8_laysAll_75 ?_
          have z29 : (v27 : Int32).toInt = (l1.toInt + 1) := e28
          exact go_lv rfl (ih.2 v27 h26 hv26 (by omega) (by omega) (by omega))
  refine go_iconst (pc := 0) (v := 0) (by decide) dX8_laysAll_0 ?_
  refine go_istore_n (pc := 1) (Nat.le_of_ble_eq_true rfl) dX8_laysAll_1 (go_lv (lv2 := [(0, .ref 70), (1, .int 0)]) rfl ?_)
  have z30 : (0 : Int32).toInt = 0 := (ti_c (v := 0) (a := 0) (by decide))
  exact go_lv rfl ((key 33490).1 0 h hv (by omega) (by omega) (by omega))
