theorem dX6_wire_0 : decode cX6_wire 0 = .ok (.aload_n 0, 1) := by decide +kernel
theorem dX6_wire_1 : decode cX6_wire 1 = .ok (.aload_n 1, 1) := by decide +kernel
theorem dX6_wire_2 : decode cX6_wire 2 = .ok (.putfield 15, 3) := by decide +kernel
theorem dX6_wire_5 : decode cX6_wire 5 = .ok (.iconst 0, 1) := by decide +kernel
theorem dX6_wire_6 : decode cX6_wire 6 = .ok (.istore_n 2, 1) := by decide +kernel
theorem dX6_wire_7 : decode cX6_wire 7 = .ok (.iload_n 2, 1) := by decide +kernel
theorem dX6_wire_8 : decode cX6_wire 8 = .ok (.aload_n 0, 1) := by decide +kernel
theorem dX6_wire_9 : decode cX6_wire 9 = .ok (.getfield 15, 3) := by decide +kernel
theorem dX6_wire_12 : decode cX6_wire 12 = .ok (.getfield 19, 3) := by decide +kernel
theorem dX6_wire_15 : decode cX6_wire 15 = .ok (.if_icmp .ge 39, 3) := by decide +kernel
theorem dX6_wire_18 : decode cX6_wire 18 = .ok (.aload_n 0, 1) := by decide +kernel
theorem dX6_wire_19 : decode cX6_wire 19 = .ok (.getfield 9, 3) := by decide +kernel
theorem dX6_wire_22 : decode cX6_wire 22 = .ok (.getfield 25, 3) := by decide +kernel
theorem dX6_wire_25 : decode cX6_wire 25 = .ok (.iload_n 2, 1) := by decide +kernel
theorem dX6_wire_26 : decode cX6_wire 26 = .ok (.iaload, 1) := by decide +kernel
theorem dX6_wire_27 : decode cX6_wire 27 = .ok (.istore_n 3, 1) := by decide +kernel
theorem dX6_wire_28 : decode cX6_wire 28 = .ok (.aload_n 0, 1) := by decide +kernel
theorem dX6_wire_29 : decode cX6_wire 29 = .ok (.getfield 15, 3) := by decide +kernel
theorem dX6_wire_32 : decode cX6_wire 32 = .ok (.getfield 31, 3) := by decide +kernel
theorem dX6_wire_35 : decode cX6_wire 35 = .ok (.iload_n 2, 1) := by decide +kernel
theorem dX6_wire_36 : decode cX6_wire 36 = .ok (.aload_n 0, 1) := by decide +kernel
theorem dX6_wire_37 : decode cX6_wire 37 = .ok (.iload_n 3, 1) := by decide +kernel
theorem dX6_wire_38 : decode cX6_wire 38 = .ok (.bipush 40, 2) := by decide +kernel
theorem dX6_wire_40 : decode cX6_wire 40 = .ok (.iload_n 2, 1) := by decide +kernel
theorem dX6_wire_41 : decode cX6_wire 41 = .ok (.iadd, 1) := by decide +kernel
theorem dX6_wire_42 : decode cX6_wire 42 = .ok (.iconst (-1), 1) := by decide +kernel
theorem dX6_wire_43 : decode cX6_wire 43 = .ok (.iconst 0, 1) := by decide +kernel
theorem dX6_wire_44 : decode cX6_wire 44 = .ok (.invokevirtual 34, 3) := by decide +kernel
theorem dX6_wire_47 : decode cX6_wire 47 = .ok (.iastore, 1) := by decide +kernel
theorem dX6_wire_48 : decode cX6_wire 48 = .ok (.iinc 2 1, 3) := by decide +kernel
theorem dX6_wire_51 : decode cX6_wire 51 = .ok (.goto (-44), 3) := by decide +kernel
theorem dX6_wire_54 : decode cX6_wire 54 = .ok (.return_, 1) := by decide +kernel
theorem dX6_wireBlock_0 : decode cX6_wireBlock 0 = .ok (.iload_n 2, 1) := by decide +kernel
theorem dX6_wireBlock_1 : decode cX6_wireBlock 1 = .ok (.istore 5, 2) := by decide +kernel
theorem dX6_wireBlock_3 : decode cX6_wireBlock 3 = .ok (.iload 4, 2) := by decide +kernel
theorem dX6_wireBlock_5 : decode cX6_wireBlock 5 = .ok (.bipush 6, 2) := by decide +kernel
theorem dX6_wireBlock_7 : decode cX6_wireBlock 7 = .ok (.if_icmp .le 7, 3) := by decide +kernel
theorem dX6_wireBlock_10 : decode cX6_wireBlock 10 = .ok (.iconst (-1), 1) := by decide +kernel
theorem dX6_wireBlock_11 : decode cX6_wireBlock 11 = .ok (.goto 4, 3) := by decide +kernel
theorem dX6_wireBlock_14 : decode cX6_wireBlock 14 = .ok (.iload_n 1, 1) := by decide +kernel
theorem dX6_wireBlock_15 : decode cX6_wireBlock 15 = .ok (.istore 6, 2) := by decide +kernel
theorem dX6_wireBlock_17 : decode cX6_wireBlock 17 = .ok (.iconst 0, 1) := by decide +kernel
theorem dX6_wireBlock_18 : decode cX6_wireBlock 18 = .ok (.istore 7, 2) := by decide +kernel
theorem dX6_wireBlock_20 : decode cX6_wireBlock 20 = .ok (.iload 7, 2) := by decide +kernel
theorem dX6_wireBlock_22 : decode cX6_wireBlock 22 = .ok (.sipush 128, 3) := by decide +kernel
theorem dX6_wireBlock_25 : decode cX6_wireBlock 25 = .ok (.if_icmp .ge 69, 3) := by decide +kernel
theorem dX6_wireBlock_28 : decode cX6_wireBlock 28 = .ok (.iload 6, 2) := by decide +kernel
theorem dX6_wireBlock_30 : decode cX6_wireBlock 30 = .ok (.ifCond .lt 64, 3) := by decide +kernel
theorem dX6_wireBlock_33 : decode cX6_wireBlock 33 = .ok (.aload_n 0, 1) := by decide +kernel
theorem dX6_wireBlock_34 : decode cX6_wireBlock 34 = .ok (.getfield 9, 3) := by decide +kernel
theorem dX6_wireBlock_37 : decode cX6_wireBlock 37 = .ok (.getfield 38, 3) := by decide +kernel
theorem dX6_wireBlock_40 : decode cX6_wireBlock 40 = .ok (.iload 6, 2) := by decide +kernel
theorem dX6_wireBlock_42 : decode cX6_wireBlock 42 = .ok (.iaload, 1) := by decide +kernel
theorem dX6_wireBlock_43 : decode cX6_wireBlock 43 = .ok (.iconst (-1), 1) := by decide +kernel
theorem dX6_wireBlock_44 : decode cX6_wireBlock 44 = .ok (.if_icmp .ne 19, 3) := by decide +kernel
theorem dX6_wireBlock_47 : decode cX6_wireBlock 47 = .ok (.aload_n 0, 1) := by decide +kernel
theorem dX6_wireBlock_48 : decode cX6_wireBlock 48 = .ok (.iload 6, 2) := by decide +kernel
theorem dX6_wireBlock_50 : decode cX6_wireBlock 50 = .ok (.iload 5, 2) := by decide +kernel
theorem dX6_wireBlock_52 : decode cX6_wireBlock 52 = .ok (.iload_n 3, 1) := by decide +kernel
theorem dX6_wireBlock_53 : decode cX6_wireBlock 53 = .ok (.iload 4, 2) := by decide +kernel
theorem dX6_wireBlock_55 : decode cX6_wireBlock 55 = .ok (.invokevirtual 41, 3) := by decide +kernel
theorem dX6_wireBlock_58 : decode cX6_wireBlock 58 = .ok (.istore 5, 2) := by decide +kernel
theorem dX6_wireBlock_60 : decode cX6_wireBlock 60 = .ok (.goto 16, 3) := by decide +kernel
theorem dX6_wireBlock_63 : decode cX6_wireBlock 63 = .ok (.aload_n 0, 1) := by decide +kernel
theorem dX6_wireBlock_64 : decode cX6_wireBlock 64 = .ok (.iload 6, 2) := by decide +kernel
theorem dX6_wireBlock_66 : decode cX6_wireBlock 66 = .ok (.iload 5, 2) := by decide +kernel
theorem dX6_wireBlock_68 : decode cX6_wireBlock 68 = .ok (.iload_n 3, 1) := by decide +kernel
theorem dX6_wireBlock_69 : decode cX6_wireBlock 69 = .ok (.iload 4, 2) := by decide +kernel
theorem dX6_wireBlock_71 : decode cX6_wireBlock 71 = .ok (.invokevirtual 44, 3) := by decide +kernel
theorem dX6_wireBlock_74 : decode cX6_wireBlock 74 = .ok (.istore 5, 2) := by decide +kernel
theorem dX6_wireBlock_76 : decode cX6_wireBlock 76 = .ok (.aload_n 0, 1) := by decide +kernel
theorem dX6_wireBlock_77 : decode cX6_wireBlock 77 = .ok (.getfield 9, 3) := by decide +kernel
theorem dX6_wireBlock_80 : decode cX6_wireBlock 80 = .ok (.getfield 47, 3) := by decide +kernel
theorem dX6_wireBlock_83 : decode cX6_wireBlock 83 = .ok (.iload 6, 2) := by decide +kernel
theorem dX6_wireBlock_85 : decode cX6_wireBlock 85 = .ok (.iaload, 1) := by decide +kernel
theorem dX6_wireBlock_86 : decode cX6_wireBlock 86 = .ok (.istore 6, 2) := by decide +kernel
theorem dX6_wireBlock_88 : decode cX6_wireBlock 88 = .ok (.iinc 7 1, 3) := by decide +kernel
theorem dX6_wireBlock_91 : decode cX6_wireBlock 91 = .ok (.goto (-71), 3) := by decide +kernel
theorem dX6_wireBlock_94 : decode cX6_wireBlock 94 = .ok (.iload 5, 2) := by decide +kernel
theorem dX6_wireBlock_96 : decode cX6_wireBlock 96 = .ok (.ireturn, 1) := by decide +kernel
theorem dX6_wireStatement_0 : decode cX6_wireStatement 0 = .ok (.aload_n 0, 1) := by decide +kernel
theorem dX6_wireStatement_1 : decode cX6_wireStatement 1 = .ok (.getfield 9, 3) := by decide +kernel
theorem dX6_wireStatement_4 : decode cX6_wireStatement 4 = .ok (.getfield 38, 3) := by decide +kernel
theorem dX6_wireStatement_7 : decode cX6_wireStatement 7 = .ok (.iload_n 1, 1) := by decide +kernel
theorem dX6_wireStatement_8 : decode cX6_wireStatement 8 = .ok (.iaload, 1) := by decide +kernel
theorem dX6_wireStatement_9 : decode cX6_wireStatement 9 = .ok (.istore 5, 2) := by decide +kernel
theorem dX6_wireStatement_11 : decode cX6_wireStatement 11 = .ok (.bipush 40, 2) := by decide +kernel
theorem dX6_wireStatement_13 : decode cX6_wireStatement 13 = .ok (.aload_n 0, 1) := by decide +kernel
theorem dX6_wireStatement_14 : decode cX6_wireStatement 14 = .ok (.getfield 15, 3) := by decide +kernel
theorem dX6_wireStatement_17 : decode cX6_wireStatement 17 = .ok (.getfield 62, 3) := by decide +kernel
theorem dX6_wireStatement_20 : decode cX6_wireStatement 20 = .ok (.iload 5, 2) := by decide +kernel
theorem dX6_wireStatement_22 : decode cX6_wireStatement 22 = .ok (.iaload, 1) := by decide +kernel
theorem dX6_wireStatement_23 : decode cX6_wireStatement 23 = .ok (.iadd, 1) := by decide +kernel
theorem dX6_wireStatement_24 : decode cX6_wireStatement 24 = .ok (.istore 6, 2) := by decide +kernel
theorem dX6_wireStatement_26 : decode cX6_wireStatement 26 = .ok (.aload_n 0, 1) := by decide +kernel
theorem dX6_wireStatement_27 : decode cX6_wireStatement 27 = .ok (.getfield 15, 3) := by decide +kernel
theorem dX6_wireStatement_30 : decode cX6_wireStatement 30 = .ok (.getfield 65, 3) := by decide +kernel
theorem dX6_wireStatement_33 : decode cX6_wireStatement 33 = .ok (.iload 5, 2) := by decide +kernel
theorem dX6_wireStatement_35 : decode cX6_wireStatement 35 = .ok (.iload_n 2, 1) := by decide +kernel
theorem dX6_wireStatement_36 : decode cX6_wireStatement 36 = .ok (.iastore, 1) := by decide +kernel
theorem dX6_wireStatement_37 : decode cX6_wireStatement 37 = .ok (.aload_n 0, 1) := by decide +kernel
theorem dX6_wireStatement_38 : decode cX6_wireStatement 38 = .ok (.getfield 15, 3) := by decide +kernel
theorem dX6_wireStatement_41 : decode cX6_wireStatement 41 = .ok (.getfield 68, 3) := by decide +kernel
theorem dX6_wireStatement_44 : decode cX6_wireStatement 44 = .ok (.iload 5, 2) := by decide +kernel
theorem dX6_wireStatement_46 : decode cX6_wireStatement 46 = .ok (.iload_n 2, 1) := by decide +kernel
theorem dX6_wireStatement_47 : decode cX6_wireStatement 47 = .ok (.iastore, 1) := by decide +kernel
theorem dX6_wireStatement_48 : decode cX6_wireStatement 48 = .ok (.aload_n 0, 1) := by decide +kernel
theorem dX6_wireStatement_49 : decode cX6_wireStatement 49 = .ok (.getfield 15, 3) := by decide +kernel
theorem dX6_wireStatement_52 : decode cX6_wireStatement 52 = .ok (.getfield 71, 3) := by decide +kernel
theorem dX6_wireStatement_55 : decode cX6_wireStatement 55 = .ok (.iload 5, 2) := by decide +kernel
theorem dX6_wireStatement_57 : decode cX6_wireStatement 57 = .ok (.iload_n 3, 1) := by decide +kernel
theorem dX6_wireStatement_58 : decode cX6_wireStatement 58 = .ok (.ifCond .ge 8, 3) := by decide +kernel
theorem dX6_wireStatement_61 : decode cX6_wireStatement 61 = .ok (.iload 6, 2) := by decide +kernel
theorem dX6_wireStatement_63 : decode cX6_wireStatement 63 = .ok (.goto 12, 3) := by decide +kernel
theorem dX6_wireStatement_66 : decode cX6_wireStatement 66 = .ok (.aload_n 0, 1) := by decide +kernel
theorem dX6_wireStatement_67 : decode cX6_wireStatement 67 = .ok (.getfield 9, 3) := by decide +kernel
theorem dX6_wireStatement_70 : decode cX6_wireStatement 70 = .ok (.getfield 53, 3) := by decide +kernel
theorem dX6_wireStatement_73 : decode cX6_wireStatement 73 = .ok (.iload_n 3, 1) := by decide +kernel
theorem dX6_wireStatement_74 : decode cX6_wireStatement 74 = .ok (.iaload, 1) := by decide +kernel
theorem dX6_wireStatement_75 : decode cX6_wireStatement 75 = .ok (.iastore, 1) := by decide +kernel
theorem dX6_wireStatement_76 : decode cX6_wireStatement 76 = .ok (.aload_n 0, 1) := by decide +kernel
theorem dX6_wireStatement_77 : decode cX6_wireStatement 77 = .ok (.getfield 15, 3) := by decide +kernel
theorem dX6_wireStatement_80 : decode cX6_wireStatement 80 = .ok (.getfield 74, 3) := by decide +kernel
theorem dX6_wireStatement_83 : decode cX6_wireStatement 83 = .ok (.iload 5, 2) := by decide +kernel
theorem dX6_wireStatement_85 : decode cX6_wireStatement 85 = .ok (.iload_n 3, 1) := by decide +kernel
theorem dX6_wireStatement_86 : decode cX6_wireStatement 86 = .ok (.ifCond .ge 7, 3) := by decide +kernel
theorem dX6_wireStatement_89 : decode cX6_wireStatement 89 = .ok (.iconst (-1), 1) := by decide +kernel
theorem dX6_wireStatement_90 : decode cX6_wireStatement 90 = .ok (.goto 12, 3) := by decide +kernel
theorem dX6_wireStatement_93 : decode cX6_wireStatement 93 = .ok (.aload_n 0, 1) := by decide +kernel
theorem dX6_wireStatement_94 : decode cX6_wireStatement 94 = .ok (.getfield 9, 3) := by decide +kernel
theorem dX6_wireStatement_97 : decode cX6_wireStatement 97 = .ok (.getfield 77, 3) := by decide +kernel
theorem dX6_wireStatement_100 : decode cX6_wireStatement 100 = .ok (.iload_n 3, 1) := by decide +kernel
theorem dX6_wireStatement_101 : decode cX6_wireStatement 101 = .ok (.iaload, 1) := by decide +kernel
theorem dX6_wireStatement_102 : decode cX6_wireStatement 102 = .ok (.iastore, 1) := by decide +kernel
theorem dX6_wireStatement_103 : decode cX6_wireStatement 103 = .ok (.aload_n 0, 1) := by decide +kernel
theorem dX6_wireStatement_104 : decode cX6_wireStatement 104 = .ok (.getfield 15, 3) := by decide +kernel
theorem dX6_wireStatement_107 : decode cX6_wireStatement 107 = .ok (.getfield 80, 3) := by decide +kernel
theorem dX6_wireStatement_110 : decode cX6_wireStatement 110 = .ok (.iload 5, 2) := by decide +kernel
theorem dX6_wireStatement_112 : decode cX6_wireStatement 112 = .ok (.iload_n 3, 1) := by decide +kernel
theorem dX6_wireStatement_113 : decode cX6_wireStatement 113 = .ok (.ifCond .ge 8, 3) := by decide +kernel
theorem dX6_wireStatement_116 : decode cX6_wireStatement 116 = .ok (.bipush (-2), 2) := by decide +kernel
theorem dX6_wireStatement_118 : decode cX6_wireStatement 118 = .ok (.goto 12, 3) := by decide +kernel
theorem dX6_wireStatement_121 : decode cX6_wireStatement 121 = .ok (.aload_n 0, 1) := by decide +kernel
theorem dX6_wireStatement_122 : decode cX6_wireStatement 122 = .ok (.getfield 9, 3) := by decide +kernel
theorem dX6_wireStatement_125 : decode cX6_wireStatement 125 = .ok (.getfield 56, 3) := by decide +kernel
theorem dX6_wireStatement_128 : decode cX6_wireStatement 128 = .ok (.iload_n 3, 1) := by decide +kernel
theorem dX6_wireStatement_129 : decode cX6_wireStatement 129 = .ok (.iaload, 1) := by decide +kernel
theorem dX6_wireStatement_130 : decode cX6_wireStatement 130 = .ok (.iastore, 1) := by decide +kernel
theorem dX6_wireStatement_131 : decode cX6_wireStatement 131 = .ok (.aload_n 0, 1) := by decide +kernel
theorem dX6_wireStatement_132 : decode cX6_wireStatement 132 = .ok (.getfield 15, 3) := by decide +kernel
theorem dX6_wireStatement_135 : decode cX6_wireStatement 135 = .ok (.getfield 81, 3) := by decide +kernel
theorem dX6_wireStatement_138 : decode cX6_wireStatement 138 = .ok (.iload 5, 2) := by decide +kernel
theorem dX6_wireStatement_140 : decode cX6_wireStatement 140 = .ok (.iaload, 1) := by decide +kernel
theorem dX6_wireStatement_141 : decode cX6_wireStatement 141 = .ok (.iconst 5, 1) := by decide +kernel
theorem dX6_wireStatement_142 : decode cX6_wireStatement 142 = .ok (.if_icmp .ne 18, 3) := by decide +kernel
theorem dX6_wireStatement_145 : decode cX6_wireStatement 145 = .ok (.aload_n 0, 1) := by decide +kernel
theorem dX6_wireStatement_146 : decode cX6_wireStatement 146 = .ok (.getfield 15, 3) := by decide +kernel
theorem dX6_wireStatement_149 : decode cX6_wireStatement 149 = .ok (.getfield 71, 3) := by decide +kernel
theorem dX6_wireStatement_152 : decode cX6_wireStatement 152 = .ok (.iload 5, 2) := by decide +kernel
theorem dX6_wireStatement_154 : decode cX6_wireStatement 154 = .ok (.iload 6, 2) := by decide +kernel
theorem dX6_wireStatement_156 : decode cX6_wireStatement 156 = .ok (.iastore, 1) := by decide +kernel
theorem dX6_wireStatement_157 : decode cX6_wireStatement 157 = .ok (.goto 122, 3) := by decide +kernel
theorem dX6_wireStatement_160 : decode cX6_wireStatement 160 = .ok (.aload_n 0, 1) := by decide +kernel
theorem dX6_wireStatement_161 : decode cX6_wireStatement 161 = .ok (.getfield 15, 3) := by decide +kernel
theorem dX6_wireStatement_164 : decode cX6_wireStatement 164 = .ok (.getfield 81, 3) := by decide +kernel
theorem dX6_wireStatement_167 : decode cX6_wireStatement 167 = .ok (.iload 5, 2) := by decide +kernel
theorem dX6_wireStatement_169 : decode cX6_wireStatement 169 = .ok (.iaload, 1) := by decide +kernel
theorem dX6_wireStatement_170 : decode cX6_wireStatement 170 = .ok (.iconst 3, 1) := by decide +kernel
theorem dX6_wireStatement_171 : decode cX6_wireStatement 171 = .ok (.if_icmp .ne 36, 3) := by decide +kernel
theorem dX6_wireStatement_174 : decode cX6_wireStatement 174 = .ok (.aload_n 0, 1) := by decide +kernel
theorem dX6_wireStatement_175 : decode cX6_wireStatement 175 = .ok (.getfield 15, 3) := by decide +kernel
theorem dX6_wireStatement_178 : decode cX6_wireStatement 178 = .ok (.getfield 71, 3) := by decide +kernel
theorem dX6_wireStatement_181 : decode cX6_wireStatement 181 = .ok (.iload 5, 2) := by decide +kernel
theorem dX6_wireStatement_183 : decode cX6_wireStatement 183 = .ok (.aload_n 0, 1) := by decide +kernel
theorem dX6_wireStatement_184 : decode cX6_wireStatement 184 = .ok (.aload_n 0, 1) := by decide +kernel
theorem dX6_wireStatement_185 : decode cX6_wireStatement 185 = .ok (.getfield 9, 3) := by decide +kernel
theorem dX6_wireStatement_188 : decode cX6_wireStatement 188 = .ok (.getfield 59, 3) := by decide +kernel
theorem dX6_wireStatement_191 : decode cX6_wireStatement 191 = .ok (.iload_n 1, 1) := by decide +kernel
theorem dX6_wireStatement_192 : decode cX6_wireStatement 192 = .ok (.iaload, 1) := by decide +kernel
theorem dX6_wireStatement_193 : decode cX6_wireStatement 193 = .ok (.iload 5, 2) := by decide +kernel
theorem dX6_wireStatement_195 : decode cX6_wireStatement 195 = .ok (.iload_n 3, 1) := by decide +kernel
theorem dX6_wireStatement_196 : decode cX6_wireStatement 196 = .ok (.iload 4, 2) := by decide +kernel
theorem dX6_wireStatement_198 : decode cX6_wireStatement 198 = .ok (.iconst 1, 1) := by decide +kernel
theorem dX6_wireStatement_199 : decode cX6_wireStatement 199 = .ok (.iadd, 1) := by decide +kernel
theorem dX6_wireStatement_200 : decode cX6_wireStatement 200 = .ok (.invokevirtual 34, 3) := by decide +kernel
theorem dX6_wireStatement_203 : decode cX6_wireStatement 203 = .ok (.iastore, 1) := by decide +kernel
theorem dX6_wireStatement_204 : decode cX6_wireStatement 204 = .ok (.goto 75, 3) := by decide +kernel
theorem dX6_wireStatement_207 : decode cX6_wireStatement 207 = .ok (.aload_n 0, 1) := by decide +kernel
theorem dX6_wireStatement_208 : decode cX6_wireStatement 208 = .ok (.getfield 15, 3) := by decide +kernel
theorem dX6_wireStatement_211 : decode cX6_wireStatement 211 = .ok (.getfield 81, 3) := by decide +kernel
theorem dX6_wireStatement_214 : decode cX6_wireStatement 214 = .ok (.iload 5, 2) := by decide +kernel
theorem dX6_wireStatement_216 : decode cX6_wireStatement 216 = .ok (.iaload, 1) := by decide +kernel
theorem dX6_wireStatement_217 : decode cX6_wireStatement 217 = .ok (.iconst 2, 1) := by decide +kernel
theorem dX6_wireStatement_218 : decode cX6_wireStatement 218 = .ok (.if_icmp .ne 61, 3) := by decide +kernel
theorem dX6_wireStatement_221 : decode cX6_wireStatement 221 = .ok (.aload_n 0, 1) := by decide +kernel
theorem dX6_wireStatement_222 : decode cX6_wireStatement 222 = .ok (.getfield 15, 3) := by decide +kernel
theorem dX6_wireStatement_225 : decode cX6_wireStatement 225 = .ok (.getfield 71, 3) := by decide +kernel
theorem dX6_wireStatement_228 : decode cX6_wireStatement 228 = .ok (.iload 5, 2) := by decide +kernel
theorem dX6_wireStatement_230 : decode cX6_wireStatement 230 = .ok (.aload_n 0, 1) := by decide +kernel
theorem dX6_wireStatement_231 : decode cX6_wireStatement 231 = .ok (.aload_n 0, 1) := by decide +kernel
theorem dX6_wireStatement_232 : decode cX6_wireStatement 232 = .ok (.getfield 9, 3) := by decide +kernel
theorem dX6_wireStatement_235 : decode cX6_wireStatement 235 = .ok (.getfield 59, 3) := by decide +kernel
theorem dX6_wireStatement_238 : decode cX6_wireStatement 238 = .ok (.iload_n 1, 1) := by decide +kernel
theorem dX6_wireStatement_239 : decode cX6_wireStatement 239 = .ok (.iaload, 1) := by decide +kernel
theorem dX6_wireStatement_240 : decode cX6_wireStatement 240 = .ok (.iload_n 2, 1) := by decide +kernel
theorem dX6_wireStatement_241 : decode cX6_wireStatement 241 = .ok (.iload_n 3, 1) := by decide +kernel
theorem dX6_wireStatement_242 : decode cX6_wireStatement 242 = .ok (.iload 4, 2) := by decide +kernel
theorem dX6_wireStatement_244 : decode cX6_wireStatement 244 = .ok (.iconst 1, 1) := by decide +kernel
theorem dX6_wireStatement_245 : decode cX6_wireStatement 245 = .ok (.iadd, 1) := by decide +kernel
theorem dX6_wireStatement_246 : decode cX6_wireStatement 246 = .ok (.invokevirtual 34, 3) := by decide +kernel
theorem dX6_wireStatement_249 : decode cX6_wireStatement 249 = .ok (.iastore, 1) := by decide +kernel
theorem dX6_wireStatement_250 : decode cX6_wireStatement 250 = .ok (.aload_n 0, 1) := by decide +kernel
theorem dX6_wireStatement_251 : decode cX6_wireStatement 251 = .ok (.getfield 15, 3) := by decide +kernel
theorem dX6_wireStatement_254 : decode cX6_wireStatement 254 = .ok (.getfield 68, 3) := by decide +kernel
theorem dX6_wireStatement_257 : decode cX6_wireStatement 257 = .ok (.iload 5, 2) := by decide +kernel
theorem dX6_wireStatement_259 : decode cX6_wireStatement 259 = .ok (.aload_n 0, 1) := by decide +kernel
theorem dX6_wireStatement_260 : decode cX6_wireStatement 260 = .ok (.aload_n 0, 1) := by decide +kernel
theorem dX6_wireStatement_261 : decode cX6_wireStatement 261 = .ok (.getfield 9, 3) := by decide +kernel
theorem dX6_wireStatement_264 : decode cX6_wireStatement 264 = .ok (.getfield 50, 3) := by decide +kernel
theorem dX6_wireStatement_267 : decode cX6_wireStatement 267 = .ok (.iload_n 1, 1) := by decide +kernel
theorem dX6_wireStatement_268 : decode cX6_wireStatement 268 = .ok (.iaload, 1) := by decide +kernel
theorem dX6_wireStatement_269 : decode cX6_wireStatement 269 = .ok (.iload_n 2, 1) := by decide +kernel
theorem dX6_wireStatement_270 : decode cX6_wireStatement 270 = .ok (.iload_n 3, 1) := by decide +kernel
theorem dX6_wireStatement_271 : decode cX6_wireStatement 271 = .ok (.iload 4, 2) := by decide +kernel
theorem dX6_wireStatement_273 : decode cX6_wireStatement 273 = .ok (.iconst 1, 1) := by decide +kernel
theorem dX6_wireStatement_274 : decode cX6_wireStatement 274 = .ok (.iadd, 1) := by decide +kernel
theorem dX6_wireStatement_275 : decode cX6_wireStatement 275 = .ok (.invokevirtual 34, 3) := by decide +kernel
theorem dX6_wireStatement_278 : decode cX6_wireStatement 278 = .ok (.iastore, 1) := by decide +kernel
theorem dX6_wireStatement_279 : decode cX6_wireStatement 279 = .ok (.iload 5, 2) := by decide +kernel
theorem dX6_wireStatement_281 : decode cX6_wireStatement 281 = .ok (.ireturn, 1) := by decide +kernel
theorem dX6_wireTry_0 : decode cX6_wireTry 0 = .ok (.aload_n 0, 1) := by decide +kernel
theorem dX6_wireTry_1 : decode cX6_wireTry 1 = .ok (.aload_n 0, 1) := by decide +kernel
theorem dX6_wireTry_2 : decode cX6_wireTry 2 = .ok (.getfield 9, 3) := by decide +kernel
theorem dX6_wireTry_5 : decode cX6_wireTry 5 = .ok (.getfield 50, 3) := by decide +kernel
theorem dX6_wireTry_8 : decode cX6_wireTry 8 = .ok (.iload_n 1, 1) := by decide +kernel
theorem dX6_wireTry_9 : decode cX6_wireTry 9 = .ok (.iaload, 1) := by decide +kernel
theorem dX6_wireTry_10 : decode cX6_wireTry 10 = .ok (.iload_n 2, 1) := by decide +kernel
theorem dX6_wireTry_11 : decode cX6_wireTry 11 = .ok (.iload_n 3, 1) := by decide +kernel
theorem dX6_wireTry_12 : decode cX6_wireTry 12 = .ok (.iload 4, 2) := by decide +kernel
theorem dX6_wireTry_14 : decode cX6_wireTry 14 = .ok (.iconst 1, 1) := by decide +kernel
theorem dX6_wireTry_15 : decode cX6_wireTry 15 = .ok (.iadd, 1) := by decide +kernel
theorem dX6_wireTry_16 : decode cX6_wireTry 16 = .ok (.invokevirtual 34, 3) := by decide +kernel
theorem dX6_wireTry_19 : decode cX6_wireTry 19 = .ok (.istore 5, 2) := by decide +kernel
theorem dX6_wireTry_21 : decode cX6_wireTry 21 = .ok (.aload_n 0, 1) := by decide +kernel
theorem dX6_wireTry_22 : decode cX6_wireTry 22 = .ok (.getfield 9, 3) := by decide +kernel
theorem dX6_wireTry_25 : decode cX6_wireTry 25 = .ok (.getfield 53, 3) := by decide +kernel
theorem dX6_wireTry_28 : decode cX6_wireTry 28 = .ok (.iload_n 1, 1) := by decide +kernel
theorem dX6_wireTry_29 : decode cX6_wireTry 29 = .ok (.iload 5, 2) := by decide +kernel
theorem dX6_wireTry_31 : decode cX6_wireTry 31 = .ok (.iastore, 1) := by decide +kernel
theorem dX6_wireTry_32 : decode cX6_wireTry 32 = .ok (.aload_n 0, 1) := by decide +kernel
theorem dX6_wireTry_33 : decode cX6_wireTry 33 = .ok (.getfield 9, 3) := by decide +kernel
theorem dX6_wireTry_36 : decode cX6_wireTry 36 = .ok (.getfield 56, 3) := by decide +kernel
theorem dX6_wireTry_39 : decode cX6_wireTry 39 = .ok (.iload_n 1, 1) := by decide +kernel
theorem dX6_wireTry_40 : decode cX6_wireTry 40 = .ok (.iload 5, 2) := by decide +kernel
theorem dX6_wireTry_42 : decode cX6_wireTry 42 = .ok (.iload_n 2, 1) := by decide +kernel
theorem dX6_wireTry_43 : decode cX6_wireTry 43 = .ok (.if_icmp .ne 8, 3) := by decide +kernel
theorem dX6_wireTry_46 : decode cX6_wireTry 46 = .ok (.bipush (-2), 2) := by decide +kernel
theorem dX6_wireTry_48 : decode cX6_wireTry 48 = .ok (.goto 5, 3) := by decide +kernel
theorem dX6_wireTry_51 : decode cX6_wireTry 51 = .ok (.iload 5, 2) := by decide +kernel
theorem dX6_wireTry_53 : decode cX6_wireTry 53 = .ok (.iastore, 1) := by decide +kernel
theorem dX6_wireTry_54 : decode cX6_wireTry 54 = .ok (.aload_n 0, 1) := by decide +kernel
theorem dX6_wireTry_55 : decode cX6_wireTry 55 = .ok (.aload_n 0, 1) := by decide +kernel
theorem dX6_wireTry_56 : decode cX6_wireTry 56 = .ok (.getfield 9, 3) := by decide +kernel
theorem dX6_wireTry_59 : decode cX6_wireTry 59 = .ok (.getfield 59, 3) := by decide +kernel
theorem dX6_wireTry_62 : decode cX6_wireTry 62 = .ok (.iload_n 1, 1) := by decide +kernel
theorem dX6_wireTry_63 : decode cX6_wireTry 63 = .ok (.iaload, 1) := by decide +kernel
theorem dX6_wireTry_64 : decode cX6_wireTry 64 = .ok (.iload_n 2, 1) := by decide +kernel
theorem dX6_wireTry_65 : decode cX6_wireTry 65 = .ok (.iload_n 1, 1) := by decide +kernel
theorem dX6_wireTry_66 : decode cX6_wireTry 66 = .ok (.iload 4, 2) := by decide +kernel
theorem dX6_wireTry_68 : decode cX6_wireTry 68 = .ok (.iconst 1, 1) := by decide +kernel
theorem dX6_wireTry_69 : decode cX6_wireTry 69 = .ok (.iadd, 1) := by decide +kernel
theorem dX6_wireTry_70 : decode cX6_wireTry 70 = .ok (.invokevirtual 34, 3) := by decide +kernel
theorem dX6_wireTry_73 : decode cX6_wireTry 73 = .ok (.ireturn, 1) := by decide +kernel
