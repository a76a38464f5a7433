theorem dX6_wire_0 : decode cX6_wire 0 = .ok (.aload_n 0, 1) := by decide +kernel
theorem dX6_wire_1 : decode cX6_wire 1 = .ok (.aload_n 1, 1) := by decide +kernel
theorem dX6_wire_2 : decode cX6_wire 2 = .ok (.putfield 15, 3) := by decide +kernel
theorem dX6_wire_5 : decode cX6_wire 5 = .ok (.iconst 0, 1) := by decide +kernel
theorem dX6_wire_6 : decode cX6_wire 6 = .ok (.istore_n 2, 1) := by decide +kernel
theorem dX6_wire_7 : decode cX6_wire 7 = .ok (.iload_n 2, 1) := by decide +kernel
theorem dX6_wire_8 : decode cX6_wire 8 = .ok (.aload_n 0, 1) := by decide +kernel
theorem dX6_wire_9 : decode cX6_wire 9 = .ok (.getfield 15, 3) := by decide +kernel
theorem dX6_wire_12 : decode cX6_wire 12 = .ok (.getfield 19, 3) := by decide +kernel
theorem dX6_wire_15 : decode cX6_wire 15 = .ok (.if_icmp .ge 39, 3) := by decide +kernel
theorem dX6_wire_18 : decode cX6_wire 18 = .ok (.aload_n 0, 1) := by decide +kernel
theorem dX6_wire_19 : decode cX6_wire 19 = .ok (.getfield 9, 3) := by decide +kernel
theorem dX6_wire_22 : decode cX6_wire 22 = .ok (.getfield 25, 3) := by decide +kernel
theorem dX6_wire_25 : decode cX6_wire 25 = .ok (.iload_n 2, 1) := by decide +kernel
theorem dX6_wire_26 : decode cX6_wire 26 = .ok (.iaload, 1) := by decide +kernel
theorem dX6_wire_27 : decode cX6_wire 27 = .ok (.istore_n 3, 1) := by decide +kernel
theorem dX6_wire_28 : decode cX6_wire 28 = .ok (.aload_n 0, 1) := by decide +kernel
theorem dX6_wire_29 : decode cX6_wire 29 = .ok (.getfield 15, 3) := by decide +kernel
theorem dX6_wire_32 : decode cX6_wire 32 = .ok (.getfield 31, 3) := by decide +kernel
theorem dX6_wire_35 : decode cX6_wire 35 = .ok (.iload_n 2, 1) := by decide +kernel
theorem dX6_wire_36 : decode cX6_wire 36 = .ok (.aload_n 0, 1) := by decide +kernel
theorem dX6_wire_37 : decode cX6_wire 37 = .ok (.iload_n 3, 1) := by decide +kernel
theorem dX6_wire_38 : decode cX6_wire 38 = .ok (.bipush 40, 2) := by decide +kernel
theorem dX6_wire_40 : decode cX6_wire 40 = .ok (.iload_n 2, 1) := by decide +kernel
theorem dX6_wire_41 : decode cX6_wire 41 = .ok (.iadd, 1) := by decide +kernel
theorem dX6_wire_42 : decode cX6_wire 42 = .ok (.iconst (-1), 1) := by decide +kernel
theorem dX6_wire_43 : decode cX6_wire 43 = .ok (.iconst 0, 1) := by decide +kernel
theorem dX6_wire_44 : decode cX6_wire 44 = .ok (.invokevirtual 34, 3) := by decide +kernel
theorem dX6_wire_47 : decode cX6_wire 47 = .ok (.iastore, 1) := by decide +kernel
theorem dX6_wire_48 : decode cX6_wire 48 = .ok (.iinc 2 1, 3) := by decide +kernel
theorem dX6_wire_51 : decode cX6_wire 51 = .ok (.goto (-44), 3) := by decide +kernel
theorem dX6_wire_54 : decode cX6_wire 54 = .ok (.return_, 1) := by decide +kernel
theorem dX6_wireBlock_0 : decode cX6_wireBlock 0 = .ok (.iload_n 2, 1) := by decide +kernel
theorem dX6_wireBlock_1 : decode cX6_wireBlock 1 = .ok (.istore 5, 2) := by decide +kernel
theorem dX6_wireBlock_3 : decode cX6_wireBlock 3 = .ok (.iload 4, 2) := by decide +kernel
theorem dX6_wireBlock_5 : decode cX6_wireBlock 5 = .ok (.bipush 6, 2) := by decide +kernel
theorem dX6_wireBlock_7 : decode cX6_wireBlock 7 = .ok (.if_icmp .le 7, 3) := by decide +kernel
theorem dX6_wireBlock_10 : decode cX6_wireBlock 10 = .ok (.iconst (-1), 1) := by decide +kernel
theorem dX6_wireBlock_11 : decode cX6_wireBlock 11 = .ok (.goto 4, 3) := by decide +kernel
theorem dX6_wireBlock_14 : decode cX6_wireBlock 14 = .ok (.iload_n 1, 1) := by decide +kernel
theorem dX6_wireBlock_15 : decode cX6_wireBlock 15 = .ok (.istore 6, 2) := by decide +kernel
theorem dX6_wireBlock_17 : decode cX6_wireBlock 17 = .ok (.iconst 0, 1) := by decide +kernel
theorem dX6_wireBlock_18 : decode cX6_wireBlock 18 = .ok (.istore 7, 2) := by decide +kernel
theorem dX6_wireBlock_20 : decode cX6_wireBlock 20 = .ok (.iload 7, 2) := by decide +kernel
theorem dX6_wireBlock_22 : decode cX6_wireBlock 22 = .ok (.sipush 128, 3) := by decide +kernel
theorem dX6_wireBlock_25 : decode cX6_wireBlock 25 = .ok (.if_icmp .ge 69, 3) := by decide +kernel
theorem dX6_wireBlock_28 : decode cX6_wireBlock 28 = .ok (.iload 6, 2) := by decide +kernel
theorem dX6_wireBlock_30 : decode cX6_wireBlock 30 = .ok (.ifCond .lt 64, 3) := by decide +kernel
theorem dX6_wireBlock_33 : decode cX6_wireBlock 33 = .ok (.aload_n 0, 1) := by decide +kernel
theorem dX6_wireBlock_34 : decode cX6_wireBlock 34 = .ok (.getfield 9, 3) := by decide +kernel
theorem dX6_wireBlock_37 : decode cX6_wireBlock 37 = .ok (.getfield 38, 3) := by decide +kernel
theorem dX6_wireBlock_40 : decode cX6_wireBlock 40 = .ok (.iload 6, 2) := by decide +kernel
theorem dX6_wireBlock_42 : decode cX6_wireBlock 42 = .ok (.iaload, 1) := by decide +kernel
theorem dX6_wireBlock_43 : decode cX6_wireBlock 43 = .ok (.iconst (-1), 1) := by decide +kernel
theorem dX6_wireBlock_44 : decode cX6_wireBlock 44 = .ok (.if_icmp .ne 19, 3) := by decide +kernel
theorem dX6_wireBlock_47 : decode cX6_wireBlock 47 = .ok (.aload_n 0, 1) := by decide +kernel
theorem dX6_wireBlock_48 : decode cX6_wireBlock 48 = .ok (.iload 6, 2) := by decide +kernel
theorem dX6_wireBlock_50 : decode cX6_wireBlock 50 = .ok (.iload 5, 2) := by decide +kernel
theorem dX6_wireBlock_52 : decode cX6_wireBlock 52 = .ok (.iload_n 3, 1) := by decide +kernel
theorem dX6_wireBlock_53 : decode cX6_wireBlock 53 = .ok (.iload 4, 2) := by decide +kernel
theorem dX6_wireBlock_55 : decode cX6_wireBlock 55 = .ok (.invokevirtual 41, 3) := by decide +kernel
theorem dX6_wireBlock_58 : decode cX6_wireBlock 58 = .ok (.istore 5, 2) := by decide +kernel
theorem dX6_wireBlock_60 : decode cX6_wireBlock 60 = .ok (.goto 16, 3) := by decide +kernel
theorem dX6_wireBlock_63 : decode cX6_wireBlock 63 = .ok (.aload_n 0, 1) := by decide +kernel
theorem dX6_wireBlock_64 : decode cX6_wireBlock 64 = .ok (.iload 6, 2) := by decide +kernel
theorem dX6_wireBlock_66 : decode cX6_wireBlock 66 = .ok (.iload 5, 2) := by decide +kernel
theorem dX6_wireBlock_68 : decode cX6_wireBlock 68 = .ok (.iload_n 3, 1) := by decide +kernel
theorem dX6_wireBlock_69 : decode cX6_wireBlock 69 = .ok (.iload 4, 2) := by decide +kernel
theorem dX6_wireBlock_71 : decode cX6_wireBlock 71 = .ok (.invokevirtual 44, 3) := by decide +kernel
theorem dX6_wireBlock_74 : decode cX6_wireBlock 74 = .ok (.istore 5, 2) := by decide +kernel
theorem dX6_wireBlock_76 : decode cX6_wireBlock 76 = .ok (.aload_n 0, 1) := by decide +kernel
theorem dX6_wireBlock_77 : decode cX6_wireBlock 77 = .ok (.getfield 9, 3) := by decide +kernel
theorem dX6_wireBlock_80 : decode cX6_wireBlock 80 = .ok (.getfield 47, 3) := by decide +kernel
theorem dX6_wireBlock_83 : decode cX6_wireBlock 83 = .ok (.iload 6, 2) := by decide +kernel
theorem dX6_wireBlock_85 : decode cX6_wireBlock 85 = .ok (.iaload, 1) := by decide +kernel
theorem dX6_wireBlock_86 : decode cX6_wireBlock 86 = .ok (.istore 6, 2) := by decide +kernel
theorem dX6_wireBlock_88 : decode cX6_wireBlock 88 = .ok (.iinc 7 1, 3) := by decide +kernel
theorem dX6_wireBlock_91 : decode cX6_wireBlock 91 = .ok (.goto (-71), 3) := by decide +kernel
theorem dX6_wireBlock_94 : decode cX6_wireBlock 94 = .ok (.iload 5, 2) := by decide +kernel
theorem dX6_wireBlock_96 : decode cX6_wireBlock 96 = .ok (.ireturn, 1) := by decide +kernel
theorem dX6_wireStatement_0 : decode cX6_wireStatement 0 = .ok (.aload_n 0, 1) := by decide +kernel
theorem dX6_wireStatement_1 : decode cX6_wireStatement 1 = .ok (.getfield 9, 3) := by decide +kernel
theorem dX6_wireStatement_4 : decode cX6_wireStatement 4 = .ok (.getfield 38, 3) := by decide +kernel
theorem dX6_wireStatement_7 : decode cX6_wireStatement 7 = .ok (.iload_n 1, 1) := by decide +kernel
theorem dX6_wireStatement_8 : decode cX6_wireStatement 8 = .ok (.iaload, 1) := by decide +kernel
theorem dX6_wireStatement_9 : decode cX6_wireStatement 9 = .ok (.istore 5, 2) := by decide +kernel
theorem dX6_wireStatement_11 : decode cX6_wireStatement 11 = .ok (.bipush 40, 2) := by decide +kernel
theorem dX6_wireStatement_13 : decode cX6_wireStatement 13 = .ok (.aload_n 0, 1) := by decide +kernel
theorem dX6_wireStatement_14 : decode cX6_wireStatement 14 = .ok (.getfield 15, 3) := by decide +kernel
theorem dX6_wireStatement_17 : decode cX6_wireStatement 17 = .ok (.getfield 62, 3) := by decide +kernel
theorem dX6_wireStatement_20 : decode cX6_wireStatement 20 = .ok (.iload 5, 2) := by decide +kernel
theorem dX6_wireStatement_22 : decode cX6_wireStatement 22 = .ok (.iaload, 1) := by decide +kernel
theorem dX6_wireStatement_23 : decode cX6_wireStatement 23 = .ok (.iadd, 1) := by decide +kernel
theorem dX6_wireStatement_24 : decode cX6_wireStatement 24 = .ok (.istore 6, 2) := by decide +kernel
theorem dX6_wireStatement_26 : decode cX6_wireStatement 26 = .ok (.aload_n 0, 1) := by decide +kernel
theorem dX6_wireStatement_27 : decode cX6_wireStatement 27 = .ok (.getfield 15, 3) := by decide +kernel
theorem dX6_wireStatement_30 : decode cX6_wireStatement 30 = .ok (.getfield 65, 3) := by decide +kernel
theorem dX6_wireStatement_33 : decode cX6_wireStatement 33 = .ok (.iload 5, 2) := by decide +kernel
theorem dX6_wireStatement_35 : decode cX6_wireStatement 35 = .ok (.iload_n 2, 1) := by decide +kernel
theorem dX6_wireStatement_36 : decode cX6_wireStatement 36 = .ok (.iastore, 1) := by decide +kernel
theorem dX6_wireStatement_37 : decode cX6_wireStatement 37 = .ok (.aload_n 0, 1) := by decide +kernel
theorem dX6_wireStatement_38 : decode cX6_wireStatement 38 = .ok (.getfield 15, 3) := by decide +kernel
theorem dX6_wireStatement_41 : decode cX6_wireStatement 41 = .ok (.getfield 68, 3) := by decide +kernel
theorem dX6_wireStatement_44 : decode cX6_wireStatement 44 = .ok (.iload 5, 2) := by decide +kernel
theorem dX6_wireStatement_46 : decode cX6_wireStatement 46 = .ok (.iload_n 2, 1) := by decide +kernel
theorem dX6_wireStatement_47 : decode cX6_wireStatement 47 = .ok (.iastore, 1) := by decide +kernel
theorem dX6_wireStatement_48 : decode cX6_wireStatement 48 = .ok (.aload_n 0, 1) := by decide +kernel
theorem dX6_wireStatement_49 : decode cX6_wireStatement 49 = .ok (.getfield 15, 3) := by decide +kernel
theorem dX6_wireStatement_52 : decode cX6_wireStatement 52 = .ok (.getfield 71, 3) := by decide +kernel
theorem dX6_wireStatement_55 : decode cX6_wireStatement 55 = .ok (.iload 5, 2) := by decide +kernel
theorem dX6_wireStatement_57 : decode cX6_wireStatement 57 = .ok (.iload_n 3, 1) := by decide +kernel
theorem dX6_wireStatement_58 : decode cX6_wireStatement 58 = .ok (.ifCond .ge 8, 3) := by decide +kernel
theorem dX6_wireStatement_61 : decode cX6_wireStatement 61 = .ok (.iload 6, 2) := by decide +kernel
theorem dX6_wireStatement_63 : decode cX6_wireStatement 63 = .ok (.goto 12, 3) := by decide +kernel
theorem dX6_wireStatement_66 : decode cX6_wireStatement 66 = .ok (.aload_n 0, 1) := by decide +kernel
theorem dX6_wireStatement_67 : decode cX6_wireStatement 67 = .ok (.getfield 9, 3) := by decide +kernel
theorem dX6_wireStatement_70 : decode cX6_wireStatement 70 = .ok (.getfield 53, 3) := by decide +kernel
theorem dX6_wireStatement_73 : decode cX6_wireStatement 73 = .ok (.iload_n 3, 1) := by decide +kernel
theorem dX6_wireStatement_74 : decode cX6_wireStatement 74 = .ok (.iaload, 1) := by decide +kernel
theorem dX6_wireStatement_75 : decode cX6_wireStatement 75 = .ok (.iastore, 1) := by decide +kernel
theorem dX6_wireStatement_76 : decode cX6_wireStatement 76 = .ok (.aload_n 0, 1) := by decide +kernel
theorem dX6_wireStatement_77 : decode cX6_wireStatement 77 = .ok (.getfield 15, 3) := by decide +kernel
theorem dX6_wireStatement_80 : decode cX6_wireStatement 80 = .ok (.getfield 74, 3) := by decide +kernel
theorem dX6_wireStatement_83 : decode cX6_wireStatement 83 = .ok (.iload 5, 2) := by decide +kernel
theorem dX6_wireStatement_85 : decode cX6_wireStatement 85 = .ok (.iload_n 3, 1) := by decide +kernel
theorem dX6_wireStatement_86 : decode cX6_wireStatement 86 = .ok (.ifCond .ge 7, 3) := by decide +kernel
theorem dX6_wireStatement_89 : decode cX6_wireStatement 89 = .ok (.iconst (-1), 1) := by decide +kernel
theorem dX6_wireStatement_90 : decode cX6_wireStatement 90 = .ok (.goto 12, 3) := by decide +kernel
theorem dX6_wireStatement_93 : decode cX6_wireStatement 93 = .ok (.aload_n 0, 1) := by decide +kernel
theorem dX6_wireStatement_94 : decode cX6_wireStatement 94 = .ok (.getfield 9, 3) := by decide +kernel
theorem dX6_wireStatement_97 : decode cX6_wireStatement 97 = .ok (.getfield 77, 3) := by decide +kernel
theorem dX6_wireStatement_100 : decode cX6_wireStatement 100 = .ok (.iload_n 3, 1) := by decide +kernel
theorem dX6_wireStatement_101 : decode cX6_wireStatement 101 = .ok (.iaload, 1) := by decide +kernel
theorem dX6_wireStatement_102 : decode cX6_wireStatement 102 = .ok (.iastore, 1) := by decide +kernel
theorem dX6_wireStatement_103 : decode cX6_wireStatement 103 = .ok (.aload_n 0, 1) := by decide +kernel
theorem dX6_wireStatement_104 : decode cX6_wireStatement 104 = .ok (.getfield 15, 3) := by decide +kernel
theorem dX6_wireStatement_107 : decode cX6_wireStatement 107 = .ok (.getfield 80, 3) := by decide +kernel
theorem dX6_wireStatement_110 : decode cX6_wireStatement 110 = .ok (.iload 5, 2) := by decide +kernel
theorem dX6_wireStatement_112 : decode cX6_wireStatement 112 = .ok (.iload_n 3, 1) := by decide +kernel
theorem dX6_wireStatement_113 : decode cX6_wireStatement 113 = .ok (.ifCond .ge 8, 3) := by decide +kernel
theorem dX6_wireStatement_116 : decode cX6_wireStatement 116 = .ok (.bipush (-2), 2) := by decide +kernel
theorem dX6_wireStatement_118 : decode cX6_wireStatement 118 = .ok (.goto 12, 3) := by decide +kernel
theorem dX6_wireStatement_121 : decode cX6_wireStatement 121 = .ok (.aload_n 0, 1) := by decide +kernel
theorem dX6_wireStatement_122 : decode cX6_wireStatement 122 = .ok (.getfield 9, 3) := by decide +kernel
theorem dX6_wireStatement_125 : decode cX6_wireStatement 125 = .ok (.getfield 56, 3) := by decide +kernel
theorem dX6_wireStatement_128 : decode cX6_wireStatement 128 = .ok (.iload_n 3, 1) := by decide +kernel
theorem dX6_wireStatement_129 : decode cX6_wireStatement 129 = .ok (.iaload, 1) := by decide +kernel
theorem dX6_wireStatement_130 : decode cX6_wireStatement 130 = .ok (.iastore, 1) := by decide +kernel
theorem dX6_wireStatement_131 : decode cX6_wireStatement 131 = .ok (.aload_n 0, 1) := by decide +kernel
theorem dX6_wireStatement_132 : decode cX6_wireStatement 132 = .ok (.getfield 15, 3) := by decide +kernel
theorem dX6_wireStatement_135 : decode cX6_wireStatement 135 = .ok (.getfield 81, 3) := by decide +kernel
theorem dX6_wireStatement_138 : decode cX6_wireStatement 138 = .ok (.iload 5, 2) := by decide +kernel
theorem dX6_wireStatement_140 : decode cX6_wireStatement 140 = .ok (.iaload, 1) := by decide +kernel
theorem dX6_wireStatement_141 : decode cX6_wireStatement 141 = .ok (.iconst 5, 1) := by decide +kernel
theorem dX6_wireStatement_142 : decode cX6_wireStatement 142 = .ok (.if_icmp .ne 18, 3) := by decide +kernel
theorem dX6_wireStatement_145 : decode cX6_wireStatement 145 = .ok (.aload_n 0, 1) := by decide +kernel
theorem dX6_wireStatement_146 : decode cX6_wireStatement 146 = .ok (.getfield 15, 3) := by decide +kernel
theorem dX6_wireStatement_149 : decode cX6_wireStatement 149 = .ok (.getfield 71, 3) := by decide +kernel
theorem dX6_wireStatement_152 : decode cX6_wireStatement 152 = .ok (.iload 5, 2) := by decide +kernel
theorem dX6_wireStatement_154 : decode cX6_wireStatement 154 = .ok (.iload 6, 2) := by decide +kernel
theorem dX6_wireStatement_156 : decode cX6_wireStatement 156 = .ok (.iastore, 1) := by decide +kernel
theorem dX6_wireStatement_157 : decode cX6_wireStatement 157 = .ok (.goto 122, 3) := by decide +kernel
theorem dX6_wireStatement_160 : decode cX6_wireStatement 160 = .ok (.aload_n 0, 1) := by decide +kernel
theorem dX6_wireStatement_161 : decode cX6_wireStatement 161 = .ok (.getfield 15, 3) := by decide +kernel
theorem dX6_wireStatement_164 : decode cX6_wireStatement 164 = .ok (.getfield 81, 3) := by decide +kernel
theorem dX6_wireStatement_167 : decode cX6_wireStatement 167 = .ok (.iload 5, 2) := by decide +kernel
theorem dX6_wireStatement_169 : decode cX6_wireStatement 169 = .ok (.iaload, 1) := by decide +kernel
theorem dX6_wireStatement_170 : decode cX6_wireStatement 170 = .ok (.iconst 3, 1) := by decide +kernel
theorem dX6_wireStatement_171 : decode cX6_wireStatement 171 = .ok (.if_icmp .ne 36, 3) := by decide +kernel
theorem dX6_wireStatement_174 : decode cX6_wireStatement 174 = .ok (.aload_n 0, 1) := by decide +kernel
theorem dX6_wireStatement_175 : decode cX6_wireStatement 175 = .ok (.getfield 15, 3) := by decide +kernel
theorem dX6_wireStatement_178 : decode cX6_wireStatement 178 = .ok (.getfield 71, 3) := by decide +kernel
theorem dX6_wireStatement_181 : decode cX6_wireStatement 181 = .ok (.iload 5, 2) := by decide +kernel
theorem dX6_wireStatement_183 : decode cX6_wireStatement 183 = .ok (.aload_n 0, 1) := by decide +kernel
theorem dX6_wireStatement_184 : decode cX6_wireStatement 184 = .ok (.aload_n 0, 1) := by decide +kernel
theorem dX6_wireStatement_185 : decode cX6_wireStatement 185 = .ok (.getfield 9, 3) := by decide +kernel
theorem dX6_wireStatement_188 : decode cX6_wireStatement 188 = .ok (.getfield 59, 3) := by decide +kernel
theorem dX6_wireStatement_191 : decode cX6_wireStatement 191 = .ok (.iload_n 1, 1) := by decide +kernel
theorem dX6_wireStatement_192 : decode cX6_wireStatement 192 = .ok (.iaload, 1) := by decide +kernel
theorem dX6_wireStatement_193 : decode cX6_wireStatement 193 = .ok (.iload 5, 2) := by decide +kernel
theorem dX6_wireStatement_195 : decode cX6_wireStatement 195 = .ok (.iload_n 3, 1) := by decide +kernel
theorem dX6_wireStatement_196 : decode cX6_wireStatement 196 = .ok (.iload 4, 2) := by decide +kernel
theorem dX6_wireStatement_198 : decode cX6_wireStatement 198 = .ok (.iconst 1, 1) := by decide +kernel
theorem dX6_wireStatement_199 : decode cX6_wireStatement 199 = .ok (.iadd, 1) := by decide +kernel
theorem dX6_wireStatement_200 : decode cX6_wireStatement 200 = .ok (.invokevirtual 34, 3) := by decide +kernel
theorem dX6_wireStatement_203 : decode cX6_wireStatement 203 = .ok (.iastore, 1) := by decide +kernel
theorem dX6_wireStatement_204 : decode cX6_wireStatement 204 = .ok (.goto 75, 3) := by decide +kernel
theorem dX6_wireStatement_207 : decode cX6_wireStatement 207 = .ok (.aload_n 0, 1) := by decide +kernel
theorem dX6_wireStatement_208 : decode cX6_wireStatement 208 = .ok (.getfield 15, 3) := by decide +kernel
theorem dX6_wireStatement_211 : decode cX6_wireStatement 211 = .ok (.getfield 81, 3) := by decide +kernel
theorem dX6_wireStatement_214 : decode cX6_wireStatement 214 = .ok (.iload 5, 2) := by decide +kernel
theorem dX6_wireStatement_216 : decode cX6_wireStatement 216 = .ok (.iaload, 1) := by decide +kernel
theorem dX6_wireStatement_217 : decode cX6_wireStatement 217 = .ok (.iconst 2, 1) := by decide +kernel
theorem dX6_wireStatement_218 : decode cX6_wireStatement 218 = .ok (.if_icmp .ne 61, 3) := by decide +kernel
theorem dX6_wireStatement_221 : decode cX6_wireStatement 221 = .ok (.aload_n 0, 1) := by decide +kernel
theorem dX6_wireStatement_222 : decode cX6_wireStatement 222 = .ok (.getfield 15, 3) := by decide +kernel
theorem dX6_wireStatement_225 : decode cX6_wireStatement 225 = .ok (.getfield 71, 3) := by decide +kernel
theorem dX6_wireStatement_228 : decode cX6_wireStatement 228 = .ok (.iload 5, 2) := by decide +kernel
theorem dX6_wireStatement_230 : decode cX6_wireStatement 230 = .ok (.aload_n 0, 1) := by decide +kernel
theorem dX6_wireStatement_231 : decode cX6_wireStatement 231 = .ok (.aload_n 0, 1) := by decide +kernel
theorem dX6_wireStatement_232 : decode cX6_wireStatement 232 = .ok (.getfield 9, 3) := by decide +kernel
theorem dX6_wireStatement_235 : decode cX6_wireStatement 235 = .ok (.getfield 59, 3) := by decide +kernel
theorem dX6_wireStatement_238 : decode cX6_wireStatement 238 = .ok (.iload_n 1, 1) := by decide +kernel
theorem dX6_wireStatement_239 : decode cX6_wireStatement 239 = .ok (.iaload, 1) := by decide +kernel
theorem dX6_wireStatement_240 : decode cX6_wireStatement 240 = .ok (.iload_n 2, 1) := by decide +kernel
theorem dX6_wireStatement_241 : decode cX6_wireStatement 241 = .ok (.iload_n 3, 1) := by decide +kernel
theorem dX6_wireStatement_242 : decode cX6_wireStatement 242 = .ok (.iload 4, 2) := by decide +kernel
theorem dX6_wireStatement_244 : decode cX6_wireStatement 244 = .ok (.iconst 1, 1) := by decide +kernel
theorem dX6_wireStatement_245 : decode cX6_wireStatement 245 = .ok (.iadd, 1) := by decide +kernel
theorem dX6_wireStatement_246 : decode cX6_wireStatement 246 = .ok (.invokevirtual 34, 3) := by decide +kernel
theorem dX6_wireStatement_249 : decode cX6_wireStatement 249 = .ok (.iastore, 1) := by decide +kernel
theorem dX6_wireStatement_250 : decode cX6_wireStatement 250 = .ok (.aload_n 0, 1) := by decide +kernel
theorem dX6_wireStatement_251 : decode cX6_wireStatement 251 = .ok (.getfield 15, 3) := by decide +kernel
theorem dX6_wireStatement_254 : decode cX6_wireStatement 254 = .ok (.getfield 68, 3) := by decide +kernel
theorem dX6_wireStatement_257 : decode cX6_wireStatement 257 = .ok (.iload 5, 2) := by decide +kernel
theorem dX6_wireStatement_259 : decode cX6_wireStatement 259 = .ok (.aload_n 0, 1) := by decide +kernel
theorem dX6_wireStatement_260 : decode cX6_wireStatement 260 = .ok (.aload_n 0, 1) := by decide +kernel
theorem dX6_wireStatement_261 : decode cX6_wireStatement 261 = .ok (.getfield 9, 3) := by decide +kernel
theorem dX6_wireStatement_264 : decode cX6_wireStatement 264 = .ok (.getfield 50, 3) := by decide +kernel
theorem dX6_wireStatement_267 : decode cX6_wireStatement 267 = .ok (.iload_n 1, 1) := by decide +kernel
theorem dX6_wireStatement_268 : decode cX6_wireStatement 268 = .ok (.iaload, 1) := by decide +kernel
theorem dX6_wireStatement_269 : decode cX6_wireStatement 269 = .ok (.iload_n 2, 1) := by decide +kernel
theorem dX6_wireStatement_270 : decode cX6_wireStatement 270 = .ok (.iload_n 3, 1) := by decide +kernel
theorem dX6_wireStatement_271 : decode cX6_wireStatement 271 = .ok (.iload 4, 2) := by decide +kernel
theorem dX6_wireStatement_273 : decode cX6_wireStatement 273 = .ok (.iconst 1, 1) := by decide +kernel
theorem dX6_wireStatement_274 : decode cX6_wireStatement 274 = .ok (.iadd, 1) := by decide +kernel
theorem dX6_wireStatement_275 : decode cX6_wireStatement 275 = .ok (.invokevirtual 34, 3) := by decide +kernel
theorem dX6_wireStatement_278 : decode cX6_wireStatement 278 = .ok (.iastore, 1) := by decide +kernel
theorem dX6_wireStatement_279 : decode cX6_wireStatement 279 = .ok (.iload 5, 2) := by decide +kernel
theorem dX6_wireStatement_281 : decode cX6_wireStatement 281 = .ok (.ireturn, 1) := by decide +kernel
theorem dX6_wireTry_0 : decode cX6_wireTry 0 = .ok (.aload_n 0, 1) := by decide +kernel
theorem dX6_wireTry_1 : decode cX6_wireTry 1 = .ok (.aload_n 0, 1) := by decide +kernel
theorem dX6_wireTry_2 : decode cX6_wireTry 2 = .ok (.getfield 9, 3) := by decide +kernel
theorem dX6_wireTry_5 : decode cX6_wireTry 5 = .ok (.getfield 50, 3) := by decide +kernel
theorem dX6_wireTry_8 : decode cX6_wireTry 8 = .ok (.iload_n 1, 1) := by decide +kernel
theorem dX6_wireTry_9 : decode cX6_wireTry 9 = .ok (.iaload, 1) := by decide +kernel
theorem dX6_wireTry_10 : decode cX6_wireTry 10 = .ok (.iload_n 2, 1) := by decide +kernel
theorem dX6_wireTry_11 : decode cX6_wireTry 11 = .ok (.iload_n 3, 1) := by decide +kernel
theorem dX6_wireTry_12 : decode cX6_wireTry 12 = .ok (.iload 4, 2) := by decide +kernel
theorem dX6_wireTry_14 : decode cX6_wireTry 14 = .ok (.iconst 1, 1) := by decide +kernel
theorem dX6_wireTry_15 : decode cX6_wireTry 15 = .ok (.iadd, 1) := by decide +kernel
theorem dX6_wireTry_16 : decode cX6_wireTry 16 = .ok (.invokevirtual 34, 3) := by decide +kernel
theorem dX6_wireTry_19 : decode cX6_wireTry 19 = .ok (.istore 5, 2) := by decide +kernel
theorem dX6_wireTry_21 : decode cX6_wireTry 21 = .ok (.aload_n 0, 1) := by decide +kernel
theorem dX6_wireTry_22 : decode cX6_wireTry 22 = .ok (.getfield 9, 3) := by decide +kernel
theorem dX6_wireTry_25 : decode cX6_wireTry 25 = .ok (.getfield 53, 3) := by decide +kernel
theorem dX6_wireTry_28 : decode cX6_wireTry 28 = .ok (.iload_n 1, 1) := by decide +kernel
theorem dX6_wireTry_29 : decode cX6_wireTry 29 = .ok (.iload 5, 2) := by decide +kernel
theorem dX6_wireTry_31 : decode cX6_wireTry 31 = .ok (.iastore, 1) := by decide +kernel
theorem dX6_wireTry_32 : decode cX6_wireTry 32 = .ok (.aload_n 0, 1) := by decide +kernel
theorem dX6_wireTry_33 : decode cX6_wireTry 33 = .ok (.getfield 9, 3) := by decide +kernel
theorem dX6_wireTry_36 : decode cX6_wireTry 36 = .ok (.getfield 56, 3) := by decide +kernel
theorem dX6_wireTry_39 : decode cX6_wireTry 39 = .ok (.iload_n 1, 1) := by decide +kernel
theorem dX6_wireTry_40 : decode cX6_wireTry 40 = .ok (.iload 5, 2) := by decide +kernel
theorem dX6_wireTry_42 : decode cX6_wireTry 42 = .ok (.iload_n 2, 1) := by decide +kernel
theorem dX6_wireTry_43 : decode cX6_wireTry 43 = .ok (.if_icmp .ne 8, 3) := by decide +kernel
theorem dX6_wireTry_46 : decode cX6_wireTry 46 = .ok (.bipush (-2), 2) := by decide +kernel
theorem dX6_wireTry_48 : decode cX6_wireTry 48 = .ok (.goto 5, 3) := by decide +kernel
theorem dX6_wireTry_51 : decode cX6_wireTry 51 = .ok (.iload 5, 2) := by decide +kernel
theorem dX6_wireTry_53 : decode cX6_wireTry 53 = .ok (.iastore, 1) := by decide +kernel
theorem dX6_wireTry_54 : decode cX6_wireTry 54 = .ok (.aload_n 0, 1) := by decide +kernel
theorem dX6_wireTry_55 : decode cX6_wireTry 55 = .ok (.aload_n 0, 1) := by decide +kernel
theorem dX6_wireTry_56 : decode cX6_wireTry 56 = .ok (.getfield 9, 3) := by decide +kernel
theorem dX6_wireTry_59 : decode cX6_wireTry 59 = .ok (.getfield 59, 3) := by decide +kernel
theorem dX6_wireTry_62 : decode cX6_wireTry 62 = .ok (.iload_n 1, 1) := by decide +kernel
theorem dX6_wireTry_63 : decode cX6_wireTry 63 = .ok (.iaload, 1) := by decide +kernel
theorem dX6_wireTry_64 : decode cX6_wireTry 64 = .ok (.iload_n 2, 1) := by decide +kernel
theorem dX6_wireTry_65 : decode cX6_wireTry 65 = .ok (.iload_n 1, 1) := by decide +kernel
theorem dX6_wireTry_66 : decode cX6_wireTry 66 = .ok (.iload 4, 2) := by decide +kernel
theorem dX6_wireTry_68 : decode cX6_wireTry 68 = .ok (.iconst 1, 1) := by decide +kernel
theorem dX6_wireTry_69 : decode cX6_wireTry 69 = .ok (.iadd, 1) := by decide +kernel
theorem dX6_wireTry_70 : decode cX6_wireTry 70 = .ok (.invokevirtual 34, 3) := by decide +kernel
theorem dX6_wireTry_73 : decode cX6_wireTry 73 = .ok (.ireturn, 1) := by decide +kernel
set_option maxHeartbeats 4000000 in
set_option maxRecDepth 100000 in
theorem s_X6_wireBlock_lv7 (l : Launch) (d : Nat) {P : PP} {h : HP} (hv : Iv P h) (a2 : Int32) (a2l : -1 ≤ a2.toInt) (a2u : a2.toInt ≤ 127) (a3 : Int32) (a3l : 0 ≤ a3.toInt) (a3u : a3.toInt ≤ 44) (a4 : Int32) (a4l : -1 ≤ a4.toInt) (a4u : a4.toInt ≤ 127) (a5 : Int32) (a5l : 7 ≤ a5.toInt) (a5u : a5.toInt ≤ 7) : Mt l yX6_wireBlock cX6_wireBlock 8 (some .int) (d + 1) [.ref 48, .int a2, .int a3, .int a4, .int a5] h 0 0 (fun r h' => ∃ v : Int32, r = some (.int v) ∧ 0 ≤ v.toInt ∧ v.toInt ≤ 44 ∧ Iv P h') := by
  refine Mt_iv hv (by decide) (Nat.le_of_ble_eq_true rfl) ?_
  show Go l RX6 cX6_wireBlock 8 (g_rm (d + 1) 0 0) "wireBlock" (some .int) 117 0 0 (fun _ _ => True) (fun r h' => ∃ v : Int32, r = some (.int v) ∧ 0 ≤ v.toInt ∧ v.toInt ≤ 44 ∧ Iv P h') 0 0 [(0, .ref 48), (1, .int a2), (2, .int a3), (3, .int a4), (4, .int a5)] [] h
  have key : ∀ n : Nat, (∀ (l3 : Int32) (l4 : Int32) (l5 : Int32) (s0 : Int32) (hx : HP), Iv P hx → -1 ≤ l3.toInt → l3.toInt ≤ 127 → 7 ≤ l4.toInt → l4.toInt ≤ 7 → 0 ≤ l5.toInt → l5.toInt ≤ 44 → -1 ≤ s0.toInt → s0.toInt ≤ -1 → (8 : Int) < n → Go l RX6 cX6_wireBlock 8 (g_rm (d + 1) 0 0) "wireBlock" (some .int) 117 0 0 (fun _ _ => True) (fun r h' => ∃ v : Int32, r = some (.int v) ∧ 0 ≤ v.toInt ∧ v.toInt ≤ 44 ∧ Iv P h') 0 15 [(0, .ref 48), (3, .int l3), (4, .int l4), (5, .int l5)] [.int s0] hx) ∧ (∀ (l3 : Int32) (l4 : Int32) (l5 : Int32) (l6 : Int32) (l7 : Int32) (hx : HP), Iv P hx → -1 ≤ l3.toInt → l3.toInt ≤ 127 → 7 ≤ l4.toInt → l4.toInt ≤ 7 → 0 ≤ l5.toInt → l5.toInt ≤ 44 → -1 ≤ l6.toInt → l6.toInt ≤ -1 → 0 ≤ l7.toInt → l7.toInt ≤ 0 → (3 * (0 - l7.toInt) + 3 : Int) < n → Go l RX6 cX6_wireBlock 8 (g_rm (d + 1) 0 0) "wireBlock" (some .int) 117 0 0 (fun _ _ => True) (fun r h' => ∃ v : Int32, r = some (.int v) ∧ 0 ≤ v.toInt ∧ v.toInt ≤ 44 ∧ Iv P h') 0 20 [(0, .ref 48), (3, .int l3), (4, .int l4), (5, .int l5), (6, .int l6), (7, .int l7)] [] hx) ∧ (∀ (l5 : Int32) (hx : HP), Iv P hx → 0 ≤ l5.toInt → l5.toInt ≤ 44 → (1 : Int) < n → Go l RX6 cX6_wireBlock 8 (g_rm (d + 1) 0 0) "wireBlock" (some .int) 117 0 0 (fun _ _ => True) (fun r h' => ∃ v : Int32, r = some (.int v) ∧ 0 ≤ v.toInt ∧ v.toInt ≤ 44 ∧ Iv P h') 0 94 [(5, .int l5)] [] hx) := by
    intro n
    induction n with
    | zero => exact ⟨(by intros; omega), (by intros; omega), (by intros; omega)⟩
    | succ n ih =>
      refine ⟨?_, ?_, ?_⟩
      ·
        intro l3 l4 l5 s0 hx hvx l3l l3u l4l l4u l5l l5u s0l s0u hm
        refine go_istore (pc := 15) (Nat.le_of_ble_eq_true rfl) dX6_wireBlock_15 (go_lv (lv2 := [(0, .ref 48), (3, .int l3), (4, .int l4), (5, .int l5), (6, .int s0)]) rfl ?_)
        refine go_iconst (pc := 17) (v := 0) (by decide) dX6_wireBlock_17 ?_
        refine go_istore (pc := 18) (Nat.le_of_ble_eq_true rfl) dX6_wireBlock_18 (go_lv (lv2 := [(0, .ref 48), (3, .int l3), (4, .int l4), (5, .int l5), (6, .int s0), (7, .int 0)]) rfl ?_)
        have z1 : (0 : Int32).toInt = 0 := (ti_c (v := 0) (a := 0) (by decide))
        exact go_lv rfl (ih.2.1 l3 l4 l5 s0 0 hx hvx (by omega) (by omega) (by omega) (by omega) (by omega) (by omega) (by omega) (by omega) (by omega) (by omega) (by omega))
      ·
        intro l3 l4 l5 l6 l7 hx hvx l3l l3u l4l l4u l5l l5u l6l l6u l7l l7u hm
        refine go_iload (pc := 20) rfl dX6_wireBlock_20 ?_
        refine go_sipush (pc := 22) (v := 128) (by decide) dX6_wireBlock_22 ?_
        refine gf_icmp_ge (pc := 25) (tgt := 94) (ti_rfl l7) (ti_c (v := 128) (a := 128) (by decide)) (by decide) dX6_wireBlock_25 (fun q2 => False.elim (by omega)) (fun q2 => ?_)
        refine go_iload (pc := 28) rfl dX6_wireBlock_28 ?_
        refine gf_if_lt (pc := 30) (tgt := 94) (ti_rfl l6) (by decide) dX6_wireBlock_30 (fun q3 => ?_) (fun q3 => False.elim (by omega))
        exact go_lv rfl (ih.2.2 l5 hx hvx (by omega) (by omega) (by omega))
      ·
        intro l5 hx hvx l5l l5u hm
        refine go_iload (pc := 94) rfl dX6_wireBlock_94 ?_
        exact gi_iret (pc := 96) (ti_rfl l5) ⟨_, rfl, (by rw [show (l5 : Int32).toInt = l5.toInt from (ti_rfl l5)]; omega), (by rw [show (l5 : Int32).toInt = l5.toInt from (ti_rfl l5)]; omega), hvx⟩ hvx dX6_wireBlock_96
  refine go_iload_n (pc := 0) rfl dX6_wireBlock_0 ?_
  refine go_istore (pc := 1) (Nat.le_of_ble_eq_true rfl) dX6_wireBlock_1 (go_lv (lv2 := [(0, .ref 48), (1, .int a2), (2, .int a3), (3, .int a4), (4, .int a5), (5, .int a3)]) rfl ?_)
  refine go_iload (pc := 3) rfl dX6_wireBlock_3 ?_
  refine go_bipush (pc := 5) (v := 6) (by decide) dX6_wireBlock_5 ?_
  refine gf_icmp_le (pc := 7) (tgt := 14) (ti_rfl a5) (ti_c (v := 6) (a := 6) (by decide)) (by decide) dX6_wireBlock_7 (fun q4 => False.elim (by omega)) (fun q4 => ?_)
  refine go_iconst (pc := 10) (v := (-1)) (by decide) dX6_wireBlock_10 ?_
  refine go_goto (pc := 11) (tgt := 15) (by decide) dX6_wireBlock_11 ?_
  have z5 : ((-1) : Int32).toInt = (-1) := (ti_c (v := (-1)) (a := (-1)) (by decide))
  exact go_lv rfl ((key 21).1 a4 a5 a3 (-1) h hv (by omega) (by omega) (by omega) (by omega) (by omega) (by omega) (by omega) (by omega) (by omega))
set_option maxHeartbeats 4000000 in
set_option maxRecDepth 100000 in
theorem s_X6_wireTry_lv6 (l : Launch) (d : Nat) {P : PP} {h : HP} (hv : Iv P h) (a2 : Int32) (a2l : 0 ≤ a2.toInt) (a2u : a2.toInt ≤ 127) (a3 : Int32) (a3l : 0 ≤ a3.toInt) (a3u : a3.toInt ≤ 44) (a4 : Int32) (a4l : -1 ≤ a4.toInt) (a4u : a4.toInt ≤ 127) (a5 : Int32) (a5l : 6 ≤ a5.toInt) (a5u : a5.toInt ≤ 6) : Mt l yX6_wireTry cX6_wireTry 6 (some .int) (d + 2) [.ref 48, .int a2, .int a3, .int a4, .int a5] h 0 0 (fun r h' => ∃ v : Int32, r = some (.int v) ∧ 0 ≤ v.toInt ∧ v.toInt ≤ 44 ∧ Iv P h') := by
  refine Mt_iv hv (by decide) (Nat.le_of_ble_eq_true rfl) ?_
  show Go l RX6 cX6_wireTry 6 (g_rm (d + 2) 0 0) "wireTry" (some .int) 117 0 0 (fun _ _ => True) (fun r h' => ∃ v : Int32, r = some (.int v) ∧ 0 ≤ v.toInt ∧ v.toInt ≤ 44 ∧ Iv P h') 0 0 [(0, .ref 48), (1, .int a2), (2, .int a3), (3, .int a4), (4, .int a5)] [] h
  have key : ∀ n : Nat, (∀ (l1 : Int32) (l2 : Int32) (l4 : Int32) (s0 : Int32) (s1 : Int32) (hx : HP), Iv P hx → 0 ≤ l1.toInt → l1.toInt ≤ 127 → 0 ≤ l2.toInt → l2.toInt ≤ 44 → 6 ≤ l4.toInt → l4.toInt ≤ 6 → -2 ≤ s0.toInt → s0.toInt ≤ 44 → 0 ≤ s1.toInt → s1.toInt ≤ 127 → (1 : Int) < n → Go l RX6 cX6_wireTry 6 (g_rm (d + 2) 0 0) "wireTry" (some .int) 117 0 0 (fun _ _ => True) (fun r h' => ∃ v : Int32, r = some (.int v) ∧ 0 ≤ v.toInt ∧ v.toInt ≤ 44 ∧ Iv P h') 0 53 [(0, .ref 48), (1, .int l1), (2, .int l2), (4, .int l4)] [.int s0, .int s1, .ref 43] hx) := by
    intro n
    induction n with
    | zero => exact (by intros; omega)
    | succ n ih =>
      refine ?_
      ·
        intro l1 l2 l4 s0 s1 hx hvx l1l l1u l2l l2u l4l l4u s0l s0u s1l s1u hm
        refine gi_iast (pc := 53) (lo := -2) (hi := 44) (len := 128) hvx (ti_rfl s1) (ti_rfl s0) rfl (by omega) (by omega) (fun _ => rfl) (by omega) (by omega) (by decide) dX6_wireTry_53 (fun h1 hv1 hv1e => ?_)
        refine go_aload_n (pc := 54) rfl dX6_wireTry_54 ?_
        refine go_aload_n (pc := 55) rfl dX6_wireTry_55 ?_
        refine gi_getF (pc := 56) (q := 36) hv1 fL_X6_9 rfl (Nat.le_of_ble_eq_true rfl) rfl (hv1.rf (by decide)) dX6_wireTry_56 ?_
        refine gi_getF (pc := 59) (q := 39) hv1 fL_X6_59 rfl (Nat.le_of_ble_eq_true rfl) rfl (hv1.rf (by decide)) dX6_wireTry_59 ?_
        refine go_iload_n (pc := 62) rfl dX6_wireTry_62 ?_
        refine gi_iald (pc := 63) (lo := -1) (hi := 127) (len := 128) hv1 (ti_rfl l1) rfl (by omega) (by omega) (fun _ => rfl) dX6_wireTry_63 (fun v2 v2l v2u v2w => ?_)
        refine go_iload_n (pc := 64) rfl dX6_wireTry_64 ?_
        refine go_iload_n (pc := 65) rfl dX6_wireTry_65 ?_
        refine go_iload (pc := 66) rfl dX6_wireTry_66 ?_
        refine go_iconst (pc := 68) (v := 1) (by decide) dX6_wireTry_68 ?_
        refine gf_iadd (pc := 69) (ti_rfl l4) (ti_c (v := 1) (a := 1) (by decide)) (by omega) (by omega) dX6_wireTry_69 (fun v3 e4 => ?_)
        refine go_invV (pc := 70) (sl := 0) (s_X6_wireBlock_lv7 l (d + 0) hv1 v2 (by rw [show (v2 : Int32).toInt = v2.toInt from (ti_rfl v2)]; omega) (by rw [show (v2 : Int32).toInt = v2.toInt from (ti_rfl v2)]; omega) l2 (by rw [show (l2 : Int32).toInt = l2.toInt from (ti_rfl l2)]; omega) (by rw [show (l2 : Int32).toInt = l2.toInt from (ti_rfl l2)]; omega) l1 (by rw [show (l1 : Int32).toInt = l1.toInt from (ti_rfl l1)]; omega) (by rw [show (l1 : Int32).toInt = l1.toInt from (ti_rfl l1)]; omega) v3 (by rw [show (v3 : Int32).toInt = (l4.toInt + 1) from e4]; omega) (by rw [show (v3 : Int32).toInt = (l4.toInt + 1) from e4]; omega)) mL_X6_34 iM_X6_wireBlock sM_X6_wireBlock (hv1.sh rfl) rfl rfl rfl (Nat.le_of_ble_eq_true rfl) (show d + 0 + 1 + 1 ≤ d + 2 by omega) (show 8 + (8 + 11) + 40 * (d + 0 + 1) ≤ 40 * (d + 2) by omega) (g_c0 hv1.ln) (Nat.le_of_ble_eq_true rfl) dX6_wireTry_70 ?_
        intro r h5 hq _
        obtain ⟨v6, rfl, v6l, v6u, hv5⟩ := hq
        exact gi_iret (pc := 73) (ti_rfl v6) ⟨_, rfl, (by rw [show (v6 : Int32).toInt = v6.toInt from (ti_rfl v6)]; omega), (by rw [show (v6 : Int32).toInt = v6.toInt from (ti_rfl v6)]; omega), hv5⟩ hv5 dX6_wireTry_73
  refine go_aload_n (pc := 0) rfl dX6_wireTry_0 ?_
  refine go_aload_n (pc := 1) rfl dX6_wireTry_1 ?_
  refine gi_getF (pc := 2) (q := 36) hv fL_X6_9 rfl (Nat.le_of_ble_eq_true rfl) rfl (hv.rf (by decide)) dX6_wireTry_2 ?_
  refine gi_getF (pc := 5) (q := 40) hv fL_X6_50 rfl (Nat.le_of_ble_eq_true rfl) rfl (hv.rf (by decide)) dX6_wireTry_5 ?_
  refine go_iload_n (pc := 8) rfl dX6_wireTry_8 ?_
  refine gi_iald (pc := 9) (lo := -1) (hi := 127) (len := 128) hv (ti_rfl a2) rfl (by omega) (by omega) (fun _ => rfl) dX6_wireTry_9 (fun v7 v7l v7u v7w => ?_)
  refine go_iload_n (pc := 10) rfl dX6_wireTry_10 ?_
  refine go_iload_n (pc := 11) rfl dX6_wireTry_11 ?_
  refine go_iload (pc := 12) rfl dX6_wireTry_12 ?_
  refine go_iconst (pc := 14) (v := 1) (by decide) dX6_wireTry_14 ?_
  refine gf_iadd (pc := 15) (ti_rfl a5) (ti_c (v := 1) (a := 1) (by decide)) (by omega) (by omega) dX6_wireTry_15 (fun v8 e9 => ?_)
  refine go_invV (pc := 16) (sl := 0) (s_X6_wireBlock_lv7 l (d + 0) hv v7 (by rw [show (v7 : Int32).toInt = v7.toInt from (ti_rfl v7)]; omega) (by rw [show (v7 : Int32).toInt = v7.toInt from (ti_rfl v7)]; omega) a3 (by rw [show (a3 : Int32).toInt = a3.toInt from (ti_rfl a3)]; omega) (by rw [show (a3 : Int32).toInt = a3.toInt from (ti_rfl a3)]; omega) a4 (by rw [show (a4 : Int32).toInt = a4.toInt from (ti_rfl a4)]; omega) (by rw [show (a4 : Int32).toInt = a4.toInt from (ti_rfl a4)]; omega) v8 (by rw [show (v8 : Int32).toInt = (a5.toInt + 1) from e9]; omega) (by rw [show (v8 : Int32).toInt = (a5.toInt + 1) from e9]; omega)) mL_X6_34 iM_X6_wireBlock sM_X6_wireBlock (hv.sh rfl) rfl rfl rfl (Nat.le_of_ble_eq_true rfl) (show d + 0 + 1 + 1 ≤ d + 2 by omega) (show 8 + (8 + 11) + 40 * (d + 0 + 1) ≤ 40 * (d + 2) by omega) (g_c0 hv.ln) (Nat.le_of_ble_eq_true rfl) dX6_wireTry_16 ?_
  intro r h10 hq _
  obtain ⟨v11, rfl, v11l, v11u, hv10⟩ := hq
  refine go_istore (pc := 19) (Nat.le_of_ble_eq_true rfl) dX6_wireTry_19 (go_lv (lv2 := [(0, .ref 48), (1, .int a2), (2, .int a3), (3, .int a4), (4, .int a5), (5, .int v11)]) rfl ?_)
  refine go_aload_n (pc := 21) rfl dX6_wireTry_21 ?_
  refine gi_getF (pc := 22) (q := 36) hv10 fL_X6_9 rfl (Nat.le_of_ble_eq_true rfl) rfl (hv10.rf (by decide)) dX6_wireTry_22 ?_
  refine gi_getF (pc := 25) (q := 42) hv10 fL_X6_53 rfl (Nat.le_of_ble_eq_true rfl) rfl (hv10.rf (by decide)) dX6_wireTry_25 ?_
  refine go_iload_n (pc := 28) rfl dX6_wireTry_28 ?_
  refine go_iload (pc := 29) rfl dX6_wireTry_29 ?_
  refine gi_iast (pc := 31) (lo := 0) (hi := 44) (len := 128) hv10 (ti_rfl a2) (ti_rfl v11) rfl (by omega) (by omega) (fun _ => rfl) (by omega) (by omega) (by decide) dX6_wireTry_31 (fun h12 hv12 hv12e => ?_)
  refine go_aload_n (pc := 32) rfl dX6_wireTry_32 ?_
  refine gi_getF (pc := 33) (q := 36) hv12 fL_X6_9 rfl (Nat.le_of_ble_eq_true rfl) rfl (hv12.rf (by decide)) dX6_wireTry_33 ?_
  refine gi_getF (pc := 36) (q := 43) hv12 fL_X6_56 rfl (Nat.le_of_ble_eq_true rfl) rfl (hv12.rf (by decide)) dX6_wireTry_36 ?_
  refine go_iload_n (pc := 39) rfl dX6_wireTry_39 ?_
  refine go_iload (pc := 40) rfl dX6_wireTry_40 ?_
  refine go_iload_n (pc := 42) rfl dX6_wireTry_42 ?_
  refine gf_icmp_ne (pc := 43) (tgt := 51) (ti_rfl v11) (ti_rfl a3) (by decide) dX6_wireTry_43 (fun q13 => ?_) (fun q13 => ?_)
  ·
    refine go_iload (pc := 51) rfl dX6_wireTry_51 ?_
    exact go_lv rfl ((key 14) a2 a3 a5 v11 a2 h12 hv12 (by omega) (by omega) (by omega) (by omega) (by omega) (by omega) (by omega) (by omega) (by omega) (by omega) (by omega))
  ·
    refine go_bipush (pc := 46) (v := (-2)) (by decide) dX6_wireTry_46 ?_
    refine go_goto (pc := 48) (tgt := 53) (by decide) dX6_wireTry_48 ?_
    have z14 : ((-2) : Int32).toInt = (-2) := (ti_c (v := (-2)) (a := (-2)) (by decide))
    exact go_lv rfl ((key 14) a2 a3 a5 (-2) a2 h12 hv12 (by omega) (by omega) (by omega) (by omega) (by omega) (by omega) (by omega) (by omega) (by omega) (by omega) (by omega))
set_option maxHeartbeats 4000000 in
set_option maxRecDepth 100000 in
theorem s_X6_wireStatement_lv6 (l : Launch) (d : Nat) {P : PP} {h : HP} (hv : Iv P h) (a2 : Int32) (a2l : 0 ≤ a2.toInt) (a2u : a2.toInt ≤ 127) (a3 : Int32) (a3l : 0 ≤ a3.toInt) (a3u : a3.toInt ≤ 44) (a4 : Int32) (a4l : -1 ≤ a4.toInt) (a4u : a4.toInt ≤ 127) (a5 : Int32) (a5l : 6 ≤ a5.toInt) (a5u : a5.toInt ≤ 6) (hp : 0 ≤ (h.2.1 37 a2.toInt.toNat).toInt) : Mt l yX6_wireStatement cX6_wireStatement 7 (some .int) (d + 2) [.ref 48, .int a2, .int a3, .int a4, .int a5] h 0 0 (fun r h' => ∃ v : Int32, r = some (.int v) ∧ 0 ≤ v.toInt ∧ v.toInt ≤ 44 ∧ Iv P h') := by
  refine Mt_iv hv (by decide) (Nat.le_of_ble_eq_true rfl) ?_
  show Go l RX6 cX6_wireStatement 7 (g_rm (d + 2) 0 0) "wireStatement" (some .int) 117 0 0 (fun _ _ => True) (fun r h' => ∃ v : Int32, r = some (.int v) ∧ 0 ≤ v.toInt ∧ v.toInt ≤ 44 ∧ Iv P h') 0 0 [(0, .ref 48), (1, .int a2), (2, .int a3), (3, .int a4), (4, .int a5)] [] h
  have key : ∀ n : Nat, (∀ (l1 : Int32) (l2 : Int32) (l3 : Int32) (l4 : Int32) (l5 : Int32) (l6 : Int32) (s0 : Int32) (s1 : Int32) (s2 : Nat) (hx : HP), Iv P hx → 0 ≤ l1.toInt → l1.toInt ≤ 127 → 0 ≤ l2.toInt → l2.toInt ≤ 44 → -1 ≤ l3.toInt → l3.toInt ≤ 127 → 6 ≤ l4.toInt → l4.toInt ≤ 6 → 0 ≤ l5.toInt → l5.toInt ≤ 39 → 39 ≤ l6.toInt → l6.toInt ≤ 44 → 0 ≤ s0.toInt → s0.toInt ≤ 44 → 0 ≤ s1.toInt → s1.toInt ≤ 39 → (s2 = 2 ∨ s2 = 18) → (4 : Int) < n → Go l RX6 cX6_wireStatement 7 (g_rm (d + 2) 0 0) "wireStatement" (some .int) 117 0 0 (fun _ _ => True) (fun r h' => ∃ v : Int32, r = some (.int v) ∧ 0 ≤ v.toInt ∧ v.toInt ≤ 44 ∧ Iv P h') 0 75 [(0, .ref 48), (1, .int l1), (2, .int l2), (3, .int l3), (4, .int l4), (5, .int l5), (6, .int l6)] [.int s0, .int s1, .ref (s2 + 13)] hx) ∧ (∀ (l1 : Int32) (l2 : Int32) (l3 : Int32) (l4 : Int32) (l5 : Int32) (l6 : Int32) (s0 : Int32) (s1 : Int32) (s2 : Nat) (hx : HP), Iv P hx → 0 ≤ l1.toInt → l1.toInt ≤ 127 → 0 ≤ l2.toInt → l2.toInt ≤ 44 → -1 ≤ l3.toInt → l3.toInt ≤ 127 → 6 ≤ l4.toInt → l4.toInt ≤ 6 → 0 ≤ l5.toInt → l5.toInt ≤ 39 → 39 ≤ l6.toInt → l6.toInt ≤ 44 → -1 ≤ s0.toInt → s0.toInt ≤ 5 → 0 ≤ s1.toInt → s1.toInt ≤ 39 → (s2 = 2 ∨ s2 = 18) → (3 : Int) < n → Go l RX6 cX6_wireStatement 7 (g_rm (d + 2) 0 0) "wireStatement" (some .int) 117 0 0 (fun _ _ => True) (fun r h' => ∃ v : Int32, r = some (.int v) ∧ 0 ≤ v.toInt ∧ v.toInt ≤ 44 ∧ Iv P h') 0 102 [(0, .ref 48), (1, .int l1), (2, .int l2), (3, .int l3), (4, .int l4), (5, .int l5), (6, .int l6)] [.int s0, .int s1, .ref (s2 + 14)] hx) ∧ (∀ (l1 : Int32) (l2 : Int32) (l3 : Int32) (l4 : Int32) (l5 : Int32) (l6 : Int32) (s0 : Int32) (s1 : Int32) (s2 : Nat) (hx : HP), Iv P hx → 0 ≤ l1.toInt → l1.toInt ≤ 127 → 0 ≤ l2.toInt → l2.toInt ≤ 44 → -1 ≤ l3.toInt → l3.toInt ≤ 127 → 6 ≤ l4.toInt → l4.toInt ≤ 6 → 0 ≤ l5.toInt → l5.toInt ≤ 39 → 39 ≤ l6.toInt → l6.toInt ≤ 44 → -2 ≤ s0.toInt → s0.toInt ≤ 44 → 0 ≤ s1.toInt → s1.toInt ≤ 39 → (s2 = 2 ∨ s2 = 18) → (2 : Int) < n → Go l RX6 cX6_wireStatement 7 (g_rm (d + 2) 0 0) "wireStatement" (some .int) 117 0 0 (fun _ _ => True) (fun r h' => ∃ v : Int32, r = some (.int v) ∧ 0 ≤ v.toInt ∧ v.toInt ≤ 44 ∧ Iv P h') 0 130 [(0, .ref 48), (1, .int l1), (2, .int l2), (3, .int l3), (4, .int l4), (5, .int l5), (6, .int l6)] [.int s0, .int s1, .ref (s2 + 15)] hx) ∧ (∀ (l5 : Int32) (hx : HP), Iv P hx → 0 ≤ l5.toInt → l5.toInt ≤ 39 → (1 : Int) < n → Go l RX6 cX6_wireStatement 7 (g_rm (d + 2) 0 0) "wireStatement" (some .int) 117 0 0 (fun _ _ => True) (fun r h' => ∃ v : Int32, r = some (.int v) ∧ 0 ≤ v.toInt ∧ v.toInt ≤ 44 ∧ Iv P h') 0 279 [(5, .int l5)] [] hx) := by
    intro n
    induction n with
    | zero => exact ⟨(by intros; omega), (by intros; omega), (by intros; omega), (by intros; omega)⟩
    | succ n ih =>
      refine ⟨?_, ?_, ?_, ?_⟩
      ·
        intro l1 l2 l3 l4 l5 l6 s0 s1 s2 hx hvx l1l l1u l2l l2u l3l l3u l4l l4u l5l l5u l6l l6u s0l s0u s1l s1u hs2 hm
        refine gi_iast (pc := 75) (lo := 0) (hi := 44) (len := 40) hvx (ti_rfl s1) (ti_rfl s0) (by rcases hs2 with rfl | rfl <;> rfl) (by omega) (by omega) (fun _ => by rcases hs2 with rfl | rfl <;> rfl) (by omega) (by omega) (by rcases hs2 with rfl | rfl <;> decide) dX6_wireStatement_75 (fun h1 hv1 hv1e => ?_)
        refine go_aload_n (pc := 76) rfl dX6_wireStatement_76 ?_
        refine gi_getC (pc := 77) hv1 fL_X6_15 rfl (Nat.le_of_ble_eq_true rfl) rfl (by decide) dX6_wireStatement_77 (fun c2 hc2 fc2 => ?_)
        refine gi_getF (pc := 80) (q := c2 + 14) hv1 fL_X6_74 (by rcases hc2 with rfl | rfl <;> rfl) (Nat.le_of_ble_eq_true rfl) rfl (by rcases hc2 with rfl | rfl <;> exact hv1.rf (by decide)) dX6_wireStatement_80 ?_
        refine go_iload (pc := 83) rfl dX6_wireStatement_83 ?_
        refine go_iload_n (pc := 85) rfl dX6_wireStatement_85 ?_
        refine gf_if_ge (pc := 86) (tgt := 93) (ti_rfl l3) (by decide) dX6_wireStatement_86 (fun q3 => ?_) (fun q3 => ?_)
        ·
          refine go_aload_n (pc := 93) rfl dX6_wireStatement_93 ?_
          refine gi_getF (pc := 94) (q := 36) hv1 fL_X6_9 rfl (Nat.le_of_ble_eq_true rfl) rfl (hv1.rf (by decide)) dX6_wireStatement_94 ?_
          refine gi_getF (pc := 97) (q := 41) hv1 fL_X6_77 rfl (Nat.le_of_ble_eq_true rfl) rfl (hv1.rf (by decide)) dX6_wireStatement_97 ?_
          refine go_iload_n (pc := 100) rfl dX6_wireStatement_100 ?_
          refine gi_iald (pc := 101) (lo := -1) (hi := 5) (len := 128) hv1 (ti_rfl l3) rfl (by omega) (by omega) (fun _ => rfl) dX6_wireStatement_101 (fun v4 v4l v4u v4w => ?_)
          exact go_lv rfl (ih.2.1 l1 l2 l3 l4 l5 l6 v4 l5 c2 h1 hv1 (by omega) (by omega) (by omega) (by omega) (by omega) (by omega) (by omega) (by omega) (by omega) (by omega) (by omega) (by omega) (by omega) (by omega) (by omega) (by omega) hc2 (by omega))
        ·
          refine go_iconst (pc := 89) (v := (-1)) (by decide) dX6_wireStatement_89 ?_
          refine go_goto (pc := 90) (tgt := 102) (by decide) dX6_wireStatement_90 ?_
          have z5 : ((-1) : Int32).toInt = (-1) := (ti_c (v := (-1)) (a := (-1)) (by decide))
          exact go_lv rfl (ih.2.1 l1 l2 l3 l4 l5 l6 (-1) l5 c2 h1 hv1 (by omega) (by omega) (by omega) (by omega) (by omega) (by omega) (by omega) (by omega) (by omega) (by omega) (by omega) (by omega) (by omega) (by omega) (by omega) (by omega) hc2 (by omega))
      ·
        intro l1 l2 l3 l4 l5 l6 s0 s1 s2 hx hvx l1l l1u l2l l2u l3l l3u l4l l4u l5l l5u l6l l6u s0l s0u s1l s1u hs2 hm
        refine gi_iast (pc := 102) (lo := -1) (hi := 5) (len := 40) hvx (ti_rfl s1) (ti_rfl s0) (by rcases hs2 with rfl | rfl <;> rfl) (by omega) (by omega) (fun _ => by rcases hs2 with rfl | rfl <;> rfl) (by omega) (by omega) (by rcases hs2 with rfl | rfl <;> decide) dX6_wireStatement_102 (fun h6 hv6 hv6e => ?_)
        refine go_aload_n (pc := 103) rfl dX6_wireStatement_103 ?_
        refine gi_getC (pc := 104) hv6 fL_X6_15 rfl (Nat.le_of_ble_eq_true rfl) rfl (by decide) dX6_wireStatement_104 (fun c7 hc7 fc7 => ?_)
        refine gi_getF (pc := 107) (q := c7 + 15) hv6 fL_X6_80 (by rcases hc7 with rfl | rfl <;> rfl) (Nat.le_of_ble_eq_true rfl) rfl (by rcases hc7 with rfl | rfl <;> exact hv6.rf (by decide)) dX6_wireStatement_107 ?_
        refine go_iload (pc := 110) rfl dX6_wireStatement_110 ?_
        refine go_iload_n (pc := 112) rfl dX6_wireStatement_112 ?_
        refine gf_if_ge (pc := 113) (tgt := 121) (ti_rfl l3) (by decide) dX6_wireStatement_113 (fun q8 => ?_) (fun q8 => ?_)
        ·
          refine go_aload_n (pc := 121) rfl dX6_wireStatement_121 ?_
          refine gi_getF (pc := 122) (q := 36) hv6 fL_X6_9 rfl (Nat.le_of_ble_eq_true rfl) rfl (hv6.rf (by decide)) dX6_wireStatement_122 ?_
          refine gi_getF (pc := 125) (q := 43) hv6 fL_X6_56 rfl (Nat.le_of_ble_eq_true rfl) rfl (hv6.rf (by decide)) dX6_wireStatement_125 ?_
          refine go_iload_n (pc := 128) rfl dX6_wireStatement_128 ?_
          refine gi_iald (pc := 129) (lo := -2) (hi := 44) (len := 128) hv6 (ti_rfl l3) rfl (by omega) (by omega) (fun _ => rfl) dX6_wireStatement_129 (fun v9 v9l v9u v9w => ?_)
          exact go_lv rfl (ih.2.2.1 l1 l2 l3 l4 l5 l6 v9 l5 c7 h6 hv6 (by omega) (by omega) (by omega) (by omega) (by omega) (by omega) (by omega) (by omega) (by omega) (by omega) (by omega) (by omega) (by omega) (by omega) (by omega) (by omega) hc7 (by omega))
        ·
          refine go_bipush (pc := 116) (v := (-2)) (by decide) dX6_wireStatement_116 ?_
          refine go_goto (pc := 118) (tgt := 130) (by decide) dX6_wireStatement_118 ?_
          have z10 : ((-2) : Int32).toInt = (-2) := (ti_c (v := (-2)) (a := (-2)) (by decide))
          exact go_lv rfl (ih.2.2.1 l1 l2 l3 l4 l5 l6 (-2) l5 c7 h6 hv6 (by omega) (by omega) (by omega) (by omega) (by omega) (by omega) (by omega) (by omega) (by omega) (by omega) (by omega) (by omega) (by omega) (by omega) (by omega) (by omega) hc7 (by omega))
      ·
        intro l1 l2 l3 l4 l5 l6 s0 s1 s2 hx hvx l1l l1u l2l l2u l3l l3u l4l l4u l5l l5u l6l l6u s0l s0u s1l s1u hs2 hm
        refine gi_iast (pc := 130) (lo := -2) (hi := 44) (len := 40) hvx (ti_rfl s1) (ti_rfl s0) (by rcases hs2 with rfl | rfl <;> rfl) (by omega) (by omega) (fun _ => by rcases hs2 with rfl | rfl <;> rfl) (by omega) (by omega) (by rcases hs2 with rfl | rfl <;> decide) dX6_wireStatement_130 (fun h11 hv11 hv11e => ?_)
        refine go_aload_n (pc := 131) rfl dX6_wireStatement_131 ?_
        refine gi_getC (pc := 132) hv11 fL_X6_15 rfl (Nat.le_of_ble_eq_true rfl) rfl (by decide) dX6_wireStatement_132 (fun c12 hc12 fc12 => ?_)
        refine gi_getF (pc := 135) (q := c12 + 2) hv11 fL_X6_81 (by rcases hc12 with rfl | rfl <;> rfl) (Nat.le_of_ble_eq_true rfl) rfl (by rcases hc12 with rfl | rfl <;> exact hv11.rf (by decide)) dX6_wireStatement_135 ?_
        refine go_iload (pc := 138) rfl dX6_wireStatement_138 ?_
        refine gi_iald (pc := 140) (lo := 0) (hi := 5) (len := 40) hv11 (ti_rfl l5) (by rcases hc12 with rfl | rfl <;> rfl) (by omega) (by omega) (fun _ => by rcases hc12 with rfl | rfl <;> rfl) dX6_wireStatement_140 (fun v13 v13l v13u v13w => ?_)
        refine go_iconst (pc := 141) (v := 5) (by decide) dX6_wireStatement_141 ?_
        refine gf_icmp_ne (pc := 142) (tgt := 160) (ti_rfl v13) (ti_c (v := 5) (a := 5) (by decide)) (by decide) dX6_wireStatement_142 (fun q14 => ?_) (fun q14 => ?_)
        ·
          refine go_aload_n (pc := 160) rfl dX6_wireStatement_160 ?_
          refine gi_getC (pc := 161) hv11 fL_X6_15 rfl (Nat.le_of_ble_eq_true rfl) rfl (by decide) dX6_wireStatement_161 (fun c15 hc15 fc15 => ?_)
          refine gi_getF (pc := 164) (q := c15 + 2) hv11 fL_X6_81 (by rcases hc15 with rfl | rfl <;> rfl) (Nat.le_of_ble_eq_true rfl) rfl (by rcases hc15 with rfl | rfl <;> exact hv11.rf (by decide)) dX6_wireStatement_164 ?_
          refine go_iload (pc := 167) rfl dX6_wireStatement_167 ?_
          refine gi_iald (pc := 169) (lo := 0) (hi := 5) (len := 40) hv11 (ti_rfl l5) (by rcases hc15 with rfl | rfl <;> rfl) (by omega) (by omega) (fun _ => by rcases hc15 with rfl | rfl <;> rfl) dX6_wireStatement_169 (fun v16 v16l v16u v16w => ?_)
          refine go_iconst (pc := 170) (v := 3) (by decide) dX6_wireStatement_170 ?_
          refine gf_icmp_ne (pc := 171) (tgt := 207) (ti_rfl v16) (ti_c (v := 3) (a := 3) (by decide)) (by decide) dX6_wireStatement_171 (fun q17 => ?_) (fun q17 => ?_)
          ·
            refine go_aload_n (pc := 207) rfl dX6_wireStatement_207 ?_
            refine gi_getC (pc := 208) hv11 fL_X6_15 rfl (Nat.le_of_ble_eq_true rfl) rfl (by decide) dX6_wireStatement_208 (fun c18 hc18 fc18 => ?_)
            refine gi_getF (pc := 211) (q := c18 + 2) hv11 fL_X6_81 (by rcases hc18 with rfl | rfl <;> rfl) (Nat.le_of_ble_eq_true rfl) rfl (by rcases hc18 with rfl | rfl <;> exact hv11.rf (by decide)) dX6_wireStatement_211 ?_
            refine go_iload (pc := 214) rfl dX6_wireStatement_214 ?_
            refine gi_iald (pc := 216) (lo := 0) (hi := 5) (len := 40) hv11 (ti_rfl l5) (by rcases hc18 with rfl | rfl <;> rfl) (by omega) (by omega) (fun _ => by rcases hc18 with rfl | rfl <;> rfl) dX6_wireStatement_216 (fun v19 v19l v19u v19w => ?_)
            refine go_iconst (pc := 217) (v := 2) (by decide) dX6_wireStatement_217 ?_
            refine gf_icmp_ne (pc := 218) (tgt := 279) (ti_rfl v19) (ti_c (v := 2) (a := 2) (by decide)) (by decide) dX6_wireStatement_218 (fun q20 => ?_) (fun q20 => ?_)
            ·
              exact go_lv rfl (ih.2.2.2 l5 h11 hv11 (by omega) (by omega) (by omega))
            ·
              refine go_aload_n (pc := 221) rfl dX6_wireStatement_221 ?_
              refine gi_getC (pc := 222) hv11 fL_X6_15 rfl (Nat.le_of_ble_eq_true rfl) rfl (by decide) dX6_wireStatement_222 (fun c21 hc21 fc21 => ?_)
              refine gi_getF (pc := 225) (q := c21 + 13) hv11 fL_X6_71 (by rcases hc21 with rfl | rfl <;> rfl) (Nat.le_of_ble_eq_true rfl) rfl (by rcases hc21 with rfl | rfl <;> exact hv11.rf (by decide)) dX6_wireStatement_225 ?_
              refine go_iload (pc := 228) rfl dX6_wireStatement_228 ?_
              refine go_aload_n (pc := 230) rfl dX6_wireStatement_230 ?_
              refine go_aload_n (pc := 231) rfl dX6_wireStatement_231 ?_
              refine gi_getF (pc := 232) (q := 36) hv11 fL_X6_9 rfl (Nat.le_of_ble_eq_true rfl) rfl (hv11.rf (by decide)) dX6_wireStatement_232 ?_
              refine gi_getF (pc := 235) (q := 39) hv11 fL_X6_59 rfl (Nat.le_of_ble_eq_true rfl) rfl (hv11.rf (by decide)) dX6_wireStatement_235 ?_
              refine go_iload_n (pc := 238) rfl dX6_wireStatement_238 ?_
              refine gi_iald (pc := 239) (lo := -1) (hi := 127) (len := 128) hv11 (ti_rfl l1) rfl (by omega) (by omega) (fun _ => rfl) dX6_wireStatement_239 (fun v22 v22l v22u v22w => ?_)
              refine go_iload_n (pc := 240) rfl dX6_wireStatement_240 ?_
              refine go_iload_n (pc := 241) rfl dX6_wireStatement_241 ?_
              refine go_iload (pc := 242) rfl dX6_wireStatement_242 ?_
              refine go_iconst (pc := 244) (v := 1) (by decide) dX6_wireStatement_244 ?_
              refine gf_iadd (pc := 245) (ti_rfl l4) (ti_c (v := 1) (a := 1) (by decide)) (by omega) (by omega) dX6_wireStatement_245 (fun v23 e24 => ?_)
              refine go_invV (pc := 246) (sl := 0) (s_X6_wireBlock_lv7 l (d + 0) hv11 v22 (by rw [show (v22 : Int32).toInt = v22.toInt from (ti_rfl v22)]; omega) (by rw [show (v22 : Int32).toInt = v22.toInt from (ti_rfl v22)]; omega) l2 (by rw [show (l2 : Int32).toInt = l2.toInt from (ti_rfl l2)]; omega) (by rw [show (l2 : Int32).toInt = l2.toInt from (ti_rfl l2)]; omega) l3 (by rw [show (l3 : Int32).toInt = l3.toInt from (ti_rfl l3)]; omega) (by rw [show (l3 : Int32).toInt = l3.toInt from (ti_rfl l3)]; omega) v23 (by rw [show (v23 : Int32).toInt = (l4.toInt + 1) from e24]; omega) (by rw [show (v23 : Int32).toInt = (l4.toInt + 1) from e24]; omega)) mL_X6_34 iM_X6_wireBlock sM_X6_wireBlock (hv11.sh rfl) rfl rfl rfl (Nat.le_of_ble_eq_true rfl) (show d + 0 + 1 + 1 ≤ d + 2 by omega) (show 8 + (8 + 11) + 40 * (d + 0 + 1) ≤ 40 * (d + 2) by omega) (g_c0 hv11.ln) (Nat.le_of_ble_eq_true rfl) dX6_wireStatement_246 ?_
              intro r h25 hq _
              obtain ⟨v26, rfl, v26l, v26u, hv25⟩ := hq
              refine gi_iast (pc := 249) (lo := 0) (hi := 44) (len := 40) hv25 (ti_rfl l5) (ti_rfl v26) (by rcases hc21 with rfl | rfl <;> rfl) (by omega) (by omega) (fun _ => by rcases hc21 with rfl | rfl <;> rfl) (by omega) (by omega) (by rcases hc21 with rfl | rfl <;> decide) dX6_wireStatement_249 (fun h27 hv27 hv27e => ?_)
              refine go_aload_n (pc := 250) rfl dX6_wireStatement_250 ?_
              refine gi_getC (pc := 251) hv27 fL_X6_15 rfl (Nat.le_of_ble_eq_true rfl) rfl (by decide) dX6_wireStatement_251 (fun c28 hc28 fc28 => ?_)
              refine gi_getF (pc := 254) (q := c28 + 12) hv27 fL_X6_68 (by rcases hc28 with rfl | rfl <;> rfl) (Nat.le_of_ble_eq_true rfl) rfl (by rcases hc28 with rfl | rfl <;> exact hv27.rf (by decide)) dX6_wireStatement_254 ?_
              refine go_iload (pc := 257) rfl dX6_wireStatement_257 ?_
              refine go_aload_n (pc := 259) rfl dX6_wireStatement_259 ?_
              refine go_aload_n (pc := 260) rfl dX6_wireStatement_260 ?_
              refine gi_getF (pc := 261) (q := 36) hv27 fL_X6_9 rfl (Nat.le_of_ble_eq_true rfl) rfl (hv27.rf (by decide)) dX6_wireStatement_261 ?_
              refine gi_getF (pc := 264) (q := 40) hv27 fL_X6_50 rfl (Nat.le_of_ble_eq_true rfl) rfl (hv27.rf (by decide)) dX6_wireStatement_264 ?_
              refine go_iload_n (pc := 267) rfl dX6_wireStatement_267 ?_
              refine gi_iald (pc := 268) (lo := -1) (hi := 127) (len := 128) hv27 (ti_rfl l1) rfl (by omega) (by omega) (fun _ => rfl) dX6_wireStatement_268 (fun v29 v29l v29u v29w => ?_)
              refine go_iload_n (pc := 269) rfl dX6_wireStatement_269 ?_
              refine go_iload_n (pc := 270) rfl dX6_wireStatement_270 ?_
              refine go_iload (pc := 271) rfl dX6_wireStatement_271 ?_
              refine go_iconst (pc := 273) (v := 1) (by decide) dX6_wireStatement_273 ?_
              refine gf_iadd (pc := 274) (ti_rfl l4) (ti_c (v := 1) (a := 1) (by decide)) (by omega) (by omega) dX6_wireStatement_274 (fun v30 e31 => ?_)
              refine go_invV (pc := 275) (sl := 0) (s_X6_wireBlock_lv7 l (d + 0) hv27 v29 (by rw [show (v29 : Int32).toInt = v29.toInt from (ti_rfl v29)]; omega) (by rw [show (v29 : Int32).toInt = v29.toInt from (ti_rfl v29)]; omega) l2 (by rw [show (l2 : Int32).toInt = l2.toInt from (ti_rfl l2)]; omega) (by rw [show (l2 : Int32).toInt = l2.toInt from (ti_rfl l2)]; omega) l3 (by rw [show (l3 : Int32).toInt = l3.toInt from (ti_rfl l3)]; omega) (by rw [show (l3 : Int32).toInt = l3.toInt from (ti_rfl l3)]; omega) v30 (by rw [show (v30 : Int32).toInt = (l4.toInt + 1) from e31]; omega) (by rw [show (v30 : Int32).toInt = (l4.toInt + 1) from e31]; omega)) mL_X6_34 iM_X6_wireBlock sM_X6_wireBlock (hv27.sh rfl) rfl rfl rfl (Nat.le_of_ble_eq_true rfl) (show d + 0 + 1 + 1 ≤ d + 2 by omega) (show 8 + (8 + 11) + 40 * (d + 0 + 1) ≤ 40 * (d + 2) by omega) (g_c0 hv27.ln) (Nat.le_of_ble_eq_true rfl) dX6_wireStatement_275 ?_
              intro r h32 hq _
              obtain ⟨v33, rfl, v33l, v33u, hv32⟩ := hq
              refine gi_iast (pc := 278) (lo := 0) (hi := 44) (len := 40) hv32 (ti_rfl l5) (ti_rfl v33) (by rcases hc28 with rfl | rfl <;> rfl) (by omega) (by omega) (fun _ => by rcases hc28 with rfl | rfl <;> rfl) (by omega) (by omega) (by rcases hc28 with rfl | rfl <;> decide) dX6_wireStatement_278 (fun h34 hv34 hv34e => ?_)
              exact go_lv rfl (ih.2.2.2 l5 h34 hv34 (by omega) (by omega) (by omega))
          ·
            refine go_aload_n (pc := 174) rfl dX6_wireStatement_174 ?_
            refine gi_getC (pc := 175) hv11 fL_X6_15 rfl (Nat.le_of_ble_eq_true rfl) rfl (by decide) dX6_wireStatement_175 (fun c35 hc35 fc35 => ?_)
            refine gi_getF (pc := 178) (q := c35 + 13) hv11 fL_X6_71 (by rcases hc35 with rfl | rfl <;> rfl) (Nat.le_of_ble_eq_true rfl) rfl (by rcases hc35 with rfl | rfl <;> exact hv11.rf (by decide)) dX6_wireStatement_178 ?_
            refine go_iload (pc := 181) rfl dX6_wireStatement_181 ?_
            refine go_aload_n (pc := 183) rfl dX6_wireStatement_183 ?_
            refine go_aload_n (pc := 184) rfl dX6_wireStatement_184 ?_
            refine gi_getF (pc := 185) (q := 36) hv11 fL_X6_9 rfl (Nat.le_of_ble_eq_true rfl) rfl (hv11.rf (by decide)) dX6_wireStatement_185 ?_
            refine gi_getF (pc := 188) (q := 39) hv11 fL_X6_59 rfl (Nat.le_of_ble_eq_true rfl) rfl (hv11.rf (by decide)) dX6_wireStatement_188 ?_
            refine go_iload_n (pc := 191) rfl dX6_wireStatement_191 ?_
            refine gi_iald (pc := 192) (lo := -1) (hi := 127) (len := 128) hv11 (ti_rfl l1) rfl (by omega) (by omega) (fun _ => rfl) dX6_wireStatement_192 (fun v36 v36l v36u v36w => ?_)
            refine go_iload (pc := 193) rfl dX6_wireStatement_193 ?_
            refine go_iload_n (pc := 195) rfl dX6_wireStatement_195 ?_
            refine go_iload (pc := 196) rfl dX6_wireStatement_196 ?_
            refine go_iconst (pc := 198) (v := 1) (by decide) dX6_wireStatement_198 ?_
            refine gf_iadd (pc := 199) (ti_rfl l4) (ti_c (v := 1) (a := 1) (by decide)) (by omega) (by omega) dX6_wireStatement_199 (fun v37 e38 => ?_)
            refine go_invV (pc := 200) (sl := 0) (s_X6_wireBlock_lv7 l (d + 0) hv11 v36 (by rw [show (v36 : Int32).toInt = v36.toInt from (ti_rfl v36)]; omega) (by rw [show (v36 : Int32).toInt = v36.toInt from (ti_rfl v36)]; omega) l5 (by rw [show (l5 : Int32).toInt = l5.toInt from (ti_rfl l5)]; omega) (by rw [show (l5 : Int32).toInt = l5.toInt from (ti_rfl l5)]; omega) l3 (by rw [show (l3 : Int32).toInt = l3.toInt from (ti_rfl l3)]; omega) (by rw [show (l3 : Int32).toInt = l3.toInt from (ti_rfl l3)]; omega) v37 (by rw [show (v37 : Int32).toInt = (l4.toInt + 1) from e38]; omega) (by rw [show (v37 : Int32).toInt = (l4.toInt + 1) from e38]; omega)) mL_X6_34 iM_X6_wireBlock sM_X6_wireBlock (hv11.sh rfl) rfl rfl rfl (Nat.le_of_ble_eq_true rfl) (show d + 0 + 1 + 1 ≤ d + 2 by omega) (show 8 + (8 + 11) + 40 * (d + 0 + 1) ≤ 40 * (d + 2) by omega) (g_c0 hv11.ln) (Nat.le_of_ble_eq_true rfl) dX6_wireStatement_200 ?_
            intro r h39 hq _
            obtain ⟨v40, rfl, v40l, v40u, hv39⟩ := hq
            refine gi_iast (pc := 203) (lo := 0) (hi := 44) (len := 40) hv39 (ti_rfl l5) (ti_rfl v40) (by rcases hc35 with rfl | rfl <;> rfl) (by omega) (by omega) (fun _ => by rcases hc35 with rfl | rfl <;> rfl) (by omega) (by omega) (by rcases hc35 with rfl | rfl <;> decide) dX6_wireStatement_203 (fun h41 hv41 hv41e => ?_)
            refine go_goto (pc := 204) (tgt := 279) (by decide) dX6_wireStatement_204 ?_
            exact go_lv rfl (ih.2.2.2 l5 h41 hv41 (by omega) (by omega) (by omega))
        ·
          refine go_aload_n (pc := 145) rfl dX6_wireStatement_145 ?_
          refine gi_getC (pc := 146) hv11 fL_X6_15 rfl (Nat.le_of_ble_eq_true rfl) rfl (by decide) dX6_wireStatement_146 (fun c42 hc42 fc42 => ?_)
          refine gi_getF (pc := 149) (q := c42 + 13) hv11 fL_X6_71 (by rcases hc42 with rfl | rfl <;> rfl) (Nat.le_of_ble_eq_true rfl) rfl (by rcases hc42 with rfl | rfl <;> exact hv11.rf (by decide)) dX6_wireStatement_149 ?_
          refine go_iload (pc := 152) rfl dX6_wireStatement_152 ?_
          refine go_iload (pc := 154) rfl dX6_wireStatement_154 ?_
          refine gi_iast (pc := 156) (lo := 0) (hi := 44) (len := 40) hv11 (ti_rfl l5) (ti_rfl l6) (by rcases hc42 with rfl | rfl <;> rfl) (by omega) (by omega) (fun _ => by rcases hc42 with rfl | rfl <;> rfl) (by omega) (by omega) (by rcases hc42 with rfl | rfl <;> decide) dX6_wireStatement_156 (fun h43 hv43 hv43e => ?_)
          refine go_goto (pc := 157) (tgt := 279) (by decide) dX6_wireStatement_157 ?_
          exact go_lv rfl (ih.2.2.2 l5 h43 hv43 (by omega) (by omega) (by omega))
      ·
        intro l5 hx hvx l5l l5u hm
        refine go_iload (pc := 279) rfl dX6_wireStatement_279 ?_
        exact gi_iret (pc := 281) (ti_rfl l5) ⟨_, rfl, (by rw [show (l5 : Int32).toInt = l5.toInt from (ti_rfl l5)]; omega), (by rw [show (l5 : Int32).toInt = l5.toInt from (ti_rfl l5)]; omega), hvx⟩ hvx dX6_wireStatement_281
  refine go_aload_n (pc := 0) rfl dX6_wireStatement_0 ?_
  refine gi_getF (pc := 1) (q := 36) hv fL_X6_9 rfl (Nat.le_of_ble_eq_true rfl) rfl (hv.rf (by decide)) dX6_wireStatement_1 ?_
  refine gi_getF (pc := 4) (q := 37) hv fL_X6_38 rfl (Nat.le_of_ble_eq_true rfl) rfl (hv.rf (by decide)) dX6_wireStatement_4 ?_
  refine go_iload_n (pc := 7) rfl dX6_wireStatement_7 ?_
  refine gi_iald (pc := 8) (lo := -1) (hi := 39) (len := 128) hv (ti_rfl a2) rfl (by omega) (by omega) (fun _ => rfl) dX6_wireStatement_8 (fun v44 v44l v44u v44w => ?_)
  have kk : 0 ≤ v44.toInt := by rw [v44w]; exact hp
  refine go_istore (pc := 9) (Nat.le_of_ble_eq_true rfl) dX6_wireStatement_9 (go_lv (lv2 := [(0, .ref 48), (1, .int a2), (2, .int a3), (3, .int a4), (4, .int a5), (5, .int v44)]) rfl ?_)
  refine go_bipush (pc := 11) (v := 40) (by decide) dX6_wireStatement_11 ?_
  refine go_aload_n (pc := 13) rfl dX6_wireStatement_13 ?_
  refine gi_getC (pc := 14) hv fL_X6_15 rfl (Nat.le_of_ble_eq_true rfl) rfl (by decide) dX6_wireStatement_14 (fun c45 hc45 fc45 => ?_)
  refine gi_getF (pc := 17) (q := c45 + 3) hv fL_X6_62 (by rcases hc45 with rfl | rfl <;> rfl) (Nat.le_of_ble_eq_true rfl) rfl (by rcases hc45 with rfl | rfl <;> exact hv.rf (by decide)) dX6_wireStatement_17 ?_
  refine go_iload (pc := 20) rfl dX6_wireStatement_20 ?_
  refine gi_iald (pc := 22) (lo := -1) (hi := 4) (len := 40) hv (ti_rfl v44) (by rcases hc45 with rfl | rfl <;> rfl) (by omega) (by omega) (fun _ => by rcases hc45 with rfl | rfl <;> rfl) dX6_wireStatement_22 (fun v46 v46l v46u v46w => ?_)
  refine gf_iadd (pc := 23) (ti_c (v := 40) (a := 40) (by decide)) (ti_rfl v46) (by omega) (by omega) dX6_wireStatement_23 (fun v47 e48 => ?_)
  refine go_istore (pc := 24) (Nat.le_of_ble_eq_true rfl) dX6_wireStatement_24 (go_lv (lv2 := [(0, .ref 48), (1, .int a2), (2, .int a3), (3, .int a4), (4, .int a5), (5, .int v44), (6, .int v47)]) rfl ?_)
  refine go_aload_n (pc := 26) rfl dX6_wireStatement_26 ?_
  refine gi_getC (pc := 27) hv fL_X6_15 rfl (Nat.le_of_ble_eq_true rfl) rfl (by decide) dX6_wireStatement_27 (fun c49 hc49 fc49 => ?_)
  refine gi_getF (pc := 30) (q := c49 + 11) hv fL_X6_65 (by rcases hc49 with rfl | rfl <;> rfl) (Nat.le_of_ble_eq_true rfl) rfl (by rcases hc49 with rfl | rfl <;> exact hv.rf (by decide)) dX6_wireStatement_30 ?_
  refine go_iload (pc := 33) rfl dX6_wireStatement_33 ?_
  refine go_iload_n (pc := 35) rfl dX6_wireStatement_35 ?_
  refine gi_iast (pc := 36) (lo := 0) (hi := 44) (len := 40) hv (ti_rfl v44) (ti_rfl a3) (by rcases hc49 with rfl | rfl <;> rfl) (by omega) (by omega) (fun _ => by rcases hc49 with rfl | rfl <;> rfl) (by omega) (by omega) (by rcases hc49 with rfl | rfl <;> decide) dX6_wireStatement_36 (fun h50 hv50 hv50e => ?_)
  refine go_aload_n (pc := 37) rfl dX6_wireStatement_37 ?_
  refine gi_getC (pc := 38) hv50 fL_X6_15 rfl (Nat.le_of_ble_eq_true rfl) rfl (by decide) dX6_wireStatement_38 (fun c51 hc51 fc51 => ?_)
  refine gi_getF (pc := 41) (q := c51 + 12) hv50 fL_X6_68 (by rcases hc51 with rfl | rfl <;> rfl) (Nat.le_of_ble_eq_true rfl) rfl (by rcases hc51 with rfl | rfl <;> exact hv50.rf (by decide)) dX6_wireStatement_41 ?_
  refine go_iload (pc := 44) rfl dX6_wireStatement_44 ?_
  refine go_iload_n (pc := 46) rfl dX6_wireStatement_46 ?_
  refine gi_iast (pc := 47) (lo := 0) (hi := 44) (len := 40) hv50 (ti_rfl v44) (ti_rfl a3) (by rcases hc51 with rfl | rfl <;> rfl) (by omega) (by omega) (fun _ => by rcases hc51 with rfl | rfl <;> rfl) (by omega) (by omega) (by rcases hc51 with rfl | rfl <;> decide) dX6_wireStatement_47 (fun h52 hv52 hv52e => ?_)
  refine go_aload_n (pc := 48) rfl dX6_wireStatement_48 ?_
  refine gi_getC (pc := 49) hv52 fL_X6_15 rfl (Nat.le_of_ble_eq_true rfl) rfl (by decide) dX6_wireStatement_49 (fun c53 hc53 fc53 => ?_)
  refine gi_getF (pc := 52) (q := c53 + 13) hv52 fL_X6_71 (by rcases hc53 with rfl | rfl <;> rfl) (Nat.le_of_ble_eq_true rfl) rfl (by rcases hc53 with rfl | rfl <;> exact hv52.rf (by decide)) dX6_wireStatement_52 ?_
  refine go_iload (pc := 55) rfl dX6_wireStatement_55 ?_
  refine go_iload_n (pc := 57) rfl dX6_wireStatement_57 ?_
  refine gf_if_ge (pc := 58) (tgt := 66) (ti_rfl a4) (by decide) dX6_wireStatement_58 (fun q54 => ?_) (fun q54 => ?_)
  ·
    refine go_aload_n (pc := 66) rfl dX6_wireStatement_66 ?_
    refine gi_getF (pc := 67) (q := 36) hv52 fL_X6_9 rfl (Nat.le_of_ble_eq_true rfl) rfl (hv52.rf (by decide)) dX6_wireStatement_67 ?_
    refine gi_getF (pc := 70) (q := 42) hv52 fL_X6_53 rfl (Nat.le_of_ble_eq_true rfl) rfl (hv52.rf (by decide)) dX6_wireStatement_70 ?_
    refine go_iload_n (pc := 73) rfl dX6_wireStatement_73 ?_
    refine gi_iald (pc := 74) (lo := 0) (hi := 44) (len := 128) hv52 (ti_rfl a4) rfl (by omega) (by omega) (fun _ => rfl) dX6_wireStatement_74 (fun v55 v55l v55u v55w => ?_)
    have z56 : (v47 : Int32).toInt = (40 + v46.toInt) := e48
    exact go_lv rfl ((key 17).1 a2 a3 a4 a5 v44 v47 v55 v44 c53 h52 hv52 (by omega) (by omega) (by omega) (by omega) (by omega) (by omega) (by omega) (by omega) (by omega) (by omega) (by omega) (by omega) (by omega) (by omega) (by omega) (by omega) hc53 (by omega))
  ·
    refine go_iload (pc := 61) rfl dX6_wireStatement_61 ?_
    refine go_goto (pc := 63) (tgt := 75) (by decide) dX6_wireStatement_63 ?_
    have z57 : (v47 : Int32).toInt = (40 + v46.toInt) := e48
    have z58 : (v47 : Int32).toInt = (40 + v46.toInt) := e48
    exact go_lv rfl ((key 17).1 a2 a3 a4 a5 v44 v47 v47 v44 c53 h52 hv52 (by omega) (by omega) (by omega) (by omega) (by omega) (by omega) (by omega) (by omega) (by omega) (by omega) (by omega) (by omega) (by omega) (by omega) (by omega) (by omega) hc53 (by omega))
set_option maxHeartbeats 4000000 in
set_option maxRecDepth 100000 in
theorem s_X6_wireBlock_lv6 (l : Launch) (d : Nat) {P : PP} {h : HP} (hv : Iv P h) (a2 : Int32) (a2l : -1 ≤ a2.toInt) (a2u : a2.toInt ≤ 127) (a3 : Int32) (a3l : 0 ≤ a3.toInt) (a3u : a3.toInt ≤ 44) (a4 : Int32) (a4l : -1 ≤ a4.toInt) (a4u : a4.toInt ≤ 127) (a5 : Int32) (a5l : 6 ≤ a5.toInt) (a5u : a5.toInt ≤ 6) : Mt l yX6_wireBlock cX6_wireBlock 8 (some .int) (d + 3) [.ref 48, .int a2, .int a3, .int a4, .int a5] h 0 0 (fun r h' => ∃ v : Int32, r = some (.int v) ∧ 0 ≤ v.toInt ∧ v.toInt ≤ 44 ∧ Iv P h') := by
  refine Mt_iv hv (by decide) (Nat.le_of_ble_eq_true rfl) ?_
  show Go l RX6 cX6_wireBlock 8 (g_rm (d + 3) 0 0) "wireBlock" (some .int) 117 0 0 (fun _ _ => True) (fun r h' => ∃ v : Int32, r = some (.int v) ∧ 0 ≤ v.toInt ∧ v.toInt ≤ 44 ∧ Iv P h') 0 0 [(0, .ref 48), (1, .int a2), (2, .int a3), (3, .int a4), (4, .int a5)] [] h
  have key : ∀ n : Nat, (∀ (l3 : Int32) (l4 : Int32) (l5 : Int32) (s0 : Int32) (hx : HP), Iv P hx → -1 ≤ l3.toInt → l3.toInt ≤ 127 → 6 ≤ l4.toInt → l4.toInt ≤ 6 → 0 ≤ l5.toInt → l5.toInt ≤ 44 → -1 ≤ s0.toInt → s0.toInt ≤ 127 → (522 : Int) < n → Go l RX6 cX6_wireBlock 8 (g_rm (d + 3) 0 0) "wireBlock" (some .int) 117 0 0 (fun _ _ => True) (fun r h' => ∃ v : Int32, r = some (.int v) ∧ 0 ≤ v.toInt ∧ v.toInt ≤ 44 ∧ Iv P h') 0 15 [(0, .ref 48), (3, .int l3), (4, .int l4), (5, .int l5)] [.int s0] hx) ∧ (∀ (l3 : Int32) (l4 : Int32) (l5 : Int32) (l6 : Int32) (l7 : Int32) (hx : HP), Iv P hx → -1 ≤ l3.toInt → l3.toInt ≤ 127 → 6 ≤ l4.toInt → l4.toInt ≤ 6 → 0 ≤ l5.toInt → l5.toInt ≤ 44 → -1 ≤ l6.toInt → l6.toInt ≤ 127 → 0 ≤ l7.toInt → l7.toInt ≤ 128 → (4 * (128 - l7.toInt) + 4 : Int) < n → Go l RX6 cX6_wireBlock 8 (g_rm (d + 3) 0 0) "wireBlock" (some .int) 117 0 0 (fun _ _ => True) (fun r h' => ∃ v : Int32, r = some (.int v) ∧ 0 ≤ v.toInt ∧ v.toInt ≤ 44 ∧ Iv P h') 0 20 [(0, .ref 48), (3, .int l3), (4, .int l4), (5, .int l5), (6, .int l6), (7, .int l7)] [] hx) ∧ (∀ (l3 : Int32) (l4 : Int32) (l5 : Int32) (l6 : Int32) (l7 : Int32) (hx : HP), Iv P hx → -1 ≤ l3.toInt → l3.toInt ≤ 127 → 6 ≤ l4.toInt → l4.toInt ≤ 6 → 0 ≤ l5.toInt → l5.toInt ≤ 44 → 0 ≤ l6.toInt → l6.toInt ≤ 127 → 0 ≤ l7.toInt → l7.toInt ≤ 127 → (4 * (128 - l7.toInt) + 3 : Int) < n → Go l RX6 cX6_wireBlock 8 (g_rm (d + 3) 0 0) "wireBlock" (some .int) 117 0 0 (fun _ _ => True) (fun r h' => ∃ v : Int32, r = some (.int v) ∧ 0 ≤ v.toInt ∧ v.toInt ≤ 44 ∧ Iv P h') 0 76 [(0, .ref 48), (3, .int l3), (4, .int l4), (5, .int l5), (6, .int l6), (7, .int l7)] [] hx) ∧ (∀ (l5 : Int32) (hx : HP), Iv P hx → 0 ≤ l5.toInt → l5.toInt ≤ 44 → (1 : Int) < n → Go l RX6 cX6_wireBlock 8 (g_rm (d + 3) 0 0) "wireBlock" (some .int) 117 0 0 (fun _ _ => True) (fun r h' => ∃ v : Int32, r = some (.int v) ∧ 0 ≤ v.toInt ∧ v.toInt ≤ 44 ∧ Iv P h') 0 94 [(5, .int l5)] [] hx) := by
    intro n
    induction n with
    | zero => exact ⟨(by intros; omega), (by intros; omega), (by intros; omega), (by intros; omega)⟩
    | succ n ih =>
      refine ⟨?_, ?_, ?_, ?_⟩
      ·
        intro l3 l4 l5 s0 hx hvx l3l l3u l4l l4u l5l l5u s0l s0u hm
        refine go_istore (pc := 15) (Nat.le_of_ble_eq_true rfl) dX6_wireBlock_15 (go_lv (lv2 := [(0, .ref 48), (3, .int l3), (4, .int l4), (5, .int l5), (6, .int s0)]) rfl ?_)
        refine go_iconst (pc := 17) (v := 0) (by decide) dX6_wireBlock_17 ?_
        refine go_istore (pc := 18) (Nat.le_of_ble_eq_true rfl) dX6_wireBlock_18 (go_lv (lv2 := [(0, .ref 48), (3, .int l3), (4, .int l4), (5, .int l5), (6, .int s0), (7, .int 0)]) rfl ?_)
        have z1 : (0 : Int32).toInt = 0 := (ti_c (v := 0) (a := 0) (by decide))
        exact go_lv rfl (ih.2.1 l3 l4 l5 s0 0 hx hvx (by omega) (by omega) (by omega) (by omega) (by omega) (by omega) (by omega) (by omega) (by omega) (by omega) (by omega))
      ·
        intro l3 l4 l5 l6 l7 hx hvx l3l l3u l4l l4u l5l l5u l6l l6u l7l l7u hm
        refine go_iload (pc := 20) rfl dX6_wireBlock_20 ?_
        refine go_sipush (pc := 22) (v := 128) (by decide) dX6_wireBlock_22 ?_
        refine gf_icmp_ge (pc := 25) (tgt := 94) (ti_rfl l7) (ti_c (v := 128) (a := 128) (by decide)) (by decide) dX6_wireBlock_25 (fun q2 => ?_) (fun q2 => ?_)
        ·
          exact go_lv rfl (ih.2.2.2 l5 hx hvx (by omega) (by omega) (by omega))
        ·
          refine go_iload (pc := 28) rfl dX6_wireBlock_28 ?_
          refine gf_if_lt (pc := 30) (tgt := 94) (ti_rfl l6) (by decide) dX6_wireBlock_30 (fun q3 => ?_) (fun q3 => ?_)
          ·
            exact go_lv rfl (ih.2.2.2 l5 hx hvx (by omega) (by omega) (by omega))
          ·
            refine go_aload_n (pc := 33) rfl dX6_wireBlock_33 ?_
            refine gi_getF (pc := 34) (q := 36) hvx fL_X6_9 rfl (Nat.le_of_ble_eq_true rfl) rfl (hvx.rf (by decide)) dX6_wireBlock_34 ?_
            refine gi_getF (pc := 37) (q := 37) hvx fL_X6_38 rfl (Nat.le_of_ble_eq_true rfl) rfl (hvx.rf (by decide)) dX6_wireBlock_37 ?_
            refine go_iload (pc := 40) rfl dX6_wireBlock_40 ?_
            refine gi_iald (pc := 42) (lo := -1) (hi := 39) (len := 128) hvx (ti_rfl l6) rfl (by omega) (by omega) (fun _ => rfl) dX6_wireBlock_42 (fun v4 v4l v4u v4w => ?_)
            refine go_iconst (pc := 43) (v := (-1)) (by decide) dX6_wireBlock_43 ?_
            refine gf_icmp_ne (pc := 44) (tgt := 63) (ti_rfl v4) (ti_c (v := (-1)) (a := (-1)) (by decide)) (by decide) dX6_wireBlock_44 (fun q5 => ?_) (fun q5 => ?_)
            ·
              refine go_aload_n (pc := 63) rfl dX6_wireBlock_63 ?_
              refine go_iload (pc := 64) rfl dX6_wireBlock_64 ?_
              refine go_iload (pc := 66) rfl dX6_wireBlock_66 ?_
              refine go_iload_n (pc := 68) rfl dX6_wireBlock_68 ?_
              refine go_iload (pc := 69) rfl dX6_wireBlock_69 ?_
              refine go_invV (pc := 71) (sl := 0) (s_X6_wireStatement_lv6 l (d + 0) hvx l6 (by rw [show (l6 : Int32).toInt = l6.toInt from (ti_rfl l6)]; omega) (by rw [show (l6 : Int32).toInt = l6.toInt from (ti_rfl l6)]; omega) l5 (by rw [show (l5 : Int32).toInt = l5.toInt from (ti_rfl l5)]; omega) (by rw [show (l5 : Int32).toInt = l5.toInt from (ti_rfl l5)]; omega) l3 (by rw [show (l3 : Int32).toInt = l3.toInt from (ti_rfl l3)]; omega) (by rw [show (l3 : Int32).toInt = l3.toInt from (ti_rfl l3)]; omega) l4 (by rw [show (l4 : Int32).toInt = l4.toInt from (ti_rfl l4)]; omega) (by rw [show (l4 : Int32).toInt = l4.toInt from (ti_rfl l4)]; omega) (by rw [← v4w]; omega)) mL_X6_44 iM_X6_wireStatement sM_X6_wireStatement (hvx.sh rfl) rfl rfl rfl (Nat.le_of_ble_eq_true rfl) (show d + 0 + 2 + 1 ≤ d + 3 by omega) (show 8 + (7 + 11) + 40 * (d + 0 + 2) ≤ 40 * (d + 3) by omega) (g_c0 hvx.ln) (Nat.le_of_ble_eq_true rfl) dX6_wireBlock_71 ?_
              intro r h6 hq _
              obtain ⟨v7, rfl, v7l, v7u, hv6⟩ := hq
              refine go_istore (pc := 74) (Nat.le_of_ble_eq_true rfl) dX6_wireBlock_74 (go_lv (lv2 := [(0, .ref 48), (3, .int l3), (4, .int l4), (5, .int v7), (6, .int l6), (7, .int l7)]) rfl ?_)
              exact go_lv rfl (ih.2.2.1 l3 l4 v7 l6 l7 h6 hv6 (by omega) (by omega) (by omega) (by omega) (by omega) (by omega) (by omega) (by omega) (by omega) (by omega) (by omega))
            ·
              refine go_aload_n (pc := 47) rfl dX6_wireBlock_47 ?_
              refine go_iload (pc := 48) rfl dX6_wireBlock_48 ?_
              refine go_iload (pc := 50) rfl dX6_wireBlock_50 ?_
              refine go_iload_n (pc := 52) rfl dX6_wireBlock_52 ?_
              refine go_iload (pc := 53) rfl dX6_wireBlock_53 ?_
              refine go_invV (pc := 55) (sl := 0) (s_X6_wireTry_lv6 l (d + 0) hvx l6 (by rw [show (l6 : Int32).toInt = l6.toInt from (ti_rfl l6)]; omega) (by rw [show (l6 : Int32).toInt = l6.toInt from (ti_rfl l6)]; omega) l5 (by rw [show (l5 : Int32).toInt = l5.toInt from (ti_rfl l5)]; omega) (by rw [show (l5 : Int32).toInt = l5.toInt from (ti_rfl l5)]; omega) l3 (by rw [show (l3 : Int32).toInt = l3.toInt from (ti_rfl l3)]; omega) (by rw [show (l3 : Int32).toInt = l3.toInt from (ti_rfl l3)]; omega) l4 (by rw [show (l4 : Int32).toInt = l4.toInt from (ti_rfl l4)]; omega) (by rw [show (l4 : Int32).toInt = l4.toInt from (ti_rfl l4)]; omega)) mL_X6_41 iM_X6_wireTry sM_X6_wireTry (hvx.sh rfl) rfl rfl rfl (Nat.le_of_ble_eq_true rfl) (show d + 0 + 2 + 1 ≤ d + 3 by omega) (show 8 + (6 + 11) + 40 * (d + 0 + 2) ≤ 40 * (d + 3) by omega) (g_c0 hvx.ln) (Nat.le_of_ble_eq_true rfl) dX6_wireBlock_55 ?_
              intro r h8 hq _
              obtain ⟨v9, rfl, v9l, v9u, hv8⟩ := hq
              refine go_istore (pc := 58) (Nat.le_of_ble_eq_true rfl) dX6_wireBlock_58 (go_lv (lv2 := [(0, .ref 48), (3, .int l3), (4, .int l4), (5, .int v9), (6, .int l6), (7, .int l7)]) rfl ?_)
              refine go_goto (pc := 60) (tgt := 76) (by decide) dX6_wireBlock_60 ?_
              exact go_lv rfl (ih.2.2.1 l3 l4 v9 l6 l7 h8 hv8 (by omega) (by omega) (by omega) (by omega) (by omega) (by omega) (by omega) (by omega) (by omega) (by omega) (by omega))
      ·
        intro l3 l4 l5 l6 l7 hx hvx l3l l3u l4l l4u l5l l5u l6l l6u l7l l7u hm
        refine go_aload_n (pc := 76) rfl dX6_wireBlock_76 ?_
        refine gi_getF (pc := 77) (q := 36) hvx fL_X6_9 rfl (Nat.le_of_ble_eq_true rfl) rfl (hvx.rf (by decide)) dX6_wireBlock_77 ?_
        refine gi_getF (pc := 80) (q := 38) hvx fL_X6_47 rfl (Nat.le_of_ble_eq_true rfl) rfl (hvx.rf (by decide)) dX6_wireBlock_80 ?_
        refine go_iload (pc := 83) rfl dX6_wireBlock_83 ?_
        refine gi_iald (pc := 85) (lo := -1) (hi := 127) (len := 128) hvx (ti_rfl l6) rfl (by omega) (by omega) (fun _ => rfl) dX6_wireBlock_85 (fun v10 v10l v10u v10w => ?_)
        refine go_istore (pc := 86) (Nat.le_of_ble_eq_true rfl) dX6_wireBlock_86 (go_lv (lv2 := [(0, .ref 48), (3, .int l3), (4, .int l4), (5, .int l5), (6, .int v10), (7, .int l7)]) rfl ?_)
        refine gf_iinc (pc := 88) (Nat.le_of_ble_eq_true rfl) rfl (ti_rfl l7) (ti_c (by decide)) (by omega) (by omega) dX6_wireBlock_88 (fun v11 e12 => ?_)
        refine go_lv (lv2 := [(0, .ref 48), (3, .int l3), (4, .int l4), (5, .int l5), (6, .int v10), (7, .int v11)]) rfl ?_
        refine go_goto (pc := 91) (tgt := 20) (by decide) dX6_wireBlock_91 ?_
        have z13 : (v11 : Int32).toInt = (l7.toInt + 1) := e12
        exact go_lv rfl (ih.2.1 l3 l4 l5 v10 v11 hx hvx (by omega) (by omega) (by omega) (by omega) (by omega) (by omega) (by omega) (by omega) (by omega) (by omega) (by omega))
      ·
        intro l5 hx hvx l5l l5u hm
        refine go_iload (pc := 94) rfl dX6_wireBlock_94 ?_
        exact gi_iret (pc := 96) (ti_rfl l5) ⟨_, rfl, (by rw [show (l5 : Int32).toInt = l5.toInt from (ti_rfl l5)]; omega), (by rw [show (l5 : Int32).toInt = l5.toInt from (ti_rfl l5)]; omega), hvx⟩ hvx dX6_wireBlock_96
  refine go_iload_n (pc := 0) rfl dX6_wireBlock_0 ?_
  refine go_istore (pc := 1) (Nat.le_of_ble_eq_true rfl) dX6_wireBlock_1 (go_lv (lv2 := [(0, .ref 48), (1, .int a2), (2, .int a3), (3, .int a4), (4, .int a5), (5, .int a3)]) rfl ?_)
  refine go_iload (pc := 3) rfl dX6_wireBlock_3 ?_
  refine go_bipush (pc := 5) (v := 6) (by decide) dX6_wireBlock_5 ?_
  refine gf_icmp_le (pc := 7) (tgt := 14) (ti_rfl a5) (ti_c (v := 6) (a := 6) (by decide)) (by decide) dX6_wireBlock_7 (fun q14 => ?_) (fun q14 => False.elim (by omega))
  refine go_iload_n (pc := 14) rfl dX6_wireBlock_14 ?_
  exact go_lv rfl ((key 535).1 a4 a5 a3 a2 h hv (by omega) (by omega) (by omega) (by omega) (by omega) (by omega) (by omega) (by omega) (by omega))
set_option maxHeartbeats 4000000 in
set_option maxRecDepth 100000 in
theorem s_X6_wireTry_lv5 (l : Launch) (d : Nat) {P : PP} {h : HP} (hv : Iv P h) (a2 : Int32) (a2l : 0 ≤ a2.toInt) (a2u : a2.toInt ≤ 127) (a3 : Int32) (a3l : 0 ≤ a3.toInt) (a3u : a3.toInt ≤ 44) (a4 : Int32) (a4l : -1 ≤ a4.toInt) (a4u : a4.toInt ≤ 127) (a5 : Int32) (a5l : 5 ≤ a5.toInt) (a5u : a5.toInt ≤ 5) : Mt l yX6_wireTry cX6_wireTry 6 (some .int) (d + 4) [.ref 48, .int a2, .int a3, .int a4, .int a5] h 0 0 (fun r h' => ∃ v : Int32, r = some (.int v) ∧ 0 ≤ v.toInt ∧ v.toInt ≤ 44 ∧ Iv P h') := by
  refine Mt_iv hv (by decide) (Nat.le_of_ble_eq_true rfl) ?_
  show Go l RX6 cX6_wireTry 6 (g_rm (d + 4) 0 0) "wireTry" (some .int) 117 0 0 (fun _ _ => True) (fun r h' => ∃ v : Int32, r = some (.int v) ∧ 0 ≤ v.toInt ∧ v.toInt ≤ 44 ∧ Iv P h') 0 0 [(0, .ref 48), (1, .int a2), (2, .int a3), (3, .int a4), (4, .int a5)] [] h
  have key : ∀ n : Nat, (∀ (l1 : Int32) (l2 : Int32) (l4 : Int32) (s0 : Int32) (s1 : Int32) (hx : HP), Iv P hx → 0 ≤ l1.toInt → l1.toInt ≤ 127 → 0 ≤ l2.toInt → l2.toInt ≤ 44 → 5 ≤ l4.toInt → l4.toInt ≤ 5 → -2 ≤ s0.toInt → s0.toInt ≤ 44 → 0 ≤ s1.toInt → s1.toInt ≤ 127 → (1 : Int) < n → Go l RX6 cX6_wireTry 6 (g_rm (d + 4) 0 0) "wireTry" (some .int) 117 0 0 (fun _ _ => True) (fun r h' => ∃ v : Int32, r = some (.int v) ∧ 0 ≤ v.toInt ∧ v.toInt ≤ 44 ∧ Iv P h') 0 53 [(0, .ref 48), (1, .int l1), (2, .int l2), (4, .int l4)] [.int s0, .int s1, .ref 43] hx) := by
    intro n
    induction n with
    | zero => exact (by intros; omega)
    | succ n ih =>
      refine ?_
      ·
        intro l1 l2 l4 s0 s1 hx hvx l1l l1u l2l l2u l4l l4u s0l s0u s1l s1u hm
        refine gi_iast (pc := 53) (lo := -2) (hi := 44) (len := 128) hvx (ti_rfl s1) (ti_rfl s0) rfl (by omega) (by omega) (fun _ => rfl) (by omega) (by omega) (by decide) dX6_wireTry_53 (fun h1 hv1 hv1e => ?_)
        refine go_aload_n (pc := 54) rfl dX6_wireTry_54 ?_
        refine go_aload_n (pc := 55) rfl dX6_wireTry_55 ?_
        refine gi_getF (pc := 56) (q := 36) hv1 fL_X6_9 rfl (Nat.le_of_ble_eq_true rfl) rfl (hv1.rf (by decide)) dX6_wireTry_56 ?_
        refine gi_getF (pc := 59) (q := 39) hv1 fL_X6_59 rfl (Nat.le_of_ble_eq_true rfl) rfl (hv1.rf (by decide)) dX6_wireTry_59 ?_
        refine go_iload_n (pc := 62) rfl dX6_wireTry_62 ?_
        refine gi_iald (pc := 63) (lo := -1) (hi := 127) (len := 128) hv1 (ti_rfl l1) rfl (by omega) (by omega) (fun _ => rfl) dX6_wireTry_63 (fun v2 v2l v2u v2w => ?_)
        refine go_iload_n (pc := 64) rfl dX6_wireTry_64 ?_
        refine go_iload_n (pc := 65) rfl dX6_wireTry_65 ?_
        refine go_iload (pc := 66) rfl dX6_wireTry_66 ?_
        refine go_iconst (pc := 68) (v := 1) (by decide) dX6_wireTry_68 ?_
        refine gf_iadd (pc := 69) (ti_rfl l4) (ti_c (v := 1) (a := 1) (by decide)) (by omega) (by omega) dX6_wireTry_69 (fun v3 e4 => ?_)
        refine go_invV (pc := 70) (sl := 0) (s_X6_wireBlock_lv6 l (d + 0) hv1 v2 (by rw [show (v2 : Int32).toInt = v2.toInt from (ti_rfl v2)]; omega) (by rw [show (v2 : Int32).toInt = v2.toInt from (ti_rfl v2)]; omega) l2 (by rw [show (l2 : Int32).toInt = l2.toInt from (ti_rfl l2)]; omega) (by rw [show (l2 : Int32).toInt = l2.toInt from (ti_rfl l2)]; omega) l1 (by rw [show (l1 : Int32).toInt = l1.toInt from (ti_rfl l1)]; omega) (by rw [show (l1 : Int32).toInt = l1.toInt from (ti_rfl l1)]; omega) v3 (by rw [show (v3 : Int32).toInt = (l4.toInt + 1) from e4]; omega) (by rw [show (v3 : Int32).toInt = (l4.toInt + 1) from e4]; omega)) mL_X6_34 iM_X6_wireBlock sM_X6_wireBlock (hv1.sh rfl) rfl rfl rfl (Nat.le_of_ble_eq_true rfl) (show d + 0 + 3 + 1 ≤ d + 4 by omega) (show 8 + (8 + 11) + 40 * (d + 0 + 3) ≤ 40 * (d + 4) by omega) (g_c0 hv1.ln) (Nat.le_of_ble_eq_true rfl) dX6_wireTry_70 ?_
        intro r h5 hq _
        obtain ⟨v6, rfl, v6l, v6u, hv5⟩ := hq
        exact gi_iret (pc := 73) (ti_rfl v6) ⟨_, rfl, (by rw [show (v6 : Int32).toInt = v6.toInt from (ti_rfl v6)]; omega), (by rw [show (v6 : Int32).toInt = v6.toInt from (ti_rfl v6)]; omega), hv5⟩ hv5 dX6_wireTry_73
  refine go_aload_n (pc := 0) rfl dX6_wireTry_0 ?_
  refine go_aload_n (pc := 1) rfl dX6_wireTry_1 ?_
  refine gi_getF (pc := 2) (q := 36) hv fL_X6_9 rfl (Nat.le_of_ble_eq_true rfl) rfl (hv.rf (by decide)) dX6_wireTry_2 ?_
  refine gi_getF (pc := 5) (q := 40) hv fL_X6_50 rfl (Nat.le_of_ble_eq_true rfl) rfl (hv.rf (by decide)) dX6_wireTry_5 ?_
  refine go_iload_n (pc := 8) rfl dX6_wireTry_8 ?_
  refine gi_iald (pc := 9) (lo := -1) (hi := 127) (len := 128) hv (ti_rfl a2) rfl (by omega) (by omega) (fun _ => rfl) dX6_wireTry_9 (fun v7 v7l v7u v7w => ?_)
  refine go_iload_n (pc := 10) rfl dX6_wireTry_10 ?_
  refine go_iload_n (pc := 11) rfl dX6_wireTry_11 ?_
  refine go_iload (pc := 12) rfl dX6_wireTry_12 ?_
  refine go_iconst (pc := 14) (v := 1) (by decide) dX6_wireTry_14 ?_
  refine gf_iadd (pc := 15) (ti_rfl a5) (ti_c (v := 1) (a := 1) (by decide)) (by omega) (by omega) dX6_wireTry_15 (fun v8 e9 => ?_)
  refine go_invV (pc := 16) (sl := 0) (s_X6_wireBlock_lv6 l (d + 0) hv v7 (by rw [show (v7 : Int32).toInt = v7.toInt from (ti_rfl v7)]; omega) (by rw [show (v7 : Int32).toInt = v7.toInt from (ti_rfl v7)]; omega) a3 (by rw [show (a3 : Int32).toInt = a3.toInt from (ti_rfl a3)]; omega) (by rw [show (a3 : Int32).toInt = a3.toInt from (ti_rfl a3)]; omega) a4 (by rw [show (a4 : Int32).toInt = a4.toInt from (ti_rfl a4)]; omega) (by rw [show (a4 : Int32).toInt = a4.toInt from (ti_rfl a4)]; omega) v8 (by rw [show (v8 : Int32).toInt = (a5.toInt + 1) from e9]; omega) (by rw [show (v8 : Int32).toInt = (a5.toInt + 1) from e9]; omega)) mL_X6_34 iM_X6_wireBlock sM_X6_wireBlock (hv.sh rfl) rfl rfl rfl (Nat.le_of_ble_eq_true rfl) (show d + 0 + 3 + 1 ≤ d + 4 by omega) (show 8 + (8 + 11) + 40 * (d + 0 + 3) ≤ 40 * (d + 4) by omega) (g_c0 hv.ln) (Nat.le_of_ble_eq_true rfl) dX6_wireTry_16 ?_
  intro r h10 hq _
  obtain ⟨v11, rfl, v11l, v11u, hv10⟩ := hq
  refine go_istore (pc := 19) (Nat.le_of_ble_eq_true rfl) dX6_wireTry_19 (go_lv (lv2 := [(0, .ref 48), (1, .int a2), (2, .int a3), (3, .int a4), (4, .int a5), (5, .int v11)]) rfl ?_)
  refine go_aload_n (pc := 21) rfl dX6_wireTry_21 ?_
  refine gi_getF (pc := 22) (q := 36) hv10 fL_X6_9 rfl (Nat.le_of_ble_eq_true rfl) rfl (hv10.rf (by decide)) dX6_wireTry_22 ?_
  refine gi_getF (pc := 25) (q := 42) hv10 fL_X6_53 rfl (Nat.le_of_ble_eq_true rfl) rfl (hv10.rf (by decide)) dX6_wireTry_25 ?_
  refine go_iload_n (pc := 28) rfl dX6_wireTry_28 ?_
  refine go_iload (pc := 29) rfl dX6_wireTry_29 ?_
  refine gi_iast (pc := 31) (lo := 0) (hi := 44) (len := 128) hv10 (ti_rfl a2) (ti_rfl v11) rfl (by omega) (by omega) (fun _ => rfl) (by omega) (by omega) (by decide) dX6_wireTry_31 (fun h12 hv12 hv12e => ?_)
  refine go_aload_n (pc := 32) rfl dX6_wireTry_32 ?_
  refine gi_getF (pc := 33) (q := 36) hv12 fL_X6_9 rfl (Nat.le_of_ble_eq_true rfl) rfl (hv12.rf (by decide)) dX6_wireTry_33 ?_
  refine gi_getF (pc := 36) (q := 43) hv12 fL_X6_56 rfl (Nat.le_of_ble_eq_true rfl) rfl (hv12.rf (by decide)) dX6_wireTry_36 ?_
  refine go_iload_n (pc := 39) rfl dX6_wireTry_39 ?_
  refine go_iload (pc := 40) rfl dX6_wireTry_40 ?_
  refine go_iload_n (pc := 42) rfl dX6_wireTry_42 ?_
  refine gf_icmp_ne (pc := 43) (tgt := 51) (ti_rfl v11) (ti_rfl a3) (by decide) dX6_wireTry_43 (fun q13 => ?_) (fun q13 => ?_)
  ·
    refine go_iload (pc := 51) rfl dX6_wireTry_51 ?_
    exact go_lv rfl ((key 14) a2 a3 a5 v11 a2 h12 hv12 (by omega) (by omega) (by omega) (by omega) (by omega) (by omega) (by omega) (by omega) (by omega) (by omega) (by omega))
  ·
    refine go_bipush (pc := 46) (v := (-2)) (by decide) dX6_wireTry_46 ?_
    refine go_goto (pc := 48) (tgt := 53) (by decide) dX6_wireTry_48 ?_
    have z14 : ((-2) : Int32).toInt = (-2) := (ti_c (v := (-2)) (a := (-2)) (by decide))
    exact go_lv rfl ((key 14) a2 a3 a5 (-2) a2 h12 hv12 (by omega) (by omega) (by omega) (by omega) (by omega) (by omega) (by omega) (by omega) (by omega) (by omega) (by omega))
set_option maxHeartbeats 4000000 in
set_option maxRecDepth 100000 in
theorem s_X6_wireStatement_lv5 (l : Launch) (d : Nat) {P : PP} {h : HP} (hv : Iv P h) (a2 : Int32) (a2l : 0 ≤ a2.toInt) (a2u : a2.toInt ≤ 127) (a3 : Int32) (a3l : 0 ≤ a3.toInt) (a3u : a3.toInt ≤ 44) (a4 : Int32) (a4l : -1 ≤ a4.toInt) (a4u : a4.toInt ≤ 127) (a5 : Int32) (a5l : 5 ≤ a5.toInt) (a5u : a5.toInt ≤ 5) (hp : 0 ≤ (h.2.1 37 a2.toInt.toNat).toInt) : Mt l yX6_wireStatement cX6_wireStatement 7 (some .int) (d + 4) [.ref 48, .int a2, .int a3, .int a4, .int a5] h 0 0 (fun r h' => ∃ v : Int32, r = some (.int v) ∧ 0 ≤ v.toInt ∧ v.toInt ≤ 44 ∧ Iv P h') := by
  refine Mt_iv hv (by decide) (Nat.le_of_ble_eq_true rfl) ?_
  show Go l RX6 cX6_wireStatement 7 (g_rm (d + 4) 0 0) "wireStatement" (some .int) 117 0 0 (fun _ _ => True) (fun r h' => ∃ v : Int32, r = some (.int v) ∧ 0 ≤ v.toInt ∧ v.toInt ≤ 44 ∧ Iv P h') 0 0 [(0, .ref 48), (1, .int a2), (2, .int a3), (3, .int a4), (4, .int a5)] [] h
  have key : ∀ n : Nat, (∀ (l1 : Int32) (l2 : Int32) (l3 : Int32) (l4 : Int32) (l5 : Int32) (l6 : Int32) (s0 : Int32) (s1 : Int32) (s2 : Nat) (hx : HP), Iv P hx → 0 ≤ l1.toInt → l1.toInt ≤ 127 → 0 ≤ l2.toInt → l2.toInt ≤ 44 → -1 ≤ l3.toInt → l3.toInt ≤ 127 → 5 ≤ l4.toInt → l4.toInt ≤ 5 → 0 ≤ l5.toInt → l5.toInt ≤ 39 → 39 ≤ l6.toInt → l6.toInt ≤ 44 → 0 ≤ s0.toInt → s0.toInt ≤ 44 → 0 ≤ s1.toInt → s1.toInt ≤ 39 → (s2 = 2 ∨ s2 = 18) → (4 : Int) < n → Go l RX6 cX6_wireStatement 7 (g_rm (d + 4) 0 0) "wireStatement" (some .int) 117 0 0 (fun _ _ => True) (fun r h' => ∃ v : Int32, r = some (.int v) ∧ 0 ≤ v.toInt ∧ v.toInt ≤ 44 ∧ Iv P h') 0 75 [(0, .ref 48), (1, .int l1), (2, .int l2), (3, .int l3), (4, .int l4), (5, .int l5), (6, .int l6)] [.int s0, .int s1, .ref (s2 + 13)] hx) ∧ (∀ (l1 : Int32) (l2 : Int32) (l3 : Int32) (l4 : Int32) (l5 : Int32) (l6 : Int32) (s0 : Int32) (s1 : Int32) (s2 : Nat) (hx : HP), Iv P hx → 0 ≤ l1.toInt → l1.toInt ≤ 127 → 0 ≤ l2.toInt → l2.toInt ≤ 44 → -1 ≤ l3.toInt → l3.toInt ≤ 127 → 5 ≤ l4.toInt → l4.toInt ≤ 5 → 0 ≤ l5.toInt → l5.toInt ≤ 39 → 39 ≤ l6.toInt → l6.toInt ≤ 44 → -1 ≤ s0.toInt → s0.toInt ≤ 5 → 0 ≤ s1.toInt → s1.toInt ≤ 39 → (s2 = 2 ∨ s2 = 18) → (3 : Int) < n → Go l RX6 cX6_wireStatement 7 (g_rm (d + 4) 0 0) "wireStatement" (some .int) 117 0 0 (fun _ _ => True) (fun r h' => ∃ v : Int32, r = some (.int v) ∧ 0 ≤ v.toInt ∧ v.toInt ≤ 44 ∧ Iv P h') 0 102 [(0, .ref 48), (1, .int l1), (2, .int l2), (3, .int l3), (4, .int l4), (5, .int l5), (6, .int l6)] [.int s0, .int s1, .ref (s2 + 14)] hx) ∧ (∀ (l1 : Int32) (l2 : Int32) (l3 : Int32) (l4 : Int32) (l5 : Int32) (l6 : Int32) (s0 : Int32) (s1 : Int32) (s2 : Nat) (hx : HP), Iv P hx → 0 ≤ l1.toInt → l1.toInt ≤ 127 → 0 ≤ l2.toInt → l2.toInt ≤ 44 → -1 ≤ l3.toInt → l3.toInt ≤ 127 → 5 ≤ l4.toInt → l4.toInt ≤ 5 → 0 ≤ l5.toInt → l5.toInt ≤ 39 → 39 ≤ l6.toInt → l6.toInt ≤ 44 → -2 ≤ s0.toInt → s0.toInt ≤ 44 → 0 ≤ s1.toInt → s1.toInt ≤ 39 → (s2 = 2 ∨ s2 = 18) → (2 : Int) < n → Go l RX6 cX6_wireStatement 7 (g_rm (d + 4) 0 0) "wireStatement" (some .int) 117 0 0 (fun _ _ => True) (fun r h' => ∃ v : Int32, r = some (.int v) ∧ 0 ≤ v.toInt ∧ v.toInt ≤ 44 ∧ Iv P h') 0 130 [(0, .ref 48), (1, .int l1), (2, .int l2), (3, .int l3), (4, .int l4), (5, .int l5), (6, .int l6)] [.int s0, .int s1, .ref (s2 + 15)] hx) ∧ (∀ (l5 : Int32) (hx : HP), Iv P hx → 0 ≤ l5.toInt → l5.toInt ≤ 39 → (1 : Int) < n → Go l RX6 cX6_wireStatement 7 (g_rm (d + 4) 0 0) "wireStatement" (some .int) 117 0 0 (fun _ _ => True) (fun r h' => ∃ v : Int32, r = some (.int v) ∧ 0 ≤ v.toInt ∧ v.toInt ≤ 44 ∧ Iv P h') 0 279 [(5, .int l5)] [] hx) := by
    intro n
    induction n with
    | zero => exact ⟨(by intros; omega), (by intros; omega), (by intros; omega), (by intros; omega)⟩
    | succ n ih =>
      refine ⟨?_, ?_, ?_, ?_⟩
      ·
        intro l1 l2 l3 l4 l5 l6 s0 s1 s2 hx hvx l1l l1u l2l l2u l3l l3u l4l l4u l5l l5u l6l l6u s0l s0u s1l s1u hs2 hm
        refine gi_iast (pc := 75) (lo := 0) (hi := 44) (len := 40) hvx (ti_rfl s1) (ti_rfl s0) (by rcases hs2 with rfl | rfl <;> rfl) (by omega) (by omega) (fun _ => by rcases hs2 with rfl | rfl <;> rfl) (by omega) (by omega) (by rcases hs2 with rfl | rfl <;> decide) dX6_wireStatement_75 (fun h1 hv1 hv1e => ?_)
        refine go_aload_n (pc := 76) rfl dX6_wireStatement_76 ?_
        refine gi_getC (pc := 77) hv1 fL_X6_15 rfl (Nat.le_of_ble_eq_true rfl) rfl (by decide) dX6_wireStatement_77 (fun c2 hc2 fc2 => ?_)
        refine gi_getF (pc := 80) (q := c2 + 14) hv1 fL_X6_74 (by rcases hc2 with rfl | rfl <;> rfl) (Nat.le_of_ble_eq_true rfl) rfl (by rcases hc2 with rfl | rfl <;> exact hv1.rf (by decide)) dX6_wireStatement_80 ?_
        refine go_iload (pc := 83) rfl dX6_wireStatement_83 ?_
        refine go_iload_n (pc := 85) rfl dX6_wireStatement_85 ?_
        refine gf_if_ge (pc := 86) (tgt := 93) (ti_rfl l3) (by decide) dX6_wireStatement_86 (fun q3 => ?_) (fun q3 => ?_)
        ·
          refine go_aload_n (pc := 93) rfl dX6_wireStatement_93 ?_
          refine gi_getF (pc := 94) (q := 36) hv1 fL_X6_9 rfl (Nat.le_of_ble_eq_true rfl) rfl (hv1.rf (by decide)) dX6_wireStatement_94 ?_
          refine gi_getF (pc := 97) (q := 41) hv1 fL_X6_77 rfl (Nat.le_of_ble_eq_true rfl) rfl (hv1.rf (by decide)) dX6_wireStatement_97 ?_
          refine go_iload_n (pc := 100) rfl dX6_wireStatement_100 ?_
          refine gi_iald (pc := 101) (lo := -1) (hi := 5) (len := 128) hv1 (ti_rfl l3) rfl (by omega) (by omega) (fun _ => rfl) dX6_wireStatement_101 (fun v4 v4l v4u v4w => ?_)
          exact go_lv rfl (ih.2.1 l1 l2 l3 l4 l5 l6 v4 l5 c2 h1 hv1 (by omega) (by omega) (by omega) (by omega) (by omega) (by omega) (by omega) (by omega) (by omega) (by omega) (by omega) (by omega) (by omega) (by omega) (by omega) (by omega) hc2 (by omega))
        ·
          refine go_iconst (pc := 89) (v := (-1)) (by decide) dX6_wireStatement_89 ?_
          refine go_goto (pc := 90) (tgt := 102) (by decide) dX6_wireStatement_90 ?_
          have z5 : ((-1) : Int32).toInt = (-1) := (ti_c (v := (-1)) (a := (-1)) (by decide))
          exact go_lv rfl (ih.2.1 l1 l2 l3 l4 l5 l6 (-1) l5 c2 h1 hv1 (by omega) (by omega) (by omega) (by omega) (by omega) (by omega) (by omega) (by omega) (by omega) (by omega) (by omega) (by omega) (by omega) (by omega) (by omega) (by omega) hc2 (by omega))
      ·
        intro l1 l2 l3 l4 l5 l6 s0 s1 s2 hx hvx l1l l1u l2l l2u l3l l3u l4l l4u l5l l5u l6l l6u s0l s0u s1l s1u hs2 hm
        refine gi_iast (pc := 102) (lo := -1) (hi := 5) (len := 40) hvx (ti_rfl s1) (ti_rfl s0) (by rcases hs2 with rfl | rfl <;> rfl) (by omega) (by omega) (fun _ => by rcases hs2 with rfl | rfl <;> rfl) (by omega) (by omega) (by rcases hs2 with rfl | rfl <;> decide) dX6_wireStatement_102 (fun h6 hv6 hv6e => ?_)
        refine go_aload_n (pc := 103) rfl dX6_wireStatement_103 ?_
        refine gi_getC (pc := 104) hv6 fL_X6_15 rfl (Nat.le_of_ble_eq_true rfl) rfl (by decide) dX6_wireStatement_104 (fun c7 hc7 fc7 => ?_)
        refine gi_getF (pc := 107) (q := c7 + 15) hv6 fL_X6_80 (by rcases hc7 with rfl | rfl <;> rfl) (Nat.le_of_ble_eq_true rfl) rfl (by rcases hc7 with rfl | rfl <;> exact hv6.rf (by decide)) dX6_wireStatement_107 ?_
        refine go_iload (pc := 110) rfl dX6_wireStatement_110 ?_
        refine go_iload_n (pc := 112) rfl dX6_wireStatement_112 ?_
        refine gf_if_ge (pc := 113) (tgt := 121) (ti_rfl l3) (by decide) dX6_wireStatement_113 (fun q8 => ?_) (fun q8 => ?_)
        ·
          refine go_aload_n (pc := 121) rfl dX6_wireStatement_121 ?_
          refine gi_getF (pc := 122) (q := 36) hv6 fL_X6_9 rfl (Nat.le_of_ble_eq_true rfl) rfl (hv6.rf (by decide)) dX6_wireStatement_122 ?_
          refine gi_getF (pc := 125) (q := 43) hv6 fL_X6_56 rfl (Nat.le_of_ble_eq_true rfl) rfl (hv6.rf (by decide)) dX6_wireStatement_125 ?_
          refine go_iload_n (pc := 128) rfl dX6_wireStatement_128 ?_
          refine gi_iald (pc := 129) (lo := -2) (hi := 44) (len := 128) hv6 (ti_rfl l3) rfl (by omega) (by omega) (fun _ => rfl) dX6_wireStatement_129 (fun v9 v9l v9u v9w => ?_)
          exact go_lv rfl (ih.2.2.1 l1 l2 l3 l4 l5 l6 v9 l5 c7 h6 hv6 (by omega) (by omega) (by omega) (by omega) (by omega) (by omega) (by omega) (by omega) (by omega) (by omega) (by omega) (by omega) (by omega) (by omega) (by omega) (by omega) hc7 (by omega))
        ·
          refine go_bipush (pc := 116) (v := (-2)) (by decide) dX6_wireStatement_116 ?_
          refine go_goto (pc := 118) (tgt := 130) (by decide) dX6_wireStatement_118 ?_
          have z10 : ((-2) : Int32).toInt = (-2) := (ti_c (v := (-2)) (a := (-2)) (by decide))
          exact go_lv rfl (ih.2.2.1 l1 l2 l3 l4 l5 l6 (-2) l5 c7 h6 hv6 (by omega) (by omega) (by omega) (by omega) (by omega) (by omega) (by omega) (by omega) (by omega) (by omega) (by omega) (by omega) (by omega) (by omega) (by omega) (by omega) hc7 (by omega))
      ·
        intro l1 l2 l3 l4 l5 l6 s0 s1 s2 hx hvx l1l l1u l2l l2u l3l l3u l4l l4u l5l l5u l6l l6u s0l s0u s1l s1u hs2 hm
        refine gi_iast (pc := 130) (lo := -2) (hi := 44) (len := 40) hvx (ti_rfl s1) (ti_rfl s0) (by rcases hs2 with rfl | rfl <;> rfl) (by omega) (by omega) (fun _ => by rcases hs2 with rfl | rfl <;> rfl) (by omega) (by omega) (by rcases hs2 with rfl | rfl <;> decide) dX6_wireStatement_130 (fun h11 hv11 hv11e => ?_)
        refine go_aload_n (pc := 131) rfl dX6_wireStatement_131 ?_
        refine gi_getC (pc := 132) hv11 fL_X6_15 rfl (Nat.le_of_ble_eq_true rfl) rfl (by decide) dX6_wireStatement_132 (fun c12 hc12 fc12 => ?_)
        refine gi_getF (pc := 135) (q := c12 + 2) hv11 fL_X6_81 (by rcases hc12 with rfl | rfl <;> rfl) (Nat.le_of_ble_eq_true rfl) rfl (by rcases hc12 with rfl | rfl <;> exact hv11.rf (by decide)) dX6_wireStatement_135 ?_
        refine go_iload (pc := 138) rfl dX6_wireStatement_138 ?_
        refine gi_iald (pc := 140) (lo := 0) (hi := 5) (len := 40) hv11 (ti_rfl l5) (by rcases hc12 with rfl | rfl <;> rfl) (by omega) (by omega) (fun _ => by rcases hc12 with rfl | rfl <;> rfl) dX6_wireStatement_140 (fun v13 v13l v13u v13w => ?_)
        refine go_iconst (pc := 141) (v := 5) (by decide) dX6_wireStatement_141 ?_
        refine gf_icmp_ne (pc := 142) (tgt := 160) (ti_rfl v13) (ti_c (v := 5) (a := 5) (by decide)) (by decide) dX6_wireStatement_142 (fun q14 => ?_) (fun q14 => ?_)
        ·
          refine go_aload_n (pc := 160) rfl dX6_wireStatement_160 ?_
          refine gi_getC (pc := 161) hv11 fL_X6_15 rfl (Nat.le_of_ble_eq_true rfl) rfl (by decide) dX6_wireStatement_161 (fun c15 hc15 fc15 => ?_)
          refine gi_getF (pc := 164) (q := c15 + 2) hv11 fL_X6_81 (by rcases hc15 with rfl | rfl <;> rfl) (Nat.le_of_ble_eq_true rfl) rfl (by rcases hc15 with rfl | rfl <;> exact hv11.rf (by decide)) dX6_wireStatement_164 ?_
          refine go_iload (pc := 167) rfl dX6_wireStatement_167 ?_
          refine gi_iald (pc := 169) (lo := 0) (hi := 5) (len := 40) hv11 (ti_rfl l5) (by rcases hc15 with rfl | rfl <;> rfl) (by omega) (by omega) (fun _ => by rcases hc15 with rfl | rfl <;> rfl) dX6_wireStatement_169 (fun v16 v16l v16u v16w => ?_)
          refine go_iconst (pc := 170) (v := 3) (by decide) dX6_wireStatement_170 ?_
          refine gf_icmp_ne (pc := 171) (tgt := 207) (ti_rfl v16) (ti_c (v := 3) (a := 3) (by decide)) (by decide) dX6_wireStatement_171 (fun q17 => ?_) (fun q17 => ?_)
          ·
            refine go_aload_n (pc := 207) rfl dX6_wireStatement_207 ?_
            refine gi_getC (pc := 208) hv11 fL_X6_15 rfl (Nat.le_of_ble_eq_true rfl) rfl (by decide) dX6_wireStatement_208 (fun c18 hc18 fc18 => ?_)
            refine gi_getF (pc := 211) (q := c18 + 2) hv11 fL_X6_81 (by rcases hc18 with rfl | rfl <;> rfl) (Nat.le_of_ble_eq_true rfl) rfl (by rcases hc18 with rfl | rfl <;> exact hv11.rf (by decide)) dX6_wireStatement_211 ?_
            refine go_iload (pc := 214) rfl dX6_wireStatement_214 ?_
            refine gi_iald (pc := 216) (lo := 0) (hi := 5) (len := 40) hv11 (ti_rfl l5) (by rcases hc18 with rfl | rfl <;> rfl) (by omega) (by omega) (fun _ => by rcases hc18 with rfl | rfl <;> rfl) dX6_wireStatement_216 (fun v19 v19l v19u v19w => ?_)
            refine go_iconst (pc := 217) (v := 2) (by decide) dX6_wireStatement_217 ?_
            refine gf_icmp_ne (pc := 218) (tgt := 279) (ti_rfl v19) (ti_c (v := 2) (a := 2) (by decide)) (by decide) dX6_wireStatement_218 (fun q20 => ?_) (fun q20 => ?_)
            ·
              exact go_lv rfl (ih.2.2.2 l5 h11 hv11 (by omega) (by omega) (by omega))
            ·
              refine go_aload_n (pc := 221) rfl dX6_wireStatement_221 ?_
              refine gi_getC (pc := 222) hv11 fL_X6_15 rfl (Nat.le_of_ble_eq_true rfl) rfl (by decide) dX6_wireStatement_222 (fun c21 hc21 fc21 => ?_)
              refine gi_getF (pc := 225) (q := c21 + 13) hv11 fL_X6_71 (by rcases hc21 with rfl | rfl <;> rfl) (Nat.le_of_ble_eq_true rfl) rfl (by rcases hc21 with rfl | rfl <;> exact hv11.rf (by decide)) dX6_wireStatement_225 ?_
              refine go_iload (pc := 228) rfl dX6_wireStatement_228 ?_
              refine go_aload_n (pc := 230) rfl dX6_wireStatement_230 ?_
              refine go_aload_n (pc := 231) rfl dX6_wireStatement_231 ?_
              refine gi_getF (pc := 232) (q := 36) hv11 fL_X6_9 rfl (Nat.le_of_ble_eq_true rfl) rfl (hv11.rf (by decide)) dX6_wireStatement_232 ?_
              refine gi_getF (pc := 235) (q := 39) hv11 fL_X6_59 rfl (Nat.le_of_ble_eq_true rfl) rfl (hv11.rf (by decide)) dX6_wireStatement_235 ?_
              refine go_iload_n (pc := 238) rfl dX6_wireStatement_238 ?_
              refine gi_iald (pc := 239) (lo := -1) (hi := 127) (len := 128) hv11 (ti_rfl l1) rfl (by omega) (by omega) (fun _ => rfl) dX6_wireStatement_239 (fun v22 v22l v22u v22w => ?_)
              refine go_iload_n (pc := 240) rfl dX6_wireStatement_240 ?_
              refine go_iload_n (pc := 241) rfl dX6_wireStatement_241 ?_
              refine go_iload (pc := 242) rfl dX6_wireStatement_242 ?_
              refine go_iconst (pc := 244) (v := 1) (by decide) dX6_wireStatement_244 ?_
              refine gf_iadd (pc := 245) (ti_rfl l4) (ti_c (v := 1) (a := 1) (by decide)) (by omega) (by omega) dX6_wireStatement_245 (fun v23 e24 => ?_)
              refine go_invV (pc := 246) (sl := 0) (s_X6_wireBlock_lv6 l (d + 0) hv11 v22 (by rw [show (v22 : Int32).toInt = v22.toInt from (ti_rfl v22)]; omega) (by rw [show (v22 : Int32).toInt = v22.toInt from (ti_rfl v22)]; omega) l2 (by rw [show (l2 : Int32).toInt = l2.toInt from (ti_rfl l2)]; omega) (by rw [show (l2 : Int32).toInt = l2.toInt from (ti_rfl l2)]; omega) l3 (by rw [show (l3 : Int32).toInt = l3.toInt from (ti_rfl l3)]; omega) (by rw [show (l3 : Int32).toInt = l3.toInt from (ti_rfl l3)]; omega) v23 (by rw [show (v23 : Int32).toInt = (l4.toInt + 1) from e24]; omega) (by rw [show (v23 : Int32).toInt = (l4.toInt + 1) from e24]; omega)) mL_X6_34 iM_X6_wireBlock sM_X6_wireBlock (hv11.sh rfl) rfl rfl rfl (Nat.le_of_ble_eq_true rfl) (show d + 0 + 3 + 1 ≤ d + 4 by omega) (show 8 + (8 + 11) + 40 * (d + 0 + 3) ≤ 40 * (d + 4) by omega) (g_c0 hv11.ln) (Nat.le_of_ble_eq_true rfl) dX6_wireStatement_246 ?_
              intro r h25 hq _
              obtain ⟨v26, rfl, v26l, v26u, hv25⟩ := hq
              refine gi_iast (pc := 249) (lo := 0) (hi := 44) (len := 40) hv25 (ti_rfl l5) (ti_rfl v26) (by rcases hc21 with rfl | rfl <;> rfl) (by omega) (by omega) (fun _ => by rcases hc21 with rfl | rfl <;> rfl) (by omega) (by omega) (by rcases hc21 with rfl | rfl <;> decide) dX6_wireStatement_249 (fun h27 hv27 hv27e => ?_)
              refine go_aload_n (pc := 250) rfl dX6_wireStatement_250 ?_
              refine gi_getC (pc := 251) hv27 fL_X6_15 rfl (Nat.le_of_ble_eq_true rfl) rfl (by decide) dX6_wireStatement_251 (fun c28 hc28 fc28 => ?_)
              refine gi_getF (pc := 254) (q := c28 + 12) hv27 fL_X6_68 (by rcases hc28 with rfl | rfl <;> rfl) (Nat.le_of_ble_eq_true rfl) rfl (by rcases hc28 with rfl | rfl <;> exact hv27.rf (by decide)) dX6_wireStatement_254 ?_
              refine go_iload (pc := 257) rfl dX6_wireStatement_257 ?_
              refine go_aload_n (pc := 259) rfl dX6_wireStatement_259 ?_
              refine go_aload_n (pc := 260) rfl dX6_wireStatement_260 ?_
              refine gi_getF (pc := 261) (q := 36) hv27 fL_X6_9 rfl (Nat.le_of_ble_eq_true rfl) rfl (hv27.rf (by decide)) dX6_wireStatement_261 ?_
              refine gi_getF (pc := 264) (q := 40) hv27 fL_X6_50 rfl (Nat.le_of_ble_eq_true rfl) rfl (hv27.rf (by decide)) dX6_wireStatement_264 ?_
              refine go_iload_n (pc := 267) rfl dX6_wireStatement_267 ?_
              refine gi_iald (pc := 268) (lo := -1) (hi := 127) (len := 128) hv27 (ti_rfl l1) rfl (by omega) (by omega) (fun _ => rfl) dX6_wireStatement_268 (fun v29 v29l v29u v29w => ?_)
              refine go_iload_n (pc := 269) rfl dX6_wireStatement_269 ?_
              refine go_iload_n (pc := 270) rfl dX6_wireStatement_270 ?_
              refine go_iload (pc := 271) rfl dX6_wireStatement_271 ?_
              refine go_iconst (pc := 273) (v := 1) (by decide) dX6_wireStatement_273 ?_
              refine gf_iadd (pc := 274) (ti_rfl l4) (ti_c (v := 1) (a := 1) (by decide)) (by omega) (by omega) dX6_wireStatement_274 (fun v30 e31 => ?_)
              refine go_invV (pc := 275) (sl := 0) (s_X6_wireBlock_lv6 l (d + 0) hv27 v29 (by rw [show (v29 : Int32).toInt = v29.toInt from (ti_rfl v29)]; omega) (by rw [show (v29 : Int32).toInt = v29.toInt from (ti_rfl v29)]; omega) l2 (by rw [show (l2 : Int32).toInt = l2.toInt from (ti_rfl l2)]; omega) (by rw [show (l2 : Int32).toInt = l2.toInt from (ti_rfl l2)]; omega) l3 (by rw [show (l3 : Int32).toInt = l3.toInt from (ti_rfl l3)]; omega) (by rw [show (l3 : Int32).toInt = l3.toInt from (ti_rfl l3)]; omega) v30 (by rw [show (v30 : Int32).toInt = (l4.toInt + 1) from e31]; omega) (by rw [show (v30 : Int32).toInt = (l4.toInt + 1) from e31]; omega)) mL_X6_34 iM_X6_wireBlock sM_X6_wireBlock (hv27.sh rfl) rfl rfl rfl (Nat.le_of_ble_eq_true rfl) (show d + 0 + 3 + 1 ≤ d + 4 by omega) (show 8 + (8 + 11) + 40 * (d + 0 + 3) ≤ 40 * (d + 4) by omega) (g_c0 hv27.ln) (Nat.le_of_ble_eq_true rfl) dX6_wireStatement_275 ?_
              intro r h32 hq _
              obtain ⟨v33, rfl, v33l, v33u, hv32⟩ := hq
              refine gi_iast (pc := 278) (lo := 0) (hi := 44) (len := 40) hv32 (ti_rfl l5) (ti_rfl v33) (by rcases hc28 with rfl | rfl <;> rfl) (by omega) (by omega) (fun _ => by rcases hc28 with rfl | rfl <;> rfl) (by omega) (by omega) (by rcases hc28 with rfl | rfl <;> decide) dX6_wireStatement_278 (fun h34 hv34 hv34e => ?_)
              exact go_lv rfl (ih.2.2.2 l5 h34 hv34 (by omega) (by omega) (by omega))
          ·
            refine go_aload_n (pc := 174) rfl dX6_wireStatement_174 ?_
            refine gi_getC (pc := 175) hv11 fL_X6_15 rfl (Nat.le_of_ble_eq_true rfl) rfl (by decide) dX6_wireStatement_175 (fun c35 hc35 fc35 => ?_)
            refine gi_getF (pc := 178) (q := c35 + 13) hv11 fL_X6_71 (by rcases hc35 with rfl | rfl <;> rfl) (Nat.le_of_ble_eq_true rfl) rfl (by rcases hc35 with rfl | rfl <;> exact hv11.rf (by decide)) dX6_wireStatement_178 ?_
            refine go_iload (pc := 181) rfl dX6_wireStatement_181 ?_
            refine go_aload_n (pc := 183) rfl dX6_wireStatement_183 ?_
            refine go_aload_n (pc := 184) rfl dX6_wireStatement_184 ?_
            refine gi_getF (pc := 185) (q := 36) hv11 fL_X6_9 rfl (Nat.le_of_ble_eq_true rfl) rfl (hv11.rf (by decide)) dX6_wireStatement_185 ?_
            refine gi_getF (pc := 188) (q := 39) hv11 fL_X6_59 rfl (Nat.le_of_ble_eq_true rfl) rfl (hv11.rf (by decide)) dX6_wireStatement_188 ?_
            refine go_iload_n (pc := 191) rfl dX6_wireStatement_191 ?_
            refine gi_iald (pc := 192) (lo := -1) (hi := 127) (len := 128) hv11 (ti_rfl l1) rfl (by omega) (by omega) (fun _ => rfl) dX6_wireStatement_192 (fun v36 v36l v36u v36w => ?_)
            refine go_iload (pc := 193) rfl dX6_wireStatement_193 ?_
            refine go_iload_n (pc := 195) rfl dX6_wireStatement_195 ?_
            refine go_iload (pc := 196) rfl dX6_wireStatement_196 ?_
            refine go_iconst (pc := 198) (v := 1) (by decide) dX6_wireStatement_198 ?_
            refine gf_iadd (pc := 199) (ti_rfl l4) (ti_c (v := 1) (a := 1) (by decide)) (by omega) (by omega) dX6_wireStatement_199 (fun v37 e38 => ?_)
            refine go_invV (pc := 200) (sl := 0) (s_X6_wireBlock_lv6 l (d + 0) hv11 v36 (by rw [show (v36 : Int32).toInt = v36.toInt from (ti_rfl v36)]; omega) (by rw [show (v36 : Int32).toInt = v36.toInt from (ti_rfl v36)]; omega) l5 (by rw [show (l5 : Int32).toInt = l5.toInt from (ti_rfl l5)]; omega) (by rw [show (l5 : Int32).toInt = l5.toInt from (ti_rfl l5)]; omega) l3 (by rw [show (l3 : Int32).toInt = l3.toInt from (ti_rfl l3)]; omega) (by rw [show (l3 : Int32).toInt = l3.toInt from (ti_rfl l3)]; omega) v37 (by rw [show (v37 : Int32).toInt = (l4.toInt + 1) from e38]; omega) (by rw [show (v37 : Int32).toInt = (l4.toInt + 1) from e38]; omega)) mL_X6_34 iM_X6_wireBlock sM_X6_wireBlock (hv11.sh rfl) rfl rfl rfl (Nat.le_of_ble_eq_true rfl) (show d + 0 + 3 + 1 ≤ d + 4 by omega) (show 8 + (8 + 11) + 40 * (d + 0 + 3) ≤ 40 * (d + 4) by omega) (g_c0 hv11.ln) (Nat.le_of_ble_eq_true rfl) dX6_wireStatement_200 ?_
            intro r h39 hq _
            obtain ⟨v40, rfl, v40l, v40u, hv39⟩ := hq
            refine gi_iast (pc := 203) (lo := 0) (hi := 44) (len := 40) hv39 (ti_rfl l5) (ti_rfl v40) (by rcases hc35 with rfl | rfl <;> rfl) (by omega) (by omega) (fun _ => by rcases hc35 with rfl | rfl <;> rfl) (by omega) (by omega) (by rcases hc35 with rfl | rfl <;> decide) dX6_wireStatement_203 (fun h41 hv41 hv41e => ?_)
            refine go_goto (pc := 204) (tgt := 279) (by decide) dX6_wireStatement_204 ?_
            exact go_lv rfl (ih.2.2.2 l5 h41 hv41 (by omega) (by omega) (by omega))
        ·
          refine go_aload_n (pc := 145) rfl dX6_wireStatement_145 ?_
          refine gi_getC (pc := 146) hv11 fL_X6_15 rfl (Nat.le_of_ble_eq_true rfl) rfl (by decide) dX6_wireStatement_146 (fun c42 hc42 fc42 => ?_)
          refine gi_getF (pc := 149) (q := c42 + 13) hv11 fL_X6_71 (by rcases hc42 with rfl | rfl <;> rfl) (Nat.le_of_ble_eq_true rfl) rfl (by rcases hc42 with rfl | rfl <;> exact hv11.rf (by decide)) dX6_wireStatement_149 ?_
          refine go_iload (pc := 152) rfl dX6_wireStatement_152 ?_
          refine go_iload (pc := 154) rfl dX6_wireStatement_154 ?_
          refine gi_iast (pc := 156) (lo := 0) (hi := 44) (len := 40) hv11 (ti_rfl l5) (ti_rfl l6) (by rcases hc42 with rfl | rfl <;> rfl) (by omega) (by omega) (fun _ => by rcases hc42 with rfl | rfl <;> rfl) (by omega) (by omega) (by rcases hc42 with rfl | rfl <;> decide) dX6_wireStatement_156 (fun h43 hv43 hv43e => ?_)
          refine go_goto (pc := 157) (tgt := 279) (by decide) dX6_wireStatement_157 ?_
          exact go_lv rfl (ih.2.2.2 l5 h43 hv43 (by omega) (by omega) (by omega))
      ·
        intro l5 hx hvx l5l l5u hm
        refine go_iload (pc := 279) rfl dX6_wireStatement_279 ?_
        exact gi_iret (pc := 281) (ti_rfl l5) ⟨_, rfl, (by rw [show (l5 : Int32).toInt = l5.toInt from (ti_rfl l5)]; omega), (by rw [show (l5 : Int32).toInt = l5.toInt from (ti_rfl l5)]; omega), hvx⟩ hvx dX6_wireStatement_281
  refine go_aload_n (pc := 0) rfl dX6_wireStatement_0 ?_
  refine gi_getF (pc := 1) (q := 36) hv fL_X6_9 rfl (Nat.le_of_ble_eq_true rfl) rfl (hv.rf (by decide)) dX6_wireStatement_1 ?_
  refine gi_getF (pc := 4) (q := 37) hv fL_X6_38 rfl (Nat.le_of_ble_eq_true rfl) rfl (hv.rf (by decide)) dX6_wireStatement_4 ?_
  refine go_iload_n (pc := 7) rfl dX6_wireStatement_7 ?_
  refine gi_iald (pc := 8) (lo := -1) (hi := 39) (len := 128) hv (ti_rfl a2) rfl (by omega) (by omega) (fun _ => rfl) dX6_wireStatement_8 (fun v44 v44l v44u v44w => ?_)
  have kk : 0 ≤ v44.toInt := by rw [v44w]; exact hp
  refine go_istore (pc := 9) (Nat.le_of_ble_eq_true rfl) dX6_wireStatement_9 (go_lv (lv2 := [(0, .ref 48), (1, .int a2), (2, .int a3), (3, .int a4), (4, .int a5), (5, .int v44)]) rfl ?_)
  refine go_bipush (pc := 11) (v := 40) (by decide) dX6_wireStatement_11 ?_
  refine go_aload_n (pc := 13) rfl dX6_wireStatement_13 ?_
  refine gi_getC (pc := 14) hv fL_X6_15 rfl (Nat.le_of_ble_eq_true rfl) rfl (by decide) dX6_wireStatement_14 (fun c45 hc45 fc45 => ?_)
  refine gi_getF (pc := 17) (q := c45 + 3) hv fL_X6_62 (by rcases hc45 with rfl | rfl <;> rfl) (Nat.le_of_ble_eq_true rfl) rfl (by rcases hc45 with rfl | rfl <;> exact hv.rf (by decide)) dX6_wireStatement_17 ?_
  refine go_iload (pc := 20) rfl dX6_wireStatement_20 ?_
  refine gi_iald (pc := 22) (lo := -1) (hi := 4) (len := 40) hv (ti_rfl v44) (by rcases hc45 with rfl | rfl <;> rfl) (by omega) (by omega) (fun _ => by rcases hc45 with rfl | rfl <;> rfl) dX6_wireStatement_22 (fun v46 v46l v46u v46w => ?_)
  refine gf_iadd (pc := 23) (ti_c (v := 40) (a := 40) (by decide)) (ti_rfl v46) (by omega) (by omega) dX6_wireStatement_23 (fun v47 e48 => ?_)
  refine go_istore (pc := 24) (Nat.le_of_ble_eq_true rfl) dX6_wireStatement_24 (go_lv (lv2 := [(0, .ref 48), (1, .int a2), (2, .int a3), (3, .int a4), (4, .int a5), (5, .int v44), (6, .int v47)]) rfl ?_)
  refine go_aload_n (pc := 26) rfl dX6_wireStatement_26 ?_
  refine gi_getC (pc := 27) hv fL_X6_15 rfl (Nat.le_of_ble_eq_true rfl) rfl (by decide) dX6_wireStatement_27 (fun c49 hc49 fc49 => ?_)
  refine gi_getF (pc := 30) (q := c49 + 11) hv fL_X6_65 (by rcases hc49 with rfl | rfl <;> rfl) (Nat.le_of_ble_eq_true rfl) rfl (by rcases hc49 with rfl | rfl <;> exact hv.rf (by decide)) dX6_wireStatement_30 ?_
  refine go_iload (pc := 33) rfl dX6_wireStatement_33 ?_
  refine go_iload_n (pc := 35) rfl dX6_wireStatement_35 ?_
  refine gi_iast (pc := 36) (lo := 0) (hi := 44) (len := 40) hv (ti_rfl v44) (ti_rfl a3) (by rcases hc49 with rfl | rfl <;> rfl) (by omega) (by omega) (fun _ => by rcases hc49 with rfl | rfl <;> rfl) (by omega) (by omega) (by rcases hc49 with rfl | rfl <;> decide) dX6_wireStatement_36 (fun h50 hv50 hv50e => ?_)
  refine go_aload_n (pc := 37) rfl dX6_wireStatement_37 ?_
  refine gi_getC (pc := 38) hv50 fL_X6_15 rfl (Nat.le_of_ble_eq_true rfl) rfl (by decide) dX6_wireStatement_38 (fun c51 hc51 fc51 => ?_)
  refine gi_getF (pc := 41) (q := c51 + 12) hv50 fL_X6_68 (by rcases hc51 with rfl | rfl <;> rfl) (Nat.le_of_ble_eq_true rfl) rfl (by rcases hc51 with rfl | rfl <;> exact hv50.rf (by decide)) dX6_wireStatement_41 ?_
  refine go_iload (pc := 44) rfl dX6_wireStatement_44 ?_
  refine go_iload_n (pc := 46) rfl dX6_wireStatement_46 ?_
  refine gi_iast (pc := 47) (lo := 0) (hi := 44) (len := 40) hv50 (ti_rfl v44) (ti_rfl a3) (by rcases hc51 with rfl | rfl <;> rfl) (by omega) (by omega) (fun _ => by rcases hc51 with rfl | rfl <;> rfl) (by omega) (by omega) (by rcases hc51 with rfl | rfl <;> decide) dX6_wireStatement_47 (fun h52 hv52 hv52e => ?_)
  refine go_aload_n (pc := 48) rfl dX6_wireStatement_48 ?_
  refine gi_getC (pc := 49) hv52 fL_X6_15 rfl (Nat.le_of_ble_eq_true rfl) rfl (by decide) dX6_wireStatement_49 (fun c53 hc53 fc53 => ?_)
  refine gi_getF (pc := 52) (q := c53 + 13) hv52 fL_X6_71 (by rcases hc53 with rfl | rfl <;> rfl) (Nat.le_of_ble_eq_true rfl) rfl (by rcases hc53 with rfl | rfl <;> exact hv52.rf (by decide)) dX6_wireStatement_52 ?_
  refine go_iload (pc := 55) rfl dX6_wireStatement_55 ?_
  refine go_iload_n (pc := 57) rfl dX6_wireStatement_57 ?_
  refine gf_if_ge (pc := 58) (tgt := 66) (ti_rfl a4) (by decide) dX6_wireStatement_58 (fun q54 => ?_) (fun q54 => ?_)
  ·
    refine go_aload_n (pc := 66) rfl dX6_wireStatement_66 ?_
    refine gi_getF (pc := 67) (q := 36) hv52 fL_X6_9 rfl (Nat.le_of_ble_eq_true rfl) rfl (hv52.rf (by decide)) dX6_wireStatement_67 ?_
    refine gi_getF (pc := 70) (q := 42) hv52 fL_X6_53 rfl (Nat.le_of_ble_eq_true rfl) rfl (hv52.rf (by decide)) dX6_wireStatement_70 ?_
    refine go_iload_n (pc := 73) rfl dX6_wireStatement_73 ?_
    refine gi_iald (pc := 74) (lo := 0) (hi := 44) (len := 128) hv52 (ti_rfl a4) rfl (by omega) (by omega) (fun _ => rfl) dX6_wireStatement_74 (fun v55 v55l v55u v55w => ?_)
    have z56 : (v47 : Int32).toInt = (40 + v46.toInt) := e48
    exact go_lv rfl ((key 17).1 a2 a3 a4 a5 v44 v47 v55 v44 c53 h52 hv52 (by omega) (by omega) (by omega) (by omega) (by omega) (by omega) (by omega) (by omega) (by omega) (by omega) (by omega) (by omega) (by omega) (by omega) (by omega) (by omega) hc53 (by omega))
  ·
    refine go_iload (pc := 61) rfl dX6_wireStatement_61 ?_
    refine go_goto (pc := 63) (tgt := 75) (by decide) dX6_wireStatement_63 ?_
    have z57 : (v47 : Int32).toInt = (40 + v46.toInt) := e48
    have z58 : (v47 : Int32).toInt = (40 + v46.toInt) := e48
    exact go_lv rfl ((key 17).1 a2 a3 a4 a5 v44 v47 v47 v44 c53 h52 hv52 (by omega) (by omega) (by omega) (by omega) (by omega) (by omega) (by omega) (by omega) (by omega) (by omega) (by omega) (by omega) (by omega) (by omega) (by omega) (by omega) hc53 (by omega))
set_option maxHeartbeats 4000000 in
set_option maxRecDepth 100000 in
theorem s_X6_wireBlock_lv5 (l : Launch) (d : Nat) {P : PP} {h : HP} (hv : Iv P h) (a2 : Int32) (a2l : -1 ≤ a2.toInt) (a2u : a2.toInt ≤ 127) (a3 : Int32) (a3l : 0 ≤ a3.toInt) (a3u : a3.toInt ≤ 44) (a4 : Int32) (a4l : -1 ≤ a4.toInt) (a4u : a4.toInt ≤ 127) (a5 : Int32) (a5l : 5 ≤ a5.toInt) (a5u : a5.toInt ≤ 5) : Mt l yX6_wireBlock cX6_wireBlock 8 (some .int) (d + 5) [.ref 48, .int a2, .int a3, .int a4, .int a5] h 0 0 (fun r h' => ∃ v : Int32, r = some (.int v) ∧ 0 ≤ v.toInt ∧ v.toInt ≤ 44 ∧ Iv P h') := by
  refine Mt_iv hv (by decide) (Nat.le_of_ble_eq_true rfl) ?_
  show Go l RX6 cX6_wireBlock 8 (g_rm (d + 5) 0 0) "wireBlock" (some .int) 117 0 0 (fun _ _ => True) (fun r h' => ∃ v : Int32, r = some (.int v) ∧ 0 ≤ v.toInt ∧ v.toInt ≤ 44 ∧ Iv P h') 0 0 [(0, .ref 48), (1, .int a2), (2, .int a3), (3, .int a4), (4, .int a5)] [] h
  have key : ∀ n : Nat, (∀ (l3 : Int32) (l4 : Int32) (l5 : Int32) (s0 : Int32) (hx : HP), Iv P hx → -1 ≤ l3.toInt → l3.toInt ≤ 127 → 5 ≤ l4.toInt → l4.toInt ≤ 5 → 0 ≤ l5.toInt → l5.toInt ≤ 44 → -1 ≤ s0.toInt → s0.toInt ≤ 127 → (522 : Int) < n → Go l RX6 cX6_wireBlock 8 (g_rm (d + 5) 0 0) "wireBlock" (some .int) 117 0 0 (fun _ _ => True) (fun r h' => ∃ v : Int32, r = some (.int v) ∧ 0 ≤ v.toInt ∧ v.toInt ≤ 44 ∧ Iv P h') 0 15 [(0, .ref 48), (3, .int l3), (4, .int l4), (5, .int l5)] [.int s0] hx) ∧ (∀ (l3 : Int32) (l4 : Int32) (l5 : Int32) (l6 : Int32) (l7 : Int32) (hx : HP), Iv P hx → -1 ≤ l3.toInt → l3.toInt ≤ 127 → 5 ≤ l4.toInt → l4.toInt ≤ 5 → 0 ≤ l5.toInt → l5.toInt ≤ 44 → -1 ≤ l6.toInt → l6.toInt ≤ 127 → 0 ≤ l7.toInt → l7.toInt ≤ 128 → (4 * (128 - l7.toInt) + 4 : Int) < n → Go l RX6 cX6_wireBlock 8 (g_rm (d + 5) 0 0) "wireBlock" (some .int) 117 0 0 (fun _ _ => True) (fun r h' => ∃ v : Int32, r = some (.int v) ∧ 0 ≤ v.toInt ∧ v.toInt ≤ 44 ∧ Iv P h') 0 20 [(0, .ref 48), (3, .int l3), (4, .int l4), (5, .int l5), (6, .int l6), (7, .int l7)] [] hx) ∧ (∀ (l3 : Int32) (l4 : Int32) (l5 : Int32) (l6 : Int32) (l7 : Int32) (hx : HP), Iv P hx → -1 ≤ l3.toInt → l3.toInt ≤ 127 → 5 ≤ l4.toInt → l4.toInt ≤ 5 → 0 ≤ l5.toInt → l5.toInt ≤ 44 → 0 ≤ l6.toInt → l6.toInt ≤ 127 → 0 ≤ l7.toInt → l7.toInt ≤ 127 → (4 * (128 - l7.toInt) + 3 : Int) < n → Go l RX6 cX6_wireBlock 8 (g_rm (d + 5) 0 0) "wireBlock" (some .int) 117 0 0 (fun _ _ => True) (fun r h' => ∃ v : Int32, r = some (.int v) ∧ 0 ≤ v.toInt ∧ v.toInt ≤ 44 ∧ Iv P h') 0 76 [(0, .ref 48), (3, .int l3), (4, .int l4), (5, .int l5), (6, .int l6), (7, .int l7)] [] hx) ∧ (∀ (l5 : Int32) (hx : HP), Iv P hx → 0 ≤ l5.toInt → l5.toInt ≤ 44 → (1 : Int) < n → Go l RX6 cX6_wireBlock 8 (g_rm (d + 5) 0 0) "wireBlock" (some .int) 117 0 0 (fun _ _ => True) (fun r h' => ∃ v : Int32, r = some (.int v) ∧ 0 ≤ v.toInt ∧ v.toInt ≤ 44 ∧ Iv P h') 0 94 [(5, .int l5)] [] hx) := by
    intro n
    induction n with
    | zero => exact ⟨(by intros; omega), (by intros; omega), (by intros; omega), (by intros; omega)⟩
    | succ n ih =>
      refine ⟨?_, ?_, ?_, ?_⟩
      ·
        intro l3 l4 l5 s0 hx hvx l3l l3u l4l l4u l5l l5u s0l s0u hm
        refine go_istore (pc := 15) (Nat.le_of_ble_eq_true rfl) dX6_wireBlock_15 (go_lv (lv2 := [(0, .ref 48), (3, .int l3), (4, .int l4), (5, .int l5), (6, .int s0)]) rfl ?_)
        refine go_iconst (pc := 17) (v := 0) (by decide) dX6_wireBlock_17 ?_
        refine go_istore (pc := 18) (Nat.le_of_ble_eq_true rfl) dX6_wireBlock_18 (go_lv (lv2 := [(0, .ref 48), (3, .int l3), (4, .int l4), (5, .int l5), (6, .int s0), (7, .int 0)]) rfl ?_)
        have z1 : (0 : Int32).toInt = 0 := (ti_c (v := 0) (a := 0) (by decide))
        exact go_lv rfl (ih.2.1 l3 l4 l5 s0 0 hx hvx (by omega) (by omega) (by omega) (by omega) (by omega) (by omega) (by omega) (by omega) (by omega) (by omega) (by omega))
      ·
        intro l3 l4 l5 l6 l7 hx hvx l3l l3u l4l l4u l5l l5u l6l l6u l7l l7u hm
        refine go_iload (pc := 20) rfl dX6_wireBlock_20 ?_
        refine go_sipush (pc := 22) (v := 128) (by decide) dX6_wireBlock_22 ?_
        refine gf_icmp_ge (pc := 25) (tgt := 94) (ti_rfl l7) (ti_c (v := 128) (a := 128) (by decide)) (by decide) dX6_wireBlock_25 (fun q2 => ?_) (fun q2 => ?_)
        ·
          exact go_lv rfl (ih.2.2.2 l5 hx hvx (by omega) (by omega) (by omega))
        ·
          refine go_iload (pc := 28) rfl dX6_wireBlock_28 ?_
          refine gf_if_lt (pc := 30) (tgt := 94) (ti_rfl l6) (by decide) dX6_wireBlock_30 (fun q3 => ?_) (fun q3 => ?_)
          ·
            exact go_lv rfl (ih.2.2.2 l5 hx hvx (by omega) (by omega) (by omega))
          ·
            refine go_aload_n (pc := 33) rfl dX6_wireBlock_33 ?_
            refine gi_getF (pc := 34) (q := 36) hvx fL_X6_9 rfl (Nat.le_of_ble_eq_true rfl) rfl (hvx.rf (by decide)) dX6_wireBlock_34 ?_
            refine gi_getF (pc := 37) (q := 37) hvx fL_X6_38 rfl (Nat.le_of_ble_eq_true rfl) rfl (hvx.rf (by decide)) dX6_wireBlock_37 ?_
            refine go_iload (pc := 40) rfl dX6_wireBlock_40 ?_
            refine gi_iald (pc := 42) (lo := -1) (hi := 39) (len := 128) hvx (ti_rfl l6) rfl (by omega) (by omega) (fun _ => rfl) dX6_wireBlock_42 (fun v4 v4l v4u v4w => ?_)
            refine go_iconst (pc := 43) (v := (-1)) (by decide) dX6_wireBlock_43 ?_
            refine gf_icmp_ne (pc := 44) (tgt := 63) (ti_rfl v4) (ti_c (v := (-1)) (a := (-1)) (by decide)) (by decide) dX6_wireBlock_44 (fun q5 => ?_) (fun q5 => ?_)
            ·
              refine go_aload_n (pc := 63) rfl dX6_wireBlock_63 ?_
              refine go_iload (pc := 64) rfl dX6_wireBlock_64 ?_
              refine go_iload (pc := 66) rfl dX6_wireBlock_66 ?_
              refine go_iload_n (pc := 68) rfl dX6_wireBlock_68 ?_
              refine go_iload (pc := 69) rfl dX6_wireBlock_69 ?_
              refine go_invV (pc := 71) (sl := 0) (s_X6_wireStatement_lv5 l (d + 0) hvx l6 (by rw [show (l6 : Int32).toInt = l6.toInt from (ti_rfl l6)]; omega) (by rw [show (l6 : Int32).toInt = l6.toInt from (ti_rfl l6)]; omega) l5 (by rw [show (l5 : Int32).toInt = l5.toInt from (ti_rfl l5)]; omega) (by rw [show (l5 : Int32).toInt = l5.toInt from (ti_rfl l5)]; omega) l3 (by rw [show (l3 : Int32).toInt = l3.toInt from (ti_rfl l3)]; omega) (by rw [show (l3 : Int32).toInt = l3.toInt from (ti_rfl l3)]; omega) l4 (by rw [show (l4 : Int32).toInt = l4.toInt from (ti_rfl l4)]; omega) (by rw [show (l4 : Int32).toInt = l4.toInt from (ti_rfl l4)]; omega) (by rw [← v4w]; omega)) mL_X6_44 iM_X6_wireStatement sM_X6_wireStatement (hvx.sh rfl) rfl rfl rfl (Nat.le_of_ble_eq_true rfl) (show d + 0 + 4 + 1 ≤ d + 5 by omega) (show 8 + (7 + 11) + 40 * (d + 0 + 4) ≤ 40 * (d + 5) by omega) (g_c0 hvx.ln) (Nat.le_of_ble_eq_true rfl) dX6_wireBlock_71 ?_
              intro r h6 hq _
              obtain ⟨v7, rfl, v7l, v7u, hv6⟩ := hq
              refine go_istore (pc := 74) (Nat.le_of_ble_eq_true rfl) dX6_wireBlock_74 (go_lv (lv2 := [(0, .ref 48), (3, .int l3), (4, .int l4), (5, .int v7), (6, .int l6), (7, .int l7)]) rfl ?_)
              exact go_lv rfl (ih.2.2.1 l3 l4 v7 l6 l7 h6 hv6 (by omega) (by omega) (by omega) (by omega) (by omega) (by omega) (by omega) (by omega) (by omega) (by omega) (by omega))
            ·
              refine go_aload_n (pc := 47) rfl dX6_wireBlock_47 ?_
              refine go_iload (pc := 48) rfl dX6_wireBlock_48 ?_
              refine go_iload (pc := 50) rfl dX6_wireBlock_50 ?_
              refine go_iload_n (pc := 52) rfl dX6_wireBlock_52 ?_
              refine go_iload (pc := 53) rfl dX6_wireBlock_53 ?_
              refine go_invV (pc := 55) (sl := 0) (s_X6_wireTry_lv5 l (d + 0) hvx l6 (by rw [show (l6 : Int32).toInt = l6.toInt from (ti_rfl l6)]; omega) (by rw [show (l6 : Int32).toInt = l6.toInt from (ti_rfl l6)]; omega) l5 (by rw [show (l5 : Int32).toInt = l5.toInt from (ti_rfl l5)]; omega) (by rw [show (l5 : Int32).toInt = l5.toInt from (ti_rfl l5)]; omega) l3 (by rw [show (l3 : Int32).toInt = l3.toInt from (ti_rfl l3)]; omega) (by rw [show (l3 : Int32).toInt = l3.toInt from (ti_rfl l3)]; omega) l4 (by rw [show (l4 : Int32).toInt = l4.toInt from (ti_rfl l4)]; omega) (by rw [show (l4 : Int32).toInt = l4.toInt from (ti_rfl l4)]; omega)) mL_X6_41 iM_X6_wireTry sM_X6_wireTry (hvx.sh rfl) rfl rfl rfl (Nat.le_of_ble_eq_true rfl) (show d + 0 + 4 + 1 ≤ d + 5 by omega) (show 8 + (6 + 11) + 40 * (d + 0 + 4) ≤ 40 * (d + 5) by omega) (g_c0 hvx.ln) (Nat.le_of_ble_eq_true rfl) dX6_wireBlock_55 ?_
              intro r h8 hq _
              obtain ⟨v9, rfl, v9l, v9u, hv8⟩ := hq
              refine go_istore (pc := 58) (Nat.le_of_ble_eq_true rfl) dX6_wireBlock_58 (go_lv (lv2 := [(0, .ref 48), (3, .int l3), (4, .int l4), (5, .int v9), (6, .int l6), (7, .int l7)]) rfl ?_)
              refine go_goto (pc := 60) (tgt := 76) (by decide) dX6_wireBlock_60 ?_
              exact go_lv rfl (ih.2.2.1 l3 l4 v9 l6 l7 h8 hv8 (by omega) (by omega) (by omega) (by omega) (by omega) (by omega) (by omega) (by omega) (by omega) (by omega) (by omega))
      ·
        intro l3 l4 l5 l6 l7 hx hvx l3l l3u l4l l4u l5l l5u l6l l6u l7l l7u hm
        refine go_aload_n (pc := 76) rfl dX6_wireBlock_76 ?_
        refine gi_getF (pc := 77) (q := 36) hvx fL_X6_9 rfl (Nat.le_of_ble_eq_true rfl) rfl (hvx.rf (by decide)) dX6_wireBlock_77 ?_
        refine gi_getF (pc := 80) (q := 38) hvx fL_X6_47 rfl (Nat.le_of_ble_eq_true rfl) rfl (hvx.rf (by decide)) dX6_wireBlock_80 ?_
        refine go_iload (pc := 83) rfl dX6_wireBlock_83 ?_
        refine gi_iald (pc := 85) (lo := -1) (hi := 127) (len := 128) hvx (ti_rfl l6) rfl (by omega) (by omega) (fun _ => rfl) dX6_wireBlock_85 (fun v10 v10l v10u v10w => ?_)
        refine go_istore (pc := 86) (Nat.le_of_ble_eq_true rfl) dX6_wireBlock_86 (go_lv (lv2 := [(0, .ref 48), (3, .int l3), (4, .int l4), (5, .int l5), (6, .int v10), (7, .int l7)]) rfl ?_)
        refine gf_iinc (pc := 88) (Nat.le_of_ble_eq_true rfl) rfl (ti_rfl l7) (ti_c (by decide)) (by omega) (by omega) dX6_wireBlock_88 (fun v11 e12 => ?_)
        refine go_lv (lv2 := [(0, .ref 48), (3, .int l3), (4, .int l4), (5, .int l5), (6, .int v10), (7, .int v11)]) rfl ?_
        refine go_goto (pc := 91) (tgt := 20) (by decide) dX6_wireBlock_91 ?_
        have z13 : (v11 : Int32).toInt = (l7.toInt + 1) := e12
        exact go_lv rfl (ih.2.1 l3 l4 l5 v10 v11 hx hvx (by omega) (by omega) (by omega) (by omega) (by omega) (by omega) (by omega) (by omega) (by omega) (by omega) (by omega))
      ·
        intro l5 hx hvx l5l l5u hm
        refine go_iload (pc := 94) rfl dX6_wireBlock_94 ?_
        exact gi_iret (pc := 96) (ti_rfl l5) ⟨_, rfl, (by rw [show (l5 : Int32).toInt = l5.toInt from (ti_rfl l5)]; omega), (by rw [show (l5 : Int32).toInt = l5.toInt from (ti_rfl l5)]; omega), hvx⟩ hvx dX6_wireBlock_96
  refine go_iload_n (pc := 0) rfl dX6_wireBlock_0 ?_
  refine go_istore (pc := 1) (Nat.le_of_ble_eq_true rfl) dX6_wireBlock_1 (go_lv (lv2 := [(0, .ref 48), (1, .int a2), (2, .int a3), (3, .int a4), (4, .int a5), (5, .int a3)]) rfl ?_)
  refine go_iload (pc := 3) rfl dX6_wireBlock_3 ?_
  refine go_bipush (pc := 5) (v := 6) (by decide) dX6_wireBlock_5 ?_
  refine gf_icmp_le (pc := 7) (tgt := 14) (ti_rfl a5) (ti_c (v := 6) (a := 6) (by decide)) (by decide) dX6_wireBlock_7 (fun q14 => ?_) (fun q14 => False.elim (by omega))
  refine go_iload_n (pc := 14) rfl dX6_wireBlock_14 ?_
  exact go_lv rfl ((key 535).1 a4 a5 a3 a2 h hv (by omega) (by omega) (by omega) (by omega) (by omega) (by omega) (by omega) (by omega) (by omega))
set_option maxHeartbeats 4000000 in
set_option maxRecDepth 100000 in
theorem s_X6_wireTry_lv4 (l : Launch) (d : Nat) {P : PP} {h : HP} (hv : Iv P h) (a2 : Int32) (a2l : 0 ≤ a2.toInt) (a2u : a2.toInt ≤ 127) (a3 : Int32) (a3l : 0 ≤ a3.toInt) (a3u : a3.toInt ≤ 44) (a4 : Int32) (a4l : -1 ≤ a4.toInt) (a4u : a4.toInt ≤ 127) (a5 : Int32) (a5l : 4 ≤ a5.toInt) (a5u : a5.toInt ≤ 4) : Mt l yX6_wireTry cX6_wireTry 6 (some .int) (d + 6) [.ref 48, .int a2, .int a3, .int a4, .int a5] h 0 0 (fun r h' => ∃ v : Int32, r = some (.int v) ∧ 0 ≤ v.toInt ∧ v.toInt ≤ 44 ∧ Iv P h') := by
  refine Mt_iv hv (by decide) (Nat.le_of_ble_eq_true rfl) ?_
  show Go l RX6 cX6_wireTry 6 (g_rm (d + 6) 0 0) "wireTry" (some .int) 117 0 0 (fun _ _ => True) (fun r h' => ∃ v : Int32, r = some (.int v) ∧ 0 ≤ v.toInt ∧ v.toInt ≤ 44 ∧ Iv P h') 0 0 [(0, .ref 48), (1, .int a2), (2, .int a3), (3, .int a4), (4, .int a5)] [] h
  have key : ∀ n : Nat, (∀ (l1 : Int32) (l2 : Int32) (l4 : Int32) (s0 : Int32) (s1 : Int32) (hx : HP), Iv P hx → 0 ≤ l1.toInt → l1.toInt ≤ 127 → 0 ≤ l2.toInt → l2.toInt ≤ 44 → 4 ≤ l4.toInt → l4.toInt ≤ 4 → -2 ≤ s0.toInt → s0.toInt ≤ 44 → 0 ≤ s1.toInt → s1.toInt ≤ 127 → (1 : Int) < n → Go l RX6 cX6_wireTry 6 (g_rm (d + 6) 0 0) "wireTry" (some .int) 117 0 0 (fun _ _ => True) (fun r h' => ∃ v : Int32, r = some (.int v) ∧ 0 ≤ v.toInt ∧ v.toInt ≤ 44 ∧ Iv P h') 0 53 [(0, .ref 48), (1, .int l1), (2, .int l2), (4, .int l4)] [.int s0, .int s1, .ref 43] hx) := by
    intro n
    induction n with
    | zero => exact (by intros; omega)
    | succ n ih =>
      refine ?_
      ·
        intro l1 l2 l4 s0 s1 hx hvx l1l l1u l2l l2u l4l l4u s0l s0u s1l s1u hm
        refine gi_iast (pc := 53) (lo := -2) (hi := 44) (len := 128) hvx (ti_rfl s1) (ti_rfl s0) rfl (by omega) (by omega) (fun _ => rfl) (by omega) (by omega) (by decide) dX6_wireTry_53 (fun h1 hv1 hv1e => ?_)
        refine go_aload_n (pc := 54) rfl dX6_wireTry_54 ?_
        refine go_aload_n (pc := 55) rfl dX6_wireTry_55 ?_
        refine gi_getF (pc := 56) (q := 36) hv1 fL_X6_9 rfl (Nat.le_of_ble_eq_true rfl) rfl (hv1.rf (by decide)) dX6_wireTry_56 ?_
        refine gi_getF (pc := 59) (q := 39) hv1 fL_X6_59 rfl (Nat.le_of_ble_eq_true rfl) rfl (hv1.rf (by decide)) dX6_wireTry_59 ?_
        refine go_iload_n (pc := 62) rfl dX6_wireTry_62 ?_
        refine gi_iald (pc := 63) (lo := -1) (hi := 127) (len := 128) hv1 (ti_rfl l1) rfl (by omega) (by omega) (fun _ => rfl) dX6_wireTry_63 (fun v2 v2l v2u v2w => ?_)
        refine go_iload_n (pc := 64) rfl dX6_wireTry_64 ?_
        refine go_iload_n (pc := 65) rfl dX6_wireTry_65 ?_
        refine go_iload (pc := 66) rfl dX6_wireTry_66 ?_
        refine go_iconst (pc := 68) (v := 1) (by decide) dX6_wireTry_68 ?_
        refine gf_iadd (pc := 69) (ti_rfl l4) (ti_c (v := 1) (a := 1) (by decide)) (by omega) (by omega) dX6_wireTry_69 (fun v3 e4 => ?_)
        refine go_invV (pc := 70) (sl := 0) (s_X6_wireBlock_lv5 l (d + 0) hv1 v2 (by rw [show (v2 : Int32).toInt = v2.toInt from (ti_rfl v2)]; omega) (by rw [show (v2 : Int32).toInt = v2.toInt from (ti_rfl v2)]; omega) l2 (by rw [show (l2 : Int32).toInt = l2.toInt from (ti_rfl l2)]; omega) (by rw [show (l2 : Int32).toInt = l2.toInt from (ti_rfl l2)]; omega) l1 (by rw [show (l1 : Int32).toInt = l1.toInt from (ti_rfl l1)]; omega) (by rw [show (l1 : Int32).toInt = l1.toInt from (ti_rfl l1)]; omega) v3 (by rw [show (v3 : Int32).toInt = (l4.toInt + 1) from e4]; omega) (by rw [show (v3 : Int32).toInt = (l4.toInt + 1) from e4]; omega)) mL_X6_34 iM_X6_wireBlock sM_X6_wireBlock (hv1.sh rfl) rfl rfl rfl (Nat.le_of_ble_eq_true rfl) (show d + 0 + 5 + 1 ≤ d + 6 by omega) (show 8 + (8 + 11) + 40 * (d + 0 + 5) ≤ 40 * (d + 6) by omega) (g_c0 hv1.ln) (Nat.le_of_ble_eq_true rfl) dX6_wireTry_70 ?_
        intro r h5 hq _
        obtain ⟨v6, rfl, v6l, v6u, hv5⟩ := hq
        exact gi_iret (pc := 73) (ti_rfl v6) ⟨_, rfl, (by rw [show (v6 : Int32).toInt = v6.toInt from (ti_rfl v6)]; omega), (by rw [show (v6 : Int32).toInt = v6.toInt from (ti_rfl v6)]; omega), hv5⟩ hv5 dX6_wireTry_73
  refine go_aload_n (pc := 0) rfl dX6_wireTry_0 ?_
  refine go_aload_n (pc := 1) rfl dX6_wireTry_1 ?_
  refine gi_getF (pc := 2) (q := 36) hv fL_X6_9 rfl (Nat.le_of_ble_eq_true rfl) rfl (hv.rf (by decide)) dX6_wireTry_2 ?_
  refine gi_getF (pc := 5) (q := 40) hv fL_X6_50 rfl (Nat.le_of_ble_eq_true rfl) rfl (hv.rf (by decide)) dX6_wireTry_5 ?_
  refine go_iload_n (pc := 8) rfl dX6_wireTry_8 ?_
  refine gi_iald (pc := 9) (lo := -1) (hi := 127) (len := 128) hv (ti_rfl a2) rfl (by omega) (by omega) (fun _ => rfl) dX6_wireTry_9 (fun v7 v7l v7u v7w => ?_)
  refine go_iload_n (pc := 10) rfl dX6_wireTry_10 ?_
  refine go_iload_n (pc := 11) rfl dX6_wireTry_11 ?_
  refine go_iload (pc := 12) rfl dX6_wireTry_12 ?_
  refine go_iconst (pc := 14) (v := 1) (by decide) dX6_wireTry_14 ?_
  refine gf_iadd (pc := 15) (ti_rfl a5) (ti_c (v := 1) (a := 1) (by decide)) (by omega) (by omega) dX6_wireTry_15 (fun v8 e9 => ?_)
  refine go_invV (pc := 16) (sl := 0) (s_X6_wireBlock_lv5 l (d + 0) hv v7 (by rw [show (v7 : Int32).toInt = v7.toInt from (ti_rfl v7)]; omega) (by rw [show (v7 : Int32).toInt = v7.toInt from (ti_rfl v7)]; omega) a3 (by rw [show (a3 : Int32).toInt = a3.toInt from (ti_rfl a3)]; omega) (by rw [show (a3 : Int32).toInt = a3.toInt from (ti_rfl a3)]; omega) a4 (by rw [show (a4 : Int32).toInt = a4.toInt from (ti_rfl a4)]; omega) (by rw [show (a4 : Int32).toInt = a4.toInt from (ti_rfl a4)]; omega) v8 (by rw [show (v8 : Int32).toInt = (a5.toInt + 1) from e9]; omega) (by rw [show (v8 : Int32).toInt = (a5.toInt + 1) from e9]; omega)) mL_X6_34 iM_X6_wireBlock sM_X6_wireBlock (hv.sh rfl) rfl rfl rfl (Nat.le_of_ble_eq_true rfl) (show d + 0 + 5 + 1 ≤ d + 6 by omega) (show 8 + (8 + 11) + 40 * (d + 0 + 5) ≤ 40 * (d + 6) by omega) (g_c0 hv.ln) (Nat.le_of_ble_eq_true rfl) dX6_wireTry_16 ?_
  intro r h10 hq _
  obtain ⟨v11, rfl, v11l, v11u, hv10⟩ := hq
  refine go_istore (pc := 19) (Nat.le_of_ble_eq_true rfl) dX6_wireTry_19 (go_lv (lv2 := [(0, .ref 48), (1, .int a2), (2, .int a3), (3, .int a4), (4, .int a5), (5, .int v11)]) rfl ?_)
  refine go_aload_n (pc := 21) rfl dX6_wireTry_21 ?_
  refine gi_getF (pc := 22) (q := 36) hv10 fL_X6_9 rfl (Nat.le_of_ble_eq_true rfl) rfl (hv10.rf (by decide)) dX6_wireTry_22 ?_
  refine gi_getF (pc := 25) (q := 42) hv10 fL_X6_53 rfl (Nat.le_of_ble_eq_true rfl) rfl (hv10.rf (by decide)) dX6_wireTry_25 ?_
  refine go_iload_n (pc := 28) rfl dX6_wireTry_28 ?_
  refine go_iload (pc := 29) rfl dX6_wireTry_29 ?_
  refine gi_iast (pc := 31) (lo := 0) (hi := 44) (len := 128) hv10 (ti_rfl a2) (ti_rfl v11) rfl (by omega) (by omega) (fun _ => rfl) (by omega) (by omega) (by decide) dX6_wireTry_31 (fun h12 hv12 hv12e => ?_)
  refine go_aload_n (pc := 32) rfl dX6_wireTry_32 ?_
  refine gi_getF (pc := 33) (q := 36) hv12 fL_X6_9 rfl (Nat.le_of_ble_eq_true rfl) rfl (hv12.rf (by decide)) dX6_wireTry_33 ?_
  refine gi_getF (pc := 36) (q := 43) hv12 fL_X6_56 rfl (Nat.le_of_ble_eq_true rfl) rfl (hv12.rf (by decide)) dX6_wireTry_36 ?_
  refine go_iload_n (pc := 39) rfl dX6_wireTry_39 ?_
  refine go_iload (pc := 40) rfl dX6_wireTry_40 ?_
  refine go_iload_n (pc := 42) rfl dX6_wireTry_42 ?_
  refine gf_icmp_ne (pc := 43) (tgt := 51) (ti_rfl v11) (ti_rfl a3) (by decide) dX6_wireTry_43 (fun q13 => ?_) (fun q13 => ?_)
  ·
    refine go_iload (pc := 51) rfl dX6_wireTry_51 ?_
    exact go_lv rfl ((key 14) a2 a3 a5 v11 a2 h12 hv12 (by omega) (by omega) (by omega) (by omega) (by omega) (by omega) (by omega) (by omega) (by omega) (by omega) (by omega))
  ·
    refine go_bipush (pc := 46) (v := (-2)) (by decide) dX6_wireTry_46 ?_
    refine go_goto (pc := 48) (tgt := 53) (by decide) dX6_wireTry_48 ?_
    have z14 : ((-2) : Int32).toInt = (-2) := (ti_c (v := (-2)) (a := (-2)) (by decide))
    exact go_lv rfl ((key 14) a2 a3 a5 (-2) a2 h12 hv12 (by omega) (by omega) (by omega) (by omega) (by omega) (by omega) (by omega) (by omega) (by omega) (by omega) (by omega))
set_option maxHeartbeats 4000000 in
set_option maxRecDepth 100000 in
theorem s_X6_wireStatement_lv4 (l : Launch) (d : Nat) {P : PP} {h : HP} (hv : Iv P h) (a2 : Int32) (a2l : 0 ≤ a2.toInt) (a2u : a2.toInt ≤ 127) (a3 : Int32) (a3l : 0 ≤ a3.toInt) (a3u : a3.toInt ≤ 44) (a4 : Int32) (a4l : -1 ≤ a4.toInt) (a4u : a4.toInt ≤ 127) (a5 : Int32) (a5l : 4 ≤ a5.toInt) (a5u : a5.toInt ≤ 4) (hp : 0 ≤ (h.2.1 37 a2.toInt.toNat).toInt) : Mt l yX6_wireStatement cX6_wireStatement 7 (some .int) (d + 6) [.ref 48, .int a2, .int a3, .int a4, .int a5] h 0 0 (fun r h' => ∃ v : Int32, r = some (.int v) ∧ 0 ≤ v.toInt ∧ v.toInt ≤ 44 ∧ Iv P h') := by
  refine Mt_iv hv (by decide) (Nat.le_of_ble_eq_true rfl) ?_
  show Go l RX6 cX6_wireStatement 7 (g_rm (d + 6) 0 0) "wireStatement" (some .int) 117 0 0 (fun _ _ => True) (fun r h' => ∃ v : Int32, r = some (.int v) ∧ 0 ≤ v.toInt ∧ v.toInt ≤ 44 ∧ Iv P h') 0 0 [(0, .ref 48), (1, .int a2), (2, .int a3), (3, .int a4), (4, .int a5)] [] h
  have key : ∀ n : Nat, (∀ (l1 : Int32) (l2 : Int32) (l3 : Int32) (l4 : Int32) (l5 : Int32) (l6 : Int32) (s0 : Int32) (s1 : Int32) (s2 : Nat) (hx : HP), Iv P hx → 0 ≤ l1.toInt → l1.toInt ≤ 127 → 0 ≤ l2.toInt → l2.toInt ≤ 44 → -1 ≤ l3.toInt → l3.toInt ≤ 127 → 4 ≤ l4.toInt → l4.toInt ≤ 4 → 0 ≤ l5.toInt → l5.toInt ≤ 39 → 39 ≤ l6.toInt → l6.toInt ≤ 44 → 0 ≤ s0.toInt → s0.toInt ≤ 44 → 0 ≤ s1.toInt → s1.toInt ≤ 39 → (s2 = 2 ∨ s2 = 18) → (4 : Int) < n → Go l RX6 cX6_wireStatement 7 (g_rm (d + 6) 0 0) "wireStatement" (some .int) 117 0 0 (fun _ _ => True) (fun r h' => ∃ v : Int32, r = some (.int v) ∧ 0 ≤ v.toInt ∧ v.toInt ≤ 44 ∧ Iv P h') 0 75 [(0, .ref 48), (1, .int l1), (2, .int l2), (3, .int l3), (4, .int l4), (5, .int l5), (6, .int l6)] [.int s0, .int s1, .ref (s2 + 13)] hx) ∧ (∀ (l1 : Int32) (l2 : Int32) (l3 : Int32) (l4 : Int32) (l5 : Int32) (l6 : Int32) (s0 : Int32) (s1 : Int32) (s2 : Nat) (hx : HP), Iv P hx → 0 ≤ l1.toInt → l1.toInt ≤ 127 → 0 ≤ l2.toInt → l2.toInt ≤ 44 → -1 ≤ l3.toInt → l3.toInt ≤ 127 → 4 ≤ l4.toInt → l4.toInt ≤ 4 → 0 ≤ l5.toInt → l5.toInt ≤ 39 → 39 ≤ l6.toInt → l6.toInt ≤ 44 → -1 ≤ s0.toInt → s0.toInt ≤ 5 → 0 ≤ s1.toInt → s1.toInt ≤ 39 → (s2 = 2 ∨ s2 = 18) → (3 : Int) < n → Go l RX6 cX6_wireStatement 7 (g_rm (d + 6) 0 0) "wireStatement" (some .int) 117 0 0 (fun _ _ => True) (fun r h' => ∃ v : Int32, r = some (.int v) ∧ 0 ≤ v.toInt ∧ v.toInt ≤ 44 ∧ Iv P h') 0 102 [(0, .ref 48), (1, .int l1), (2, .int l2), (3, .int l3), (4, .int l4), (5, .int l5), (6, .int l6)] [.int s0, .int s1, .ref (s2 + 14)] hx) ∧ (∀ (l1 : Int32) (l2 : Int32) (l3 : Int32) (l4 : Int32) (l5 : Int32) (l6 : Int32) (s0 : Int32) (s1 : Int32) (s2 : Nat) (hx : HP), Iv P hx → 0 ≤ l1.toInt → l1.toInt ≤ 127 → 0 ≤ l2.toInt → l2.toInt ≤ 44 → -1 ≤ l3.toInt → l3.toInt ≤ 127 → 4 ≤ l4.toInt → l4.toInt ≤ 4 → 0 ≤ l5.toInt → l5.toInt ≤ 39 → 39 ≤ l6.toInt → l6.toInt ≤ 44 → -2 ≤ s0.toInt → s0.toInt ≤ 44 → 0 ≤ s1.toInt → s1.toInt ≤ 39 → (s2 = 2 ∨ s2 = 18) → (2 : Int) < n → Go l RX6 cX6_wireStatement 7 (g_rm (d + 6) 0 0) "wireStatement" (some .int) 117 0 0 (fun _ _ => True) (fun r h' => ∃ v : Int32, r = some (.int v) ∧ 0 ≤ v.toInt ∧ v.toInt ≤ 44 ∧ Iv P h') 0 130 [(0, .ref 48), (1, .int l1), (2, .int l2), (3, .int l3), (4, .int l4), (5, .int l5), (6, .int l6)] [.int s0, .int s1, .ref (s2 + 15)] hx) ∧ (∀ (l5 : Int32) (hx : HP), Iv P hx → 0 ≤ l5.toInt → l5.toInt ≤ 39 → (1 : Int) < n → Go l RX6 cX6_wireStatement 7 (g_rm (d + 6) 0 0) "wireStatement" (some .int) 117 0 0 (fun _ _ => True) (fun r h' => ∃ v : Int32, r = some (.int v) ∧ 0 ≤ v.toInt ∧ v.toInt ≤ 44 ∧ Iv P h') 0 279 [(5, .int l5)] [] hx) := by
    intro n
    induction n with
    | zero => exact ⟨(by intros; omega), (by intros; omega), (by intros; omega), (by intros; omega)⟩
    | succ n ih =>
      refine ⟨?_, ?_, ?_, ?_⟩
      ·
        intro l1 l2 l3 l4 l5 l6 s0 s1 s2 hx hvx l1l l1u l2l l2u l3l l3u l4l l4u l5l l5u l6l l6u s0l s0u s1l s1u hs2 hm
        refine gi_iast (pc := 75) (lo := 0) (hi := 44) (len := 40) hvx (ti_rfl s1) (ti_rfl s0) (by rcases hs2 with rfl | rfl <;> rfl) (by omega) (by omega) (fun _ => by rcases hs2 with rfl | rfl <;> rfl) (by omega) (by omega) (by rcases hs2 with rfl | rfl <;> decide) dX6_wireStatement_75 (fun h1 hv1 hv1e => ?_)
        refine go_aload_n (pc := 76) rfl dX6_wireStatement_76 ?_
        refine gi_getC (pc := 77) hv1 fL_X6_15 rfl (Nat.le_of_ble_eq_true rfl) rfl (by decide) dX6_wireStatement_77 (fun c2 hc2 fc2 => ?_)
        refine gi_getF (pc := 80) (q := c2 + 14) hv1 fL_X6_74 (by rcases hc2 with rfl | rfl <;> rfl) (Nat.le_of_ble_eq_true rfl) rfl (by rcases hc2 with rfl | rfl <;> exact hv1.rf (by decide)) dX6_wireStatement_80 ?_
        refine go_iload (pc := 83) rfl dX6_wireStatement_83 ?_
        refine go_iload_n (pc := 85) rfl dX6_wireStatement_85 ?_
        refine gf_if_ge (pc := 86) (tgt := 93) (ti_rfl l3) (by decide) dX6_wireStatement_86 (fun q3 => ?_) (fun q3 => ?_)
        ·
          refine go_aload_n (pc := 93) rfl dX6_wireStatement_93 ?_
          refine gi_getF (pc := 94) (q := 36) hv1 fL_X6_9 rfl (Nat.le_of_ble_eq_true rfl) rfl (hv1.rf (by decide)) dX6_wireStatement_94 ?_
          refine gi_getF (pc := 97) (q := 41) hv1 fL_X6_77 rfl (Nat.le_of_ble_eq_true rfl) rfl (hv1.rf (by decide)) dX6_wireStatement_97 ?_
          refine go_iload_n (pc := 100) rfl dX6_wireStatement_100 ?_
          refine gi_iald (pc := 101) (lo := -1) (hi := 5) (len := 128) hv1 (ti_rfl l3) rfl (by omega) (by omega) (fun _ => rfl) dX6_wireStatement_101 (fun v4 v4l v4u v4w => ?_)
          exact go_lv rfl (ih.2.1 l1 l2 l3 l4 l5 l6 v4 l5 c2 h1 hv1 (by omega) (by omega) (by omega) (by omega) (by omega) (by omega) (by omega) (by omega) (by omega) (by omega) (by omega) (by omega) (by omega) (by omega) (by omega) (by omega) hc2 (by omega))
        ·
          refine go_iconst (pc := 89) (v := (-1)) (by decide) dX6_wireStatement_89 ?_
          refine go_goto (pc := 90) (tgt := 102) (by decide) dX6_wireStatement_90 ?_
          have z5 : ((-1) : Int32).toInt = (-1) := (ti_c (v := (-1)) (a := (-1)) (by decide))
          exact go_lv rfl (ih.2.1 l1 l2 l3 l4 l5 l6 (-1) l5 c2 h1 hv1 (by omega) (by omega) (by omega) (by omega) (by omega) (by omega) (by omega) (by omega) (by omega) (by omega) (by omega) (by omega) (by omega) (by omega) (by omega) (by omega) hc2 (by omega))
      ·
        intro l1 l2 l3 l4 l5 l6 s0 s1 s2 hx hvx l1l l1u l2l l2u l3l l3u l4l l4u l5l l5u l6l l6u s0l s0u s1l s1u hs2 hm
        refine gi_iast (pc := 102) (lo := -1) (hi := 5) (len := 40) hvx (ti_rfl s1) (ti_rfl s0) (by rcases hs2 with rfl | rfl <;> rfl) (by omega) (by omega) (fun _ => by rcases hs2 with rfl | rfl <;> rfl) (by omega) (by omega) (by rcases hs2 with rfl | rfl <;> decide) dX6_wireStatement_102 (fun h6 hv6 hv6e => ?_)
        refine go_aload_n (pc := 103) rfl dX6_wireStatement_103 ?_
        refine gi_getC (pc := 104) hv6 fL_X6_15 rfl (Nat.le_of_ble_eq_true rfl) rfl (by decide) dX6_wireStatement_104 (fun c7 hc7 fc7 => ?_)
        refine gi_getF (pc := 107) (q := c7 + 15) hv6 fL_X6_80 (by rcases hc7 with rfl | rfl <;> rfl) (Nat.le_of_ble_eq_true rfl) rfl (by rcases hc7 with rfl | rfl <;> exact hv6.rf (by decide)) dX6_wireStatement_107 ?_
        refine go_iload (pc := 110) rfl dX6_wireStatement_110 ?_
        refine go_iload_n (pc := 112) rfl dX6_wireStatement_112 ?_
        refine gf_if_ge (pc := 113) (tgt := 121) (ti_rfl l3) (by decide) dX6_wireStatement_113 (fun q8 => ?_) (fun q8 => ?_)
        ·
          refine go_aload_n (pc := 121) rfl dX6_wireStatement_121 ?_
          refine gi_getF (pc := 122) (q := 36) hv6 fL_X6_9 rfl (Nat.le_of_ble_eq_true rfl) rfl (hv6.rf (by decide)) dX6_wireStatement_122 ?_
          refine gi_getF (pc := 125) (q := 43) hv6 fL_X6_56 rfl (Nat.le_of_ble_eq_true rfl) rfl (hv6.rf (by decide)) dX6_wireStatement_125 ?_
          refine go_iload_n (pc := 128) rfl dX6_wireStatement_128 ?_
          refine gi_iald (pc := 129) (lo := -2) (hi := 44) (len := 128) hv6 (ti_rfl l3) rfl (by omega) (by omega) (fun _ => rfl) dX6_wireStatement_129 (fun v9 v9l v9u v9w => ?_)
          exact go_lv rfl (ih.2.2.1 l1 l2 l3 l4 l5 l6 v9 l5 c7 h6 hv6 (by omega) (by omega) (by omega) (by omega) (by omega) (by omega) (by omega) (by omega) (by omega) (by omega) (by omega) (by omega) (by omega) (by omega) (by omega) (by omega) hc7 (by omega))
        ·
          refine go_bipush (pc := 116) (v := (-2)) (by decide) dX6_wireStatement_116 ?_
          refine go_goto (pc := 118) (tgt := 130) (by decide) dX6_wireStatement_118 ?_
          have z10 : ((-2) : Int32).toInt = (-2) := (ti_c (v := (-2)) (a := (-2)) (by decide))
          exact go_lv rfl (ih.2.2.1 l1 l2 l3 l4 l5 l6 (-2) l5 c7 h6 hv6 (by omega) (by omega) (by omega) (by omega) (by omega) (by omega) (by omega) (by omega) (by omega) (by omega) (by omega) (by omega) (by omega) (by omega) (by omega) (by omega) hc7 (by omega))
      ·
        intro l1 l2 l3 l4 l5 l6 s0 s1 s2 hx hvx l1l l1u l2l l2u l3l l3u l4l l4u l5l l5u l6l l6u s0l s0u s1l s1u hs2 hm
        refine gi_iast (pc := 130) (lo := -2) (hi := 44) (len := 40) hvx (ti_rfl s1) (ti_rfl s0) (by rcases hs2 with rfl | rfl <;> rfl) (by omega) (by omega) (fun _ => by rcases hs2 with rfl | rfl <;> rfl) (by omega) (by omega) (by rcases hs2 with rfl | rfl <;> decide) dX6_wireStatement_130 (fun h11 hv11 hv11e => ?_)
        refine go_aload_n (pc := 131) rfl dX6_wireStatement_131 ?_
        refine gi_getC (pc := 132) hv11 fL_X6_15 rfl (Nat.le_of_ble_eq_true rfl) rfl (by decide) dX6_wireStatement_132 (fun c12 hc12 fc12 => ?_)
        refine gi_getF (pc := 135) (q := c12 + 2) hv11 fL_X6_81 (by rcases hc12 with rfl | rfl <;> rfl) (Nat.le_of_ble_eq_true rfl) rfl (by rcases hc12 with rfl | rfl <;> exact hv11.rf (by decide)) dX6_wireStatement_135 ?_
        refine go_iload (pc := 138) rfl dX6_wireStatement_138 ?_
        refine gi_iald (pc := 140) (lo := 0) (hi := 5) (len := 40) hv11 (ti_rfl l5) (by rcases hc12 with rfl | rfl <;> rfl) (by omega) (by omega) (fun _ => by rcases hc12 with rfl | rfl <;> rfl) dX6_wireStatement_140 (fun v13 v13l v13u v13w => ?_)
        refine go_iconst (pc := 141) (v := 5) (by decide) dX6_wireStatement_141 ?_
        refine gf_icmp_ne (pc := 142) (tgt := 160) (ti_rfl v13) (ti_c (v := 5) (a := 5) (by decide)) (by decide) dX6_wireStatement_142 (fun q14 => ?_) (fun q14 => ?_)
        ·
          refine go_aload_n (pc := 160) rfl dX6_wireStatement_160 ?_
          refine gi_getC (pc := 161) hv11 fL_X6_15 rfl (Nat.le_of_ble_eq_true rfl) rfl (by decide) dX6_wireStatement_161 (fun c15 hc15 fc15 => ?_)
          refine gi_getF (pc := 164) (q := c15 + 2) hv11 fL_X6_81 (by rcases hc15 with rfl | rfl <;> rfl) (Nat.le_of_ble_eq_true rfl) rfl (by rcases hc15 with rfl | rfl <;> exact hv11.rf (by decide)) dX6_wireStatement_164 ?_
          refine go_iload (pc := 167) rfl dX6_wireStatement_167 ?_
          refine gi_iald (pc := 169) (lo := 0) (hi := 5) (len := 40) hv11 (ti_rfl l5) (by rcases hc15 with rfl | rfl <;> rfl) (by omega) (by omega) (fun _ => by rcases hc15 with rfl | rfl <;> rfl) dX6_wireStatement_169 (fun v16 v16l v16u v16w => ?_)
          refine go_iconst (pc := 170) (v := 3) (by decide) dX6_wireStatement_170 ?_
          refine gf_icmp_ne (pc := 171) (tgt := 207) (ti_rfl v16) (ti_c (v := 3) (a := 3) (by decide)) (by decide) dX6_wireStatement_171 (fun q17 => ?_) (fun q17 => ?_)
          ·
            refine go_aload_n (pc := 207) rfl dX6_wireStatement_207 ?_
            refine gi_getC (pc := 208) hv11 fL_X6_15 rfl (Nat.le_of_ble_eq_true rfl) rfl (by decide) dX6_wireStatement_208 (fun c18 hc18 fc18 => ?_)
            refine gi_getF (pc := 211) (q := c18 + 2) hv11 fL_X6_81 (by rcases hc18 with rfl | rfl <;> rfl) (Nat.le_of_ble_eq_true rfl) rfl (by rcases hc18 with rfl | rfl <;> exact hv11.rf (by decide)) dX6_wireStatement_211 ?_
            refine go_iload (pc := 214) rfl dX6_wireStatement_214 ?_
            refine gi_iald (pc := 216) (lo := 0) (hi := 5) (len := 40) hv11 (ti_rfl l5) (by rcases hc18 with rfl | rfl <;> rfl) (by omega) (by omega) (fun _ => by rcases hc18 with rfl | rfl <;> rfl) dX6_wireStatement_216 (fun v19 v19l v19u v19w => ?_)
            refine go_iconst (pc := 217) (v := 2) (by decide) dX6_wireStatement_217 ?_
            refine gf_icmp_ne (pc := 218) (tgt := 279) (ti_rfl v19) (ti_c (v := 2) (a := 2) (by decide)) (by decide) dX6_wireStatement_218 (fun q20 => ?_) (fun q20 => ?_)
            ·
              exact go_lv rfl (ih.2.2.2 l5 h11 hv11 (by omega) (by omega) (by omega))
            ·
              refine go_aload_n (pc := 221) rfl dX6_wireStatement_221 ?_
              refine gi_getC (pc := 222) hv11 fL_X6_15 rfl (Nat.le_of_ble_eq_true rfl) rfl (by decide) dX6_wireStatement_222 (fun c21 hc21 fc21 => ?_)
              refine gi_getF (pc := 225) (q := c21 + 13) hv11 fL_X6_71 (by rcases hc21 with rfl | rfl <;> rfl) (Nat.le_of_ble_eq_true rfl) rfl (by rcases hc21 with rfl | rfl <;> exact hv11.rf (by decide)) dX6_wireStatement_225 ?_
              refine go_iload (pc := 228) rfl dX6_wireStatement_228 ?_
              refine go_aload_n (pc := 230) rfl dX6_wireStatement_230 ?_
              refine go_aload_n (pc := 231) rfl dX6_wireStatement_231 ?_
              refine gi_getF (pc := 232) (q := 36) hv11 fL_X6_9 rfl (Nat.le_of_ble_eq_true rfl) rfl (hv11.rf (by decide)) dX6_wireStatement_232 ?_
              refine gi_getF (pc := 235) (q := 39) hv11 fL_X6_59 rfl (Nat.le_of_ble_eq_true rfl) rfl (hv11.rf (by decide)) dX6_wireStatement_235 ?_
              refine go_iload_n (pc := 238) rfl dX6_wireStatement_238 ?_
              refine gi_iald (pc := 239) (lo := -1) (hi := 127) (len := 128) hv11 (ti_rfl l1) rfl (by omega) (by omega) (fun _ => rfl) dX6_wireStatement_239 (fun v22 v22l v22u v22w => ?_)
              refine go_iload_n (pc := 240) rfl dX6_wireStatement_240 ?_
              refine go_iload_n (pc := 241) rfl dX6_wireStatement_241 ?_
              refine go_iload (pc := 242) rfl dX6_wireStatement_242 ?_
              refine go_iconst (pc := 244) (v := 1) (by decide) dX6_wireStatement_244 ?_
              refine gf_iadd (pc := 245) (ti_rfl l4) (ti_c (v := 1) (a := 1) (by decide)) (by omega) (by omega) dX6_wireStatement_245 (fun v23 e24 => ?_)
              refine go_invV (pc := 246) (sl := 0) (s_X6_wireBlock_lv5 l (d + 0) hv11 v22 (by rw [show (v22 : Int32).toInt = v22.toInt from (ti_rfl v22)]; omega) (by rw [show (v22 : Int32).toInt = v22.toInt from (ti_rfl v22)]; omega) l2 (by rw [show (l2 : Int32).toInt = l2.toInt from (ti_rfl l2)]; omega) (by rw [show (l2 : Int32).toInt = l2.toInt from (ti_rfl l2)]; omega) l3 (by rw [show (l3 : Int32).toInt = l3.toInt from (ti_rfl l3)]; omega) (by rw [show (l3 : Int32).toInt = l3.toInt from (ti_rfl l3)]; omega) v23 (by rw [show (v23 : Int32).toInt = (l4.toInt + 1) from e24]; omega) (by rw [show (v23 : Int32).toInt = (l4.toInt + 1) from e24]; omega)) mL_X6_34 iM_X6_wireBlock sM_X6_wireBlock (hv11.sh rfl) rfl rfl rfl (Nat.le_of_ble_eq_true rfl) (show d + 0 + 5 + 1 ≤ d + 6 by omega) (show 8 + (8 + 11) + 40 * (d + 0 + 5) ≤ 40 * (d + 6) by omega) (g_c0 hv11.ln) (Nat.le_of_ble_eq_true rfl) dX6_wireStatement_246 ?_
              intro r h25 hq _
              obtain ⟨v26, rfl, v26l, v26u, hv25⟩ := hq
              refine gi_iast (pc := 249) (lo := 0) (hi := 44) (len := 40) hv25 (ti_rfl l5) (ti_rfl v26) (by rcases hc21 with rfl | rfl <;> rfl) (by omega) (by omega) (fun _ => by rcases hc21 with rfl | rfl <;> rfl) (by omega) (by omega) (by rcases hc21 with rfl | rfl <;> decide) dX6_wireStatement_249 (fun h27 hv27 hv27e => ?_)
              refine go_aload_n (pc := 250) rfl dX6_wireStatement_250 ?_
              refine gi_getC (pc := 251) hv27 fL_X6_15 rfl (Nat.le_of_ble_eq_true rfl) rfl (by decide) dX6_wireStatement_251 (fun c28 hc28 fc28 => ?_)
              refine gi_getF (pc := 254) (q := c28 + 12) hv27 fL_X6_68 (by rcases hc28 with rfl | rfl <;> rfl) (Nat.le_of_ble_eq_true rfl) rfl (by rcases hc28 with rfl | rfl <;> exact hv27.rf (by decide)) dX6_wireStatement_254 ?_
              refine go_iload (pc := 257) rfl dX6_wireStatement_257 ?_
              refine go_aload_n (pc := 259) rfl dX6_wireStatement_259 ?_
              refine go_aload_n (pc := 260) rfl dX6_wireStatement_260 ?_
              refine gi_getF (pc := 261) (q := 36) hv27 fL_X6_9 rfl (Nat.le_of_ble_eq_true rfl) rfl (hv27.rf (by decide)) dX6_wireStatement_261 ?_
              refine gi_getF (pc := 264) (q := 40) hv27 fL_X6_50 rfl (Nat.le_of_ble_eq_true rfl) rfl (hv27.rf (by decide)) dX6_wireStatement_264 ?_
              refine go_iload_n (pc := 267) rfl dX6_wireStatement_267 ?_
              refine gi_iald (pc := 268) (lo := -1) (hi := 127) (len := 128) hv27 (ti_rfl l1) rfl (by omega) (by omega) (fun _ => rfl) dX6_wireStatement_268 (fun v29 v29l v29u v29w => ?_)
              refine go_iload_n (pc := 269) rfl dX6_wireStatement_269 ?_
              refine go_iload_n (pc := 270) rfl dX6_wireStatement_270 ?_
              refine go_iload (pc := 271) rfl dX6_wireStatement_271 ?_
              refine go_iconst (pc := 273) (v := 1) (by decide) dX6_wireStatement_273 ?_
              refine gf_iadd (pc := 274) (ti_rfl l4) (ti_c (v := 1) (a := 1) (by decide)) (by omega) (by omega) dX6_wireStatement_274 (fun v30 e31 => ?_)
              refine go_invV (pc := 275) (sl := 0) (s_X6_wireBlock_lv5 l (d + 0) hv27 v29 (by rw [show (v29 : Int32).toInt = v29.toInt from (ti_rfl v29)]; omega) (by rw [show (v29 : Int32).toInt = v29.toInt from (ti_rfl v29)]; omega) l2 (by rw [show (l2 : Int32).toInt = l2.toInt from (ti_rfl l2)]; omega) (by rw [show (l2 : Int32).toInt = l2.toInt from (ti_rfl l2)]; omega) l3 (by rw [show (l3 : Int32).toInt = l3.toInt from (ti_rfl l3)]; omega) (by rw [show (l3 : Int32).toInt = l3.toInt from (ti_rfl l3)]; omega) v30 (by rw [show (v30 : Int32).toInt = (l4.toInt + 1) from e31]; omega) (by rw [show (v30 : Int32).toInt = (l4.toInt + 1) from e31]; omega)) mL_X6_34 iM_X6_wireBlock sM_X6_wireBlock (hv27.sh rfl) rfl rfl rfl (Nat.le_of_ble_eq_true rfl) (show d + 0 + 5 + 1 ≤ d + 6 by omega) (show 8 + (8 + 11) + 40 * (d + 0 + 5) ≤ 40 * (d + 6) by omega) (g_c0 hv27.ln) (Nat.le_of_ble_eq_true rfl) dX6_wireStatement_275 ?_
              intro r h32 hq _
              obtain ⟨v33, rfl, v33l, v33u, hv32⟩ := hq
              refine gi_iast (pc := 278) (lo := 0) (hi := 44) (len := 40) hv32 (ti_rfl l5) (ti_rfl v33) (by rcases hc28 with rfl | rfl <;> rfl) (by omega) (by omega) (fun _ => by rcases hc28 with rfl | rfl <;> rfl) (by omega) (by omega) (by rcases hc28 with rfl | rfl <;> decide) dX6_wireStatement_278 (fun h34 hv34 hv34e => ?_)
              exact go_lv rfl (ih.2.2.2 l5 h34 hv34 (by omega) (by omega) (by omega))
          ·
            refine go_aload_n (pc := 174) rfl dX6_wireStatement_174 ?_
            refine gi_getC (pc := 175) hv11 fL_X6_15 rfl (Nat.le_of_ble_eq_true rfl) rfl (by decide) dX6_wireStatement_175 (fun c35 hc35 fc35 => ?_)
            refine gi_getF (pc := 178) (q := c35 + 13) hv11 fL_X6_71 (by rcases hc35 with rfl | rfl <;> rfl) (Nat.le_of_ble_eq_true rfl) rfl (by rcases hc35 with rfl | rfl <;> exact hv11.rf (by decide)) dX6_wireStatement_178 ?_
            refine go_iload (pc := 181) rfl dX6_wireStatement_181 ?_
            refine go_aload_n (pc := 183) rfl dX6_wireStatement_183 ?_
            refine go_aload_n (pc := 184) rfl dX6_wireStatement_184 ?_
            refine gi_getF (pc := 185) (q := 36) hv11 fL_X6_9 rfl (Nat.le_of_ble_eq_true rfl) rfl (hv11.rf (by decide)) dX6_wireStatement_185 ?_
            refine gi_getF (pc := 188) (q := 39) hv11 fL_X6_59 rfl (Nat.le_of_ble_eq_true rfl) rfl (hv11.rf (by decide)) dX6_wireStatement_188 ?_
            refine go_iload_n (pc := 191) rfl dX6_wireStatement_191 ?_
            refine gi_iald (pc := 192) (lo := -1) (hi := 127) (len := 128) hv11 (ti_rfl l1) rfl (by omega) (by omega) (fun _ => rfl) dX6_wireStatement_192 (fun v36 v36l v36u v36w => ?_)
            refine go_iload (pc := 193) rfl dX6_wireStatement_193 ?_
            refine go_iload_n (pc := 195) rfl dX6_wireStatement_195 ?_
            refine go_iload (pc := 196) rfl dX6_wireStatement_196 ?_
            refine go_iconst (pc := 198) (v := 1) (by decide) dX6_wireStatement_198 ?_
            refine gf_iadd (pc := 199) (ti_rfl l4) (ti_c (v := 1) (a := 1) (by decide)) (by omega) (by omega) dX6_wireStatement_199 (fun v37 e38 => ?_)
            refine go_invV (pc := 200) (sl := 0) (s_X6_wireBlock_lv5 l (d + 0) hv11 v36 (by rw [show (v36 : Int32).toInt = v36.toInt from (ti_rfl v36)]; omega) (by rw [show (v36 : Int32).toInt = v36.toInt from (ti_rfl v36)]; omega) l5 (by rw [show (l5 : Int32).toInt = l5.toInt from (ti_rfl l5)]; omega) (by rw [show (l5 : Int32).toInt = l5.toInt from (ti_rfl l5)]; omega) l3 (by rw [show (l3 : Int32).toInt = l3.toInt from (ti_rfl l3)]; omega) (by rw [show (l3 : Int32).toInt = l3.toInt from (ti_rfl l3)]; omega) v37 (by rw [show (v37 : Int32).toInt = (l4.toInt + 1) from e38]; omega) (by rw [show (v37 : Int32).toInt = (l4.toInt + 1) from e38]; omega)) mL_X6_34 iM_X6_wireBlock sM_X6_wireBlock (hv11.sh rfl) rfl rfl rfl (Nat.le_of_ble_eq_true rfl) (show d + 0 + 5 + 1 ≤ d + 6 by omega) (show 8 + (8 + 11) + 40 * (d + 0 + 5) ≤ 40 * (d + 6) by omega) (g_c0 hv11.ln) (Nat.le_of_ble_eq_true rfl) dX6_wireStatement_200 ?_
            intro r h39 hq _
            obtain ⟨v40, rfl, v40l, v40u, hv39⟩ := hq
            refine gi_iast (pc := 203) (lo := 0) (hi := 44) (len := 40) hv39 (ti_rfl l5) (ti_rfl v40) (by rcases hc35 with rfl | rfl <;> rfl) (by omega) (by omega) (fun _ => by rcases hc35 with rfl | rfl <;> rfl) (by omega) (by omega) (by rcases hc35 with rfl | rfl <;> decide) dX6_wireStatement_203 (fun h41 hv41 hv41e => ?_)
            refine go_goto (pc := 204) (tgt := 279) (by decide) dX6_wireStatement_204 ?_
            exact go_lv rfl (ih.2.2.2 l5 h41 hv41 (by omega) (by omega) (by omega))
        ·
          refine go_aload_n (pc := 145) rfl dX6_wireStatement_145 ?_
          refine gi_getC (pc := 146) hv11 fL_X6_15 rfl (Nat.le_of_ble_eq_true rfl) rfl (by decide) dX6_wireStatement_146 (fun c42 hc42 fc42 => ?_)
          refine gi_getF (pc := 149) (q := c42 + 13) hv11 fL_X6_71 (by rcases hc42 with rfl | rfl <;> rfl) (Nat.le_of_ble_eq_true rfl) rfl (by rcases hc42 with rfl | rfl <;> exact hv11.rf (by decide)) dX6_wireStatement_149 ?_
          refine go_iload (pc := 152) rfl dX6_wireStatement_152 ?_
          refine go_iload (pc := 154) rfl dX6_wireStatement_154 ?_
          refine gi_iast (pc := 156) (lo := 0) (hi := 44) (len := 40) hv11 (ti_rfl l5) (ti_rfl l6) (by rcases hc42 with rfl | rfl <;> rfl) (by omega) (by omega) (fun _ => by rcases hc42 with rfl | rfl <;> rfl) (by omega) (by omega) (by rcases hc42 with rfl | rfl <;> decide) dX6_wireStatement_156 (fun h43 hv43 hv43e => ?_)
          refine go_goto (pc := 157) (tgt := 279) (by decide) dX6_wireStatement_157 ?_
          exact go_lv rfl (ih.2.2.2 l5 h43 hv43 (by omega) (by omega) (by omega))
      ·
        intro l5 hx hvx l5l l5u hm
        refine go_iload (pc := 279) rfl dX6_wireStatement_279 ?_
        exact gi_iret (pc := 281) (ti_rfl l5) ⟨_, rfl, (by rw [show (l5 : Int32).toInt = l5.toInt from (ti_rfl l5)]; omega), (by rw [show (l5 : Int32).toInt = l5.toInt from (ti_rfl l5)]; omega), hvx⟩ hvx dX6_wireStatement_281
  refine go_aload_n (pc := 0) rfl dX6_wireStatement_0 ?_
  refine gi_getF (pc := 1) (q := 36) hv fL_X6_9 rfl (Nat.le_of_ble_eq_true rfl) rfl (hv.rf (by decide)) dX6_wireStatement_1 ?_
  refine gi_getF (pc := 4) (q := 37) hv fL_X6_38 rfl (Nat.le_of_ble_eq_true rfl) rfl (hv.rf (by decide)) dX6_wireStatement_4 ?_
  refine go_iload_n (pc := 7) rfl dX6_wireStatement_7 ?_
  refine gi_iald (pc := 8) (lo := -1) (hi := 39) (len := 128) hv (ti_rfl a2) rfl (by omega) (by omega) (fun _ => rfl) dX6_wireStatement_8 (fun v44 v44l v44u v44w => ?_)
  have kk : 0 ≤ v44.toInt := by rw [v44w]; exact hp
  refine go_istore (pc := 9) (Nat.le_of_ble_eq_true rfl) dX6_wireStatement_9 (go_lv (lv2 := [(0, .ref 48), (1, .int a2), (2, .int a3), (3, .int a4), (4, .int a5), (5, .int v44)]) rfl ?_)
  refine go_bipush (pc := 11) (v := 40) (by decide) dX6_wireStatement_11 ?_
  refine go_aload_n (pc := 13) rfl dX6_wireStatement_13 ?_
  refine gi_getC (pc := 14) hv fL_X6_15 rfl (Nat.le_of_ble_eq_true rfl) rfl (by decide) dX6_wireStatement_14 (fun c45 hc45 fc45 => ?_)
  refine gi_getF (pc := 17) (q := c45 + 3) hv fL_X6_62 (by rcases hc45 with rfl | rfl <;> rfl) (Nat.le_of_ble_eq_true rfl) rfl (by rcases hc45 with rfl | rfl <;> exact hv.rf (by decide)) dX6_wireStatement_17 ?_
  refine go_iload (pc := 20) rfl dX6_wireStatement_20 ?_
  refine gi_iald (pc := 22) (lo := -1) (hi := 4) (len := 40) hv (ti_rfl v44) (by rcases hc45 with rfl | rfl <;> rfl) (by omega) (by omega) (fun _ => by rcases hc45 with rfl | rfl <;> rfl) dX6_wireStatement_22 (fun v46 v46l v46u v46w => ?_)
  refine gf_iadd (pc := 23) (ti_c (v := 40) (a := 40) (by decide)) (ti_rfl v46) (by omega) (by omega) dX6_wireStatement_23 (fun v47 e48 => ?_)
  refine go_istore (pc := 24) (Nat.le_of_ble_eq_true rfl) dX6_wireStatement_24 (go_lv (lv2 := [(0, .ref 48), (1, .int a2), (2, .int a3), (3, .int a4), (4, .int a5), (5, .int v44), (6, .int v47)]) rfl ?_)
  refine go_aload_n (pc := 26) rfl dX6_wireStatement_26 ?_
  refine gi_getC (pc := 27) hv fL_X6_15 rfl (Nat.le_of_ble_eq_true rfl) rfl (by decide) dX6_wireStatement_27 (fun c49 hc49 fc49 => ?_)
  refine gi_getF (pc := 30) (q := c49 + 11) hv fL_X6_65 (by rcases hc49 with rfl | rfl <;> rfl) (Nat.le_of_ble_eq_true rfl) rfl (by rcases hc49 with rfl | rfl <;> exact hv.rf (by decide)) dX6_wireStatement_30 ?_
  refine go_iload (pc := 33) rfl dX6_wireStatement_33 ?_
  refine go_iload_n (pc := 35) rfl dX6_wireStatement_35 ?_
  refine gi_iast (pc := 36) (lo := 0) (hi := 44) (len := 40) hv (ti_rfl v44) (ti_rfl a3) (by rcases hc49 with rfl | rfl <;> rfl) (by omega) (by omega) (fun _ => by rcases hc49 with rfl | rfl <;> rfl) (by omega) (by omega) (by rcases hc49 with rfl | rfl <;> decide) dX6_wireStatement_36 (fun h50 hv50 hv50e => ?_)
  refine go_aload_n (pc := 37) rfl dX6_wireStatement_37 ?_
  refine gi_getC (pc := 38) hv50 fL_X6_15 rfl (Nat.le_of_ble_eq_true rfl) rfl (by decide) dX6_wireStatement_38 (fun c51 hc51 fc51 => ?_)
  refine gi_getF (pc := 41) (q := c51 + 12) hv50 fL_X6_68 (by rcases hc51 with rfl | rfl <;> rfl) (Nat.le_of_ble_eq_true rfl) rfl (by rcases hc51 with rfl | rfl <;> exact hv50.rf (by decide)) dX6_wireStatement_41 ?_
  refine go_iload (pc := 44) rfl dX6_wireStatement_44 ?_
  refine go_iload_n (pc := 46) rfl dX6_wireStatement_46 ?_
  refine gi_iast (pc := 47) (lo := 0) (hi := 44) (len := 40) hv50 (ti_rfl v44) (ti_rfl a3) (by rcases hc51 with rfl | rfl <;> rfl) (by omega) (by omega) (fun _ => by rcases hc51 with rfl | rfl <;> rfl) (by omega) (by omega) (by rcases hc51 with rfl | rfl <;> decide) dX6_wireStatement_47 (fun h52 hv52 hv52e => ?_)
  refine go_aload_n (pc := 48) rfl dX6_wireStatement_48 ?_
  refine gi_getC (pc := 49) hv52 fL_X6_15 rfl (Nat.le_of_ble_eq_true rfl) rfl (by decide) dX6_wireStatement_49 (fun c53 hc53 fc53 => ?_)
  refine gi_getF (pc := 52) (q := c53 + 13) hv52 fL_X6_71 (by rcases hc53 with rfl | rfl <;> rfl) (Nat.le_of_ble_eq_true rfl) rfl (by rcases hc53 with rfl | rfl <;> exact hv52.rf (by decide)) dX6_wireStatement_52 ?_
  refine go_iload (pc := 55) rfl dX6_wireStatement_55 ?_
  refine go_iload_n (pc := 57) rfl dX6_wireStatement_57 ?_
  refine gf_if_ge (pc := 58) (tgt := 66) (ti_rfl a4) (by decide) dX6_wireStatement_58 (fun q54 => ?_) (fun q54 => ?_)
  ·
    refine go_aload_n (pc := 66) rfl dX6_wireStatement_66 ?_
    refine gi_getF (pc := 67) (q := 36) hv52 fL_X6_9 rfl (Nat.le_of_ble_eq_true rfl) rfl (hv52.rf (by decide)) dX6_wireStatement_67 ?_
    refine gi_getF (pc := 70) (q := 42) hv52 fL_X6_53 rfl (Nat.le_of_ble_eq_true rfl) rfl (hv52.rf (by decide)) dX6_wireStatement_70 ?_
    refine go_iload_n (pc := 73) rfl dX6_wireStatement_73 ?_
    refine gi_iald (pc := 74) (lo := 0) (hi := 44) (len := 128) hv52 (ti_rfl a4) rfl (by omega) (by omega) (fun _ => rfl) dX6_wireStatement_74 (fun v55 v55l v55u v55w => ?_)
    have z56 : (v47 : Int32).toInt = (40 + v46.toInt) := e48
    exact go_lv rfl ((key 17).1 a2 a3 a4 a5 v44 v47 v55 v44 c53 h52 hv52 (by omega) (by omega) (by omega) (by omega) (by omega) (by omega) (by omega) (by omega) (by omega) (by omega) (by omega) (by omega) (by omega) (by omega) (by omega) (by omega) hc53 (by omega))
  ·
    refine go_iload (pc := 61) rfl dX6_wireStatement_61 ?_
    refine go_goto (pc := 63) (tgt := 75) (by decide) dX6_wireStatement_63 ?_
    have z57 : (v47 : Int32).toInt = (40 + v46.toInt) := e48
    have z58 : (v47 : Int32).toInt = (40 + v46.toInt) := e48
    exact go_lv rfl ((key 17).1 a2 a3 a4 a5 v44 v47 v47 v44 c53 h52 hv52 (by omega) (by omega) (by omega) (by omega) (by omega) (by omega) (by omega) (by omega) (by omega) (by omega) (by omega) (by omega) (by omega) (by omega) (by omega) (by omega) hc53 (by omega))
set_option maxHeartbeats 4000000 in
set_option maxRecDepth 100000 in
theorem s_X6_wireBlock_lv4 (l : Launch) (d : Nat) {P : PP} {h : HP} (hv : Iv P h) (a2 : Int32) (a2l : -1 ≤ a2.toInt) (a2u : a2.toInt ≤ 127) (a3 : Int32) (a3l : 0 ≤ a3.toInt) (a3u : a3.toInt ≤ 44) (a4 : Int32) (a4l : -1 ≤ a4.toInt) (a4u : a4.toInt ≤ 127) (a5 : Int32) (a5l : 4 ≤ a5.toInt) (a5u : a5.toInt ≤ 4) : Mt l yX6_wireBlock cX6_wireBlock 8 (some .int) (d + 7) [.ref 48, .int a2, .int a3, .int a4, .int a5] h 0 0 (fun r h' => ∃ v : Int32, r = some (.int v) ∧ 0 ≤ v.toInt ∧ v.toInt ≤ 44 ∧ Iv P h') := by
  refine Mt_iv hv (by decide) (Nat.le_of_ble_eq_true rfl) ?_
  show Go l RX6 cX6_wireBlock 8 (g_rm (d + 7) 0 0) "wireBlock" (some .int) 117 0 0 (fun _ _ => True) (fun r h' => ∃ v : Int32, r = some (.int v) ∧ 0 ≤ v.toInt ∧ v.toInt ≤ 44 ∧ Iv P h') 0 0 [(0, .ref 48), (1, .int a2), (2, .int a3), (3, .int a4), (4, .int a5)] [] h
  have key : ∀ n : Nat, (∀ (l3 : Int32) (l4 : Int32) (l5 : Int32) (s0 : Int32) (hx : HP), Iv P hx → -1 ≤ l3.toInt → l3.toInt ≤ 127 → 4 ≤ l4.toInt → l4.toInt ≤ 4 → 0 ≤ l5.toInt → l5.toInt ≤ 44 → -1 ≤ s0.toInt → s0.toInt ≤ 127 → (522 : Int) < n → Go l RX6 cX6_wireBlock 8 (g_rm (d + 7) 0 0) "wireBlock" (some .int) 117 0 0 (fun _ _ => True) (fun r h' => ∃ v : Int32, r = some (.int v) ∧ 0 ≤ v.toInt ∧ v.toInt ≤ 44 ∧ Iv P h') 0 15 [(0, .ref 48), (3, .int l3), (4, .int l4), (5, .int l5)] [.int s0] hx) ∧ (∀ (l3 : Int32) (l4 : Int32) (l5 : Int32) (l6 : Int32) (l7 : Int32) (hx : HP), Iv P hx → -1 ≤ l3.toInt → l3.toInt ≤ 127 → 4 ≤ l4.toInt → l4.toInt ≤ 4 → 0 ≤ l5.toInt → l5.toInt ≤ 44 → -1 ≤ l6.toInt → l6.toInt ≤ 127 → 0 ≤ l7.toInt → l7.toInt ≤ 128 → (4 * (128 - l7.toInt) + 4 : Int) < n → Go l RX6 cX6_wireBlock 8 (g_rm (d + 7) 0 0) "wireBlock" (some .int) 117 0 0 (fun _ _ => True) (fun r h' => ∃ v : Int32, r = some (.int v) ∧ 0 ≤ v.toInt ∧ v.toInt ≤ 44 ∧ Iv P h') 0 20 [(0, .ref 48), (3, .int l3), (4, .int l4), (5, .int l5), (6, .int l6), (7, .int l7)] [] hx) ∧ (∀ (l3 : Int32) (l4 : Int32) (l5 : Int32) (l6 : Int32) (l7 : Int32) (hx : HP), Iv P hx → -1 ≤ l3.toInt → l3.toInt ≤ 127 → 4 ≤ l4.toInt → l4.toInt ≤ 4 → 0 ≤ l5.toInt → l5.toInt ≤ 44 → 0 ≤ l6.toInt → l6.toInt ≤ 127 → 0 ≤ l7.toInt → l7.toInt ≤ 127 → (4 * (128 - l7.toInt) + 3 : Int) < n → Go l RX6 cX6_wireBlock 8 (g_rm (d + 7) 0 0) "wireBlock" (some .int) 117 0 0 (fun _ _ => True) (fun r h' => ∃ v : Int32, r = some (.int v) ∧ 0 ≤ v.toInt ∧ v.toInt ≤ 44 ∧ Iv P h') 0 76 [(0, .ref 48), (3, .int l3), (4, .int l4), (5, .int l5), (6, .int l6), (7, .int l7)] [] hx) ∧ (∀ (l5 : Int32) (hx : HP), Iv P hx → 0 ≤ l5.toInt → l5.toInt ≤ 44 → (1 : Int) < n → Go l RX6 cX6_wireBlock 8 (g_rm (d + 7) 0 0) "wireBlock" (some .int) 117 0 0 (fun _ _ => True) (fun r h' => ∃ v : Int32, r = some (.int v) ∧ 0 ≤ v.toInt ∧ v.toInt ≤ 44 ∧ Iv P h') 0 94 [(5, .int l5)] [] hx) := by
    intro n
    induction n with
    | zero => exact ⟨(by intros; omega), (by intros; omega), (by intros; omega), (by intros; omega)⟩
    | succ n ih =>
      refine ⟨?_, ?_, ?_, ?_⟩
      ·
        intro l3 l4 l5 s0 hx hvx l3l l3u l4l l4u l5l l5u s0l s0u hm
        refine go_istore (pc := 15) (Nat.le_of_ble_eq_true rfl) dX6_wireBlock_15 (go_lv (lv2 := [(0, .ref 48), (3, .int l3), (4, .int l4), (5, .int l5), (6, .int s0)]) rfl ?_)
        refine go_iconst (pc := 17) (v := 0) (by decide) dX6_wireBlock_17 ?_
        refine go_istore (pc := 18) (Nat.le_of_ble_eq_true rfl) dX6_wireBlock_18 (go_lv (lv2 := [(0, .ref 48), (3, .int l3), (4, .int l4), (5, .int l5), (6, .int s0), (7, .int 0)]) rfl ?_)
        have z1 : (0 : Int32).toInt = 0 := (ti_c (v := 0) (a := 0) (by decide))
        exact go_lv rfl (ih.2.1 l3 l4 l5 s0 0 hx hvx (by omega) (by omega) (by omega) (by omega) (by omega) (by omega) (by omega) (by omega) (by omega) (by omega) (by omega))
      ·
        intro l3 l4 l5 l6 l7 hx hvx l3l l3u l4l l4u l5l l5u l6l l6u l7l l7u hm
        refine go_iload (pc := 20) rfl dX6_wireBlock_20 ?_
        refine go_sipush (pc := 22) (v := 128) (by decide) dX6_wireBlock_22 ?_
        refine gf_icmp_ge (pc := 25) (tgt := 94) (ti_rfl l7) (ti_c (v := 128) (a := 128) (by decide)) (by decide) dX6_wireBlock_25 (fun q2 => ?_) (fun q2 => ?_)
        ·
          exact go_lv rfl (ih.2.2.2 l5 hx hvx (by omega) (by omega) (by omega))
        ·
          refine go_iload (pc := 28) rfl dX6_wireBlock_28 ?_
          refine gf_if_lt (pc := 30) (tgt := 94) (ti_rfl l6) (by decide) dX6_wireBlock_30 (fun q3 => ?_) (fun q3 => ?_)
          ·
            exact go_lv rfl (ih.2.2.2 l5 hx hvx (by omega) (by omega) (by omega))
          ·
            refine go_aload_n (pc := 33) rfl dX6_wireBlock_33 ?_
            refine gi_getF (pc := 34) (q := 36) hvx fL_X6_9 rfl (Nat.le_of_ble_eq_true rfl) rfl (hvx.rf (by decide)) dX6_wireBlock_34 ?_
            refine gi_getF (pc := 37) (q := 37) hvx fL_X6_38 rfl (Nat.le_of_ble_eq_true rfl) rfl (hvx.rf (by decide)) dX6_wireBlock_37 ?_
            refine go_iload (pc := 40) rfl dX6_wireBlock_40 ?_
            refine gi_iald (pc := 42) (lo := -1) (hi := 39) (len := 128) hvx (ti_rfl l6) rfl (by omega) (by omega) (fun _ => rfl) dX6_wireBlock_42 (fun v4 v4l v4u v4w => ?_)
            refine go_iconst (pc := 43) (v := (-1)) (by decide) dX6_wireBlock_43 ?_
            refine gf_icmp_ne (pc := 44) (tgt := 63) (ti_rfl v4) (ti_c (v := (-1)) (a := (-1)) (by decide)) (by decide) dX6_wireBlock_44 (fun q5 => ?_) (fun q5 => ?_)
            ·
              refine go_aload_n (pc := 63) rfl dX6_wireBlock_63 ?_
              refine go_iload (pc := 64) rfl dX6_wireBlock_64 ?_
              refine go_iload (pc := 66) rfl dX6_wireBlock_66 ?_
              refine go_iload_n (pc := 68) rfl dX6_wireBlock_68 ?_
              refine go_iload (pc := 69) rfl dX6_wireBlock_69 ?_
              refine go_invV (pc := 71) (sl := 0) (s_X6_wireStatement_lv4 l (d + 0) hvx l6 (by rw [show (l6 : Int32).toInt = l6.toInt from (ti_rfl l6)]; omega) (by rw [show (l6 : Int32).toInt = l6.toInt from (ti_rfl l6)]; omega) l5 (by rw [show (l5 : Int32).toInt = l5.toInt from (ti_rfl l5)]; omega) (by rw [show (l5 : Int32).toInt = l5.toInt from (ti_rfl l5)]; omega) l3 (by rw [show (l3 : Int32).toInt = l3.toInt from (ti_rfl l3)]; omega) (by rw [show (l3 : Int32).toInt = l3.toInt from (ti_rfl l3)]; omega) l4 (by rw [show (l4 : Int32).toInt = l4.toInt from (ti_rfl l4)]; omega) (by rw [show (l4 : Int32).toInt = l4.toInt from (ti_rfl l4)]; omega) (by rw [← v4w]; omega)) mL_X6_44 iM_X6_wireStatement sM_X6_wireStatement (hvx.sh rfl) rfl rfl rfl (Nat.le_of_ble_eq_true rfl) (show d + 0 + 6 + 1 ≤ d + 7 by omega) (show 8 + (7 + 11) + 40 * (d + 0 + 6) ≤ 40 * (d + 7) by omega) (g_c0 hvx.ln) (Nat.le_of_ble_eq_true rfl) dX6_wireBlock_71 ?_
              intro r h6 hq _
              obtain ⟨v7, rfl, v7l, v7u, hv6⟩ := hq
              refine go_istore (pc := 74) (Nat.le_of_ble_eq_true rfl) dX6_wireBlock_74 (go_lv (lv2 := [(0, .ref 48), (3, .int l3), (4, .int l4), (5, .int v7), (6, .int l6), (7, .int l7)]) rfl ?_)
              exact go_lv rfl (ih.2.2.1 l3 l4 v7 l6 l7 h6 hv6 (by omega) (by omega) (by omega) (by omega) (by omega) (by omega) (by omega) (by omega) (by omega) (by omega) (by omega))
            ·
              refine go_aload_n (pc := 47) rfl dX6_wireBlock_47 ?_
              refine go_iload (pc := 48) rfl dX6_wireBlock_48 ?_
              refine go_iload (pc := 50) rfl dX6_wireBlock_50 ?_
              refine go_iload_n (pc := 52) rfl dX6_wireBlock_52 ?_
              refine go_iload (pc := 53) rfl dX6_wireBlock_53 ?_
              refine go_invV (pc := 55) (sl := 0) (s_X6_wireTry_lv4 l (d + 0) hvx l6 (by rw [show (l6 : Int32).toInt = l6.toInt from (ti_rfl l6)]; omega) (by rw [show (l6 : Int32).toInt = l6.toInt from (ti_rfl l6)]; omega) l5 (by rw [show (l5 : Int32).toInt = l5.toInt from (ti_rfl l5)]; omega) (by rw [show (l5 : Int32).toInt = l5.toInt from (ti_rfl l5)]; omega) l3 (by rw [show (l3 : Int32).toInt = l3.toInt from (ti_rfl l3)]; omega) (by rw [show (l3 : Int32).toInt = l3.toInt from (ti_rfl l3)]; omega) l4 (by rw [show (l4 : Int32).toInt = l4.toInt from (ti_rfl l4)]; omega) (by rw [show (l4 : Int32).toInt = l4.toInt from (ti_rfl l4)]; omega)) mL_X6_41 iM_X6_wireTry sM_X6_wireTry (hvx.sh rfl) rfl rfl rfl (Nat.le_of_ble_eq_true rfl) (show d + 0 + 6 + 1 ≤ d + 7 by omega) (show 8 + (6 + 11) + 40 * (d + 0 + 6) ≤ 40 * (d + 7) by omega) (g_c0 hvx.ln) (Nat.le_of_ble_eq_true rfl) dX6_wireBlock_55 ?_
              intro r h8 hq _
              obtain ⟨v9, rfl, v9l, v9u, hv8⟩ := hq
              refine go_istore (pc := 58) (Nat.le_of_ble_eq_true rfl) dX6_wireBlock_58 (go_lv (lv2 := [(0, .ref 48), (3, .int l3), (4, .int l4), (5, .int v9), (6, .int l6), (7, .int l7)]) rfl ?_)
              refine go_goto (pc := 60) (tgt := 76) (by decide) dX6_wireBlock_60 ?_
              exact go_lv rfl (ih.2.2.1 l3 l4 v9 l6 l7 h8 hv8 (by omega) (by omega) (by omega) (by omega) (by omega) (by omega) (by omega) (by omega) (by omega) (by omega) (by omega))
      ·
        intro l3 l4 l5 l6 l7 hx hvx l3l l3u l4l l4u l5l l5u l6l l6u l7l l7u hm
        refine go_aload_n (pc := 76) rfl dX6_wireBlock_76 ?_
        refine gi_getF (pc := 77) (q := 36) hvx fL_X6_9 rfl (Nat.le_of_ble_eq_true rfl) rfl (hvx.rf (by decide)) dX6_wireBlock_77 ?_
        refine gi_getF (pc := 80) (q := 38) hvx fL_X6_47 rfl (Nat.le_of_ble_eq_true rfl) rfl (hvx.rf (by decide)) dX6_wireBlock_80 ?_
        refine go_iload (pc := 83) rfl dX6_wireBlock_83 ?_
        refine gi_iald (pc := 85) (lo := -1) (hi := 127) (len := 128) hvx (ti_rfl l6) rfl (by omega) (by omega) (fun _ => rfl) dX6_wireBlock_85 (fun v10 v10l v10u v10w => ?_)
        refine go_istore (pc := 86) (Nat.le_of_ble_eq_true rfl) dX6_wireBlock_86 (go_lv (lv2 := [(0, .ref 48), (3, .int l3), (4, .int l4), (5, .int l5), (6, .int v10), (7, .int l7)]) rfl ?_)
        refine gf_iinc (pc := 88) (Nat.le_of_ble_eq_true rfl) rfl (ti_rfl l7) (ti_c (by decide)) (by omega) (by omega) dX6_wireBlock_88 (fun v11 e12 => ?_)
        refine go_lv (lv2 := [(0, .ref 48), (3, .int l3), (4, .int l4), (5, .int l5), (6, .int v10), (7, .int v11)]) rfl ?_
        refine go_goto (pc := 91) (tgt := 20) (by decide) dX6_wireBlock_91 ?_
        have z13 : (v11 : Int32).toInt = (l7.toInt + 1) := e12
        exact go_lv rfl (ih.2.1 l3 l4 l5 v10 v11 hx hvx (by omega) (by omega) (by omega) (by omega) (by omega) (by omega) (by omega) (by omega) (by omega) (by omega) (by omega))
      ·
        intro l5 hx hvx l5l l5u hm
        refine go_iload (pc := 94) rfl dX6_wireBlock_94 ?_
        exact gi_iret (pc := 96) (ti_rfl l5) ⟨_, rfl, (by rw [show (l5 : Int32).toInt = l5.toInt from (ti_rfl l5)]; omega), (by rw [show (l5 : Int32).toInt = l5.toInt from (ti_rfl l5)]; omega), hvx⟩ hvx dX6_wireBlock_96
  refine go_iload_n (pc := 0) rfl dX6_wireBlock_0 ?_
  refine go_istore (pc := 1) (Nat.le_of_ble_eq_true rfl) dX6_wireBlock_1 (go_lv (lv2 := [(0, .ref 48), (1, .int a2), (2, .int a3), (3, .int a4), (4, .int a5), (5, .int a3)]) rfl ?_)
  refine go_iload (pc := 3) rfl dX6_wireBlock_3 ?_
  refine go_bipush (pc := 5) (v := 6) (by decide) dX6_wireBlock_5 ?_
  refine gf_icmp_le (pc := 7) (tgt := 14) (ti_rfl a5) (ti_c (v := 6) (a := 6) (by decide)) (by decide) dX6_wireBlock_7 (fun q14 => ?_) (fun q14 => False.elim (by omega))
  refine go_iload_n (pc := 14) rfl dX6_wireBlock_14 ?_
  exact go_lv rfl ((key 535).1 a4 a5 a3 a2 h hv (by omega) (by omega) (by omega) (by omega) (by omega) (by omega) (by omega) (by omega) (by omega))
set_option maxHeartbeats 4000000 in
set_option maxRecDepth 100000 in
theorem s_X6_wireTry_lv3 (l : Launch) (d : Nat) {P : PP} {h : HP} (hv : Iv P h) (a2 : Int32) (a2l : 0 ≤ a2.toInt) (a2u : a2.toInt ≤ 127) (a3 : Int32) (a3l : 0 ≤ a3.toInt) (a3u : a3.toInt ≤ 44) (a4 : Int32) (a4l : -1 ≤ a4.toInt) (a4u : a4.toInt ≤ 127) (a5 : Int32) (a5l : 3 ≤ a5.toInt) (a5u : a5.toInt ≤ 3) : Mt l yX6_wireTry cX6_wireTry 6 (some .int) (d + 8) [.ref 48, .int a2, .int a3, .int a4, .int a5] h 0 0 (fun r h' => ∃ v : Int32, r = some (.int v) ∧ 0 ≤ v.toInt ∧ v.toInt ≤ 44 ∧ Iv P h') := by
  refine Mt_iv hv (by decide) (Nat.le_of_ble_eq_true rfl) ?_
  show Go l RX6 cX6_wireTry 6 (g_rm (d + 8) 0 0) "wireTry" (some .int) 117 0 0 (fun _ _ => True) (fun r h' => ∃ v : Int32, r = some (.int v) ∧ 0 ≤ v.toInt ∧ v.toInt ≤ 44 ∧ Iv P h') 0 0 [(0, .ref 48), (1, .int a2), (2, .int a3), (3, .int a4), (4, .int a5)] [] h
  have key : ∀ n : Nat, (∀ (l1 : Int32) (l2 : Int32) (l4 : Int32) (s0 : Int32) (s1 : Int32) (hx : HP), Iv P hx → 0 ≤ l1.toInt → l1.toInt ≤ 127 → 0 ≤ l2.toInt → l2.toInt ≤ 44 → 3 ≤ l4.toInt → l4.toInt ≤ 3 → -2 ≤ s0.toInt → s0.toInt ≤ 44 → 0 ≤ s1.toInt → s1.toInt ≤ 127 → (1 : Int) < n → Go l RX6 cX6_wireTry 6 (g_rm (d + 8) 0 0) "wireTry" (some .int) 117 0 0 (fun _ _ => True) (fun r h' => ∃ v : Int32, r = some (.int v) ∧ 0 ≤ v.toInt ∧ v.toInt ≤ 44 ∧ Iv P h') 0 53 [(0, .ref 48), (1, .int l1), (2, .int l2), (4, .int l4)] [.int s0, .int s1, .ref 43] hx) := by
    intro n
    induction n with
    | zero => exact (by intros; omega)
    | succ n ih =>
      refine ?_
      ·
        intro l1 l2 l4 s0 s1 hx hvx l1l l1u l2l l2u l4l l4u s0l s0u s1l s1u hm
        refine gi_iast (pc := 53) (lo := -2) (hi := 44) (len := 128) hvx (ti_rfl s1) (ti_rfl s0) rfl (by omega) (by omega) (fun _ => rfl) (by omega) (by omega) (by decide) dX6_wireTry_53 (fun h1 hv1 hv1e => ?_)
        refine go_aload_n (pc := 54) rfl dX6_wireTry_54 ?_
        refine go_aload_n (pc := 55) rfl dX6_wireTry_55 ?_
        refine gi_getF (pc := 56) (q := 36) hv1 fL_X6_9 rfl (Nat.le_of_ble_eq_true rfl) rfl (hv1.rf (by decide)) dX6_wireTry_56 ?_
        refine gi_getF (pc := 59) (q := 39) hv1 fL_X6_59 rfl (Nat.le_of_ble_eq_true rfl) rfl (hv1.rf (by decide)) dX6_wireTry_59 ?_
        refine go_iload_n (pc := 62) rfl dX6_wireTry_62 ?_
        refine gi_iald (pc := 63) (lo := -1) (hi := 127) (len := 128) hv1 (ti_rfl l1) rfl (by omega) (by omega) (fun _ => rfl) dX6_wireTry_63 (fun v2 v2l v2u v2w => ?_)
        refine go_iload_n (pc := 64) rfl dX6_wireTry_64 ?_
        refine go_iload_n (pc := 65) rfl dX6_wireTry_65 ?_
        refine go_iload (pc := 66) rfl dX6_wireTry_66 ?_
        refine go_iconst (pc := 68) (v := 1) (by decide) dX6_wireTry_68 ?_
        refine gf_iadd (pc := 69) (ti_rfl l4) (ti_c (v := 1) (a := 1) (by decide)) (by omega) (by omega) dX6_wireTry_69 (fun v3 e4 => ?_)
        refine go_invV (pc := 70) (sl := 0) (s_X6_wireBlock_lv4 l (d + 0) hv1 v2 (by rw [show (v2 : Int32).toInt = v2.toInt from (ti_rfl v2)]; omega) (by rw [show (v2 : Int32).toInt = v2.toInt from (ti_rfl v2)]; omega) l2 (by rw [show (l2 : Int32).toInt = l2.toInt from (ti_rfl l2)]; omega) (by rw [show (l2 : Int32).toInt = l2.toInt from (ti_rfl l2)]; omega) l1 (by rw [show (l1 : Int32).toInt = l1.toInt from (ti_rfl l1)]; omega) (by rw [show (l1 : Int32).toInt = l1.toInt from (ti_rfl l1)]; omega) v3 (by rw [show (v3 : Int32).toInt = (l4.toInt + 1) from e4]; omega) (by rw [show (v3 : Int32).toInt = (l4.toInt + 1) from e4]; omega)) mL_X6_34 iM_X6_wireBlock sM_X6_wireBlock (hv1.sh rfl) rfl rfl rfl (Nat.le_of_ble_eq_true rfl) (show d + 0 + 7 + 1 ≤ d + 8 by omega) (show 8 + (8 + 11) + 40 * (d + 0 + 7) ≤ 40 * (d + 8) by omega) (g_c0 hv1.ln) (Nat.le_of_ble_eq_true rfl) dX6_wireTry_70 ?_
        intro r h5 hq _
        obtain ⟨v6, rfl, v6l, v6u, hv5⟩ := hq
        exact gi_iret (pc := 73) (ti_rfl v6) ⟨_, rfl, (by rw [show (v6 : Int32).toInt = v6.toInt from (ti_rfl v6)]; omega), (by rw [show (v6 : Int32).toInt = v6.toInt from (ti_rfl v6)]; omega), hv5⟩ hv5 dX6_wireTry_73
  refine go_aload_n (pc := 0) rfl dX6_wireTry_0 ?_
  refine go_aload_n (pc := 1) rfl dX6_wireTry_1 ?_
  refine gi_getF (pc := 2) (q := 36) hv fL_X6_9 rfl (Nat.le_of_ble_eq_true rfl) rfl (hv.rf (by decide)) dX6_wireTry_2 ?_
  refine gi_getF (pc := 5) (q := 40) hv fL_X6_50 rfl (Nat.le_of_ble_eq_true rfl) rfl (hv.rf (by decide)) dX6_wireTry_5 ?_
  refine go_iload_n (pc := 8) rfl dX6_wireTry_8 ?_
  refine gi_iald (pc := 9) (lo := -1) (hi := 127) (len := 128) hv (ti_rfl a2) rfl (by omega) (by omega) (fun _ => rfl) dX6_wireTry_9 (fun v7 v7l v7u v7w => ?_)
  refine go_iload_n (pc := 10) rfl dX6_wireTry_10 ?_
  refine go_iload_n (pc := 11) rfl dX6_wireTry_11 ?_
  refine go_iload (pc := 12) rfl dX6_wireTry_12 ?_
  refine go_iconst (pc := 14) (v := 1) (by decide) dX6_wireTry_14 ?_
  refine gf_iadd (pc := 15) (ti_rfl a5) (ti_c (v := 1) (a := 1) (by decide)) (by omega) (by omega) dX6_wireTry_15 (fun v8 e9 => ?_)
  refine go_invV (pc := 16) (sl := 0) (s_X6_wireBlock_lv4 l (d + 0) hv v7 (by rw [show (v7 : Int32).toInt = v7.toInt from (ti_rfl v7)]; omega) (by rw [show (v7 : Int32).toInt = v7.toInt from (ti_rfl v7)]; omega) a3 (by rw [show (a3 : Int32).toInt = a3.toInt from (ti_rfl a3)]; omega) (by rw [show (a3 : Int32).toInt = a3.toInt from (ti_rfl a3)]; omega) a4 (by rw [show (a4 : Int32).toInt = a4.toInt from (ti_rfl a4)]; omega) (by rw [show (a4 : Int32).toInt = a4.toInt from (ti_rfl a4)]; omega) v8 (by rw [show (v8 : Int32).toInt = (a5.toInt + 1) from e9]; omega) (by rw [show (v8 : Int32).toInt = (a5.toInt + 1) from e9]; omega)) mL_X6_34 iM_X6_wireBlock sM_X6_wireBlock (hv.sh rfl) rfl rfl rfl (Nat.le_of_ble_eq_true rfl) (show d + 0 + 7 + 1 ≤ d + 8 by omega) (show 8 + (8 + 11) + 40 * (d + 0 + 7) ≤ 40 * (d + 8) by omega) (g_c0 hv.ln) (Nat.le_of_ble_eq_true rfl) dX6_wireTry_16 ?_
  intro r h10 hq _
  obtain ⟨v11, rfl, v11l, v11u, hv10⟩ := hq
  refine go_istore (pc := 19) (Nat.le_of_ble_eq_true rfl) dX6_wireTry_19 (go_lv (lv2 := [(0, .ref 48), (1, .int a2), (2, .int a3), (3, .int a4), (4, .int a5), (5, .int v11)]) rfl ?_)
  refine go_aload_n (pc := 21) rfl dX6_wireTry_21 ?_
  refine gi_getF (pc := 22) (q := 36) hv10 fL_X6_9 rfl (Nat.le_of_ble_eq_true rfl) rfl (hv10.rf (by decide)) dX6_wireTry_22 ?_
  refine gi_getF (pc := 25) (q := 42) hv10 fL_X6_53 rfl (Nat.le_of_ble_eq_true rfl) rfl (hv10.rf (by decide)) dX6_wireTry_25 ?_
  refine go_iload_n (pc := 28) rfl dX6_wireTry_28 ?_
  refine go_iload (pc := 29) rfl dX6_wireTry_29 ?_
  refine gi_iast (pc := 31) (lo := 0) (hi := 44) (len := 128) hv10 (ti_rfl a2) (ti_rfl v11) rfl (by omega) (by omega) (fun _ => rfl) (by omega) (by omega) (by decide) dX6_wireTry_31 (fun h12 hv12 hv12e => ?_)
  refine go_aload_n (pc := 32) rfl dX6_wireTry_32 ?_
  refine gi_getF (pc := 33) (q := 36) hv12 fL_X6_9 rfl (Nat.le_of_ble_eq_true rfl) rfl (hv12.rf (by decide)) dX6_wireTry_33 ?_
  refine gi_getF (pc := 36) (q := 43) hv12 fL_X6_56 rfl (Nat.le_of_ble_eq_true rfl) rfl (hv12.rf (by decide)) dX6_wireTry_36 ?_
  refine go_iload_n (pc := 39) rfl dX6_wireTry_39 ?_
  refine go_iload (pc := 40) rfl dX6_wireTry_40 ?_
  refine go_iload_n (pc := 42) rfl dX6_wireTry_42 ?_
  refine gf_icmp_ne (pc := 43) (tgt := 51) (ti_rfl v11) (ti_rfl a3) (by decide) dX6_wireTry_43 (fun q13 => ?_) (fun q13 => ?_)
  ·
    refine go_iload (pc := 51) rfl dX6_wireTry_51 ?_
    exact go_lv rfl ((key 14) a2 a3 a5 v11 a2 h12 hv12 (by omega) (by omega) (by omega) (by omega) (by omega) (by omega) (by omega) (by omega) (by omega) (by omega) (by omega))
  ·
    refine go_bipush (pc := 46) (v := (-2)) (by decide) dX6_wireTry_46 ?_
    refine go_goto (pc := 48) (tgt := 53) (by decide) dX6_wireTry_48 ?_
    have z14 : ((-2) : Int32).toInt = (-2) := (ti_c (v := (-2)) (a := (-2)) (by decide))
    exact go_lv rfl ((key 14) a2 a3 a5 (-2) a2 h12 hv12 (by omega) (by omega) (by omega) (by omega) (by omega) (by omega) (by omega) (by omega) (by omega) (by omega) (by omega))
set_option maxHeartbeats 4000000 in
set_option maxRecDepth 100000 in
theorem s_X6_wireStatement_lv3 (l : Launch) (d : Nat) {P : PP} {h : HP} (hv : Iv P h) (a2 : Int32) (a2l : 0 ≤ a2.toInt) (a2u : a2.toInt ≤ 127) (a3 : Int32) (a3l : 0 ≤ a3.toInt) (a3u : a3.toInt ≤ 44) (a4 : Int32) (a4l : -1 ≤ a4.toInt) (a4u : a4.toInt ≤ 127) (a5 : Int32) (a5l : 3 ≤ a5.toInt) (a5u : a5.toInt ≤ 3) (hp : 0 ≤ (h.2.1 37 a2.toInt.toNat).toInt) : Mt l yX6_wireStatement cX6_wireStatement 7 (some .int) (d + 8) [.ref 48, .int a2, .int a3, .int a4, .int a5] h 0 0 (fun r h' => ∃ v : Int32, r = some (.int v) ∧ 0 ≤ v.toInt ∧ v.toInt ≤ 44 ∧ Iv P h') := by
  refine Mt_iv hv (by decide) (Nat.le_of_ble_eq_true rfl) ?_
  show Go l RX6 cX6_wireStatement 7 (g_rm (d + 8) 0 0) "wireStatement" (some .int) 117 0 0 (fun _ _ => True) (fun r h' => ∃ v : Int32, r = some (.int v) ∧ 0 ≤ v.toInt ∧ v.toInt ≤ 44 ∧ Iv P h') 0 0 [(0, .ref 48), (1, .int a2), (2, .int a3), (3, .int a4), (4, .int a5)] [] h
  have key : ∀ n : Nat, (∀ (l1 : Int32) (l2 : Int32) (l3 : Int32) (l4 : Int32) (l5 : Int32) (l6 : Int32) (s0 : Int32) (s1 : Int32) (s2 : Nat) (hx : HP), Iv P hx → 0 ≤ l1.toInt → l1.toInt ≤ 127 → 0 ≤ l2.toInt → l2.toInt ≤ 44 → -1 ≤ l3.toInt → l3.toInt ≤ 127 → 3 ≤ l4.toInt → l4.toInt ≤ 3 → 0 ≤ l5.toInt → l5.toInt ≤ 39 → 39 ≤ l6.toInt → l6.toInt ≤ 44 → 0 ≤ s0.toInt → s0.toInt ≤ 44 → 0 ≤ s1.toInt → s1.toInt ≤ 39 → (s2 = 2 ∨ s2 = 18) → (4 : Int) < n → Go l RX6 cX6_wireStatement 7 (g_rm (d + 8) 0 0) "wireStatement" (some .int) 117 0 0 (fun _ _ => True) (fun r h' => ∃ v : Int32, r = some (.int v) ∧ 0 ≤ v.toInt ∧ v.toInt ≤ 44 ∧ Iv P h') 0 75 [(0, .ref 48), (1, .int l1), (2, .int l2), (3, .int l3), (4, .int l4), (5, .int l5), (6, .int l6)] [.int s0, .int s1, .ref (s2 + 13)] hx) ∧ (∀ (l1 : Int32) (l2 : Int32) (l3 : Int32) (l4 : Int32) (l5 : Int32) (l6 : Int32) (s0 : Int32) (s1 : Int32) (s2 : Nat) (hx : HP), Iv P hx → 0 ≤ l1.toInt → l1.toInt ≤ 127 → 0 ≤ l2.toInt → l2.toInt ≤ 44 → -1 ≤ l3.toInt → l3.toInt ≤ 127 → 3 ≤ l4.toInt → l4.toInt ≤ 3 → 0 ≤ l5.toInt → l5.toInt ≤ 39 → 39 ≤ l6.toInt → l6.toInt ≤ 44 → -1 ≤ s0.toInt → s0.toInt ≤ 5 → 0 ≤ s1.toInt → s1.toInt ≤ 39 → (s2 = 2 ∨ s2 = 18) → (3 : Int) < n → Go l RX6 cX6_wireStatement 7 (g_rm (d + 8) 0 0) "wireStatement" (some .int) 117 0 0 (fun _ _ => True) (fun r h' => ∃ v : Int32, r = some (.int v) ∧ 0 ≤ v.toInt ∧ v.toInt ≤ 44 ∧ Iv P h') 0 102 [(0, .ref 48), (1, .int l1), (2, .int l2), (3, .int l3), (4, .int l4), (5, .int l5), (6, .int l6)] [.int s0, .int s1, .ref (s2 + 14)] hx) ∧ (∀ (l1 : Int32) (l2 : Int32) (l3 : Int32) (l4 : Int32) (l5 : Int32) (l6 : Int32) (s0 : Int32) (s1 : Int32) (s2 : Nat) (hx : HP), Iv P hx → 0 ≤ l1.toInt → l1.toInt ≤ 127 → 0 ≤ l2.toInt → l2.toInt ≤ 44 → -1 ≤ l3.toInt → l3.toInt ≤ 127 → 3 ≤ l4.toInt → l4.toInt ≤ 3 → 0 ≤ l5.toInt → l5.toInt ≤ 39 → 39 ≤ l6.toInt → l6.toInt ≤ 44 → -2 ≤ s0.toInt → s0.toInt ≤ 44 → 0 ≤ s1.toInt → s1.toInt ≤ 39 → (s2 = 2 ∨ s2 = 18) → (2 : Int) < n → Go l RX6 cX6_wireStatement 7 (g_rm (d + 8) 0 0) "wireStatement" (some .int) 117 0 0 (fun _ _ => True) (fun r h' => ∃ v : Int32, r = some (.int v) ∧ 0 ≤ v.toInt ∧ v.toInt ≤ 44 ∧ Iv P h') 0 130 [(0, .ref 48), (1, .int l1), (2, .int l2), (3, .int l3), (4, .int l4), (5, .int l5), (6, .int l6)] [.int s0, .int s1, .ref (s2 + 15)] hx) ∧ (∀ (l5 : Int32) (hx : HP), Iv P hx → 0 ≤ l5.toInt → l5.toInt ≤ 39 → (1 : Int) < n → Go l RX6 cX6_wireStatement 7 (g_rm (d + 8) 0 0) "wireStatement" (some .int) 117 0 0 (fun _ _ => True) (fun r h' => ∃ v : Int32, r = some (.int v) ∧ 0 ≤ v.toInt ∧ v.toInt ≤ 44 ∧ Iv P h') 0 279 [(5, .int l5)] [] hx) := by
    intro n
    induction n with
    | zero => exact ⟨(by intros; omega), (by intros; omega), (by intros; omega), (by intros; omega)⟩
    | succ n ih =>
      refine ⟨?_, ?_, ?_, ?_⟩
      ·
        intro l1 l2 l3 l4 l5 l6 s0 s1 s2 hx hvx l1l l1u l2l l2u l3l l3u l4l l4u l5l l5u l6l l6u s0l s0u s1l s1u hs2 hm
        refine gi_iast (pc := 75) (lo := 0) (hi := 44) (len := 40) hvx (ti_rfl s1) (ti_rfl s0) (by rcases hs2 with rfl | rfl <;> rfl) (by omega) (by omega) (fun _ => by rcases hs2 with rfl | rfl <;> rfl) (by omega) (by omega) (by rcases hs2 with rfl | rfl <;> decide) dX6_wireStatement_75 (fun h1 hv1 hv1e => ?_)
        refine go_aload_n (pc := 76) rfl dX6_wireStatement_76 ?_
        refine gi_getC (pc := 77) hv1 fL_X6_15 rfl (Nat.le_of_ble_eq_true rfl) rfl (by decide) dX6_wireStatement_77 (fun c2 hc2 fc2 => ?_)
        refine gi_getF (pc := 80) (q := c2 + 14) hv1 fL_X6_74 (by rcases hc2 with rfl | rfl <;> rfl) (Nat.le_of_ble_eq_true rfl) rfl (by rcases hc2 with rfl | rfl <;> exact hv1.rf (by decide)) dX6_wireStatement_80 ?_
        refine go_iload (pc := 83) rfl dX6_wireStatement_83 ?_
        refine go_iload_n (pc := 85) rfl dX6_wireStatement_85 ?_
        refine gf_if_ge (pc := 86) (tgt := 93) (ti_rfl l3) (by decide) dX6_wireStatement_86 (fun q3 => ?_) (fun q3 => ?_)
        ·
          refine go_aload_n (pc := 93) rfl dX6_wireStatement_93 ?_
          refine gi_getF (pc := 94) (q := 36) hv1 fL_X6_9 rfl (Nat.le_of_ble_eq_true rfl) rfl (hv1.rf (by decide)) dX6_wireStatement_94 ?_
          refine gi_getF (pc := 97) (q := 41) hv1 fL_X6_77 rfl (Nat.le_of_ble_eq_true rfl) rfl (hv1.rf (by decide)) dX6_wireStatement_97 ?_
          refine go_iload_n (pc := 100) rfl dX6_wireStatement_100 ?_
          refine gi_iald (pc := 101) (lo := -1) (hi := 5) (len := 128) hv1 (ti_rfl l3) rfl (by omega) (by omega) (fun _ => rfl) dX6_wireStatement_101 (fun v4 v4l v4u v4w => ?_)
          exact go_lv rfl (ih.2.1 l1 l2 l3 l4 l5 l6 v4 l5 c2 h1 hv1 (by omega) (by omega) (by omega) (by omega) (by omega) (by omega) (by omega) (by omega) (by omega) (by omega) (by omega) (by omega) (by omega) (by omega) (by omega) (by omega) hc2 (by omega))
        ·
          refine go_iconst (pc := 89) (v := (-1)) (by decide) dX6_wireStatement_89 ?_
          refine go_goto (pc := 90) (tgt := 102) (by decide) dX6_wireStatement_90 ?_
          have z5 : ((-1) : Int32).toInt = (-1) := (ti_c (v := (-1)) (a := (-1)) (by decide))
          exact go_lv rfl (ih.2.1 l1 l2 l3 l4 l5 l6 (-1) l5 c2 h1 hv1 (by omega) (by omega) (by omega) (by omega) (by omega) (by omega) (by omega) (by omega) (by omega) (by omega) (by omega) (by omega) (by omega) (by omega) (by omega) (by omega) hc2 (by omega))
      ·
        intro l1 l2 l3 l4 l5 l6 s0 s1 s2 hx hvx l1l l1u l2l l2u l3l l3u l4l l4u l5l l5u l6l l6u s0l s0u s1l s1u hs2 hm
        refine gi_iast (pc := 102) (lo := -1) (hi := 5) (len := 40) hvx (ti_rfl s1) (ti_rfl s0) (by rcases hs2 with rfl | rfl <;> rfl) (by omega) (by omega) (fun _ => by rcases hs2 with rfl | rfl <;> rfl) (by omega) (by omega) (by rcases hs2 with rfl | rfl <;> decide) dX6_wireStatement_102 (fun h6 hv6 hv6e => ?_)
        refine go_aload_n (pc := 103) rfl dX6_wireStatement_103 ?_
        refine gi_getC (pc := 104) hv6 fL_X6_15 rfl (Nat.le_of_ble_eq_true rfl) rfl (by decide) dX6_wireStatement_104 (fun c7 hc7 fc7 => ?_)
        refine gi_getF (pc := 107) (q := c7 + 15) hv6 fL_X6_80 (by rcases hc7 with rfl | rfl <;> rfl) (Nat.le_of_ble_eq_true rfl) rfl (by rcases hc7 with rfl | rfl <;> exact hv6.rf (by decide)) dX6_wireStatement_107 ?_
        refine go_iload (pc := 110) rfl dX6_wireStatement_110 ?_
        refine go_iload_n (pc := 112) rfl dX6_wireStatement_112 ?_
        refine gf_if_ge (pc := 113) (tgt := 121) (ti_rfl l3) (by decide) dX6_wireStatement_113 (fun q8 => ?_) (fun q8 => ?_)
        ·
          refine go_aload_n (pc := 121) rfl dX6_wireStatement_121 ?_
          refine gi_getF (pc := 122) (q := 36) hv6 fL_X6_9 rfl (Nat.le_of_ble_eq_true rfl) rfl (hv6.rf (by decide)) dX6_wireStatement_122 ?_
          refine gi_getF (pc := 125) (q := 43) hv6 fL_X6_56 rfl (Nat.le_of_ble_eq_true rfl) rfl (hv6.rf (by decide)) dX6_wireStatement_125 ?_
          refine go_iload_n (pc := 128) rfl dX6_wireStatement_128 ?_
          refine gi_iald (pc := 129) (lo := -2) (hi := 44) (len := 128) hv6 (ti_rfl l3) rfl (by omega) (by omega) (fun _ => rfl) dX6_wireStatement_129 (fun v9 v9l v9u v9w => ?_)
          exact go_lv rfl (ih.2.2.1 l1 l2 l3 l4 l5 l6 v9 l5 c7 h6 hv6 (by omega) (by omega) (by omega) (by omega) (by omega) (by omega) (by omega) (by omega) (by omega) (by omega) (by omega) (by omega) (by omega) (by omega) (by omega) (by omega) hc7 (by omega))
        ·
          refine go_bipush (pc := 116) (v := (-2)) (by decide) dX6_wireStatement_116 ?_
          refine go_goto (pc := 118) (tgt := 130) (by decide) dX6_wireStatement_118 ?_
          have z10 : ((-2) : Int32).toInt = (-2) := (ti_c (v := (-2)) (a := (-2)) (by decide))
          exact go_lv rfl (ih.2.2.1 l1 l2 l3 l4 l5 l6 (-2) l5 c7 h6 hv6 (by omega) (by omega) (by omega) (by omega) (by omega) (by omega) (by omega) (by omega) (by omega) (by omega) (by omega) (by omega) (by omega) (by omega) (by omega) (by omega) hc7 (by omega))
      ·
        intro l1 l2 l3 l4 l5 l6 s0 s1 s2 hx hvx l1l l1u l2l l2u l3l l3u l4l l4u l5l l5u l6l l6u s0l s0u s1l s1u hs2 hm
        refine gi_iast (pc := 130) (lo := -2) (hi := 44) (len := 40) hvx (ti_rfl s1) (ti_rfl s0) (by rcases hs2 with rfl | rfl <;> rfl) (by omega) (by omega) (fun _ => by rcases hs2 with rfl | rfl <;> rfl) (by omega) (by omega) (by rcases hs2 with rfl | rfl <;> decide) dX6_wireStatement_130 (fun h11 hv11 hv11e => ?_)
        refine go_aload_n (pc := 131) rfl dX6_wireStatement_131 ?_
        refine gi_getC (pc := 132) hv11 fL_X6_15 rfl (Nat.le_of_ble_eq_true rfl) rfl (by decide) dX6_wireStatement_132 (fun c12 hc12 fc12 => ?_)
        refine gi_getF (pc := 135) (q := c12 + 2) hv11 fL_X6_81 (by rcases hc12 with rfl | rfl <;> rfl) (Nat.le_of_ble_eq_true rfl) rfl (by rcases hc12 with rfl | rfl <;> exact hv11.rf (by decide)) dX6_wireStatement_135 ?_
        refine go_iload (pc := 138) rfl dX6_wireStatement_138 ?_
        refine gi_iald (pc := 140) (lo := 0) (hi := 5) (len := 40) hv11 (ti_rfl l5) (by rcases hc12 with rfl | rfl <;> rfl) (by omega) (by omega) (fun _ => by rcases hc12 with rfl | rfl <;> rfl) dX6_wireStatement_140 (fun v13 v13l v13u v13w => ?_)
        refine go_iconst (pc := 141) (v := 5) (by decide) dX6_wireStatement_141 ?_
        refine gf_icmp_ne (pc := 142) (tgt := 160) (ti_rfl v13) (ti_c (v := 5) (a := 5) (by decide)) (by decide) dX6_wireStatement_142 (fun q14 => ?_) (fun q14 => ?_)
        ·
          refine go_aload_n (pc := 160) rfl dX6_wireStatement_160 ?_
          refine gi_getC (pc := 161) hv11 fL_X6_15 rfl (Nat.le_of_ble_eq_true rfl) rfl (by decide) dX6_wireStatement_161 (fun c15 hc15 fc15 => ?_)
          refine gi_getF (pc := 164) (q := c15 + 2) hv11 fL_X6_81 (by rcases hc15 with rfl | rfl <;> rfl) (Nat.le_of_ble_eq_true rfl) rfl (by rcases hc15 with rfl | rfl <;> exact hv11.rf (by decide)) dX6_wireStatement_164 ?_
          refine go_iload (pc := 167) rfl dX6_wireStatement_167 ?_
          refine gi_iald (pc := 169) (lo := 0) (hi := 5) (len := 40) hv11 (ti_rfl l5) (by rcases hc15 with rfl | rfl <;> rfl) (by omega) (by omega) (fun _ => by rcases hc15 with rfl | rfl <;> rfl) dX6_wireStatement_169 (fun v16 v16l v16u v16w => ?_)
          refine go_iconst (pc := 170) (v := 3) (by decide) dX6_wireStatement_170 ?_
          refine gf_icmp_ne (pc := 171) (tgt := 207) (ti_rfl v16) (ti_c (v := 3) (a := 3) (by decide)) (by decide) dX6_wireStatement_171 (fun q17 => ?_) (fun q17 => ?_)
          ·
            refine go_aload_n (pc := 207) rfl dX6_wireStatement_207 ?_
            refine gi_getC (pc := 208) hv11 fL_X6_15 rfl (Nat.le_of_ble_eq_true rfl) rfl (by decide) dX6_wireStatement_208 (fun c18 hc18 fc18 => ?_)
            refine gi_getF (pc := 211) (q := c18 + 2) hv11 fL_X6_81 (by rcases hc18 with rfl | rfl <;> rfl) (Nat.le_of_ble_eq_true rfl) rfl (by rcases hc18 with rfl | rfl <;> exact hv11.rf (by decide)) dX6_wireStatement_211 ?_
            refine go_iload (pc := 214) rfl dX6_wireStatement_214 ?_
            refine gi_iald (pc := 216) (lo := 0) (hi := 5) (len := 40) hv11 (ti_rfl l5) (by rcases hc18 with rfl | rfl <;> rfl) (by omega) (by omega) (fun _ => by rcases hc18 with rfl | rfl <;> rfl) dX6_wireStatement_216 (fun v19 v19l v19u v19w => ?_)
            refine go_iconst (pc := 217) (v := 2) (by decide) dX6_wireStatement_217 ?_
            refine gf_icmp_ne (pc := 218) (tgt := 279) (ti_rfl v19) (ti_c (v := 2) (a := 2) (by decide)) (by decide) dX6_wireStatement_218 (fun q20 => ?_) (fun q20 => ?_)
            ·
              exact go_lv rfl (ih.2.2.2 l5 h11 hv11 (by omega) (by omega) (by omega))
            ·
              refine go_aload_n (pc := 221) rfl dX6_wireStatement_221 ?_
              refine gi_getC (pc := 222) hv11 fL_X6_15 rfl (Nat.le_of_ble_eq_true rfl) rfl (by decide) dX6_wireStatement_222 (fun c21 hc21 fc21 => ?_)
              refine gi_getF (pc := 225) (q := c21 + 13) hv11 fL_X6_71 (by rcases hc21 with rfl | rfl <;> rfl) (Nat.le_of_ble_eq_true rfl) rfl (by rcases hc21 with rfl | rfl <;> exact hv11.rf (by decide)) dX6_wireStatement_225 ?_
              refine go_iload (pc := 228) rfl dX6_wireStatement_228 ?_
              refine go_aload_n (pc := 230) rfl dX6_wireStatement_230 ?_
              refine go_aload_n (pc := 231) rfl dX6_wireStatement_231 ?_
              refine gi_getF (pc := 232) (q := 36) hv11 fL_X6_9 rfl (Nat.le_of_ble_eq_true rfl) rfl (hv11.rf (by decide)) dX6_wireStatement_232 ?_
              refine gi_getF (pc := 235) (q := 39) hv11 fL_X6_59 rfl (Nat.le_of_ble_eq_true rfl) rfl (hv11.rf (by decide)) dX6_wireStatement_235 ?_
              refine go_iload_n (pc := 238) rfl dX6_wireStatement_238 ?_
              refine gi_iald (pc := 239) (lo := -1) (hi := 127) (len := 128) hv11 (ti_rfl l1) rfl (by omega) (by omega) (fun _ => rfl) dX6_wireStatement_239 (fun v22 v22l v22u v22w => ?_)
              refine go_iload_n (pc := 240) rfl dX6_wireStatement_240 ?_
              refine go_iload_n (pc := 241) rfl dX6_wireStatement_241 ?_
              refine go_iload (pc := 242) rfl dX6_wireStatement_242 ?_
              refine go_iconst (pc := 244) (v := 1) (by decide) dX6_wireStatement_244 ?_
              refine gf_iadd (pc := 245) (ti_rfl l4) (ti_c (v := 1) (a := 1) (by decide)) (by omega) (by omega) dX6_wireStatement_245 (fun v23 e24 => ?_)
              refine go_invV (pc := 246) (sl := 0) (s_X6_wireBlock_lv4 l (d + 0) hv11 v22 (by rw [show (v22 : Int32).toInt = v22.toInt from (ti_rfl v22)]; omega) (by rw [show (v22 : Int32).toInt = v22.toInt from (ti_rfl v22)]; omega) l2 (by rw [show (l2 : Int32).toInt = l2.toInt from (ti_rfl l2)]; omega) (by rw [show (l2 : Int32).toInt = l2.toInt from (ti_rfl l2)]; omega) l3 (by rw [show (l3 : Int32).toInt = l3.toInt from (ti_rfl l3)]; omega) (by rw [show (l3 : Int32).toInt = l3.toInt from (ti_rfl l3)]; omega) v23 (by rw [show (v23 : Int32).toInt = (l4.toInt + 1) from e24]; omega) (by rw [show (v23 : Int32).toInt = (l4.toInt + 1) from e24]; omega)) mL_X6_34 iM_X6_wireBlock sM_X6_wireBlock (hv11.sh rfl) rfl rfl rfl (Nat.le_of_ble_eq_true rfl) (show d + 0 + 7 + 1 ≤ d + 8 by omega) (show 8 + (8 + 11) + 40 * (d + 0 + 7) ≤ 40 * (d + 8) by omega) (g_c0 hv11.ln) (Nat.le_of_ble_eq_true rfl) dX6_wireStatement_246 ?_
              intro r h25 hq _
              obtain ⟨v26, rfl, v26l, v26u, hv25⟩ := hq
              refine gi_iast (pc := 249) (lo := 0) (hi := 44) (len := 40) hv25 (ti_rfl l5) (ti_rfl v26) (by rcases hc21 with rfl | rfl <;> rfl) (by omega) (by omega) (fun _ => by rcases hc21 with rfl | rfl <;> rfl) (by omega) (by omega) (by rcases hc21 with rfl | rfl <;> decide) dX6_wireStatement_249 (fun h27 hv27 hv27e => ?_)
              refine go_aload_n (pc := 250) rfl dX6_wireStatement_250 ?_
              refine gi_getC (pc := 251) hv27 fL_X6_15 rfl (Nat.le_of_ble_eq_true rfl) rfl (by decide) dX6_wireStatement_251 (fun c28 hc28 fc28 => ?_)
              refine gi_getF (pc := 254) (q := c28 + 12) hv27 fL_X6_68 (by rcases hc28 with rfl | rfl <;> rfl) (Nat.le_of_ble_eq_true rfl) rfl (by rcases hc28 with rfl | rfl <;> exact hv27.rf (by decide)) dX6_wireStatement_254 ?_
              refine go_iload (pc := 257) rfl dX6_wireStatement_257 ?_
              refine go_aload_n (pc := 259) rfl dX6_wireStatement_259 ?_
              refine go_aload_n (pc := 260) rfl dX6_wireStatement_260 ?_
              refine gi_getF (pc := 261) (q := 36) hv27 fL_X6_9 rfl (Nat.le_of_ble_eq_true rfl) rfl (hv27.rf (by decide)) dX6_wireStatement_261 ?_
              refine gi_getF (pc := 264) (q := 40) hv27 fL_X6_50 rfl (Nat.le_of_ble_eq_true rfl) rfl (hv27.rf (by decide)) dX6_wireStatement_264 ?_
              refine go_iload_n (pc := 267) rfl dX6_wireStatement_267 ?_
              refine gi_iald (pc := 268) (lo := -1) (hi := 127) (len := 128) hv27 (ti_rfl l1) rfl (by omega) (by omega) (fun _ => rfl) dX6_wireStatement_268 (fun v29 v29l v29u v29w => ?_)
              refine go_iload_n (pc := 269) rfl dX6_wireStatement_269 ?_
              refine go_iload_n (pc := 270) rfl dX6_wireStatement_270 ?_
              refine go_iload (pc := 271) rfl dX6_wireStatement_271 ?_
              refine go_iconst (pc := 273) (v := 1) (by decide) dX6_wireStatement_273 ?_
              refine gf_iadd (pc := 274) (ti_rfl l4) (ti_c (v := 1) (a := 1) (by decide)) (by omega) (by omega) dX6_wireStatement_274 (fun v30 e31 => ?_)
              refine go_invV (pc := 275) (sl := 0) (s_X6_wireBlock_lv4 l (d + 0) hv27 v29 (by rw [show (v29 : Int32).toInt = v29.toInt from (ti_rfl v29)]; omega) (by rw [show (v29 : Int32).toInt = v29.toInt from (ti_rfl v29)]; omega) l2 (by rw [show (l2 : Int32).toInt = l2.toInt from (ti_rfl l2)]; omega) (by rw [show (l2 : Int32).toInt = l2.toInt from (ti_rfl l2)]; omega) l3 (by rw [show (l3 : Int32).toInt = l3.toInt from (ti_rfl l3)]; omega) (by rw [show (l3 : Int32).toInt = l3.toInt from (ti_rfl l3)]; omega) v30 (by rw [show (v30 : Int32).toInt = (l4.toInt + 1) from e31]; omega) (by rw [show (v30 : Int32).toInt = (l4.toInt + 1) from e31]; omega)) mL_X6_34 iM_X6_wireBlock sM_X6_wireBlock (hv27.sh rfl) rfl rfl rfl (Nat.le_of_ble_eq_true rfl) (show d + 0 + 7 + 1 ≤ d + 8 by omega) (show 8 + (8 + 11) + 40 * (d + 0 + 7) ≤ 40 * (d + 8) by omega) (g_c0 hv27.ln) (Nat.le_of_ble_eq_true rfl) dX6_wireStatement_275 ?_
              intro r h32 hq _
              obtain ⟨v33, rfl, v33l, v33u, hv32⟩ := hq
              refine gi_iast (pc := 278) (lo := 0) (hi := 44) (len := 40) hv32 (ti_rfl l5) (ti_rfl v33) (by rcases hc28 with rfl | rfl <;> rfl) (by omega) (by omega) (fun _ => by rcases hc28 with rfl | rfl <;> rfl) (by omega) (by omega) (by rcases hc28 with rfl | rfl <;> decide) dX6_wireStatement_278 (fun h34 hv34 hv34e => ?_)
              exact go_lv rfl (ih.2.2.2 l5 h34 hv34 (by omega) (by omega) (by omega))
          ·
            refine go_aload_n (pc := 174) rfl dX6_wireStatement_174 ?_
            refine gi_getC (pc := 175) hv11 fL_X6_15 rfl (Nat.le_of_ble_eq_true rfl) rfl (by decide) dX6_wireStatement_175 (fun c35 hc35 fc35 => ?_)
            refine gi_getF (pc := 178) (q := c35 + 13) hv11 fL_X6_71 (by rcases hc35 with rfl | rfl <;> rfl) (Nat.le_of_ble_eq_true rfl) rfl (by rcases hc35 with rfl | rfl <;> exact hv11.rf (by decide)) dX6_wireStatement_178 ?_
            refine go_iload (pc := 181) rfl dX6_wireStatement_181 ?_
            refine go_aload_n (pc := 183) rfl dX6_wireStatement_183 ?_
            refine go_aload_n (pc := 184) rfl dX6_wireStatement_184 ?_
            refine gi_getF (pc := 185) (q := 36) hv11 fL_X6_9 rfl (Nat.le_of_ble_eq_true rfl) rfl (hv11.rf (by decide)) dX6_wireStatement_185 ?_
            refine gi_getF (pc := 188) (q := 39) hv11 fL_X6_59 rfl (Nat.le_of_ble_eq_true rfl) rfl (hv11.rf (by decide)) dX6_wireStatement_188 ?_
            refine go_iload_n (pc := 191) rfl dX6_wireStatement_191 ?_
            refine gi_iald (pc := 192) (lo := -1) (hi := 127) (len := 128) hv11 (ti_rfl l1) rfl (by omega) (by omega) (fun _ => rfl) dX6_wireStatement_192 (fun v36 v36l v36u v36w => ?_)
            refine go_iload (pc := 193) rfl dX6_wireStatement_193 ?_
            refine go_iload_n (pc := 195) rfl dX6_wireStatement_195 ?_
            refine go_iload (pc := 196) rfl dX6_wireStatement_196 ?_
            refine go_iconst (pc := 198) (v := 1) (by decide) dX6_wireStatement_198 ?_
            refine gf_iadd (pc := 199) (ti_rfl l4) (ti_c (v := 1) (a := 1) (by decide)) (by omega) (by omega) dX6_wireStatement_199 (fun v37 e38 => ?_)
            refine go_invV (pc := 200) (sl := 0) (s_X6_wireBlock_lv4 l (d + 0) hv11 v36 (by rw [show (v36 : Int32).toInt = v36.toInt from (ti_rfl v36)]; omega) (by rw [show (v36 : Int32).toInt = v36.toInt from (ti_rfl v36)]; omega) l5 (by rw [show (l5 : Int32).toInt = l5.toInt from (ti_rfl l5)]; omega) (by rw [show (l5 : Int32).toInt = l5.toInt from (ti_rfl l5)]; omega) l3 (by rw [show (l3 : Int32).toInt = l3.toInt from (ti_rfl l3)]; omega) (by rw [show (l3 : Int32).toInt = l3.toInt from (ti_rfl l3)]; omega) v37 (by rw [show (v37 : Int32).toInt = (l4.toInt + 1) from e38]; omega) (by rw [show (v37 : Int32).toInt = (l4.toInt + 1) from e38]; omega)) mL_X6_34 iM_X6_wireBlock sM_X6_wireBlock (hv11.sh rfl) rfl rfl rfl (Nat.le_of_ble_eq_true rfl) (show d + 0 + 7 + 1 ≤ d + 8 by omega) (show 8 + (8 + 11) + 40 * (d + 0 + 7) ≤ 40 * (d + 8) by omega) (g_c0 hv11.ln) (Nat.le_of_ble_eq_true rfl) dX6_wireStatement_200 ?_
            intro r h39 hq _
            obtain ⟨v40, rfl, v40l, v40u, hv39⟩ := hq
            refine gi_iast (pc := 203) (lo := 0) (hi := 44) (len := 40) hv39 (ti_rfl l5) (ti_rfl v40) (by rcases hc35 with rfl | rfl <;> rfl) (by omega) (by omega) (fun _ => by rcases hc35 with rfl | rfl <;> rfl) (by omega) (by omega) (by rcases hc35 with rfl | rfl <;> decide) dX6_wireStatement_203 (fun h41 hv41 hv41e => ?_)
            refine go_goto (pc := 204) (tgt := 279) (by decide) dX6_wireStatement_204 ?_
            exact go_lv rfl (ih.2.2.2 l5 h41 hv41 (by omega) (by omega) (by omega))
        ·
          refine go_aload_n (pc := 145) rfl dX6_wireStatement_145 ?_
          refine gi_getC (pc := 146) hv11 fL_X6_15 rfl (Nat.le_of_ble_eq_true rfl) rfl (by decide) dX6_wireStatement_146 (fun c42 hc42 fc42 => ?_)
          refine gi_getF (pc := 149) (q := c42 + 13) hv11 fL_X6_71 (by rcases hc42 with rfl | rfl <;> rfl) (Nat.le_of_ble_eq_true rfl) rfl (by rcases hc42 with rfl | rfl <;> exact hv11.rf (by decide)) dX6_wireStatement_149 ?_
          refine go_iload (pc := 152) rfl dX6_wireStatement_152 ?_
          refine go_iload (pc := 154) rfl dX6_wireStatement_154 ?_
          refine gi_iast (pc := 156) (lo := 0) (hi := 44) (len := 40) hv11 (ti_rfl l5) (ti_rfl l6) (by rcases hc42 with rfl | rfl <;> rfl) (by omega) (by omega) (fun _ => by rcases hc42 with rfl | rfl <;> rfl) (by omega) (by omega) (by rcases hc42 with rfl | rfl <;> decide) dX6_wireStatement_156 (fun h43 hv43 hv43e => ?_)
          refine go_goto (pc := 157) (tgt := 279) (by decide) dX6_wireStatement_157 ?_
          exact go_lv rfl (ih.2.2.2 l5 h43 hv43 (by omega) (by omega) (by omega))
      ·
        intro l5 hx hvx l5l l5u hm
        refine go_iload (pc := 279) rfl dX6_wireStatement_279 ?_
        exact gi_iret (pc := 281) (ti_rfl l5) ⟨_, rfl, (by rw [show (l5 : Int32).toInt = l5.toInt from (ti_rfl l5)]; omega), (by rw [show (l5 : Int32).toInt = l5.toInt from (ti_rfl l5)]; omega), hvx⟩ hvx dX6_wireStatement_281
  refine go_aload_n (pc := 0) rfl dX6_wireStatement_0 ?_
  refine gi_getF (pc := 1) (q := 36) hv fL_X6_9 rfl (Nat.le_of_ble_eq_true rfl) rfl (hv.rf (by decide)) dX6_wireStatement_1 ?_
  refine gi_getF (pc := 4) (q := 37) hv fL_X6_38 rfl (Nat.le_of_ble_eq_true rfl) rfl (hv.rf (by decide)) dX6_wireStatement_4 ?_
  refine go_iload_n (pc := 7) rfl dX6_wireStatement_7 ?_
  refine gi_iald (pc := 8) (lo := -1) (hi := 39) (len := 128) hv (ti_rfl a2) rfl (by omega) (by omega) (fun _ => rfl) dX6_wireStatement_8 (fun v44 v44l v44u v44w => ?_)
  have kk : 0 ≤ v44.toInt := by rw [v44w]; exact hp
  refine go_istore (pc := 9) (Nat.le_of_ble_eq_true rfl) dX6_wireStatement_9 (go_lv (lv2 := [(0, .ref 48), (1, .int a2), (2, .int a3), (3, .int a4), (4, .int a5), (5, .int v44)]) rfl ?_)
  refine go_bipush (pc := 11) (v := 40) (by decide) dX6_wireStatement_11 ?_
  refine go_aload_n (pc := 13) rfl dX6_wireStatement_13 ?_
  refine gi_getC (pc := 14) hv fL_X6_15 rfl (Nat.le_of_ble_eq_true rfl) rfl (by decide) dX6_wireStatement_14 (fun c45 hc45 fc45 => ?_)
  refine gi_getF (pc := 17) (q := c45 + 3) hv fL_X6_62 (by rcases hc45 with rfl | rfl <;> rfl) (Nat.le_of_ble_eq_true rfl) rfl (by rcases hc45 with rfl | rfl <;> exact hv.rf (by decide)) dX6_wireStatement_17 ?_
  refine go_iload (pc := 20) rfl dX6_wireStatement_20 ?_
  refine gi_iald (pc := 22) (lo := -1) (hi := 4) (len := 40) hv (ti_rfl v44) (by rcases hc45 with rfl | rfl <;> rfl) (by omega) (by omega) (fun _ => by rcases hc45 with rfl | rfl <;> rfl) dX6_wireStatement_22 (fun v46 v46l v46u v46w => ?_)
  refine gf_iadd (pc := 23) (ti_c (v := 40) (a := 40) (by decide)) (ti_rfl v46) (by omega) (by omega) dX6_wireStatement_23 (fun v47 e48 => ?_)
  refine go_istore (pc := 24) (Nat.le_of_ble_eq_true rfl) dX6_wireStatement_24 (go_lv (lv2 := [(0, .ref 48), (1, .int a2), (2, .int a3), (3, .int a4), (4, .int a5), (5, .int v44), (6, .int v47)]) rfl ?_)
  refine go_aload_n (pc := 26) rfl dX6_wireStatement_26 ?_
  refine gi_getC (pc := 27) hv fL_X6_15 rfl (Nat.le_of_ble_eq_true rfl) rfl (by decide) dX6_wireStatement_27 (fun c49 hc49 fc49 => ?_)
  refine gi_getF (pc := 30) (q := c49 + 11) hv fL_X6_65 (by rcases hc49 with rfl | rfl <;> rfl) (Nat.le_of_ble_eq_true rfl) rfl (by rcases hc49 with rfl | rfl <;> exact hv.rf (by decide)) dX6_wireStatement_30 ?_
  refine go_iload (pc := 33) rfl dX6_wireStatement_33 ?_
  refine go_iload_n (pc := 35) rfl dX6_wireStatement_35 ?_
  refine gi_iast (pc := 36) (lo := 0) (hi := 44) (len := 40) hv (ti_rfl v44) (ti_rfl a3) (by rcases hc49 with rfl | rfl <;> rfl) (by omega) (by omega) (fun _ => by rcases hc49 with rfl | rfl <;> rfl) (by omega) (by omega) (by rcases hc49 with rfl | rfl <;> decide) dX6_wireStatement_36 (fun h50 hv50 hv50e => ?_)
  refine go_aload_n (pc := 37) rfl dX6_wireStatement_37 ?_
  refine gi_getC (pc := 38) hv50 fL_X6_15 rfl (Nat.le_of_ble_eq_true rfl) rfl (by decide) dX6_wireStatement_38 (fun c51 hc51 fc51 => ?_)
  refine gi_getF (pc := 41) (q := c51 + 12) hv50 fL_X6_68 (by rcases hc51 with rfl | rfl <;> rfl) (Nat.le_of_ble_eq_true rfl) rfl (by rcases hc51 with rfl | rfl <;> exact hv50.rf (by decide)) dX6_wireStatement_41 ?_
  refine go_iload (pc := 44) rfl dX6_wireStatement_44 ?_
  refine go_iload_n (pc := 46) rfl dX6_wireStatement_46 ?_
  refine gi_iast (pc := 47) (lo := 0) (hi := 44) (len := 40) hv50 (ti_rfl v44) (ti_rfl a3) (by rcases hc51 with rfl | rfl <;> rfl) (by omega) (by omega) (fun _ => by rcases hc51 with rfl | rfl <;> rfl) (by omega) (by omega) (by rcases hc51 with rfl | rfl <;> decide) dX6_wireStatement_47 (fun h52 hv52 hv52e => ?_)
  refine go_aload_n (pc := 48) rfl dX6_wireStatement_48 ?_
  refine gi_getC (pc := 49) hv52 fL_X6_15 rfl (Nat.le_of_ble_eq_true rfl) rfl (by decide) dX6_wireStatement_49 (fun c53 hc53 fc53 => ?_)
  refine gi_getF (pc := 52) (q := c53 + 13) hv52 fL_X6_71 (by rcases hc53 with rfl | rfl <;> rfl) (Nat.le_of_ble_eq_true rfl) rfl (by rcases hc53 with rfl | rfl <;> exact hv52.rf (by decide)) dX6_wireStatement_52 ?_
  refine go_iload (pc := 55) rfl dX6_wireStatement_55 ?_
  refine go_iload_n (pc := 57) rfl dX6_wireStatement_57 ?_
  refine gf_if_ge (pc := 58) (tgt := 66) (ti_rfl a4) (by decide) dX6_wireStatement_58 (fun q54 => ?_) (fun q54 => ?_)
  ·
    refine go_aload_n (pc := 66) rfl dX6_wireStatement_66 ?_
    refine gi_getF (pc := 67) (q := 36) hv52 fL_X6_9 rfl (Nat.le_of_ble_eq_true rfl) rfl (hv52.rf (by decide)) dX6_wireStatement_67 ?_
    refine gi_getF (pc := 70) (q := 42) hv52 fL_X6_53 rfl (Nat.le_of_ble_eq_true rfl) rfl (hv52.rf (by decide)) dX6_wireStatement_70 ?_
    refine go_iload_n (pc := 73) rfl dX6_wireStatement_73 ?_
    refine gi_iald (pc := 74) (lo := 0) (hi := 44) (len := 128) hv52 (ti_rfl a4) rfl (by omega) (by omega) (fun _ => rfl) dX6_wireStatement_74 (fun v55 v55l v55u v55w => ?_)
    have z56 : (v47 : Int32).toInt = (40 + v46.toInt) := e48
    exact go_lv rfl ((key 17).1 a2 a3 a4 a5 v44 v47 v55 v44 c53 h52 hv52 (by omega) (by omega) (by omega) (by omega) (by omega) (by omega) (by omega) (by omega) (by omega) (by omega) (by omega) (by omega) (by omega) (by omega) (by omega) (by omega) hc53 (by omega))
  ·
    refine go_iload (pc := 61) rfl dX6_wireStatement_61 ?_
    refine go_goto (pc := 63) (tgt := 75) (by decide) dX6_wireStatement_63 ?_
    have z57 : (v47 : Int32).toInt = (40 + v46.toInt) := e48
    have z58 : (v47 : Int32).toInt = (40 + v46.toInt) := e48
    exact go_lv rfl ((key 17).1 a2 a3 a4 a5 v44 v47 v47 v44 c53 h52 hv52 (by omega) (by omega) (by omega) (by omega) (by omega) (by omega) (by omega) (by omega) (by omega) (by omega) (by omega) (by omega) (by omega) (by omega) (by omega) (by omega) hc53 (by omega))
set_option maxHeartbeats 4000000 in
set_option maxRecDepth 100000 in
theorem s_X6_wireBlock_lv3 (l : Launch) (d : Nat) {P : PP} {h : HP} (hv : Iv P h) (a2 : Int32) (a2l : -1 ≤ a2.toInt) (a2u : a2.toInt ≤ 127) (a3 : Int32) (a3l : 0 ≤ a3.toInt) (a3u : a3.toInt ≤ 44) (a4 : Int32) (a4l : -1 ≤ a4.toInt) (a4u : a4.toInt ≤ 127) (a5 : Int32) (a5l : 3 ≤ a5.toInt) (a5u : a5.toInt ≤ 3) : Mt l yX6_wireBlock cX6_wireBlock 8 (some .int) (d + 9) [.ref 48, .int a2, .int a3, .int a4, .int a5] h 0 0 (fun r h' => ∃ v : Int32, r = some (.int v) ∧ 0 ≤ v.toInt ∧ v.toInt ≤ 44 ∧ Iv P h') := by
  refine Mt_iv hv (by decide) (Nat.le_of_ble_eq_true rfl) ?_
  show Go l RX6 cX6_wireBlock 8 (g_rm (d + 9) 0 0) "wireBlock" (some .int) 117 0 0 (fun _ _ => True) (fun r h' => ∃ v : Int32, r = some (.int v) ∧ 0 ≤ v.toInt ∧ v.toInt ≤ 44 ∧ Iv P h') 0 0 [(0, .ref 48), (1, .int a2), (2, .int a3), (3, .int a4), (4, .int a5)] [] h
  have key : ∀ n : Nat, (∀ (l3 : Int32) (l4 : Int32) (l5 : Int32) (s0 : Int32) (hx : HP), Iv P hx → -1 ≤ l3.toInt → l3.toInt ≤ 127 → 3 ≤ l4.toInt → l4.toInt ≤ 3 → 0 ≤ l5.toInt → l5.toInt ≤ 44 → -1 ≤ s0.toInt → s0.toInt ≤ 127 → (522 : Int) < n → Go l RX6 cX6_wireBlock 8 (g_rm (d + 9) 0 0) "wireBlock" (some .int) 117 0 0 (fun _ _ => True) (fun r h' => ∃ v : Int32, r = some (.int v) ∧ 0 ≤ v.toInt ∧ v.toInt ≤ 44 ∧ Iv P h') 0 15 [(0, .ref 48), (3, .int l3), (4, .int l4), (5, .int l5)] [.int s0] hx) ∧ (∀ (l3 : Int32) (l4 : Int32) (l5 : Int32) (l6 : Int32) (l7 : Int32) (hx : HP), Iv P hx → -1 ≤ l3.toInt → l3.toInt ≤ 127 → 3 ≤ l4.toInt → l4.toInt ≤ 3 → 0 ≤ l5.toInt → l5.toInt ≤ 44 → -1 ≤ l6.toInt → l6.toInt ≤ 127 → 0 ≤ l7.toInt → l7.toInt ≤ 128 → (4 * (128 - l7.toInt) + 4 : Int) < n → Go l RX6 cX6_wireBlock 8 (g_rm (d + 9) 0 0) "wireBlock" (some .int) 117 0 0 (fun _ _ => True) (fun r h' => ∃ v : Int32, r = some (.int v) ∧ 0 ≤ v.toInt ∧ v.toInt ≤ 44 ∧ Iv P h') 0 20 [(0, .ref 48), (3, .int l3), (4, .int l4), (5, .int l5), (6, .int l6), (7, .int l7)] [] hx) ∧ (∀ (l3 : Int32) (l4 : Int32) (l5 : Int32) (l6 : Int32) (l7 : Int32) (hx : HP), Iv P hx → -1 ≤ l3.toInt → l3.toInt ≤ 127 → 3 ≤ l4.toInt → l4.toInt ≤ 3 → 0 ≤ l5.toInt → l5.toInt ≤ 44 → 0 ≤ l6.toInt → l6.toInt ≤ 127 → 0 ≤ l7.toInt → l7.toInt ≤ 127 → (4 * (128 - l7.toInt) + 3 : Int) < n → Go l RX6 cX6_wireBlock 8 (g_rm (d + 9) 0 0) "wireBlock" (some .int) 117 0 0 (fun _ _ => True) (fun r h' => ∃ v : Int32, r = some (.int v) ∧ 0 ≤ v.toInt ∧ v.toInt ≤ 44 ∧ Iv P h') 0 76 [(0, .ref 48), (3, .int l3), (4, .int l4), (5, .int l5), (6, .int l6), (7, .int l7)] [] hx) ∧ (∀ (l5 : Int32) (hx : HP), Iv P hx → 0 ≤ l5.toInt → l5.toInt ≤ 44 → (1 : Int) < n → Go l RX6 cX6_wireBlock 8 (g_rm (d + 9) 0 0) "wireBlock" (some .int) 117 0 0 (fun _ _ => True) (fun r h' => ∃ v : Int32, r = some (.int v) ∧ 0 ≤ v.toInt ∧ v.toInt ≤ 44 ∧ Iv P h') 0 94 [(5, .int l5)] [] hx) := by
    intro n
    induction n with
    | zero => exact ⟨(by intros; omega), (by intros; omega), (by intros; omega), (by intros; omega)⟩
    | succ n ih =>
      refine ⟨?_, ?_, ?_, ?_⟩
      ·
        intro l3 l4 l5 s0 hx hvx l3l l3u l4l l4u l5l l5u s0l s0u hm
        refine go_istore (pc := 15) (Nat.le_of_ble_eq_true rfl) dX6_wireBlock_15 (go_lv (lv2 := [(0, .ref 48), (3, .int l3), (4, .int l4), (5, .int l5), (6, .int s0)]) rfl ?_)
        refine go_iconst (pc := 17) (v := 0) (by decide) dX6_wireBlock_17 ?_
        refine go_istore (pc := 18) (Nat.le_of_ble_eq_true rfl) dX6_wireBlock_18 (go_lv (lv2 := [(0, .ref 48), (3, .int l3), (4, .int l4), (5, .int l5), (6, .int s0), (7, .int 0)]) rfl ?_)
        have z1 : (0 : Int32).toInt = 0 := (ti_c (v := 0) (a := 0) (by decide))
        exact go_lv rfl (ih.2.1 l3 l4 l5 s0 0 hx hvx (by omega) (by omega) (by omega) (by omega) (by omega) (by omega) (by omega) (by omega) (by omega) (by omega) (by omega))
      ·
        intro l3 l4 l5 l6 l7 hx hvx l3l l3u l4l l4u l5l l5u l6l l6u l7l l7u hm
        refine go_iload (pc := 20) rfl dX6_wireBlock_20 ?_
        refine go_sipush (pc := 22) (v := 128) (by decide) dX6_wireBlock_22 ?_
        refine gf_icmp_ge (pc := 25) (tgt := 94) (ti_rfl l7) (ti_c (v := 128) (a := 128) (by decide)) (by decide) dX6_wireBlock_25 (fun q2 => ?_) (fun q2 => ?_)
        ·
          exact go_lv rfl (ih.2.2.2 l5 hx hvx (by omega) (by omega) (by omega))
        ·
          refine go_iload (pc := 28) rfl dX6_wireBlock_28 ?_
          refine gf_if_lt (pc := 30) (tgt := 94) (ti_rfl l6) (by decide) dX6_wireBlock_30 (fun q3 => ?_) (fun q3 => ?_)
          ·
            exact go_lv rfl (ih.2.2.2 l5 hx hvx (by omega) (by omega) (by omega))
          ·
            refine go_aload_n (pc := 33) rfl dX6_wireBlock_33 ?_
            refine gi_getF (pc := 34) (q := 36) hvx fL_X6_9 rfl (Nat.le_of_ble_eq_true rfl) rfl (hvx.rf (by decide)) dX6_wireBlock_34 ?_
            refine gi_getF (pc := 37) (q := 37) hvx fL_X6_38 rfl (Nat.le_of_ble_eq_true rfl) rfl (hvx.rf (by decide)) dX6_wireBlock_37 ?_
            refine go_iload (pc := 40) rfl dX6_wireBlock_40 ?_
            refine gi_iald (pc := 42) (lo := -1) (hi := 39) (len := 128) hvx (ti_rfl l6) rfl (by omega) (by omega) (fun _ => rfl) dX6_wireBlock_42 (fun v4 v4l v4u v4w => ?_)
            refine go_iconst (pc := 43) (v := (-1)) (by decide) dX6_wireBlock_43 ?_
            refine gf_icmp_ne (pc := 44) (tgt := 63) (ti_rfl v4) (ti_c (v := (-1)) (a := (-1)) (by decide)) (by decide) dX6_wireBlock_44 (fun q5 => ?_) (fun q5 => ?_)
            ·
              refine go_aload_n (pc := 63) rfl dX6_wireBlock_63 ?_
              refine go_iload (pc := 64) rfl dX6_wireBlock_64 ?_
              refine go_iload (pc := 66) rfl dX6_wireBlock_66 ?_
              refine go_iload_n (pc := 68) rfl dX6_wireBlock_68 ?_
              refine go_iload (pc := 69) rfl dX6_wireBlock_69 ?_
              refine go_invV (pc := 71) (sl := 0) (s_X6_wireStatement_lv3 l (d + 0) hvx l6 (by rw [show (l6 : Int32).toInt = l6.toInt from (ti_rfl l6)]; omega) (by rw [show (l6 : Int32).toInt = l6.toInt from (ti_rfl l6)]; omega) l5 (by rw [show (l5 : Int32).toInt = l5.toInt from (ti_rfl l5)]; omega) (by rw [show (l5 : Int32).toInt = l5.toInt from (ti_rfl l5)]; omega) l3 (by rw [show (l3 : Int32).toInt = l3.toInt from (ti_rfl l3)]; omega) (by rw [show (l3 : Int32).toInt = l3.toInt from (ti_rfl l3)]; omega) l4 (by rw [show (l4 : Int32).toInt = l4.toInt from (ti_rfl l4)]; omega) (by rw [show (l4 : Int32).toInt = l4.toInt from (ti_rfl l4)]; omega) (by rw [← v4w]; omega)) mL_X6_44 iM_X6_wireStatement sM_X6_wireStatement (hvx.sh rfl) rfl rfl rfl (Nat.le_of_ble_eq_true rfl) (show d + 0 + 8 + 1 ≤ d + 9 by omega) (show 8 + (7 + 11) + 40 * (d + 0 + 8) ≤ 40 * (d + 9) by omega) (g_c0 hvx.ln) (Nat.le_of_ble_eq_true rfl) dX6_wireBlock_71 ?_
              intro r h6 hq _
              obtain ⟨v7, rfl, v7l, v7u, hv6⟩ := hq
              refine go_istore (pc := 74) (Nat.le_of_ble_eq_true rfl) dX6_wireBlock_74 (go_lv (lv2 := [(0, .ref 48), (3, .int l3), (4, .int l4), (5, .int v7), (6, .int l6), (7, .int l7)]) rfl ?_)
              exact go_lv rfl (ih.2.2.1 l3 l4 v7 l6 l7 h6 hv6 (by omega) (by omega) (by omega) (by omega) (by omega) (by omega) (by omega) (by omega) (by omega) (by omega) (by omega))
            ·
              refine go_aload_n (pc := 47) rfl dX6_wireBlock_47 ?_
              refine go_iload (pc := 48) rfl dX6_wireBlock_48 ?_
              refine go_iload (pc := 50) rfl dX6_wireBlock_50 ?_
              refine go_iload_n (pc := 52) rfl dX6_wireBlock_52 ?_
              refine go_iload (pc := 53) rfl dX6_wireBlock_53 ?_
              refine go_invV (pc := 55) (sl := 0) (s_X6_wireTry_lv3 l (d + 0) hvx l6 (by rw [show (l6 : Int32).toInt = l6.toInt from (ti_rfl l6)]; omega) (by rw [show (l6 : Int32).toInt = l6.toInt from (ti_rfl l6)]; omega) l5 (by rw [show (l5 : Int32).toInt = l5.toInt from (ti_rfl l5)]; omega) (by rw [show (l5 : Int32).toInt = l5.toInt from (ti_rfl l5)]; omega) l3 (by rw [show (l3 : Int32).toInt = l3.toInt from (ti_rfl l3)]; omega) (by rw [show (l3 : Int32).toInt = l3.toInt from (ti_rfl l3)]; omega) l4 (by rw [show (l4 : Int32).toInt = l4.toInt from (ti_rfl l4)]; omega) (by rw [show (l4 : Int32).toInt = l4.toInt from (ti_rfl l4)]; omega)) mL_X6_41 iM_X6_wireTry sM_X6_wireTry (hvx.sh rfl) rfl rfl rfl (Nat.le_of_ble_eq_true rfl) (show d + 0 + 8 + 1 ≤ d + 9 by omega) (show 8 + (6 + 11) + 40 * (d + 0 + 8) ≤ 40 * (d + 9) by omega) (g_c0 hvx.ln) (Nat.le_of_ble_eq_true rfl) dX6_wireBlock_55 ?_
              intro r h8 hq _
              obtain ⟨v9, rfl, v9l, v9u, hv8⟩ := hq
              refine go_istore (pc := 58) (Nat.le_of_ble_eq_true rfl) dX6_wireBlock_58 (go_lv (lv2 := [(0, .ref 48), (3, .int l3), (4, .int l4), (5, .int v9), (6, .int l6), (7, .int l7)]) rfl ?_)
              refine go_goto (pc := 60) (tgt := 76) (by decide) dX6_wireBlock_60 ?_
              exact go_lv rfl (ih.2.2.1 l3 l4 v9 l6 l7 h8 hv8 (by omega) (by omega) (by omega) (by omega) (by omega) (by omega) (by omega) (by omega) (by omega) (by omega) (by omega))
      ·
        intro l3 l4 l5 l6 l7 hx hvx l3l l3u l4l l4u l5l l5u l6l l6u l7l l7u hm
        refine go_aload_n (pc := 76) rfl dX6_wireBlock_76 ?_
        refine gi_getF (pc := 77) (q := 36) hvx fL_X6_9 rfl (Nat.le_of_ble_eq_true rfl) rfl (hvx.rf (by decide)) dX6_wireBlock_77 ?_
        refine gi_getF (pc := 80) (q := 38) hvx fL_X6_47 rfl (Nat.le_of_ble_eq_true rfl) rfl (hvx.rf (by decide)) dX6_wireBlock_80 ?_
        refine go_iload (pc := 83) rfl dX6_wireBlock_83 ?_
        refine gi_iald (pc := 85) (lo := -1) (hi := 127) (len := 128) hvx (ti_rfl l6) rfl (by omega) (by omega) (fun _ => rfl) dX6_wireBlock_85 (fun v10 v10l v10u v10w => ?_)
        refine go_istore (pc := 86) (Nat.le_of_ble_eq_true rfl) dX6_wireBlock_86 (go_lv (lv2 := [(0, .ref 48), (3, .int l3), (4, .int l4), (5, .int l5), (6, .int v10), (7, .int l7)]) rfl ?_)
        refine gf_iinc (pc := 88) (Nat.le_of_ble_eq_true rfl) rfl (ti_rfl l7) (ti_c (by decide)) (by omega) (by omega) dX6_wireBlock_88 (fun v11 e12 => ?_)
        refine go_lv (lv2 := [(0, .ref 48), (3, .int l3), (4, .int l4), (5, .int l5), (6, .int v10), (7, .int v11)]) rfl ?_
        refine go_goto (pc := 91) (tgt := 20) (by decide) dX6_wireBlock_91 ?_
        have z13 : (v11 : Int32).toInt = (l7.toInt + 1) := e12
        exact go_lv rfl (ih.2.1 l3 l4 l5 v10 v11 hx hvx (by omega) (by omega) (by omega) (by omega) (by omega) (by omega) (by omega) (by omega) (by omega) (by omega) (by omega))
      ·
        intro l5 hx hvx l5l l5u hm
        refine go_iload (pc := 94) rfl dX6_wireBlock_94 ?_
        exact gi_iret (pc := 96) (ti_rfl l5) ⟨_, rfl, (by rw [show (l5 : Int32).toInt = l5.toInt from (ti_rfl l5)]; omega), (by rw [show (l5 : Int32).toInt = l5.toInt from (ti_rfl l5)]; omega), hvx⟩ hvx dX6_wireBlock_96
  refine go_iload_n (pc := 0) rfl dX6_wireBlock_0 ?_
  refine go_istore (pc := 1) (Nat.le_of_ble_eq_true rfl) dX6_wireBlock_1 (go_lv (lv2 := [(0, .ref 48), (1, .int a2), (2, .int a3), (3, .int a4), (4, .int a5), (5, .int a3)]) rfl ?_)
  refine go_iload (pc := 3) rfl dX6_wireBlock_3 ?_
  refine go_bipush (pc := 5) (v := 6) (by decide) dX6_wireBlock_5 ?_
  refine gf_icmp_le (pc := 7) (tgt := 14) (ti_rfl a5) (ti_c (v := 6) (a := 6) (by decide)) (by decide) dX6_wireBlock_7 (fun q14 => ?_) (fun q14 => False.elim (by omega))
  refine go_iload_n (pc := 14) rfl dX6_wireBlock_14 ?_
  exact go_lv rfl ((key 535).1 a4 a5 a3 a2 h hv (by omega) (by omega) (by omega) (by omega) (by omega) (by omega) (by omega) (by omega) (by omega))
set_option maxHeartbeats 4000000 in
set_option maxRecDepth 100000 in
theorem s_X6_wireTry_lv2 (l : Launch) (d : Nat) {P : PP} {h : HP} (hv : Iv P h) (a2 : Int32) (a2l : 0 ≤ a2.toInt) (a2u : a2.toInt ≤ 127) (a3 : Int32) (a3l : 0 ≤ a3.toInt) (a3u : a3.toInt ≤ 44) (a4 : Int32) (a4l : -1 ≤ a4.toInt) (a4u : a4.toInt ≤ 127) (a5 : Int32) (a5l : 2 ≤ a5.toInt) (a5u : a5.toInt ≤ 2) : Mt l yX6_wireTry cX6_wireTry 6 (some .int) (d + 10) [.ref 48, .int a2, .int a3, .int a4, .int a5] h 0 0 (fun r h' => ∃ v : Int32, r = some (.int v) ∧ 0 ≤ v.toInt ∧ v.toInt ≤ 44 ∧ Iv P h') := by
  refine Mt_iv hv (by decide) (Nat.le_of_ble_eq_true rfl) ?_
  show Go l RX6 cX6_wireTry 6 (g_rm (d + 10) 0 0) "wireTry" (some .int) 117 0 0 (fun _ _ => True) (fun r h' => ∃ v : Int32, r = some (.int v) ∧ 0 ≤ v.toInt ∧ v.toInt ≤ 44 ∧ Iv P h') 0 0 [(0, .ref 48), (1, .int a2), (2, .int a3), (3, .int a4), (4, .int a5)] [] h
  have key : ∀ n : Nat, (∀ (l1 : Int32) (l2 : Int32) (l4 : Int32) (s0 : Int32) (s1 : Int32) (hx : HP), Iv P hx → 0 ≤ l1.toInt → l1.toInt ≤ 127 → 0 ≤ l2.toInt → l2.toInt ≤ 44 → 2 ≤ l4.toInt → l4.toInt ≤ 2 → -2 ≤ s0.toInt → s0.toInt ≤ 44 → 0 ≤ s1.toInt → s1.toInt ≤ 127 → (1 : Int) < n → Go l RX6 cX6_wireTry 6 (g_rm (d + 10) 0 0) "wireTry" (some .int) 117 0 0 (fun _ _ => True) (fun r h' => ∃ v : Int32, r = some (.int v) ∧ 0 ≤ v.toInt ∧ v.toInt ≤ 44 ∧ Iv P h') 0 53 [(0, .ref 48), (1, .int l1), (2, .int l2), (4, .int l4)] [.int s0, .int s1, .ref 43] hx) := by
    intro n
    induction n with
    | zero => exact (by intros; omega)
    | succ n ih =>
      refine ?_
      ·
        intro l1 l2 l4 s0 s1 hx hvx l1l l1u l2l l2u l4l l4u s0l s0u s1l s1u hm
        refine gi_iast (pc := 53) (lo := -2) (hi := 44) (len := 128) hvx (ti_rfl s1) (ti_rfl s0) rfl (by omega) (by omega) (fun _ => rfl) (by omega) (by omega) (by decide) dX6_wireTry_53 (fun h1 hv1 hv1e => ?_)
        refine go_aload_n (pc := 54) rfl dX6_wireTry_54 ?_
        refine go_aload_n (pc := 55) rfl dX6_wireTry_55 ?_
        refine gi_getF (pc := 56) (q := 36) hv1 fL_X6_9 rfl (Nat.le_of_ble_eq_true rfl) rfl (hv1.rf (by decide)) dX6_wireTry_56 ?_
        refine gi_getF (pc := 59) (q := 39) hv1 fL_X6_59 rfl (Nat.le_of_ble_eq_true rfl) rfl (hv1.rf (by decide)) dX6_wireTry_59 ?_
        refine go_iload_n (pc := 62) rfl dX6_wireTry_62 ?_
        refine gi_iald (pc := 63) (lo := -1) (hi := 127) (len := 128) hv1 (ti_rfl l1) rfl (by omega) (by omega) (fun _ => rfl) dX6_wireTry_63 (fun v2 v2l v2u v2w => ?_)
        refine go_iload_n (pc := 64) rfl dX6_wireTry_64 ?_
        refine go_iload_n (pc := 65) rfl dX6_wireTry_65 ?_
        refine go_iload (pc := 66) rfl dX6_wireTry_66 ?_
        refine go_iconst (pc := 68) (v := 1) (by decide) dX6_wireTry_68 ?_
        refine gf_iadd (pc := 69) (ti_rfl l4) (ti_c (v := 1) (a := 1) (by decide)) (by omega) (by omega) dX6_wireTry_69 (fun v3 e4 => ?_)
        refine go_invV (pc := 70) (sl := 0) (s_X6_wireBlock_lv3 l (d + 0) hv1 v2 (by rw [show (v2 : Int32).toInt = v2.toInt from (ti_rfl v2)]; omega) (by rw [show (v2 : Int32).toInt = v2.toInt from (ti_rfl v2)]; omega) l2 (by rw [show (l2 : Int32).toInt = l2.toInt from (ti_rfl l2)]; omega) (by rw [show (l2 : Int32).toInt = l2.toInt from (ti_rfl l2)]; omega) l1 (by rw [show (l1 : Int32).toInt = l1.toInt from (ti_rfl l1)]; omega) (by rw [show (l1 : Int32).toInt = l1.toInt from (ti_rfl l1)]; omega) v3 (by rw [show (v3 : Int32).toInt = (l4.toInt + 1) from e4]; omega) (by rw [show (v3 : Int32).toInt = (l4.toInt + 1) from e4]; omega)) mL_X6_34 iM_X6_wireBlock sM_X6_wireBlock (hv1.sh rfl) rfl rfl rfl (Nat.le_of_ble_eq_true rfl) (show d + 0 + 9 + 1 ≤ d + 10 by omega) (show 8 + (8 + 11) + 40 * (d + 0 + 9) ≤ 40 * (d + 10) by omega) (g_c0 hv1.ln) (Nat.le_of_ble_eq_true rfl) dX6_wireTry_70 ?_
        intro r h5 hq _
        obtain ⟨v6, rfl, v6l, v6u, hv5⟩ := hq
        exact gi_iret (pc := 73) (ti_rfl v6) ⟨_, rfl, (by rw [show (v6 : Int32).toInt = v6.toInt from (ti_rfl v6)]; omega), (by rw [show (v6 : Int32).toInt = v6.toInt from (ti_rfl v6)]; omega), hv5⟩ hv5 dX6_wireTry_73
  refine go_aload_n (pc := 0) rfl dX6_wireTry_0 ?_
  refine go_aload_n (pc := 1) rfl dX6_wireTry_1 ?_
  refine gi_getF (pc := 2) (q := 36) hv fL_X6_9 rfl (Nat.le_of_ble_eq_true rfl) rfl (hv.rf (by decide)) dX6_wireTry_2 ?_
  refine gi_getF (pc := 5) (q := 40) hv fL_X6_50 rfl (Nat.le_of_ble_eq_true rfl) rfl (hv.rf (by decide)) dX6_wireTry_5 ?_
  refine go_iload_n (pc := 8) rfl dX6_wireTry_8 ?_
  refine gi_iald (pc := 9) (lo := -1) (hi := 127) (len := 128) hv (ti_rfl a2) rfl (by omega) (by omega) (fun _ => rfl) dX6_wireTry_9 (fun v7 v7l v7u v7w => ?_)
  refine go_iload_n (pc := 10) rfl dX6_wireTry_10 ?_
  refine go_iload_n (pc := 11) rfl dX6_wireTry_11 ?_
  refine go_iload (pc := 12) rfl dX6_wireTry_12 ?_
  refine go_iconst (pc := 14) (v := 1) (by decide) dX6_wireTry_14 ?_
  refine gf_iadd (pc := 15) (ti_rfl a5) (ti_c (v := 1) (a := 1) (by decide)) (by omega) (by omega) dX6_wireTry_15 (fun v8 e9 => ?_)
  refine go_invV (pc := 16) (sl := 0) (s_X6_wireBlock_lv3 l (d + 0) hv v7 (by rw [show (v7 : Int32).toInt = v7.toInt from (ti_rfl v7)]; omega) (by rw [show (v7 : Int32).toInt = v7.toInt from (ti_rfl v7)]; omega) a3 (by rw [show (a3 : Int32).toInt = a3.toInt from (ti_rfl a3)]; omega) (by rw [show (a3 : Int32).toInt = a3.toInt from (ti_rfl a3)]; omega) a4 (by rw [show (a4 : Int32).toInt = a4.toInt from (ti_rfl a4)]; omega) (by rw [show (a4 : Int32).toInt = a4.toInt from (ti_rfl a4)]; omega) v8 (by rw [show (v8 : Int32).toInt = (a5.toInt + 1) from e9]; omega) (by rw [show (v8 : Int32).toInt = (a5.toInt + 1) from e9]; omega)) mL_X6_34 iM_X6_wireBlock sM_X6_wireBlock (hv.sh rfl) rfl rfl rfl (Nat.le_of_ble_eq_true rfl) (show d + 0 + 9 + 1 ≤ d + 10 by omega) (show 8 + (8 + 11) + 40 * (d + 0 + 9) ≤ 40 * (d + 10) by omega) (g_c0 hv.ln) (Nat.le_of_ble_eq_true rfl) dX6_wireTry_16 ?_
  intro r h10 hq _
  obtain ⟨v11, rfl, v11l, v11u, hv10⟩ := hq
  refine go_istore (pc := 19) (Nat.le_of_ble_eq_true rfl) dX6_wireTry_19 (go_lv (lv2 := [(0, .ref 48), (1, .int a2), (2, .int a3), (3, .int a4), (4, .int a5), (5, .int v11)]) rfl ?_)
  refine go_aload_n (pc := 21) rfl dX6_wireTry_21 ?_
  refine gi_getF (pc := 22) (q := 36) hv10 fL_X6_9 rfl (Nat.le_of_ble_eq_true rfl) rfl (hv10.rf (by decide)) dX6_wireTry_22 ?_
  refine gi_getF (pc := 25) (q := 42) hv10 fL_X6_53 rfl (Nat.le_of_ble_eq_true rfl) rfl (hv10.rf (by decide)) dX6_wireTry_25 ?_
  refine go_iload_n (pc := 28) rfl dX6_wireTry_28 ?_
  refine go_iload (pc := 29) rfl dX6_wireTry_29 ?_
  refine gi_iast (pc := 31) (lo := 0) (hi := 44) (len := 128) hv10 (ti_rfl a2) (ti_rfl v11) rfl (by omega) (by omega) (fun _ => rfl) (by omega) (by omega) (by decide) dX6_wireTry_31 (fun h12 hv12 hv12e => ?_)
  refine go_aload_n (pc := 32) rfl dX6_wireTry_32 ?_
  refine gi_getF (pc := 33) (q := 36) hv12 fL_X6_9 rfl (Nat.le_of_ble_eq_true rfl) rfl (hv12.rf (by decide)) dX6_wireTry_33 ?_
  refine gi_getF (pc := 36) (q := 43) hv12 fL_X6_56 rfl (Nat.le_of_ble_eq_true rfl) rfl (hv12.rf (by decide)) dX6_wireTry_36 ?_
  refine go_iload_n (pc := 39) rfl dX6_wireTry_39 ?_
  refine go_iload (pc := 40) rfl dX6_wireTry_40 ?_
  refine go_iload_n (pc := 42) rfl dX6_wireTry_42 ?_
  refine gf_icmp_ne (pc := 43) (tgt := 51) (ti_rfl v11) (ti_rfl a3) (by decide) dX6_wireTry_43 (fun q13 => ?_) (fun q13 => ?_)
  ·
    refine go_iload (pc := 51) rfl dX6_wireTry_51 ?_
    exact go_lv rfl ((key 14) a2 a3 a5 v11 a2 h12 hv12 (by omega) (by omega) (by omega) (by omega) (by omega) (by omega) (by omega) (by omega) (by omega) (by omega) (by omega))
  ·
    refine go_bipush (pc := 46) (v := (-2)) (by decide) dX6_wireTry_46 ?_
    refine go_goto (pc := 48) (tgt := 53) (by decide) dX6_wireTry_48 ?_
    have z14 : ((-2) : Int32).toInt = (-2) := (ti_c (v := (-2)) (a := (-2)) (by decide))
    exact go_lv rfl ((key 14) a2 a3 a5 (-2) a2 h12 hv12 (by omega) (by omega) (by omega) (by omega) (by omega) (by omega) (by omega) (by omega) (by omega) (by omega) (by omega))
set_option maxHeartbeats 4000000 in
set_option maxRecDepth 100000 in
theorem s_X6_wireStatement_lv2 (l : Launch) (d : Nat) {P : PP} {h : HP} (hv : Iv P h) (a2 : Int32) (a2l : 0 ≤ a2.toInt) (a2u : a2.toInt ≤ 127) (a3 : Int32) (a3l : 0 ≤ a3.toInt) (a3u : a3.toInt ≤ 44) (a4 : Int32) (a4l : -1 ≤ a4.toInt) (a4u : a4.toInt ≤ 127) (a5 : Int32) (a5l : 2 ≤ a5.toInt) (a5u : a5.toInt ≤ 2) (hp : 0 ≤ (h.2.1 37 a2.toInt.toNat).toInt) : Mt l yX6_wireStatement cX6_wireStatement 7 (some .int) (d + 10) [.ref 48, .int a2, .int a3, .int a4, .int a5] h 0 0 (fun r h' => ∃ v : Int32, r = some (.int v) ∧ 0 ≤ v.toInt ∧ v.toInt ≤ 44 ∧ Iv P h') := by
  refine Mt_iv hv (by decide) (Nat.le_of_ble_eq_true rfl) ?_
  show Go l RX6 cX6_wireStatement 7 (g_rm (d + 10) 0 0) "wireStatement" (some .int) 117 0 0 (fun _ _ => True) (fun r h' => ∃ v : Int32, r = some (.int v) ∧ 0 ≤ v.toInt ∧ v.toInt ≤ 44 ∧ Iv P h') 0 0 [(0, .ref 48), (1, .int a2), (2, .int a3), (3, .int a4), (4, .int a5)] [] h
  have key : ∀ n : Nat, (∀ (l1 : Int32) (l2 : Int32) (l3 : Int32) (l4 : Int32) (l5 : Int32) (l6 : Int32) (s0 : Int32) (s1 : Int32) (s2 : Nat) (hx : HP), Iv P hx → 0 ≤ l1.toInt → l1.toInt ≤ 127 → 0 ≤ l2.toInt → l2.toInt ≤ 44 → -1 ≤ l3.toInt → l3.toInt ≤ 127 → 2 ≤ l4.toInt → l4.toInt ≤ 2 → 0 ≤ l5.toInt → l5.toInt ≤ 39 → 39 ≤ l6.toInt → l6.toInt ≤ 44 → 0 ≤ s0.toInt → s0.toInt ≤ 44 → 0 ≤ s1.toInt → s1.toInt ≤ 39 → (s2 = 2 ∨ s2 = 18) → (4 : Int) < n → Go l RX6 cX6_wireStatement 7 (g_rm (d + 10) 0 0) "wireStatement" (some .int) 117 0 0 (fun _ _ => True) (fun r h' => ∃ v : Int32, r = some (.int v) ∧ 0 ≤ v.toInt ∧ v.toInt ≤ 44 ∧ Iv P h') 0 75 [(0, .ref 48), (1, .int l1), (2, .int l2), (3, .int l3), (4, .int l4), (5, .int l5), (6, .int l6)] [.int s0, .int s1, .ref (s2 + 13)] hx) ∧ (∀ (l1 : Int32) (l2 : Int32) (l3 : Int32) (l4 : Int32) (l5 : Int32) (l6 : Int32) (s0 : Int32) (s1 : Int32) (s2 : Nat) (hx : HP), Iv P hx → 0 ≤ l1.toInt → l1.toInt ≤ 127 → 0 ≤ l2.toInt → l2.toInt ≤ 44 → -1 ≤ l3.toInt → l3.toInt ≤ 127 → 2 ≤ l4.toInt → l4.toInt ≤ 2 → 0 ≤ l5.toInt → l5.toInt ≤ 39 → 39 ≤ l6.toInt → l6.toInt ≤ 44 → -1 ≤ s0.toInt → s0.toInt ≤ 5 → 0 ≤ s1.toInt → s1.toInt ≤ 39 → (s2 = 2 ∨ s2 = 18) → (3 : Int) < n → Go l RX6 cX6_wireStatement 7 (g_rm (d + 10) 0 0) "wireStatement" (some .int) 117 0 0 (fun _ _ => True) (fun r h' => ∃ v : Int32, r = some (.int v) ∧ 0 ≤ v.toInt ∧ v.toInt ≤ 44 ∧ Iv P h') 0 102 [(0, .ref 48), (1, .int l1), (2, .int l2), (3, .int l3), (4, .int l4), (5, .int l5), (6, .int l6)] [.int s0, .int s1, .ref (s2 + 14)] hx) ∧ (∀ (l1 : Int32) (l2 : Int32) (l3 : Int32) (l4 : Int32) (l5 : Int32) (l6 : Int32) (s0 : Int32) (s1 : Int32) (s2 : Nat) (hx : HP), Iv P hx → 0 ≤ l1.toInt → l1.toInt ≤ 127 → 0 ≤ l2.toInt → l2.toInt ≤ 44 → -1 ≤ l3.toInt → l3.toInt ≤ 127 → 2 ≤ l4.toInt → l4.toInt ≤ 2 → 0 ≤ l5.toInt → l5.toInt ≤ 39 → 39 ≤ l6.toInt → l6.toInt ≤ 44 → -2 ≤ s0.toInt → s0.toInt ≤ 44 → 0 ≤ s1.toInt → s1.toInt ≤ 39 → (s2 = 2 ∨ s2 = 18) → (2 : Int) < n → Go l RX6 cX6_wireStatement 7 (g_rm (d + 10) 0 0) "wireStatement" (some .int) 117 0 0 (fun _ _ => True) (fun r h' => ∃ v : Int32, r = some (.int v) ∧ 0 ≤ v.toInt ∧ v.toInt ≤ 44 ∧ Iv P h') 0 130 [(0, .ref 48), (1, .int l1), (2, .int l2), (3, .int l3), (4, .int l4), (5, .int l5), (6, .int l6)] [.int s0, .int s1, .ref (s2 + 15)] hx) ∧ (∀ (l5 : Int32) (hx : HP), Iv P hx → 0 ≤ l5.toInt → l5.toInt ≤ 39 → (1 : Int) < n → Go l RX6 cX6_wireStatement 7 (g_rm (d + 10) 0 0) "wireStatement" (some .int) 117 0 0 (fun _ _ => True) (fun r h' => ∃ v : Int32, r = some (.int v) ∧ 0 ≤ v.toInt ∧ v.toInt ≤ 44 ∧ Iv P h') 0 279 [(5, .int l5)] [] hx) := by
    intro n
    induction n with
    | zero => exact ⟨(by intros; omega), (by intros; omega), (by intros; omega), (by intros; omega)⟩
    | succ n ih =>
      refine ⟨?_, ?_, ?_, ?_⟩
      ·
        intro l1 l2 l3 l4 l5 l6 s0 s1 s2 hx hvx l1l l1u l2l l2u l3l l3u l4l l4u l5l l5u l6l l6u s0l s0u s1l s1u hs2 hm
        refine gi_iast (pc := 75) (lo := 0) (hi := 44) (len := 40) hvx (ti_rfl s1) (ti_rfl s0) (by rcases hs2 with rfl | rfl <;> rfl) (by omega) (by omega) (fun _ => by rcases hs2 with rfl | rfl <;> rfl) (by omega) (by omega) (by rcases hs2 with rfl | rfl <;> decide) dX6_wireStatement_75 (fun h1 hv1 hv1e => ?_)
        refine go_aload_n (pc := 76) rfl dX6_wireStatement_76 ?_
        refine gi_getC (pc := 77) hv1 fL_X6_15 rfl (Nat.le_of_ble_eq_true rfl) rfl (by decide) dX6_wireStatement_77 (fun c2 hc2 fc2 => ?_)
        refine gi_getF (pc := 80) (q := c2 + 14) hv1 fL_X6_74 (by rcases hc2 with rfl | rfl <;> rfl) (Nat.le_of_ble_eq_true rfl) rfl (by rcases hc2 with rfl | rfl <;> exact hv1.rf (by decide)) dX6_wireStatement_80 ?_
        refine go_iload (pc := 83) rfl dX6_wireStatement_83 ?_
        refine go_iload_n (pc := 85) rfl dX6_wireStatement_85 ?_
        refine gf_if_ge (pc := 86) (tgt := 93) (ti_rfl l3) (by decide) dX6_wireStatement_86 (fun q3 => ?_) (fun q3 => ?_)
        ·
          refine go_aload_n (pc := 93) rfl dX6_wireStatement_93 ?_
          refine gi_getF (pc := 94) (q := 36) hv1 fL_X6_9 rfl (Nat.le_of_ble_eq_true rfl) rfl (hv1.rf (by decide)) dX6_wireStatement_94 ?_
          refine gi_getF (pc := 97) (q := 41) hv1 fL_X6_77 rfl (Nat.le_of_ble_eq_true rfl) rfl (hv1.rf (by decide)) dX6_wireStatement_97 ?_
          refine go_iload_n (pc := 100) rfl dX6_wireStatement_100 ?_
          refine gi_iald (pc := 101) (lo := -1) (hi := 5) (len := 128) hv1 (ti_rfl l3) rfl (by omega) (by omega) (fun _ => rfl) dX6_wireStatement_101 (fun v4 v4l v4u v4w => ?_)
          exact go_lv rfl (ih.2.1 l1 l2 l3 l4 l5 l6 v4 l5 c2 h1 hv1 (by omega) (by omega) (by omega) (by omega) (by omega) (by omega) (by omega) (by omega) (by omega) (by omega) (by omega) (by omega) (by omega) (by omega) (by omega) (by omega) hc2 (by omega))
        ·
          refine go_iconst (pc := 89) (v := (-1)) (by decide) dX6_wireStatement_89 ?_
          refine go_goto (pc := 90) (tgt := 102) (by decide) dX6_wireStatement_90 ?_
          have z5 : ((-1) : Int32).toInt = (-1) := (ti_c (v := (-1)) (a := (-1)) (by decide))
          exact go_lv rfl (ih.2.1 l1 l2 l3 l4 l5 l6 (-1) l5 c2 h1 hv1 (by omega) (by omega) (by omega) (by omega) (by omega) (by omega) (by omega) (by omega) (by omega) (by omega) (by omega) (by omega) (by omega) (by omega) (by omega) (by omega) hc2 (by omega))
      ·
        intro l1 l2 l3 l4 l5 l6 s0 s1 s2 hx hvx l1l l1u l2l l2u l3l l3u l4l l4u l5l l5u l6l l6u s0l s0u s1l s1u hs2 hm
        refine gi_iast (pc := 102) (lo := -1) (hi := 5) (len := 40) hvx (ti_rfl s1) (ti_rfl s0) (by rcases hs2 with rfl | rfl <;> rfl) (by omega) (by omega) (fun _ => by rcases hs2 with rfl | rfl <;> rfl) (by omega) (by omega) (by rcases hs2 with rfl | rfl <;> decide) dX6_wireStatement_102 (fun h6 hv6 hv6e => ?_)
        refine go_aload_n (pc := 103) rfl dX6_wireStatement_103 ?_
        refine gi_getC (pc := 104) hv6 fL_X6_15 rfl (Nat.le_of_ble_eq_true rfl) rfl (by decide) dX6_wireStatement_104 (fun c7 hc7 fc7 => ?_)
        refine gi_getF (pc := 107) (q := c7 + 15) hv6 fL_X6_80 (by rcases hc7 with rfl | rfl <;> rfl) (Nat.le_of_ble_eq_true rfl) rfl (by rcases hc7 with rfl | rfl <;> exact hv6.rf (by decide)) dX6_wireStatement_107 ?_
        refine go_iload (pc := 110) rfl dX6_wireStatement_110 ?_
        refine go_iload_n (pc := 112) rfl dX6_wireStatement_112 ?_
        refine gf_if_ge (pc := 113) (tgt := 121) (ti_rfl l3) (by decide) dX6_wireStatement_113 (fun q8 => ?_) (fun q8 => ?_)
        ·
          refine go_aload_n (pc := 121) rfl dX6_wireStatement_121 ?_
          refine gi_getF (pc := 122) (q := 36) hv6 fL_X6_9 rfl (Nat.le_of_ble_eq_true rfl) rfl (hv6.rf (by decide)) dX6_wireStatement_122 ?_
          refine gi_getF (pc := 125) (q := 43) hv6 fL_X6_56 rfl (Nat.le_of_ble_eq_true rfl) rfl (hv6.rf (by decide)) dX6_wireStatement_125 ?_
          refine go_iload_n (pc := 128) rfl dX6_wireStatement_128 ?_
          refine gi_iald (pc := 129) (lo := -2) (hi := 44) (len := 128) hv6 (ti_rfl l3) rfl (by omega) (by omega) (fun _ => rfl) dX6_wireStatement_129 (fun v9 v9l v9u v9w => ?_)
          exact go_lv rfl (ih.2.2.1 l1 l2 l3 l4 l5 l6 v9 l5 c7 h6 hv6 (by omega) (by omega) (by omega) (by omega) (by omega) (by omega) (by omega) (by omega) (by omega) (by omega) (by omega) (by omega) (by omega) (by omega) (by omega) (by omega) hc7 (by omega))
        ·
          refine go_bipush (pc := 116) (v := (-2)) (by decide) dX6_wireStatement_116 ?_
          refine go_goto (pc := 118) (tgt := 130) (by decide) dX6_wireStatement_118 ?_
          have z10 : ((-2) : Int32).toInt = (-2) := (ti_c (v := (-2)) (a := (-2)) (by decide))
          exact go_lv rfl (ih.2.2.1 l1 l2 l3 l4 l5 l6 (-2) l5 c7 h6 hv6 (by omega) (by omega) (by omega) (by omega) (by omega) (by omega) (by omega) (by omega) (by omega) (by omega) (by omega) (by omega) (by omega) (by omega) (by omega) (by omega) hc7 (by omega))
      ·
        intro l1 l2 l3 l4 l5 l6 s0 s1 s2 hx hvx l1l l1u l2l l2u l3l l3u l4l l4u l5l l5u l6l l6u s0l s0u s1l s1u hs2 hm
        refine gi_iast (pc := 130) (lo := -2) (hi := 44) (len := 40) hvx (ti_rfl s1) (ti_rfl s0) (by rcases hs2 with rfl | rfl <;> rfl) (by omega) (by omega) (fun _ => by rcases hs2 with rfl | rfl <;> rfl) (by omega) (by omega) (by rcases hs2 with rfl | rfl <;> decide) dX6_wireStatement_130 (fun h11 hv11 hv11e => ?_)
        refine go_aload_n (pc := 131) rfl dX6_wireStatement_131 ?_
        refine gi_getC (pc := 132) hv11 fL_X6_15 rfl (Nat.le_of_ble_eq_true rfl) rfl (by decide) dX6_wireStatement_132 (fun c12 hc12 fc12 => ?_)
        refine gi_getF (pc := 135) (q := c12 + 2) hv11 fL_X6_81 (by rcases hc12 with rfl | rfl <;> rfl) (Nat.le_of_ble_eq_true rfl) rfl (by rcases hc12 with rfl | rfl <;> exact hv11.rf (by decide)) dX6_wireStatement_135 ?_
        refine go_iload (pc := 138) rfl dX6_wireStatement_138 ?_
        refine gi_iald (pc := 140) (lo := 0) (hi := 5) (len := 40) hv11 (ti_rfl l5) (by rcases hc12 with rfl | rfl <;> rfl) (by omega) (by omega) (fun _ => by rcases hc12 with rfl | rfl <;> rfl) dX6_wireStatement_140 (fun v13 v13l v13u v13w => ?_)
        refine go_iconst (pc := 141) (v := 5) (by decide) dX6_wireStatement_141 ?_
        refine gf_icmp_ne (pc := 142) (tgt := 160) (ti_rfl v13) (ti_c (v := 5) (a := 5) (by decide)) (by decide) dX6_wireStatement_142 (fun q14 => ?_) (fun q14 => ?_)
        ·
          refine go_aload_n (pc := 160) rfl dX6_wireStatement_160 ?_
          refine gi_getC (pc := 161) hv11 fL_X6_15 rfl (Nat.le_of_ble_eq_true rfl) rfl (by decide) dX6_wireStatement_161 (fun c15 hc15 fc15 => ?_)
          refine gi_getF (pc := 164) (q := c15 + 2) hv11 fL_X6_81 (by rcases hc15 with rfl | rfl <;> rfl) (Nat.le_of_ble_eq_true rfl) rfl (by rcases hc15 with rfl | rfl <;> exact hv11.rf (by decide)) dX6_wireStatement_164 ?_
          refine go_iload (pc := 167) rfl dX6_wireStatement_167 ?_
          refine gi_iald (pc := 169) (lo := 0) (hi := 5) (len := 40) hv11 (ti_rfl l5) (by rcases hc15 with rfl | rfl <;> rfl) (by omega) (by omega) (fun _ => by rcases hc15 with rfl | rfl <;> rfl) dX6_wireStatement_169 (fun v16 v16l v16u v16w => ?_)
          refine go_iconst (pc := 170) (v := 3) (by decide) dX6_wireStatement_170 ?_
          refine gf_icmp_ne (pc := 171) (tgt := 207) (ti_rfl v16) (ti_c (v := 3) (a := 3) (by decide)) (by decide) dX6_wireStatement_171 (fun q17 => ?_) (fun q17 => ?_)
          ·
            refine go_aload_n (pc := 207) rfl dX6_wireStatement_207 ?_
            refine gi_getC (pc := 208) hv11 fL_X6_15 rfl (Nat.le_of_ble_eq_true rfl) rfl (by decide) dX6_wireStatement_208 (fun c18 hc18 fc18 => ?_)
            refine gi_getF (pc := 211) (q := c18 + 2) hv11 fL_X6_81 (by rcases hc18 with rfl | rfl <;> rfl) (Nat.le_of_ble_eq_true rfl) rfl (by rcases hc18 with rfl | rfl <;> exact hv11.rf (by decide)) dX6_wireStatement_211 ?_
            refine go_iload (pc := 214) rfl dX6_wireStatement_214 ?_
            refine gi_iald (pc := 216) (lo := 0) (hi := 5) (len := 40) hv11 (ti_rfl l5) (by rcases hc18 with rfl | rfl <;> rfl) (by omega) (by omega) (fun _ => by rcases hc18 with rfl | rfl <;> rfl) dX6_wireStatement_216 (fun v19 v19l v19u v19w => ?_)
            refine go_iconst (pc := 217) (v := 2) (by decide) dX6_wireStatement_217 ?_
            refine gf_icmp_ne (pc := 218) (tgt := 279) (ti_rfl v19) (ti_c (v := 2) (a := 2) (by decide)) (by decide) dX6_wireStatement_218 (fun q20 => ?_) (fun q20 => ?_)
            ·
              exact go_lv rfl (ih.2.2.2 l5 h11 hv11 (by omega) (by omega) (by omega))
            ·
              refine go_aload_n (pc := 221) rfl dX6_wireStatement_221 ?_
              refine gi_getC (pc := 222) hv11 fL_X6_15 rfl (Nat.le_of_ble_eq_true rfl) rfl (by decide) dX6_wireStatement_222 (fun c21 hc21 fc21 => ?_)
              refine gi_getF (pc := 225) (q := c21 + 13) hv11 fL_X6_71 (by rcases hc21 with rfl | rfl <;> rfl) (Nat.le_of_ble_eq_true rfl) rfl (by rcases hc21 with rfl | rfl <;> exact hv11.rf (by decide)) dX6_wireStatement_225 ?_
              refine go_iload (pc := 228) rfl dX6_wireStatement_228 ?_
              refine go_aload_n (pc := 230) rfl dX6_wireStatement_230 ?_
              refine go_aload_n (pc := 231) rfl dX6_wireStatement_231 ?_
              refine gi_getF (pc := 232) (q := 36) hv11 fL_X6_9 rfl (Nat.le_of_ble_eq_true rfl) rfl (hv11.rf (by decide)) dX6_wireStatement_232 ?_
              refine gi_getF (pc := 235) (q := 39) hv11 fL_X6_59 rfl (Nat.le_of_ble_eq_true rfl) rfl (hv11.rf (by decide)) dX6_wireStatement_235 ?_
              refine go_iload_n (pc := 238) rfl dX6_wireStatement_238 ?_
              refine gi_iald (pc := 239) (lo := -1) (hi := 127) (len := 128) hv11 (ti_rfl l1) rfl (by omega) (by omega) (fun _ => rfl) dX6_wireStatement_239 (fun v22 v22l v22u v22w => ?_)
              refine go_iload_n (pc := 240) rfl dX6_wireStatement_240 ?_
              refine go_iload_n (pc := 241) rfl dX6_wireStatement_241 ?_
              refine go_iload (pc := 242) rfl dX6_wireStatement_242 ?_
              refine go_iconst (pc := 244) (v := 1) (by decide) dX6_wireStatement_244 ?_
              refine gf_iadd (pc := 245) (ti_rfl l4) (ti_c (v := 1) (a := 1) (by decide)) (by omega) (by omega) dX6_wireStatement_245 (fun v23 e24 => ?_)
              refine go_invV (pc := 246) (sl := 0) (s_X6_wireBlock_lv3 l (d + 0) hv11 v22 (by rw [show (v22 : Int32).toInt = v22.toInt from (ti_rfl v22)]; omega) (by rw [show (v22 : Int32).toInt = v22.toInt from (ti_rfl v22)]; omega) l2 (by rw [show (l2 : Int32).toInt = l2.toInt from (ti_rfl l2)]; omega) (by rw [show (l2 : Int32).toInt = l2.toInt from (ti_rfl l2)]; omega) l3 (by rw [show (l3 : Int32).toInt = l3.toInt from (ti_rfl l3)]; omega) (by rw [show (l3 : Int32).toInt = l3.toInt from (ti_rfl l3)]; omega) v23 (by rw [show (v23 : Int32).toInt = (l4.toInt + 1) from e24]; omega) (by rw [show (v23 : Int32).toInt = (l4.toInt + 1) from e24]; omega)) mL_X6_34 iM_X6_wireBlock sM_X6_wireBlock (hv11.sh rfl) rfl rfl rfl (Nat.le_of_ble_eq_true rfl) (show d + 0 + 9 + 1 ≤ d + 10 by omega) (show 8 + (8 + 11) + 40 * (d + 0 + 9) ≤ 40 * (d + 10) by omega) (g_c0 hv11.ln) (Nat.le_of_ble_eq_true rfl) dX6_wireStatement_246 ?_
              intro r h25 hq _
              obtain ⟨v26, rfl, v26l, v26u, hv25⟩ := hq
              refine gi_iast (pc := 249) (lo := 0) (hi := 44) (len := 40) hv25 (ti_rfl l5) (ti_rfl v26) (by rcases hc21 with rfl | rfl <;> rfl) (by omega) (by omega) (fun _ => by rcases hc21 with rfl | rfl <;> rfl) (by omega) (by omega) (by rcases hc21 with rfl | rfl <;> decide) dX6_wireStatement_249 (fun h27 hv27 hv27e => ?_)
              refine go_aload_n (pc := 250) rfl dX6_wireStatement_250 ?_
              refine gi_getC (pc := 251) hv27 fL_X6_15 rfl (Nat.le_of_ble_eq_true rfl) rfl (by decide) dX6_wireStatement_251 (fun c28 hc28 fc28 => ?_)
              refine gi_getF (pc := 254) (q := c28 + 12) hv27 fL_X6_68 (by rcases hc28 with rfl | rfl <;> rfl) (Nat.le_of_ble_eq_true rfl) rfl (by rcases hc28 with rfl | rfl <;> exact hv27.rf (by decide)) dX6_wireStatement_254 ?_
              refine go_iload (pc := 257) rfl dX6_wireStatement_257 ?_
              refine go_aload_n (pc := 259) rfl dX6_wireStatement_259 ?_
              refine go_aload_n (pc := 260) rfl dX6_wireStatement_260 ?_
              refine gi_getF (pc := 261) (q := 36) hv27 fL_X6_9 rfl (Nat.le_of_ble_eq_true rfl) rfl (hv27.rf (by decide)) dX6_wireStatement_261 ?_
              refine gi_getF (pc := 264) (q := 40) hv27 fL_X6_50 rfl (Nat.le_of_ble_eq_true rfl) rfl (hv27.rf (by decide)) dX6_wireStatement_264 ?_
              refine go_iload_n (pc := 267) rfl dX6_wireStatement_267 ?_
              refine gi_iald (pc := 268) (lo := -1) (hi := 127) (len := 128) hv27 (ti_rfl l1) rfl (by omega) (by omega) (fun _ => rfl) dX6_wireStatement_268 (fun v29 v29l v29u v29w => ?_)
              refine go_iload_n (pc := 269) rfl dX6_wireStatement_269 ?_
              refine go_iload_n (pc := 270) rfl dX6_wireStatement_270 ?_
              refine go_iload (pc := 271) rfl dX6_wireStatement_271 ?_
              refine go_iconst (pc := 273) (v := 1) (by decide) dX6_wireStatement_273 ?_
              refine gf_iadd (pc := 274) (ti_rfl l4) (ti_c (v := 1) (a := 1) (by decide)) (by omega) (by omega) dX6_wireStatement_274 (fun v30 e31 => ?_)
              refine go_invV (pc := 275) (sl := 0) (s_X6_wireBlock_lv3 l (d + 0) hv27 v29 (by rw [show (v29 : Int32).toInt = v29.toInt from (ti_rfl v29)]; omega) (by rw [show (v29 : Int32).toInt = v29.toInt from (ti_rfl v29)]; omega) l2 (by rw [show (l2 : Int32).toInt = l2.toInt from (ti_rfl l2)]; omega) (by rw [show (l2 : Int32).toInt = l2.toInt from (ti_rfl l2)]; omega) l3 (by rw [show (l3 : Int32).toInt = l3.toInt from (ti_rfl l3)]; omega) (by rw [show (l3 : Int32).toInt = l3.toInt from (ti_rfl l3)]; omega) v30 (by rw [show (v30 : Int32).toInt = (l4.toInt + 1) from e31]; omega) (by rw [show (v30 : Int32).toInt = (l4.toInt + 1) from e31]; omega)) mL_X6_34 iM_X6_wireBlock sM_X6_wireBlock (hv27.sh rfl) rfl rfl rfl (Nat.le_of_ble_eq_true rfl) (show d + 0 + 9 + 1 ≤ d + 10 by omega) (show 8 + (8 + 11) + 40 * (d + 0 + 9) ≤ 40 * (d + 10) by omega) (g_c0 hv27.ln) (Nat.le_of_ble_eq_true rfl) dX6_wireStatement_275 ?_
              intro r h32 hq _
              obtain ⟨v33, rfl, v33l, v33u, hv32⟩ := hq
              refine gi_iast (pc := 278) (lo := 0) (hi := 44) (len := 40) hv32 (ti_rfl l5) (ti_rfl v33) (by rcases hc28 with rfl | rfl <;> rfl) (by omega) (by omega) (fun _ => by rcases hc28 with rfl | rfl <;> rfl) (by omega) (by omega) (by rcases hc28 with rfl | rfl <;> decide) dX6_wireStatement_278 (fun h34 hv34 hv34e => ?_)
              exact go_lv rfl (ih.2.2.2 l5 h34 hv34 (by omega) (by omega) (by omega))
          ·
            refine go_aload_n (pc := 174) rfl dX6_wireStatement_174 ?_
            refine gi_getC (pc := 175) hv11 fL_X6_15 rfl (Nat.le_of_ble_eq_true rfl) rfl (by decide) dX6_wireStatement_175 (fun c35 hc35 fc35 => ?_)
            refine gi_getF (pc := 178) (q := c35 + 13) hv11 fL_X6_71 (by rcases hc35 with rfl | rfl <;> rfl) (Nat.le_of_ble_eq_true rfl) rfl (by rcases hc35 with rfl | rfl <;> exact hv11.rf (by decide)) dX6_wireStatement_178 ?_
            refine go_iload (pc := 181) rfl dX6_wireStatement_181 ?_
            refine go_aload_n (pc := 183) rfl dX6_wireStatement_183 ?_
            refine go_aload_n (pc := 184) rfl dX6_wireStatement_184 ?_
            refine gi_getF (pc := 185) (q := 36) hv11 fL_X6_9 rfl (Nat.le_of_ble_eq_true rfl) rfl (hv11.rf (by decide)) dX6_wireStatement_185 ?_
            refine gi_getF (pc := 188) (q := 39) hv11 fL_X6_59 rfl (Nat.le_of_ble_eq_true rfl) rfl (hv11.rf (by decide)) dX6_wireStatement_188 ?_
            refine go_iload_n (pc := 191) rfl dX6_wireStatement_191 ?_
            refine gi_iald (pc := 192) (lo := -1) (hi := 127) (len := 128) hv11 (ti_rfl l1) rfl (by omega) (by omega) (fun _ => rfl) dX6_wireStatement_192 (fun v36 v36l v36u v36w => ?_)
            refine go_iload (pc := 193) rfl dX6_wireStatement_193 ?_
            refine go_iload_n (pc := 195) rfl dX6_wireStatement_195 ?_
            refine go_iload (pc := 196) rfl dX6_wireStatement_196 ?_
            refine go_iconst (pc := 198) (v := 1) (by decide) dX6_wireStatement_198 ?_
            refine gf_iadd (pc := 199) (ti_rfl l4) (ti_c (v := 1) (a := 1) (by decide)) (by omega) (by omega) dX6_wireStatement_199 (fun v37 e38 => ?_)
            refine go_invV (pc := 200) (sl := 0) (s_X6_wireBlock_lv3 l (d + 0) hv11 v36 (by rw [show (v36 : Int32).toInt = v36.toInt from (ti_rfl v36)]; omega) (by rw [show (v36 : Int32).toInt = v36.toInt from (ti_rfl v36)]; omega) l5 (by rw [show (l5 : Int32).toInt = l5.toInt from (ti_rfl l5)]; omega) (by rw [show (l5 : Int32).toInt = l5.toInt from (ti_rfl l5)]; omega) l3 (by rw [show (l3 : Int32).toInt = l3.toInt from (ti_rfl l3)]; omega) (by rw [show (l3 : Int32).toInt = l3.toInt from (ti_rfl l3)]; omega) v37 (by rw [show (v37 : Int32).toInt = (l4.toInt + 1) from e38]; omega) (by rw [show (v37 : Int32).toInt = (l4.toInt + 1) from e38]; omega)) mL_X6_34 iM_X6_wireBlock sM_X6_wireBlock (hv11.sh rfl) rfl rfl rfl (Nat.le_of_ble_eq_true rfl) (show d + 0 + 9 + 1 ≤ d + 10 by omega) (show 8 + (8 + 11) + 40 * (d + 0 + 9) ≤ 40 * (d + 10) by omega) (g_c0 hv11.ln) (Nat.le_of_ble_eq_true rfl) dX6_wireStatement_200 ?_
            intro r h39 hq _
            obtain ⟨v40, rfl, v40l, v40u, hv39⟩ := hq
            refine gi_iast (pc := 203) (lo := 0) (hi := 44) (len := 40) hv39 (ti_rfl l5) (ti_rfl v40) (by rcases hc35 with rfl | rfl <;> rfl) (by omega) (by omega) (fun _ => by rcases hc35 with rfl | rfl <;> rfl) (by omega) (by omega) (by rcases hc35 with rfl | rfl <;> decide) dX6_wireStatement_203 (fun h41 hv41 hv41e => ?_)
            refine go_goto (pc := 204) (tgt := 279) (by decide) dX6_wireStatement_204 ?_
            exact go_lv rfl (ih.2.2.2 l5 h41 hv41 (by omega) (by omega) (by omega))
        ·
          refine go_aload_n (pc := 145) rfl dX6_wireStatement_145 ?_
          refine gi_getC (pc := 146) hv11 fL_X6_15 rfl (Nat.le_of_ble_eq_true rfl) rfl (by decide) dX6_wireStatement_146 (fun c42 hc42 fc42 => ?_)
          refine gi_getF (pc := 149) (q := c42 + 13) hv11 fL_X6_71 (by rcases hc42 with rfl | rfl <;> rfl) (Nat.le_of_ble_eq_true rfl) rfl (by rcases hc42 with rfl | rfl <;> exact hv11.rf (by decide)) dX6_wireStatement_149 ?_
          refine go_iload (pc := 152) rfl dX6_wireStatement_152 ?_
          refine go_iload (pc := 154) rfl dX6_wireStatement_154 ?_
          refine gi_iast (pc := 156) (lo := 0) (hi := 44) (len := 40) hv11 (ti_rfl l5) (ti_rfl l6) (by rcases hc42 with rfl | rfl <;> rfl) (by omega) (by omega) (fun _ => by rcases hc42 with rfl | rfl <;> rfl) (by omega) (by omega) (by rcases hc42 with rfl | rfl <;> decide) dX6_wireStatement_156 (fun h43 hv43 hv43e => ?_)
          refine go_goto (pc := 157) (tgt := 279) (by decide) dX6_wireStatement_157 ?_
          exact go_lv rfl (ih.2.2.2 l5 h43 hv43 (by omega) (by omega) (by omega))
      ·
        intro l5 hx hvx l5l l5u hm
        refine go_iload (pc := 279) rfl dX6_wireStatement_279 ?_
        exact gi_iret (pc := 281) (ti_rfl l5) ⟨_, rfl, (by rw [show (l5 : Int32).toInt = l5.toInt from (ti_rfl l5)]; omega), (by rw [show (l5 : Int32).toInt = l5.toInt from (ti_rfl l5)]; omega), hvx⟩ hvx dX6_wireStatement_281
  refine go_aload_n (pc := 0) rfl dX6_wireStatement_0 ?_
  refine gi_getF (pc := 1) (q := 36) hv fL_X6_9 rfl (Nat.le_of_ble_eq_true rfl) rfl (hv.rf (by decide)) dX6_wireStatement_1 ?_
  refine gi_getF (pc := 4) (q := 37) hv fL_X6_38 rfl (Nat.le_of_ble_eq_true rfl) rfl (hv.rf (by decide)) dX6_wireStatement_4 ?_
  refine go_iload_n (pc := 7) rfl dX6_wireStatement_7 ?_
  refine gi_iald (pc := 8) (lo := -1) (hi := 39) (len := 128) hv (ti_rfl a2) rfl (by omega) (by omega) (fun _ => rfl) dX6_wireStatement_8 (fun v44 v44l v44u v44w => ?_)
  have kk : 0 ≤ v44.toInt := by rw [v44w]; exact hp
  refine go_istore (pc := 9) (Nat.le_of_ble_eq_true rfl) dX6_wireStatement_9 (go_lv (lv2 := [(0, .ref 48), (1, .int a2), (2, .int a3), (3, .int a4), (4, .int a5), (5, .int v44)]) rfl ?_)
  refine go_bipush (pc := 11) (v := 40) (by decide) dX6_wireStatement_11 ?_
  refine go_aload_n (pc := 13) rfl dX6_wireStatement_13 ?_
  refine gi_getC (pc := 14) hv fL_X6_15 rfl (Nat.le_of_ble_eq_true rfl) rfl (by decide) dX6_wireStatement_14 (fun c45 hc45 fc45 => ?_)
  refine gi_getF (pc := 17) (q := c45 + 3) hv fL_X6_62 (by rcases hc45 with rfl | rfl <;> rfl) (Nat.le_of_ble_eq_true rfl) rfl (by rcases hc45 with rfl | rfl <;> exact hv.rf (by decide)) dX6_wireStatement_17 ?_
  refine go_iload (pc := 20) rfl dX6_wireStatement_20 ?_
  refine gi_iald (pc := 22) (lo := -1) (hi := 4) (len := 40) hv (ti_rfl v44) (by rcases hc45 with rfl | rfl <;> rfl) (by omega) (by omega) (fun _ => by rcases hc45 with rfl | rfl <;> rfl) dX6_wireStatement_22 (fun v46 v46l v46u v46w => ?_)
  refine gf_iadd (pc := 23) (ti_c (v := 40) (a := 40) (by decide)) (ti_rfl v46) (by omega) (by omega) dX6_wireStatement_23 (fun v47 e48 => ?_)
  refine go_istore (pc := 24) (Nat.le_of_ble_eq_true rfl) dX6_wireStatement_24 (go_lv (lv2 := [(0, .ref 48), (1, .int a2), (2, .int a3), (3, .int a4), (4, .int a5), (5, .int v44), (6, .int v47)]) rfl ?_)
  refine go_aload_n (pc := 26) rfl dX6_wireStatement_26 ?_
  refine gi_getC (pc := 27) hv fL_X6_15 rfl (Nat.le_of_ble_eq_true rfl) rfl (by decide) dX6_wireStatement_27 (fun c49 hc49 fc49 => ?_)
  refine gi_getF (pc := 30) (q := c49 + 11) hv fL_X6_65 (by rcases hc49 with rfl | rfl <;> rfl) (Nat.le_of_ble_eq_true rfl) rfl (by rcases hc49 with rfl | rfl <;> exact hv.rf (by decide)) dX6_wireStatement_30 ?_
  refine go_iload (pc := 33) rfl dX6_wireStatement_33 ?_
  refine go_iload_n (pc := 35) rfl dX6_wireStatement_35 ?_
  refine gi_iast (pc := 36) (lo := 0) (hi := 44) (len := 40) hv (ti_rfl v44) (ti_rfl a3) (by rcases hc49 with rfl | rfl <;> rfl) (by omega) (by omega) (fun _ => by rcases hc49 with rfl | rfl <;> rfl) (by omega) (by omega) (by rcases hc49 with rfl | rfl <;> decide) dX6_wireStatement_36 (fun h50 hv50 hv50e => ?_)
  refine go_aload_n (pc := 37) rfl dX6_wireStatement_37 ?_
  refine gi_getC (pc := 38) hv50 fL_X6_15 rfl (Nat.le_of_ble_eq_true rfl) rfl (by decide) dX6_wireStatement_38 (fun c51 hc51 fc51 => ?_)
  refine gi_getF (pc := 41) (q := c51 + 12) hv50 fL_X6_68 (by rcases hc51 with rfl | rfl <;> rfl) (Nat.le_of_ble_eq_true rfl) rfl (by rcases hc51 with rfl | rfl <;> exact hv50.rf (by decide)) dX6_wireStatement_41 ?_
  refine go_iload (pc := 44) rfl dX6_wireStatement_44 ?_
  refine go_iload_n (pc := 46) rfl dX6_wireStatement_46 ?_
  refine gi_iast (pc := 47) (lo := 0) (hi := 44) (len := 40) hv50 (ti_rfl v44) (ti_rfl a3) (by rcases hc51 with rfl | rfl <;> rfl) (by omega) (by omega) (fun _ => by rcases hc51 with rfl | rfl <;> rfl) (by omega) (by omega) (by rcases hc51 with rfl | rfl <;> decide) dX6_wireStatement_47 (fun h52 hv52 hv52e => ?_)
  refine go_aload_n (pc := 48) rfl dX6_wireStatement_48 ?_
  refine gi_getC (pc := 49) hv52 fL_X6_15 rfl (Nat.le_of_ble_eq_true rfl) rfl (by decide) dX6_wireStatement_49 (fun c53 hc53 fc53 => ?_)
  refine gi_getF (pc := 52) (q := c53 + 13) hv52 fL_X6_71 (by rcases hc53 with rfl | rfl <;> rfl) (Nat.le_of_ble_eq_true rfl) rfl (by rcases hc53 with rfl | rfl <;> exact hv52.rf (by decide)) dX6_wireStatement_52 ?_
  refine go_iload (pc := 55) rfl dX6_wireStatement_55 ?_
  refine go_iload_n (pc := 57) rfl dX6_wireStatement_57 ?_
  refine gf_if_ge (pc := 58) (tgt := 66) (ti_rfl a4) (by decide) dX6_wireStatement_58 (fun q54 => ?_) (fun q54 => ?_)
  ·
    refine go_aload_n (pc := 66) rfl dX6_wireStatement_66 ?_
    refine gi_getF (pc := 67) (q := 36) hv52 fL_X6_9 rfl (Nat.le_of_ble_eq_true rfl) rfl (hv52.rf (by decide)) dX6_wireStatement_67 ?_
    refine gi_getF (pc := 70) (q := 42) hv52 fL_X6_53 rfl (Nat.le_of_ble_eq_true rfl) rfl (hv52.rf (by decide)) dX6_wireStatement_70 ?_
    refine go_iload_n (pc := 73) rfl dX6_wireStatement_73 ?_
    refine gi_iald (pc := 74) (lo := 0) (hi := 44) (len := 128) hv52 (ti_rfl a4) rfl (by omega) (by omega) (fun _ => rfl) dX6_wireStatement_74 (fun v55 v55l v55u v55w => ?_)
    have z56 : (v47 : Int32).toInt = (40 + v46.toInt) := e48
    exact go_lv rfl ((key 17).1 a2 a3 a4 a5 v44 v47 v55 v44 c53 h52 hv52 (by omega) (by omega) (by omega) (by omega) (by omega) (by omega) (by omega) (by omega) (by omega) (by omega) (by omega) (by omega) (by omega) (by omega) (by omega) (by omega) hc53 (by omega))
  ·
    refine go_iload (pc := 61) rfl dX6_wireStatement_61 ?_
    refine go_goto (pc := 63) (tgt := 75) (by decide) dX6_wireStatement_63 ?_
    have z57 : (v47 : Int32).toInt = (40 + v46.toInt) := e48
    have z58 : (v47 : Int32).toInt = (40 + v46.toInt) := e48
    exact go_lv rfl ((key 17).1 a2 a3 a4 a5 v44 v47 v47 v44 c53 h52 hv52 (by omega) (by omega) (by omega) (by omega) (by omega) (by omega) (by omega) (by omega) (by omega) (by omega) (by omega) (by omega) (by omega) (by omega) (by omega) (by omega) hc53 (by omega))
set_option maxHeartbeats 4000000 in
set_option maxRecDepth 100000 in
theorem s_X6_wireBlock_lv2 (l : Launch) (d : Nat) {P : PP} {h : HP} (hv : Iv P h) (a2 : Int32) (a2l : -1 ≤ a2.toInt) (a2u : a2.toInt ≤ 127) (a3 : Int32) (a3l : 0 ≤ a3.toInt) (a3u : a3.toInt ≤ 44) (a4 : Int32) (a4l : -1 ≤ a4.toInt) (a4u : a4.toInt ≤ 127) (a5 : Int32) (a5l : 2 ≤ a5.toInt) (a5u : a5.toInt ≤ 2) : Mt l yX6_wireBlock cX6_wireBlock 8 (some .int) (d + 11) [.ref 48, .int a2, .int a3, .int a4, .int a5] h 0 0 (fun r h' => ∃ v : Int32, r = some (.int v) ∧ 0 ≤ v.toInt ∧ v.toInt ≤ 44 ∧ Iv P h') := by
  refine Mt_iv hv (by decide) (Nat.le_of_ble_eq_true rfl) ?_
  show Go l RX6 cX6_wireBlock 8 (g_rm (d + 11) 0 0) "wireBlock" (some .int) 117 0 0 (fun _ _ => True) (fun r h' => ∃ v : Int32, r = some (.int v) ∧ 0 ≤ v.toInt ∧ v.toInt ≤ 44 ∧ Iv P h') 0 0 [(0, .ref 48), (1, .int a2), (2, .int a3), (3, .int a4), (4, .int a5)] [] h
  have key : ∀ n : Nat, (∀ (l3 : Int32) (l4 : Int32) (l5 : Int32) (s0 : Int32) (hx : HP), Iv P hx → -1 ≤ l3.toInt → l3.toInt ≤ 127 → 2 ≤ l4.toInt → l4.toInt ≤ 2 → 0 ≤ l5.toInt → l5.toInt ≤ 44 → -1 ≤ s0.toInt → s0.toInt ≤ 127 → (522 : Int) < n → Go l RX6 cX6_wireBlock 8 (g_rm (d + 11) 0 0) "wireBlock" (some .int) 117 0 0 (fun _ _ => True) (fun r h' => ∃ v : Int32, r = some (.int v) ∧ 0 ≤ v.toInt ∧ v.toInt ≤ 44 ∧ Iv P h') 0 15 [(0, .ref 48), (3, .int l3), (4, .int l4), (5, .int l5)] [.int s0] hx) ∧ (∀ (l3 : Int32) (l4 : Int32) (l5 : Int32) (l6 : Int32) (l7 : Int32) (hx : HP), Iv P hx → -1 ≤ l3.toInt → l3.toInt ≤ 127 → 2 ≤ l4.toInt → l4.toInt ≤ 2 → 0 ≤ l5.toInt → l5.toInt ≤ 44 → -1 ≤ l6.toInt → l6.toInt ≤ 127 → 0 ≤ l7.toInt → l7.toInt ≤ 128 → (4 * (128 - l7.toInt) + 4 : Int) < n → Go l RX6 cX6_wireBlock 8 (g_rm (d + 11) 0 0) "wireBlock" (some .int) 117 0 0 (fun _ _ => True) (fun r h' => ∃ v : Int32, r = some (.int v) ∧ 0 ≤ v.toInt ∧ v.toInt ≤ 44 ∧ Iv P h') 0 20 [(0, .ref 48), (3, .int l3), (4, .int l4), (5, .int l5), (6, .int l6), (7, .int l7)] [] hx) ∧ (∀ (l3 : Int32) (l4 : Int32) (l5 : Int32) (l6 : Int32) (l7 : Int32) (hx : HP), Iv P hx → -1 ≤ l3.toInt → l3.toInt ≤ 127 → 2 ≤ l4.toInt → l4.toInt ≤ 2 → 0 ≤ l5.toInt → l5.toInt ≤ 44 → 0 ≤ l6.toInt → l6.toInt ≤ 127 → 0 ≤ l7.toInt → l7.toInt ≤ 127 → (4 * (128 - l7.toInt) + 3 : Int) < n → Go l RX6 cX6_wireBlock 8 (g_rm (d + 11) 0 0) "wireBlock" (some .int) 117 0 0 (fun _ _ => True) (fun r h' => ∃ v : Int32, r = some (.int v) ∧ 0 ≤ v.toInt ∧ v.toInt ≤ 44 ∧ Iv P h') 0 76 [(0, .ref 48), (3, .int l3), (4, .int l4), (5, .int l5), (6, .int l6), (7, .int l7)] [] hx) ∧ (∀ (l5 : Int32) (hx : HP), Iv P hx → 0 ≤ l5.toInt → l5.toInt ≤ 44 → (1 : Int) < n → Go l RX6 cX6_wireBlock 8 (g_rm (d + 11) 0 0) "wireBlock" (some .int) 117 0 0 (fun _ _ => True) (fun r h' => ∃ v : Int32, r = some (.int v) ∧ 0 ≤ v.toInt ∧ v.toInt ≤ 44 ∧ Iv P h') 0 94 [(5, .int l5)] [] hx) := by
    intro n
    induction n with
    | zero => exact ⟨(by intros; omega), (by intros; omega), (by intros; omega), (by intros; omega)⟩
    | succ n ih =>
      refine ⟨?_, ?_, ?_, ?_⟩
      ·
        intro l3 l4 l5 s0 hx hvx l3l l3u l4l l4u l5l l5u s0l s0u hm
        refine go_istore (pc := 15) (Nat.le_of_ble_eq_true rfl) dX6_wireBlock_15 (go_lv (lv2 := [(0, .ref 48), (3, .int l3), (4, .int l4), (5, .int l5), (6, .int s0)]) rfl ?_)
        refine go_iconst (pc := 17) (v := 0) (by decide) dX6_wireBlock_17 ?_
        refine go_istore (pc := 18) (Nat.le_of_ble_eq_true rfl) dX6_wireBlock_18 (go_lv (lv2 := [(0, .ref 48), (3, .int l3), (4, .int l4), (5, .int l5), (6, .int s0), (7, .int 0)]) rfl ?_)
        have z1 : (0 : Int32).toInt = 0 := (ti_c (v := 0) (a := 0) (by decide))
        exact go_lv rfl (ih.2.1 l3 l4 l5 s0 0 hx hvx (by omega) (by omega) (by omega) (by omega) (by omega) (by omega) (by omega) (by omega) (by omega) (by omega) (by omega))
      ·
        intro l3 l4 l5 l6 l7 hx hvx l3l l3u l4l l4u l5l l5u l6l l6u l7l l7u hm
        refine go_iload (pc := 20) rfl dX6_wireBlock_20 ?_
        refine go_sipush (pc := 22) (v := 128) (by decide) dX6_wireBlock_22 ?_
        refine gf_icmp_ge (pc := 25) (tgt := 94) (ti_rfl l7) (ti_c (v := 128) (a := 128) (by decide)) (by decide) dX6_wireBlock_25 (fun q2 => ?_) (fun q2 => ?_)
        ·
          exact go_lv rfl (ih.2.2.2 l5 hx hvx (by omega) (by omega) (by omega))
        ·
          refine go_iload (pc := 28) rfl dX6_wireBlock_28 ?_
          refine gf_if_lt (pc := 30) (tgt := 94) (ti_rfl l6) (by decide) dX6_wireBlock_30 (fun q3 => ?_) (fun q3 => ?_)
          ·
            exact go_lv rfl (ih.2.2.2 l5 hx hvx (by omega) (by omega) (by omega))
          ·
            refine go_aload_n (pc := 33) rfl dX6_wireBlock_33 ?_
            refine gi_getF (pc := 34) (q := 36) hvx fL_X6_9 rfl (Nat.le_of_ble_eq_true rfl) rfl (hvx.rf (by decide)) dX6_wireBlock_34 ?_
            refine gi_getF (pc := 37) (q := 37) hvx fL_X6_38 rfl (Nat.le_of_ble_eq_true rfl) rfl (hvx.rf (by decide)) dX6_wireBlock_37 ?_
            refine go_iload (pc := 40) rfl dX6_wireBlock_40 ?_
            refine gi_iald (pc := 42) (lo := -1) (hi := 39) (len := 128) hvx (ti_rfl l6) rfl (by omega) (by omega) (fun _ => rfl) dX6_wireBlock_42 (fun v4 v4l v4u v4w => ?_)
            refine go_iconst (pc := 43) (v := (-1)) (by decide) dX6_wireBlock_43 ?_
            refine gf_icmp_ne (pc := 44) (tgt := 63) (ti_rfl v4) (ti_c (v := (-1)) (a := (-1)) (by decide)) (by decide) dX6_wireBlock_44 (fun q5 => ?_) (fun q5 => ?_)
            ·
              refine go_aload_n (pc := 63) rfl dX6_wireBlock_63 ?_
              refine go_iload (pc := 64) rfl dX6_wireBlock_64 ?_
              refine go_iload (pc := 66) rfl dX6_wireBlock_66 ?_
              refine go_iload_n (pc := 68) rfl dX6_wireBlock_68 ?_
              refine go_iload (pc := 69) rfl dX6_wireBlock_69 ?_
              refine go_invV (pc := 71) (sl := 0) (s_X6_wireStatement_lv2 l (d + 0) hvx l6 (by rw [show (l6 : Int32).toInt = l6.toInt from (ti_rfl l6)]; omega) (by rw [show (l6 : Int32).toInt = l6.toInt from (ti_rfl l6)]; omega) l5 (by rw [show (l5 : Int32).toInt = l5.toInt from (ti_rfl l5)]; omega) (by rw [show (l5 : Int32).toInt = l5.toInt from (ti_rfl l5)]; omega) l3 (by rw [show (l3 : Int32).toInt = l3.toInt from (ti_rfl l3)]; omega) (by rw [show (l3 : Int32).toInt = l3.toInt from (ti_rfl l3)]; omega) l4 (by rw [show (l4 : Int32).toInt = l4.toInt from (ti_rfl l4)]; omega) (by rw [show (l4 : Int32).toInt = l4.toInt from (ti_rfl l4)]; omega) (by rw [← v4w]; omega)) mL_X6_44 iM_X6_wireStatement sM_X6_wireStatement (hvx.sh rfl) rfl rfl rfl (Nat.le_of_ble_eq_true rfl) (show d + 0 + 10 + 1 ≤ d + 11 by omega) (show 8 + (7 + 11) + 40 * (d + 0 + 10) ≤ 40 * (d + 11) by omega) (g_c0 hvx.ln) (Nat.le_of_ble_eq_true rfl) dX6_wireBlock_71 ?_
              intro r h6 hq _
              obtain ⟨v7, rfl, v7l, v7u, hv6⟩ := hq
              refine go_istore (pc := 74) (Nat.le_of_ble_eq_true rfl) dX6_wireBlock_74 (go_lv (lv2 := [(0, .ref 48), (3, .int l3), (4, .int l4), (5, .int v7), (6, .int l6), (7, .int l7)]) rfl ?_)
              exact go_lv rfl (ih.2.2.1 l3 l4 v7 l6 l7 h6 hv6 (by omega) (by omega) (by omega) (by omega) (by omega) (by omega) (by omega) (by omega) (by omega) (by omega) (by omega))
            ·
              refine go_aload_n (pc := 47) rfl dX6_wireBlock_47 ?_
              refine go_iload (pc := 48) rfl dX6_wireBlock_48 ?_
              refine go_iload (pc := 50) rfl dX6_wireBlock_50 ?_
              refine go_iload_n (pc := 52) rfl dX6_wireBlock_52 ?_
              refine go_iload (pc := 53) rfl dX6_wireBlock_53 ?_
              refine go_invV (pc := 55) (sl := 0) (s_X6_wireTry_lv2 l (d + 0) hvx l6 (by rw [show (l6 : Int32).toInt = l6.toInt from (ti_rfl l6)]; omega) (by rw [show (l6 : Int32).toInt = l6.toInt from (ti_rfl l6)]; omega) l5 (by rw [show (l5 : Int32).toInt = l5.toInt from (ti_rfl l5)]; omega) (by rw [show (l5 : Int32).toInt = l5.toInt from (ti_rfl l5)]; omega) l3 (by rw [show (l3 : Int32).toInt = l3.toInt from (ti_rfl l3)]; omega) (by rw [show (l3 : Int32).toInt = l3.toInt from (ti_rfl l3)]; omega) l4 (by rw [show (l4 : Int32).toInt = l4.toInt from (ti_rfl l4)]; omega) (by rw [show (l4 : Int32).toInt = l4.toInt from (ti_rfl l4)]; omega)) mL_X6_41 iM_X6_wireTry sM_X6_wireTry (hvx.sh rfl) rfl rfl rfl (Nat.le_of_ble_eq_true rfl) (show d + 0 + 10 + 1 ≤ d + 11 by omega) (show 8 + (6 + 11) + 40 * (d + 0 + 10) ≤ 40 * (d + 11) by omega) (g_c0 hvx.ln) (Nat.le_of_ble_eq_true rfl) dX6_wireBlock_55 ?_
              intro r h8 hq _
              obtain ⟨v9, rfl, v9l, v9u, hv8⟩ := hq
              refine go_istore (pc := 58) (Nat.le_of_ble_eq_true rfl) dX6_wireBlock_58 (go_lv (lv2 := [(0, .ref 48), (3, .int l3), (4, .int l4), (5, .int v9), (6, .int l6), (7, .int l7)]) rfl ?_)
              refine go_goto (pc := 60) (tgt := 76) (by decide) dX6_wireBlock_60 ?_
              exact go_lv rfl (ih.2.2.1 l3 l4 v9 l6 l7 h8 hv8 (by omega) (by omega) (by omega) (by omega) (by omega) (by omega) (by omega) (by omega) (by omega) (by omega) (by omega))
      ·
        intro l3 l4 l5 l6 l7 hx hvx l3l l3u l4l l4u l5l l5u l6l l6u l7l l7u hm
        refine go_aload_n (pc := 76) rfl dX6_wireBlock_76 ?_
        refine gi_getF (pc := 77) (q := 36) hvx fL_X6_9 rfl (Nat.le_of_ble_eq_true rfl) rfl (hvx.rf (by decide)) dX6_wireBlock_77 ?_
        refine gi_getF (pc := 80) (q := 38) hvx fL_X6_47 rfl (Nat.le_of_ble_eq_true rfl) rfl (hvx.rf (by decide)) dX6_wireBlock_80 ?_
        refine go_iload (pc := 83) rfl dX6_wireBlock_83 ?_
        refine gi_iald (pc := 85) (lo := -1) (hi := 127) (len := 128) hvx (ti_rfl l6) rfl (by omega) (by omega) (fun _ => rfl) dX6_wireBlock_85 (fun v10 v10l v10u v10w => ?_)
        refine go_istore (pc := 86) (Nat.le_of_ble_eq_true rfl) dX6_wireBlock_86 (go_lv (lv2 := [(0, .ref 48), (3, .int l3), (4, .int l4), (5, .int l5), (6, .int v10), (7, .int l7)]) rfl ?_)
        refine gf_iinc (pc := 88) (Nat.le_of_ble_eq_true rfl) rfl (ti_rfl l7) (ti_c (by decide)) (by omega) (by omega) dX6_wireBlock_88 (fun v11 e12 => ?_)
        refine go_lv (lv2 := [(0, .ref 48), (3, .int l3), (4, .int l4), (5, .int l5), (6, .int v10), (7, .int v11)]) rfl ?_
        refine go_goto (pc := 91) (tgt := 20) (by decide) dX6_wireBlock_91 ?_
        have z13 : (v11 : Int32).toInt = (l7.toInt + 1) := e12
        exact go_lv rfl (ih.2.1 l3 l4 l5 v10 v11 hx hvx (by omega) (by omega) (by omega) (by omega) (by omega) (by omega) (by omega) (by omega) (by omega) (by omega) (by omega))
      ·
        intro l5 hx hvx l5l l5u hm
        refine go_iload (pc := 94) rfl dX6_wireBlock_94 ?_
        exact gi_iret (pc := 96) (ti_rfl l5) ⟨_, rfl, (by rw [show (l5 : Int32).toInt = l5.toInt from (ti_rfl l5)]; omega), (by rw [show (l5 : Int32).toInt = l5.toInt from (ti_rfl l5)]; omega), hvx⟩ hvx dX6_wireBlock_96
  refine go_iload_n (pc := 0) rfl dX6_wireBlock_0 ?_
  refine go_istore (pc := 1) (Nat.le_of_ble_eq_true rfl) dX6_wireBlock_1 (go_lv (lv2 := [(0, .ref 48), (1, .int a2), (2, .int a3), (3, .int a4), (4, .int a5), (5, .int a3)]) rfl ?_)
  refine go_iload (pc := 3) rfl dX6_wireBlock_3 ?_
  refine go_bipush (pc := 5) (v := 6) (by decide) dX6_wireBlock_5 ?_
  refine gf_icmp_le (pc := 7) (tgt := 14) (ti_rfl a5) (ti_c (v := 6) (a := 6) (by decide)) (by decide) dX6_wireBlock_7 (fun q14 => ?_) (fun q14 => False.elim (by omega))
  refine go_iload_n (pc := 14) rfl dX6_wireBlock_14 ?_
  exact go_lv rfl ((key 535).1 a4 a5 a3 a2 h hv (by omega) (by omega) (by omega) (by omega) (by omega) (by omega) (by omega) (by omega) (by omega))
set_option maxHeartbeats 4000000 in
set_option maxRecDepth 100000 in
theorem s_X6_wireTry_lv1 (l : Launch) (d : Nat) {P : PP} {h : HP} (hv : Iv P h) (a2 : Int32) (a2l : 0 ≤ a2.toInt) (a2u : a2.toInt ≤ 127) (a3 : Int32) (a3l : 0 ≤ a3.toInt) (a3u : a3.toInt ≤ 44) (a4 : Int32) (a4l : -1 ≤ a4.toInt) (a4u : a4.toInt ≤ 127) (a5 : Int32) (a5l : 1 ≤ a5.toInt) (a5u : a5.toInt ≤ 1) : Mt l yX6_wireTry cX6_wireTry 6 (some .int) (d + 12) [.ref 48, .int a2, .int a3, .int a4, .int a5] h 0 0 (fun r h' => ∃ v : Int32, r = some (.int v) ∧ 0 ≤ v.toInt ∧ v.toInt ≤ 44 ∧ Iv P h') := by
  refine Mt_iv hv (by decide) (Nat.le_of_ble_eq_true rfl) ?_
  show Go l RX6 cX6_wireTry 6 (g_rm (d + 12) 0 0) "wireTry" (some .int) 117 0 0 (fun _ _ => True) (fun r h' => ∃ v : Int32, r = some (.int v) ∧ 0 ≤ v.toInt ∧ v.toInt ≤ 44 ∧ Iv P h') 0 0 [(0, .ref 48), (1, .int a2), (2, .int a3), (3, .int a4), (4, .int a5)] [] h
  have key : ∀ n : Nat, (∀ (l1 : Int32) (l2 : Int32) (l4 : Int32) (s0 : Int32) (s1 : Int32) (hx : HP), Iv P hx → 0 ≤ l1.toInt → l1.toInt ≤ 127 → 0 ≤ l2.toInt → l2.toInt ≤ 44 → 1 ≤ l4.toInt → l4.toInt ≤ 1 → -2 ≤ s0.toInt → s0.toInt ≤ 44 → 0 ≤ s1.toInt → s1.toInt ≤ 127 → (1 : Int) < n → Go l RX6 cX6_wireTry 6 (g_rm (d + 12) 0 0) "wireTry" (some .int) 117 0 0 (fun _ _ => True) (fun r h' => ∃ v : Int32, r = some (.int v) ∧ 0 ≤ v.toInt ∧ v.toInt ≤ 44 ∧ Iv P h') 0 53 [(0, .ref 48), (1, .int l1), (2, .int l2), (4, .int l4)] [.int s0, .int s1, .ref 43] hx) := by
    intro n
    induction n with
    | zero => exact (by intros; omega)
    | succ n ih =>
      refine ?_
      ·
        intro l1 l2 l4 s0 s1 hx hvx l1l l1u l2l l2u l4l l4u s0l s0u s1l s1u hm
        refine gi_iast (pc := 53) (lo := -2) (hi := 44) (len := 128) hvx (ti_rfl s1) (ti_rfl s0) rfl (by omega) (by omega) (fun _ => rfl) (by omega) (by omega) (by decide) dX6_wireTry_53 (fun h1 hv1 hv1e => ?_)
        refine go_aload_n (pc := 54) rfl dX6_wireTry_54 ?_
        refine go_aload_n (pc := 55) rfl dX6_wireTry_55 ?_
        refine gi_getF (pc := 56) (q := 36) hv1 fL_X6_9 rfl (Nat.le_of_ble_eq_true rfl) rfl (hv1.rf (by decide)) dX6_wireTry_56 ?_
        refine gi_getF (pc := 59) (q := 39) hv1 fL_X6_59 rfl (Nat.le_of_ble_eq_true rfl) rfl (hv1.rf (by decide)) dX6_wireTry_59 ?_
        refine go_iload_n (pc := 62) rfl dX6_wireTry_62 ?_
        refine gi_iald (pc := 63) (lo := -1) (hi := 127) (len := 128) hv1 (ti_rfl l1) rfl (by omega) (by omega) (fun _ => rfl) dX6_wireTry_63 (fun v2 v2l v2u v2w => ?_)
        refine go_iload_n (pc := 64) rfl dX6_wireTry_64 ?_
        refine go_iload_n (pc := 65) rfl dX6_wireTry_65 ?_
        refine go_iload (pc := 66) rfl dX6_wireTry_66 ?_
        refine go_iconst (pc := 68) (v := 1) (by decide) dX6_wireTry_68 ?_
        refine gf_iadd (pc := 69) (ti_rfl l4) (ti_c (v := 1) (a := 1) (by decide)) (by omega) (by omega) dX6_wireTry_69 (fun v3 e4 => ?_)
        refine go_invV (pc := 70) (sl := 0) (s_X6_wireBlock_lv2 l (d + 0) hv1 v2 (by rw [show (v2 : Int32).toInt = v2.toInt from (ti_rfl v2)]; omega) (by rw [show (v2 : Int32).toInt = v2.toInt from (ti_rfl v2)]; omega) l2 (by rw [show (l2 : Int32).toInt = l2.toInt from (ti_rfl l2)]; omega) (by rw [show (l2 : Int32).toInt = l2.toInt from (ti_rfl l2)]; omega) l1 (by rw [show (l1 : Int32).toInt = l1.toInt from (ti_rfl l1)]; omega) (by rw [show (l1 : Int32).toInt = l1.toInt from (ti_rfl l1)]; omega) v3 (by rw [show (v3 : Int32).toInt = (l4.toInt + 1) from e4]; omega) (by rw [show (v3 : Int32).toInt = (l4.toInt + 1) from e4]; omega)) mL_X6_34 iM_X6_wireBlock sM_X6_wireBlock (hv1.sh rfl) rfl rfl rfl (Nat.le_of_ble_eq_true rfl) (show d + 0 + 11 + 1 ≤ d + 12 by omega) (show 8 + (8 + 11) + 40 * (d + 0 + 11) ≤ 40 * (d + 12) by omega) (g_c0 hv1.ln) (Nat.le_of_ble_eq_true rfl) dX6_wireTry_70 ?_
        intro r h5 hq _
        obtain ⟨v6, rfl, v6l, v6u, hv5⟩ := hq
        exact gi_iret (pc := 73) (ti_rfl v6) ⟨_, rfl, (by rw [show (v6 : Int32).toInt = v6.toInt from (ti_rfl v6)]; omega), (by rw [show (v6 : Int32).toInt = v6.toInt from (ti_rfl v6)]; omega), hv5⟩ hv5 dX6_wireTry_73
  refine go_aload_n (pc := 0) rfl dX6_wireTry_0 ?_
  refine go_aload_n (pc := 1) rfl dX6_wireTry_1 ?_
  refine gi_getF (pc := 2) (q := 36) hv fL_X6_9 rfl (Nat.le_of_ble_eq_true rfl) rfl (hv.rf (by decide)) dX6_wireTry_2 ?_
  refine gi_getF (pc := 5) (q := 40) hv fL_X6_50 rfl (Nat.le_of_ble_eq_true rfl) rfl (hv.rf (by decide)) dX6_wireTry_5 ?_
  refine go_iload_n (pc := 8) rfl dX6_wireTry_8 ?_
  refine gi_iald (pc := 9) (lo := -1) (hi := 127) (len := 128) hv (ti_rfl a2) rfl (by omega) (by omega) (fun _ => rfl) dX6_wireTry_9 (fun v7 v7l v7u v7w => ?_)
  refine go_iload_n (pc := 10) rfl dX6_wireTry_10 ?_
  refine go_iload_n (pc := 11) rfl dX6_wireTry_11 ?_
  refine go_iload (pc := 12) rfl dX6_wireTry_12 ?_
  refine go_iconst (pc := 14) (v := 1) (by decide) dX6_wireTry_14 ?_
  refine gf_iadd (pc := 15) (ti_rfl a5) (ti_c (v := 1) (a := 1) (by decide)) (by omega) (by omega) dX6_wireTry_15 (fun v8 e9 => ?_)
  refine go_invV (pc := 16) (sl := 0) (s_X6_wireBlock_lv2 l (d + 0) hv v7 (by rw [show (v7 : Int32).toInt = v7.toInt from (ti_rfl v7)]; omega) (by rw [show (v7 : Int32).toInt = v7.toInt from (ti_rfl v7)]; omega) a3 (by rw [show (a3 : Int32).toInt = a3.toInt from (ti_rfl a3)]; omega) (by rw [show (a3 : Int32).toInt = a3.toInt from (ti_rfl a3)]; omega) a4 (by rw [show (a4 : Int32).toInt = a4.toInt from (ti_rfl a4)]; omega) (by rw [show (a4 : Int32).toInt = a4.toInt from (ti_rfl a4)]; omega) v8 (by rw [show (v8 : Int32).toInt = (a5.toInt + 1) from e9]; omega) (by rw [show (v8 : Int32).toInt = (a5.toInt + 1) from e9]; omega)) mL_X6_34 iM_X6_wireBlock sM_X6_wireBlock (hv.sh rfl) rfl rfl rfl (Nat.le_of_ble_eq_true rfl) (show d + 0 + 11 + 1 ≤ d + 12 by omega) (show 8 + (8 + 11) + 40 * (d + 0 + 11) ≤ 40 * (d + 12) by omega) (g_c0 hv.ln) (Nat.le_of_ble_eq_true rfl) dX6_wireTry_16 ?_
  intro r h10 hq _
  obtain ⟨v11, rfl, v11l, v11u, hv10⟩ := hq
  refine go_istore (pc := 19) (Nat.le_of_ble_eq_true rfl) dX6_wireTry_19 (go_lv (lv2 := [(0, .ref 48), (1, .int a2), (2, .int a3), (3, .int a4), (4, .int a5), (5, .int v11)]) rfl ?_)
  refine go_aload_n (pc := 21) rfl dX6_wireTry_21 ?_
  refine gi_getF (pc := 22) (q := 36) hv10 fL_X6_9 rfl (Nat.le_of_ble_eq_true rfl) rfl (hv10.rf (by decide)) dX6_wireTry_22 ?_
  refine gi_getF (pc := 25) (q := 42) hv10 fL_X6_53 rfl (Nat.le_of_ble_eq_true rfl) rfl (hv10.rf (by decide)) dX6_wireTry_25 ?_
  refine go_iload_n (pc := 28) rfl dX6_wireTry_28 ?_
  refine go_iload (pc := 29) rfl dX6_wireTry_29 ?_
  refine gi_iast (pc := 31) (lo := 0) (hi := 44) (len := 128) hv10 (ti_rfl a2) (ti_rfl v11) rfl (by omega) (by omega) (fun _ => rfl) (by omega) (by omega) (by decide) dX6_wireTry_31 (fun h12 hv12 hv12e => ?_)
  refine go_aload_n (pc := 32) rfl dX6_wireTry_32 ?_
  refine gi_getF (pc := 33) (q := 36) hv12 fL_X6_9 rfl (Nat.le_of_ble_eq_true rfl) rfl (hv12.rf (by decide)) dX6_wireTry_33 ?_
  refine gi_getF (pc := 36) (q := 43) hv12 fL_X6_56 rfl (Nat.le_of_ble_eq_true rfl) rfl (hv12.rf (by decide)) dX6_wireTry_36 ?_
  refine go_iload_n (pc := 39) rfl dX6_wireTry_39 ?_
  refine go_iload (pc := 40) rfl dX6_wireTry_40 ?_
  refine go_iload_n (pc := 42) rfl dX6_wireTry_42 ?_
  refine gf_icmp_ne (pc := 43) (tgt := 51) (ti_rfl v11) (ti_rfl a3) (by decide) dX6_wireTry_43 (fun q13 => ?_) (fun q13 => ?_)
  ·
    refine go_iload (pc := 51) rfl dX6_wireTry_51 ?_
    exact go_lv rfl ((key 14) a2 a3 a5 v11 a2 h12 hv12 (by omega) (by omega) (by omega) (by omega) (by omega) (by omega) (by omega) (by omega) (by omega) (by omega) (by omega))
  ·
    refine go_bipush (pc := 46) (v := (-2)) (by decide) dX6_wireTry_46 ?_
    refine go_goto (pc := 48) (tgt := 53) (by decide) dX6_wireTry_48 ?_
    have z14 : ((-2) : Int32).toInt = (-2) := (ti_c (v := (-2)) (a := (-2)) (by decide))
    exact go_lv rfl ((key 14) a2 a3 a5 (-2) a2 h12 hv12 (by omega) (by omega) (by omega) (by omega) (by omega) (by omega) (by omega) (by omega) (by omega) (by omega) (by omega))
set_option maxHeartbeats 4000000 in
set_option maxRecDepth 100000 in
theorem s_X6_wireStatement_lv1 (l : Launch) (d : Nat) {P : PP} {h : HP} (hv : Iv P h) (a2 : Int32) (a2l : 0 ≤ a2.toInt) (a2u : a2.toInt ≤ 127) (a3 : Int32) (a3l : 0 ≤ a3.toInt) (a3u : a3.toInt ≤ 44) (a4 : Int32) (a4l : -1 ≤ a4.toInt) (a4u : a4.toInt ≤ 127) (a5 : Int32) (a5l : 1 ≤ a5.toInt) (a5u : a5.toInt ≤ 1) (hp : 0 ≤ (h.2.1 37 a2.toInt.toNat).toInt) : Mt l yX6_wireStatement cX6_wireStatement 7 (some .int) (d + 12) [.ref 48, .int a2, .int a3, .int a4, .int a5] h 0 0 (fun r h' => ∃ v : Int32, r = some (.int v) ∧ 0 ≤ v.toInt ∧ v.toInt ≤ 44 ∧ Iv P h') := by
  refine Mt_iv hv (by decide) (Nat.le_of_ble_eq_true rfl) ?_
  show Go l RX6 cX6_wireStatement 7 (g_rm (d + 12) 0 0) "wireStatement" (some .int) 117 0 0 (fun _ _ => True) (fun r h' => ∃ v : Int32, r = some (.int v) ∧ 0 ≤ v.toInt ∧ v.toInt ≤ 44 ∧ Iv P h') 0 0 [(0, .ref 48), (1, .int a2), (2, .int a3), (3, .int a4), (4, .int a5)] [] h
  have key : ∀ n : Nat, (∀ (l1 : Int32) (l2 : Int32) (l3 : Int32) (l4 : Int32) (l5 : Int32) (l6 : Int32) (s0 : Int32) (s1 : Int32) (s2 : Nat) (hx : HP), Iv P hx → 0 ≤ l1.toInt → l1.toInt ≤ 127 → 0 ≤ l2.toInt → l2.toInt ≤ 44 → -1 ≤ l3.toInt → l3.toInt ≤ 127 → 1 ≤ l4.toInt → l4.toInt ≤ 1 → 0 ≤ l5.toInt → l5.toInt ≤ 39 → 39 ≤ l6.toInt → l6.toInt ≤ 44 → 0 ≤ s0.toInt → s0.toInt ≤ 44 → 0 ≤ s1.toInt → s1.toInt ≤ 39 → (s2 = 2 ∨ s2 = 18) → (4 : Int) < n → Go l RX6 cX6_wireStatement 7 (g_rm (d + 12) 0 0) "wireStatement" (some .int) 117 0 0 (fun _ _ => True) (fun r h' => ∃ v : Int32, r = some (.int v) ∧ 0 ≤ v.toInt ∧ v.toInt ≤ 44 ∧ Iv P h') 0 75 [(0, .ref 48), (1, .int l1), (2, .int l2), (3, .int l3), (4, .int l4), (5, .int l5), (6, .int l6)] [.int s0, .int s1, .ref (s2 + 13)] hx) ∧ (∀ (l1 : Int32) (l2 : Int32) (l3 : Int32) (l4 : Int32) (l5 : Int32) (l6 : Int32) (s0 : Int32) (s1 : Int32) (s2 : Nat) (hx : HP), Iv P hx → 0 ≤ l1.toInt → l1.toInt ≤ 127 → 0 ≤ l2.toInt → l2.toInt ≤ 44 → -1 ≤ l3.toInt → l3.toInt ≤ 127 → 1 ≤ l4.toInt → l4.toInt ≤ 1 → 0 ≤ l5.toInt → l5.toInt ≤ 39 → 39 ≤ l6.toInt → l6.toInt ≤ 44 → -1 ≤ s0.toInt → s0.toInt ≤ 5 → 0 ≤ s1.toInt → s1.toInt ≤ 39 → (s2 = 2 ∨ s2 = 18) → (3 : Int) < n → Go l RX6 cX6_wireStatement 7 (g_rm (d + 12) 0 0) "wireStatement" (some .int) 117 0 0 (fun _ _ => True) (fun r h' => ∃ v : Int32, r = some (.int v) ∧ 0 ≤ v.toInt ∧ v.toInt ≤ 44 ∧ Iv P h') 0 102 [(0, .ref 48), (1, .int l1), (2, .int l2), (3, .int l3), (4, .int l4), (5, .int l5), (6, .int l6)] [.int s0, .int s1, .ref (s2 + 14)] hx) ∧ (∀ (l1 : Int32) (l2 : Int32) (l3 : Int32) (l4 : Int32) (l5 : Int32) (l6 : Int32) (s0 : Int32) (s1 : Int32) (s2 : Nat) (hx : HP), Iv P hx → 0 ≤ l1.toInt → l1.toInt ≤ 127 → 0 ≤ l2.toInt → l2.toInt ≤ 44 → -1 ≤ l3.toInt → l3.toInt ≤ 127 → 1 ≤ l4.toInt → l4.toInt ≤ 1 → 0 ≤ l5.toInt → l5.toInt ≤ 39 → 39 ≤ l6.toInt → l6.toInt ≤ 44 → -2 ≤ s0.toInt → s0.toInt ≤ 44 → 0 ≤ s1.toInt → s1.toInt ≤ 39 → (s2 = 2 ∨ s2 = 18) → (2 : Int) < n → Go l RX6 cX6_wireStatement 7 (g_rm (d + 12) 0 0) "wireStatement" (some .int) 117 0 0 (fun _ _ => True) (fun r h' => ∃ v : Int32, r = some (.int v) ∧ 0 ≤ v.toInt ∧ v.toInt ≤ 44 ∧ Iv P h') 0 130 [(0, .ref 48), (1, .int l1), (2, .int l2), (3, .int l3), (4, .int l4), (5, .int l5), (6, .int l6)] [.int s0, .int s1, .ref (s2 + 15)] hx) ∧ (∀ (l5 : Int32) (hx : HP), Iv P hx → 0 ≤ l5.toInt → l5.toInt ≤ 39 → (1 : Int) < n → Go l RX6 cX6_wireStatement 7 (g_rm (d + 12) 0 0) "wireStatement" (some .int) 117 0 0 (fun _ _ => True) (fun r h' => ∃ v : Int32, r = some (.int v) ∧ 0 ≤ v.toInt ∧ v.toInt ≤ 44 ∧ Iv P h') 0 279 [(5, .int l5)] [] hx) := by
    intro n
    induction n with
    | zero => exact ⟨(by intros; omega), (by intros; omega), (by intros; omega), (by intros; omega)⟩
    | succ n ih =>
      refine ⟨?_, ?_, ?_, ?_⟩
      ·
        intro l1 l2 l3 l4 l5 l6 s0 s1 s2 hx hvx l1l l1u l2l l2u l3l l3u l4l l4u l5l l5u l6l l6u s0l s0u s1l s1u hs2 hm
        refine gi_iast (pc := 75) (lo := 0) (hi := 44) (len := 40) hvx (ti_rfl s1) (ti_rfl s0) (by rcases hs2 with rfl | rfl <;> rfl) (by omega) (by omega) (fun _ => by rcases hs2 with rfl | rfl <;> rfl) (by omega) (by omega) (by rcases hs2 with rfl | rfl <;> decide) dX6_wireStatement_75 (fun h1 hv1 hv1e => ?_)
        refine go_aload_n (pc := 76) rfl dX6_wireStatement_76 ?_
        refine gi_getC (pc := 77) hv1 fL_X6_15 rfl (Nat.le_of_ble_eq_true rfl) rfl (by decide) dX6_wireStatement_77 (fun c2 hc2 fc2 => ?_)
        refine gi_getF (pc := 80) (q := c2 + 14) hv1 fL_X6_74 (by rcases hc2 with rfl | rfl <;> rfl) (Nat.le_of_ble_eq_true rfl) rfl (by rcases hc2 with rfl | rfl <;> exact hv1.rf (by decide)) dX6_wireStatement_80 ?_
        refine go_iload (pc := 83) rfl dX6_wireStatement_83 ?_
        refine go_iload_n (pc := 85) rfl dX6_wireStatement_85 ?_
        refine gf_if_ge (pc := 86) (tgt := 93) (ti_rfl l3) (by decide) dX6_wireStatement_86 (fun q3 => ?_) (fun q3 => ?_)
        ·
          refine go_aload_n (pc := 93) rfl dX6_wireStatement_93 ?_
          refine gi_getF (pc := 94) (q := 36) hv1 fL_X6_9 rfl (Nat.le_of_ble_eq_true rfl) rfl (hv1.rf (by decide)) dX6_wireStatement_94 ?_
          refine gi_getF (pc := 97) (q := 41) hv1 fL_X6_77 rfl (Nat.le_of_ble_eq_true rfl) rfl (hv1.rf (by decide)) dX6_wireStatement_97 ?_
          refine go_iload_n (pc := 100) rfl dX6_wireStatement_100 ?_
          refine gi_iald (pc := 101) (lo := -1) (hi := 5) (len := 128) hv1 (ti_rfl l3) rfl (by omega) (by omega) (fun _ => rfl) dX6_wireStatement_101 (fun v4 v4l v4u v4w => ?_)
          exact go_lv rfl (ih.2.1 l1 l2 l3 l4 l5 l6 v4 l5 c2 h1 hv1 (by omega) (by omega) (by omega) (by omega) (by omega) (by omega) (by omega) (by omega) (by omega) (by omega) (by omega) (by omega) (by omega) (by omega) (by omega) (by omega) hc2 (by omega))
        ·
          refine go_iconst (pc := 89) (v := (-1)) (by decide) dX6_wireStatement_89 ?_
          refine go_goto (pc := 90) (tgt := 102) (by decide) dX6_wireStatement_90 ?_
          have z5 : ((-1) : Int32).toInt = (-1) := (ti_c (v := (-1)) (a := (-1)) (by decide))
          exact go_lv rfl (ih.2.1 l1 l2 l3 l4 l5 l6 (-1) l5 c2 h1 hv1 (by omega) (by omega) (by omega) (by omega) (by omega) (by omega) (by omega) (by omega) (by omega) (by omega) (by omega) (by omega) (by omega) (by omega) (by omega) (by omega) hc2 (by omega))
      ·
        intro l1 l2 l3 l4 l5 l6 s0 s1 s2 hx hvx l1l l1u l2l l2u l3l l3u l4l l4u l5l l5u l6l l6u s0l s0u s1l s1u hs2 hm
        refine gi_iast (pc := 102) (lo := -1) (hi := 5) (len := 40) hvx (ti_rfl s1) (ti_rfl s0) (by rcases hs2 with rfl | rfl <;> rfl) (by omega) (by omega) (fun _ => by rcases hs2 with rfl | rfl <;> rfl) (by omega) (by omega) (by rcases hs2 with rfl | rfl <;> decide) dX6_wireStatement_102 (fun h6 hv6 hv6e => ?_)
        refine go_aload_n (pc := 103) rfl dX6_wireStatement_103 ?_
        refine gi_getC (pc := 104) hv6 fL_X6_15 rfl (Nat.le_of_ble_eq_true rfl) rfl (by decide) dX6_wireStatement_104 (fun c7 hc7 fc7 => ?_)
        refine gi_getF (pc := 107) (q := c7 + 15) hv6 fL_X6_80 (by rcases hc7 with rfl | rfl <;> rfl) (Nat.le_of_ble_eq_true rfl) rfl (by rcases hc7 with rfl | rfl <;> exact hv6.rf (by decide)) dX6_wireStatement_107 ?_
        refine go_iload (pc := 110) rfl dX6_wireStatement_110 ?_
        refine go_iload_n (pc := 112) rfl dX6_wireStatement_112 ?_
        refine gf_if_ge (pc := 113) (tgt := 121) (ti_rfl l3) (by decide) dX6_wireStatement_113 (fun q8 => ?_) (fun q8 => ?_)
        ·
          refine go_aload_n (pc := 121) rfl dX6_wireStatement_121 ?_
          refine gi_getF (pc := 122) (q := 36) hv6 fL_X6_9 rfl (Nat.le_of_ble_eq_true rfl) rfl (hv6.rf (by decide)) dX6_wireStatement_122 ?_
          refine gi_getF (pc := 125) (q := 43) hv6 fL_X6_56 rfl (Nat.le_of_ble_eq_true rfl) rfl (hv6.rf (by decide)) dX6_wireStatement_125 ?_
          refine go_iload_n (pc := 128) rfl dX6_wireStatement_128 ?_
          refine gi_iald (pc := 129) (lo := -2) (hi := 44) (len := 128) hv6 (ti_rfl l3) rfl (by omega) (by omega) (fun _ => rfl) dX6_wireStatement_129 (fun v9 v9l v9u v9w => ?_)
          exact go_lv rfl (ih.2.2.1 l1 l2 l3 l4 l5 l6 v9 l5 c7 h6 hv6 (by omega) (by omega) (by omega) (by omega) (by omega) (by omega) (by omega) (by omega) (by omega) (by omega) (by omega) (by omega) (by omega) (by omega) (by omega) (by omega) hc7 (by omega))
        ·
          refine go_bipush (pc := 116) (v := (-2)) (by decide) dX6_wireStatement_116 ?_
          refine go_goto (pc := 118) (tgt := 130) (by decide) dX6_wireStatement_118 ?_
          have z10 : ((-2) : Int32).toInt = (-2) := (ti_c (v := (-2)) (a := (-2)) (by decide))
          exact go_lv rfl (ih.2.2.1 l1 l2 l3 l4 l5 l6 (-2) l5 c7 h6 hv6 (by omega) (by omega) (by omega) (by omega) (by omega) (by omega) (by omega) (by omega) (by omega) (by omega) (by omega) (by omega) (by omega) (by omega) (by omega) (by omega) hc7 (by omega))
      ·
        intro l1 l2 l3 l4 l5 l6 s0 s1 s2 hx hvx l1l l1u l2l l2u l3l l3u l4l l4u l5l l5u l6l l6u s0l s0u s1l s1u hs2 hm
        refine gi_iast (pc := 130) (lo := -2) (hi := 44) (len := 40) hvx (ti_rfl s1) (ti_rfl s0) (by rcases hs2 with rfl | rfl <;> rfl) (by omega) (by omega) (fun _ => by rcases hs2 with rfl | rfl <;> rfl) (by omega) (by omega) (by rcases hs2 with rfl | rfl <;> decide) dX6_wireStatement_130 (fun h11 hv11 hv11e => ?_)
        refine go_aload_n (pc := 131) rfl dX6_wireStatement_131 ?_
        refine gi_getC (pc := 132) hv11 fL_X6_15 rfl (Nat.le_of_ble_eq_true rfl) rfl (by decide) dX6_wireStatement_132 (fun c12 hc12 fc12 => ?_)
        refine gi_getF (pc := 135) (q := c12 + 2) hv11 fL_X6_81 (by rcases hc12 with rfl | rfl <;> rfl) (Nat.le_of_ble_eq_true rfl) rfl (by rcases hc12 with rfl | rfl <;> exact hv11.rf (by decide)) dX6_wireStatement_135 ?_
        refine go_iload (pc := 138) rfl dX6_wireStatement_138 ?_
        refine gi_iald (pc := 140) (lo := 0) (hi := 5) (len := 40) hv11 (ti_rfl l5) (by rcases hc12 with rfl | rfl <;> rfl) (by omega) (by omega) (fun _ => by rcases hc12 with rfl | rfl <;> rfl) dX6_wireStatement_140 (fun v13 v13l v13u v13w => ?_)
        refine go_iconst (pc := 141) (v := 5) (by decide) dX6_wireStatement_141 ?_
        refine gf_icmp_ne (pc := 142) (tgt := 160) (ti_rfl v13) (ti_c (v := 5) (a := 5) (by decide)) (by decide) dX6_wireStatement_142 (fun q14 => ?_) (fun q14 => ?_)
        ·
          refine go_aload_n (pc := 160) rfl dX6_wireStatement_160 ?_
          refine gi_getC (pc := 161) hv11 fL_X6_15 rfl (Nat.le_of_ble_eq_true rfl) rfl (by decide) dX6_wireStatement_161 (fun c15 hc15 fc15 => ?_)
          refine gi_getF (pc := 164) (q := c15 + 2) hv11 fL_X6_81 (by rcases hc15 with rfl | rfl <;> rfl) (Nat.le_of_ble_eq_true rfl) rfl (by rcases hc15 with rfl | rfl <;> exact hv11.rf (by decide)) dX6_wireStatement_164 ?_
          refine go_iload (pc := 167) rfl dX6_wireStatement_167 ?_
          refine gi_iald (pc := 169) (lo := 0) (hi := 5) (len := 40) hv11 (ti_rfl l5) (by rcases hc15 with rfl | rfl <;> rfl) (by omega) (by omega) (fun _ => by rcases hc15 with rfl | rfl <;> rfl) dX6_wireStatement_169 (fun v16 v16l v16u v16w => ?_)
          refine go_iconst (pc := 170) (v := 3) (by decide) dX6_wireStatement_170 ?_
          refine gf_icmp_ne (pc := 171) (tgt := 207) (ti_rfl v16) (ti_c (v := 3) (a := 3) (by decide)) (by decide) dX6_wireStatement_171 (fun q17 => ?_) (fun q17 => ?_)
          ·
            refine go_aload_n (pc := 207) rfl dX6_wireStatement_207 ?_
            refine gi_getC (pc := 208) hv11 fL_X6_15 rfl (Nat.le_of_ble_eq_true rfl) rfl (by decide) dX6_wireStatement_208 (fun c18 hc18 fc18 => ?_)
            refine gi_getF (pc := 211) (q := c18 + 2) hv11 fL_X6_81 (by rcases hc18 with rfl | rfl <;> rfl) (Nat.le_of_ble_eq_true rfl) rfl (by rcases hc18 with rfl | rfl <;> exact hv11.rf (by decide)) dX6_wireStatement_211 ?_
            refine go_iload (pc := 214) rfl dX6_wireStatement_214 ?_
            refine gi_iald (pc := 216) (lo := 0) (hi := 5) (len := 40) hv11 (ti_rfl l5) (by rcases hc18 with rfl | rfl <;> rfl) (by omega) (by omega) (fun _ => by rcases hc18 with rfl | rfl <;> rfl) dX6_wireStatement_216 (fun v19 v19l v19u v19w => ?_)
            refine go_iconst (pc := 217) (v := 2) (by decide) dX6_wireStatement_217 ?_
            refine gf_icmp_ne (pc := 218) (tgt := 279) (ti_rfl v19) (ti_c (v := 2) (a := 2) (by decide)) (by decide) dX6_wireStatement_218 (fun q20 => ?_) (fun q20 => ?_)
            ·
              exact go_lv rfl (ih.2.2.2 l5 h11 hv11 (by omega) (by omega) (by omega))
            ·
              refine go_aload_n (pc := 221) rfl dX6_wireStatement_221 ?_
              refine gi_getC (pc := 222) hv11 fL_X6_15 rfl (Nat.le_of_ble_eq_true rfl) rfl (by decide) dX6_wireStatement_222 (fun c21 hc21 fc21 => ?_)
              refine gi_getF (pc := 225) (q := c21 + 13) hv11 fL_X6_71 (by rcases hc21 with rfl | rfl <;> rfl) (Nat.le_of_ble_eq_true rfl) rfl (by rcases hc21 with rfl | rfl <;> exact hv11.rf (by decide)) dX6_wireStatement_225 ?_
              refine go_iload (pc := 228) rfl dX6_wireStatement_228 ?_
              refine go_aload_n (pc := 230) rfl dX6_wireStatement_230 ?_
              refine go_aload_n (pc := 231) rfl dX6_wireStatement_231 ?_
              refine gi_getF (pc := 232) (q := 36) hv11 fL_X6_9 rfl (Nat.le_of_ble_eq_true rfl) rfl (hv11.rf (by decide)) dX6_wireStatement_232 ?_
              refine gi_getF (pc := 235) (q := 39) hv11 fL_X6_59 rfl (Nat.le_of_ble_eq_true rfl) rfl (hv11.rf (by decide)) dX6_wireStatement_235 ?_
              refine go_iload_n (pc := 238) rfl dX6_wireStatement_238 ?_
              refine gi_iald (pc := 239) (lo := -1) (hi := 127) (len := 128) hv11 (ti_rfl l1) rfl (by omega) (by omega) (fun _ => rfl) dX6_wireStatement_239 (fun v22 v22l v22u v22w => ?_)
              refine go_iload_n (pc := 240) rfl dX6_wireStatement_240 ?_
              refine go_iload_n (pc := 241) rfl dX6_wireStatement_241 ?_
              refine go_iload (pc := 242) rfl dX6_wireStatement_242 ?_
              refine go_iconst (pc := 244) (v := 1) (by decide) dX6_wireStatement_244 ?_
              refine gf_iadd (pc := 245) (ti_rfl l4) (ti_c (v := 1) (a := 1) (by decide)) (by omega) (by omega) dX6_wireStatement_245 (fun v23 e24 => ?_)
              refine go_invV (pc := 246) (sl := 0) (s_X6_wireBlock_lv2 l (d + 0) hv11 v22 (by rw [show (v22 : Int32).toInt = v22.toInt from (ti_rfl v22)]; omega) (by rw [show (v22 : Int32).toInt = v22.toInt from (ti_rfl v22)]; omega) l2 (by rw [show (l2 : Int32).toInt = l2.toInt from (ti_rfl l2)]; omega) (by rw [show (l2 : Int32).toInt = l2.toInt from (ti_rfl l2)]; omega) l3 (by rw [show (l3 : Int32).toInt = l3.toInt from (ti_rfl l3)]; omega) (by rw [show (l3 : Int32).toInt = l3.toInt from (ti_rfl l3)]; omega) v23 (by rw [show (v23 : Int32).toInt = (l4.toInt + 1) from e24]; omega) (by rw [show (v23 : Int32).toInt = (l4.toInt + 1) from e24]; omega)) mL_X6_34 iM_X6_wireBlock sM_X6_wireBlock (hv11.sh rfl) rfl rfl rfl (Nat.le_of_ble_eq_true rfl) (show d + 0 + 11 + 1 ≤ d + 12 by omega) (show 8 + (8 + 11) + 40 * (d + 0 + 11) ≤ 40 * (d + 12) by omega) (g_c0 hv11.ln) (Nat.le_of_ble_eq_true rfl) dX6_wireStatement_246 ?_
              intro r h25 hq _
              obtain ⟨v26, rfl, v26l, v26u, hv25⟩ := hq
              refine gi_iast (pc := 249) (lo := 0) (hi := 44) (len := 40) hv25 (ti_rfl l5) (ti_rfl v26) (by rcases hc21 with rfl | rfl <;> rfl) (by omega) (by omega) (fun _ => by rcases hc21 with rfl | rfl <;> rfl) (by omega) (by omega) (by rcases hc21 with rfl | rfl <;> decide) dX6_wireStatement_249 (fun h27 hv27 hv27e => ?_)
              refine go_aload_n (pc := 250) rfl dX6_wireStatement_250 ?_
              refine gi_getC (pc := 251) hv27 fL_X6_15 rfl (Nat.le_of_ble_eq_true rfl) rfl (by decide) dX6_wireStatement_251 (fun c28 hc28 fc28 => ?_)
              refine gi_getF (pc := 254) (q := c28 + 12) hv27 fL_X6_68 (by rcases hc28 with rfl | rfl <;> rfl) (Nat.le_of_ble_eq_true rfl) rfl (by rcases hc28 with rfl | rfl <;> exact hv27.rf (by decide)) dX6_wireStatement_254 ?_
              refine go_iload (pc := 257) rfl dX6_wireStatement_257 ?_
              refine go_aload_n (pc := 259) rfl dX6_wireStatement_259 ?_
              refine go_aload_n (pc := 260) rfl dX6_wireStatement_260 ?_
              refine gi_getF (pc := 261) (q := 36) hv27 fL_X6_9 rfl (Nat.le_of_ble_eq_true rfl) rfl (hv27.rf (by decide)) dX6_wireStatement_261 ?_
              refine gi_getF (pc := 264) (q := 40) hv27 fL_X6_50 rfl (Nat.le_of_ble_eq_true rfl) rfl (hv27.rf (by decide)) dX6_wireStatement_264 ?_
              refine go_iload_n (pc := 267) rfl dX6_wireStatement_267 ?_
              refine gi_iald (pc := 268) (lo := -1) (hi := 127) (len := 128) hv27 (ti_rfl l1) rfl (by omega) (by omega) (fun _ => rfl) dX6_wireStatement_268 (fun v29 v29l v29u v29w => ?_)
              refine go_iload_n (pc := 269) rfl dX6_wireStatement_269 ?_
              refine go_iload_n (pc := 270) rfl dX6_wireStatement_270 ?_
              refine go_iload (pc := 271) rfl dX6_wireStatement_271 ?_
              refine go_iconst (pc := 273) (v := 1) (by decide) dX6_wireStatement_273 ?_
              refine gf_iadd (pc := 274) (ti_rfl l4) (ti_c (v := 1) (a := 1) (by decide)) (by omega) (by omega) dX6_wireStatement_274 (fun v30 e31 => ?_)
              refine go_invV (pc := 275) (sl := 0) (s_X6_wireBlock_lv2 l (d + 0) hv27 v29 (by rw [show (v29 : Int32).toInt = v29.toInt from (ti_rfl v29)]; omega) (by rw [show (v29 : Int32).toInt = v29.toInt from (ti_rfl v29)]; omega) l2 (by rw [show (l2 : Int32).toInt = l2.toInt from (ti_rfl l2)]; omega) (by rw [show (l2 : Int32).toInt = l2.toInt from (ti_rfl l2)]; omega) l3 (by rw [show (l3 : Int32).toInt = l3.toInt from (ti_rfl l3)]; omega) (by rw [show (l3 : Int32).toInt = l3.toInt from (ti_rfl l3)]; omega) v30 (by rw [show (v30 : Int32).toInt = (l4.toInt + 1) from e31]; omega) (by rw [show (v30 : Int32).toInt = (l4.toInt + 1) from e31]; omega)) mL_X6_34 iM_X6_wireBlock sM_X6_wireBlock (hv27.sh rfl) rfl rfl rfl (Nat.le_of_ble_eq_true rfl) (show d + 0 + 11 + 1 ≤ d + 12 by omega) (show 8 + (8 + 11) + 40 * (d + 0 + 11) ≤ 40 * (d + 12) by omega) (g_c0 hv27.ln) (Nat.le_of_ble_eq_true rfl) dX6_wireStatement_275 ?_
              intro r h32 hq _
              obtain ⟨v33, rfl, v33l, v33u, hv32⟩ := hq
              refine gi_iast (pc := 278) (lo := 0) (hi := 44) (len := 40) hv32 (ti_rfl l5) (ti_rfl v33) (by rcases hc28 with rfl | rfl <;> rfl) (by omega) (by omega) (fun _ => by rcases hc28 with rfl | rfl <;> rfl) (by omega) (by omega) (by rcases hc28 with rfl | rfl <;> decide) dX6_wireStatement_278 (fun h34 hv34 hv34e => ?_)
              exact go_lv rfl (ih.2.2.2 l5 h34 hv34 (by omega) (by omega) (by omega))
          ·
            refine go_aload_n (pc := 174) rfl dX6_wireStatement_174 ?_
            refine gi_getC (pc := 175) hv11 fL_X6_15 rfl (Nat.le_of_ble_eq_true rfl) rfl (by decide) dX6_wireStatement_175 (fun c35 hc35 fc35 => ?_)
            refine gi_getF (pc := 178) (q := c35 + 13) hv11 fL_X6_71 (by rcases hc35 with rfl | rfl <;> rfl) (Nat.le_of_ble_eq_true rfl) rfl (by rcases hc35 with rfl | rfl <;> exact hv11.rf (by decide)) dX6_wireStatement_178 ?_
            refine go_iload (pc := 181) rfl dX6_wireStatement_181 ?_
            refine go_aload_n (pc := 183) rfl dX6_wireStatement_183 ?_
            refine go_aload_n (pc := 184) rfl dX6_wireStatement_184 ?_
            refine gi_getF (pc := 185) (q := 36) hv11 fL_X6_9 rfl (Nat.le_of_ble_eq_true rfl) rfl (hv11.rf (by decide)) dX6_wireStatement_185 ?_
            refine gi_getF (pc := 188) (q := 39) hv11 fL_X6_59 rfl (Nat.le_of_ble_eq_true rfl) rfl (hv11.rf (by decide)) dX6_wireStatement_188 ?_
            refine go_iload_n (pc := 191) rfl dX6_wireStatement_191 ?_
            refine gi_iald (pc := 192) (lo := -1) (hi := 127) (len := 128) hv11 (ti_rfl l1) rfl (by omega) (by omega) (fun _ => rfl) dX6_wireStatement_192 (fun v36 v36l v36u v36w => ?_)
            refine go_iload (pc := 193) rfl dX6_wireStatement_193 ?_
            refine go_iload_n (pc := 195) rfl dX6_wireStatement_195 ?_
            refine go_iload (pc := 196) rfl dX6_wireStatement_196 ?_
            refine go_iconst (pc := 198) (v := 1) (by decide) dX6_wireStatement_198 ?_
            refine gf_iadd (pc := 199) (ti_rfl l4) (ti_c (v := 1) (a := 1) (by decide)) (by omega) (by omega) dX6_wireStatement_199 (fun v37 e38 => ?_)
            refine go_invV (pc := 200) (sl := 0) (s_X6_wireBlock_lv2 l (d + 0) hv11 v36 (by rw [show (v36 : Int32).toInt = v36.toInt from (ti_rfl v36)]; omega) (by rw [show (v36 : Int32).toInt = v36.toInt from (ti_rfl v36)]; omega) l5 (by rw [show (l5 : Int32).toInt = l5.toInt from (ti_rfl l5)]; omega) (by rw [show (l5 : Int32).toInt = l5.toInt from (ti_rfl l5)]; omega) l3 (by rw [show (l3 : Int32).toInt = l3.toInt from (ti_rfl l3)]; omega) (by rw [show (l3 : Int32).toInt = l3.toInt from (ti_rfl l3)]; omega) v37 (by rw [show (v37 : Int32).toInt = (l4.toInt + 1) from e38]; omega) (by rw [show (v37 : Int32).toInt = (l4.toInt + 1) from e38]; omega)) mL_X6_34 iM_X6_wireBlock sM_X6_wireBlock (hv11.sh rfl) rfl rfl rfl (Nat.le_of_ble_eq_true rfl) (show d + 0 + 11 + 1 ≤ d + 12 by omega) (show 8 + (8 + 11) + 40 * (d + 0 + 11) ≤ 40 * (d + 12) by omega) (g_c0 hv11.ln) (Nat.le_of_ble_eq_true rfl) dX6_wireStatement_200 ?_
            intro r h39 hq _
            obtain ⟨v40, rfl, v40l, v40u, hv39⟩ := hq
            refine gi_iast (pc := 203) (lo := 0) (hi := 44) (len := 40) hv39 (ti_rfl l5) (ti_rfl v40) (by rcases hc35 with rfl | rfl <;> rfl) (by omega) (by omega) (fun _ => by rcases hc35 with rfl | rfl <;> rfl) (by omega) (by omega) (by rcases hc35 with rfl | rfl <;> decide) dX6_wireStatement_203 (fun h41 hv41 hv41e => ?_)
            refine go_goto (pc := 204) (tgt := 279) (by decide) dX6_wireStatement_204 ?_
            exact go_lv rfl (ih.2.2.2 l5 h41 hv41 (by omega) (by omega) (by omega))
        ·
          refine go_aload_n (pc := 145) rfl dX6_wireStatement_145 ?_
          refine gi_getC (pc := 146) hv11 fL_X6_15 rfl (Nat.le_of_ble_eq_true rfl) rfl (by decide) dX6_wireStatement_146 (fun c42 hc42 fc42 => ?_)
          refine gi_getF (pc := 149) (q := c42 + 13) hv11 fL_X6_71 (by rcases hc42 with rfl | rfl <;> rfl) (Nat.le_of_ble_eq_true rfl) rfl (by rcases hc42 with rfl | rfl <;> exact hv11.rf (by decide)) dX6_wireStatement_149 ?_
          refine go_iload (pc := 152) rfl dX6_wireStatement_152 ?_
          refine go_iload (pc := 154) rfl dX6_wireStatement_154 ?_
          refine gi_iast (pc := 156) (lo := 0) (hi := 44) (len := 40) hv11 (ti_rfl l5) (ti_rfl l6) (by rcases hc42 with rfl | rfl <;> rfl) (by omega) (by omega) (fun _ => by rcases hc42 with rfl | rfl <;> rfl) (by omega) (by omega) (by rcases hc42 with rfl | rfl <;> decide) dX6_wireStatement_156 (fun h43 hv43 hv43e => ?_)
          refine go_goto (pc := 157) (tgt := 279) (by decide) dX6_wireStatement_157 ?_
          exact go_lv rfl (ih.2.2.2 l5 h43 hv43 (by omega) (by omega) (by omega))
      ·
        intro l5 hx hvx l5l l5u hm
        refine go_iload (pc := 279) rfl dX6_wireStatement_279 ?_
        exact gi_iret (pc := 281) (ti_rfl l5) ⟨_, rfl, (by rw [show (l5 : Int32).toInt = l5.toInt from (ti_rfl l5)]; omega), (by rw [show (l5 : Int32).toInt = l5.toInt from (ti_rfl l5)]; omega), hvx⟩ hvx dX6_wireStatement_281
  refine go_aload_n (pc := 0) rfl dX6_wireStatement_0 ?_
  refine gi_getF (pc := 1) (q := 36) hv fL_X6_9 rfl (Nat.le_of_ble_eq_true rfl) rfl (hv.rf (by decide)) dX6_wireStatement_1 ?_
  refine gi_getF (pc := 4) (q := 37) hv fL_X6_38 rfl (Nat.le_of_ble_eq_true rfl) rfl (hv.rf (by decide)) dX6_wireStatement_4 ?_
  refine go_iload_n (pc := 7) rfl dX6_wireStatement_7 ?_
  refine gi_iald (pc := 8) (lo := -1) (hi := 39) (len := 128) hv (ti_rfl a2) rfl (by omega) (by omega) (fun _ => rfl) dX6_wireStatement_8 (fun v44 v44l v44u v44w => ?_)
  have kk : 0 ≤ v44.toInt := by rw [v44w]; exact hp
  refine go_istore (pc := 9) (Nat.le_of_ble_eq_true rfl) dX6_wireStatement_9 (go_lv (lv2 := [(0, .ref 48), (1, .int a2), (2, .int a3), (3, .int a4), (4, .int a5), (5, .int v44)]) rfl ?_)
  refine go_bipush (pc := 11) (v := 40) (by decide) dX6_wireStatement_11 ?_
  refine go_aload_n (pc := 13) rfl dX6_wireStatement_13 ?_
  refine gi_getC (pc := 14) hv fL_X6_15 rfl (Nat.le_of_ble_eq_true rfl) rfl (by decide) dX6_wireStatement_14 (fun c45 hc45 fc45 => ?_)
  refine gi_getF (pc := 17) (q := c45 + 3) hv fL_X6_62 (by rcases hc45 with rfl | rfl <;> rfl) (Nat.le_of_ble_eq_true rfl) rfl (by rcases hc45 with rfl | rfl <;> exact hv.rf (by decide)) dX6_wireStatement_17 ?_
  refine go_iload (pc := 20) rfl dX6_wireStatement_20 ?_
  refine gi_iald (pc := 22) (lo := -1) (hi := 4) (len := 40) hv (ti_rfl v44) (by rcases hc45 with rfl | rfl <;> rfl) (by omega) (by omega) (fun _ => by rcases hc45 with rfl | rfl <;> rfl) dX6_wireStatement_22 (fun v46 v46l v46u v46w => ?_)
  refine gf_iadd (pc := 23) (ti_c (v := 40) (a := 40) (by decide)) (ti_rfl v46) (by omega) (by omega) dX6_wireStatement_23 (fun v47 e48 => ?_)
  refine go_istore (pc := 24) (Nat.le_of_ble_eq_true rfl) dX6_wireStatement_24 (go_lv (lv2 := [(0, .ref 48), (1, .int a2), (2, .int a3), (3, .int a4), (4, .int a5), (5, .int v44), (6, .int v47)]) rfl ?_)
  refine go_aload_n (pc := 26) rfl dX6_wireStatement_26 ?_
  refine gi_getC (pc := 27) hv fL_X6_15 rfl (Nat.le_of_ble_eq_true rfl) rfl (by decide) dX6_wireStatement_27 (fun c49 hc49 fc49 => ?_)
  refine gi_getF (pc := 30) (q := c49 + 11) hv fL_X6_65 (by rcases hc49 with rfl | rfl <;> rfl) (Nat.le_of_ble_eq_true rfl) rfl (by rcases hc49 with rfl | rfl <;> exact hv.rf (by decide)) dX6_wireStatement_30 ?_
  refine go_iload (pc := 33) rfl dX6_wireStatement_33 ?_
  refine go_iload_n (pc := 35) rfl dX6_wireStatement_35 ?_
  refine gi_iast (pc := 36) (lo := 0) (hi := 44) (len := 40) hv (ti_rfl v44) (ti_rfl a3) (by rcases hc49 with rfl | rfl <;> rfl) (by omega) (by omega) (fun _ => by rcases hc49 with rfl | rfl <;> rfl) (by omega) (by omega) (by rcases hc49 with rfl | rfl <;> decide) dX6_wireStatement_36 (fun h50 hv50 hv50e => ?_)
  refine go_aload_n (pc := 37) rfl dX6_wireStatement_37 ?_
  refine gi_getC (pc := 38) hv50 fL_X6_15 rfl (Nat.le_of_ble_eq_true rfl) rfl (by decide) dX6_wireStatement_38 (fun c51 hc51 fc51 => ?_)
  refine gi_getF (pc := 41) (q := c51 + 12) hv50 fL_X6_68 (by rcases hc51 with rfl | rfl <;> rfl) (Nat.le_of_ble_eq_true rfl) rfl (by rcases hc51 with rfl | rfl <;> exact hv50.rf (by decide)) dX6_wireStatement_41 ?_
  refine go_iload (pc := 44) rfl dX6_wireStatement_44 ?_
  refine go_iload_n (pc := 46) rfl dX6_wireStatement_46 ?_
  refine gi_iast (pc := 47) (lo := 0) (hi := 44) (len := 40) hv50 (ti_rfl v44) (ti_rfl a3) (by rcases hc51 with rfl | rfl <;> rfl) (by omega) (by omega) (fun _ => by rcases hc51 with rfl | rfl <;> rfl) (by omega) (by omega) (by rcases hc51 with rfl | rfl <;> decide) dX6_wireStatement_47 (fun h52 hv52 hv52e => ?_)
  refine go_aload_n (pc := 48) rfl dX6_wireStatement_48 ?_
  refine gi_getC (pc := 49) hv52 fL_X6_15 rfl (Nat.le_of_ble_eq_true rfl) rfl (by decide) dX6_wireStatement_49 (fun c53 hc53 fc53 => ?_)
  refine gi_getF (pc := 52) (q := c53 + 13) hv52 fL_X6_71 (by rcases hc53 with rfl | rfl <;> rfl) (Nat.le_of_ble_eq_true rfl) rfl (by rcases hc53 with rfl | rfl <;> exact hv52.rf (by decide)) dX6_wireStatement_52 ?_
  refine go_iload (pc := 55) rfl dX6_wireStatement_55 ?_
  refine go_iload_n (pc := 57) rfl dX6_wireStatement_57 ?_
  refine gf_if_ge (pc := 58) (tgt := 66) (ti_rfl a4) (by decide) dX6_wireStatement_58 (fun q54 => ?_) (fun q54 => ?_)
  ·
    refine go_aload_n (pc := 66) rfl dX6_wireStatement_66 ?_
    refine gi_getF (pc := 67) (q := 36) hv52 fL_X6_9 rfl (Nat.le_of_ble_eq_true rfl) rfl (hv52.rf (by decide)) dX6_wireStatement_67 ?_
    refine gi_getF (pc := 70) (q := 42) hv52 fL_X6_53 rfl (Nat.le_of_ble_eq_true rfl) rfl (hv52.rf (by decide)) dX6_wireStatement_70 ?_
    refine go_iload_n (pc := 73) rfl dX6_wireStatement_73 ?_
    refine gi_iald (pc := 74) (lo := 0) (hi := 44) (len := 128) hv52 (ti_rfl a4) rfl (by omega) (by omega) (fun _ => rfl) dX6_wireStatement_74 (fun v55 v55l v55u v55w => ?_)
    have z56 : (v47 : Int32).toInt = (40 + v46.toInt) := e48
    exact go_lv rfl ((key 17).1 a2 a3 a4 a5 v44 v47 v55 v44 c53 h52 hv52 (by omega) (by omega) (by omega) (by omega) (by omega) (by omega) (by omega) (by omega) (by omega) (by omega) (by omega) (by omega) (by omega) (by omega) (by omega) (by omega) hc53 (by omega))
  ·
    refine go_iload (pc := 61) rfl dX6_wireStatement_61 ?_
    refine go_goto (pc := 63) (tgt := 75) (by decide) dX6_wireStatement_63 ?_
    have z57 : (v47 : Int32).toInt = (40 + v46.toInt) := e48
    have z58 : (v47 : Int32).toInt = (40 + v46.toInt) := e48
    exact go_lv rfl ((key 17).1 a2 a3 a4 a5 v44 v47 v47 v44 c53 h52 hv52 (by omega) (by omega) (by omega) (by omega) (by omega) (by omega) (by omega) (by omega) (by omega) (by omega) (by omega) (by omega) (by omega) (by omega) (by omega) (by omega) hc53 (by omega))
set_option maxHeartbeats 4000000 in
set_option maxRecDepth 100000 in
theorem s_X6_wireBlock_lv1 (l : Launch) (d : Nat) {P : PP} {h : HP} (hv : Iv P h) (a2 : Int32) (a2l : -1 ≤ a2.toInt) (a2u : a2.toInt ≤ 127) (a3 : Int32) (a3l : 0 ≤ a3.toInt) (a3u : a3.toInt ≤ 44) (a4 : Int32) (a4l : -1 ≤ a4.toInt) (a4u : a4.toInt ≤ 127) (a5 : Int32) (a5l : 1 ≤ a5.toInt) (a5u : a5.toInt ≤ 1) : Mt l yX6_wireBlock cX6_wireBlock 8 (some .int) (d + 13) [.ref 48, .int a2, .int a3, .int a4, .int a5] h 0 0 (fun r h' => ∃ v : Int32, r = some (.int v) ∧ 0 ≤ v.toInt ∧ v.toInt ≤ 44 ∧ Iv P h') := by
  refine Mt_iv hv (by decide) (Nat.le_of_ble_eq_true rfl) ?_
  show Go l RX6 cX6_wireBlock 8 (g_rm (d + 13) 0 0) "wireBlock" (some .int) 117 0 0 (fun _ _ => True) (fun r h' => ∃ v : Int32, r = some (.int v) ∧ 0 ≤ v.toInt ∧ v.toInt ≤ 44 ∧ Iv P h') 0 0 [(0, .ref 48), (1, .int a2), (2, .int a3), (3, .int a4), (4, .int a5)] [] h
  have key : ∀ n : Nat, (∀ (l3 : Int32) (l4 : Int32) (l5 : Int32) (s0 : Int32) (hx : HP), Iv P hx → -1 ≤ l3.toInt → l3.toInt ≤ 127 → 1 ≤ l4.toInt → l4.toInt ≤ 1 → 0 ≤ l5.toInt → l5.toInt ≤ 44 → -1 ≤ s0.toInt → s0.toInt ≤ 127 → (522 : Int) < n → Go l RX6 cX6_wireBlock 8 (g_rm (d + 13) 0 0) "wireBlock" (some .int) 117 0 0 (fun _ _ => True) (fun r h' => ∃ v : Int32, r = some (.int v) ∧ 0 ≤ v.toInt ∧ v.toInt ≤ 44 ∧ Iv P h') 0 15 [(0, .ref 48), (3, .int l3), (4, .int l4), (5, .int l5)] [.int s0] hx) ∧ (∀ (l3 : Int32) (l4 : Int32) (l5 : Int32) (l6 : Int32) (l7 : Int32) (hx : HP), Iv P hx → -1 ≤ l3.toInt → l3.toInt ≤ 127 → 1 ≤ l4.toInt → l4.toInt ≤ 1 → 0 ≤ l5.toInt → l5.toInt ≤ 44 → -1 ≤ l6.toInt → l6.toInt ≤ 127 → 0 ≤ l7.toInt → l7.toInt ≤ 128 → (4 * (128 - l7.toInt) + 4 : Int) < n → Go l RX6 cX6_wireBlock 8 (g_rm (d + 13) 0 0) "wireBlock" (some .int) 117 0 0 (fun _ _ => True) (fun r h' => ∃ v : Int32, r = some (.int v) ∧ 0 ≤ v.toInt ∧ v.toInt ≤ 44 ∧ Iv P h') 0 20 [(0, .ref 48), (3, .int l3), (4, .int l4), (5, .int l5), (6, .int l6), (7, .int l7)] [] hx) ∧ (∀ (l3 : Int32) (l4 : Int32) (l5 : Int32) (l6 : Int32) (l7 : Int32) (hx : HP), Iv P hx → -1 ≤ l3.toInt → l3.toInt ≤ 127 → 1 ≤ l4.toInt → l4.toInt ≤ 1 → 0 ≤ l5.toInt → l5.toInt ≤ 44 → 0 ≤ l6.toInt → l6.toInt ≤ 127 → 0 ≤ l7.toInt → l7.toInt ≤ 127 → (4 * (128 - l7.toInt) + 3 : Int) < n → Go l RX6 cX6_wireBlock 8 (g_rm (d + 13) 0 0) "wireBlock" (some .int) 117 0 0 (fun _ _ => True) (fun r h' => ∃ v : Int32, r = some (.int v) ∧ 0 ≤ v.toInt ∧ v.toInt ≤ 44 ∧ Iv P h') 0 76 [(0, .ref 48), (3, .int l3), (4, .int l4), (5, .int l5), (6, .int l6), (7, .int l7)] [] hx) ∧ (∀ (l5 : Int32) (hx : HP), Iv P hx → 0 ≤ l5.toInt → l5.toInt ≤ 44 → (1 : Int) < n → Go l RX6 cX6_wireBlock 8 (g_rm (d + 13) 0 0) "wireBlock" (some .int) 117 0 0 (fun _ _ => True) (fun r h' => ∃ v : Int32, r = some (.int v) ∧ 0 ≤ v.toInt ∧ v.toInt ≤ 44 ∧ Iv P h') 0 94 [(5, .int l5)] [] hx) := by
    intro n
    induction n with
    | zero => exact ⟨(by intros; omega), (by intros; omega), (by intros; omega), (by intros; omega)⟩
    | succ n ih =>
      refine ⟨?_, ?_, ?_, ?_⟩
      ·
        intro l3 l4 l5 s0 hx hvx l3l l3u l4l l4u l5l l5u s0l s0u hm
        refine go_istore (pc := 15) (Nat.le_of_ble_eq_true rfl) dX6_wireBlock_15 (go_lv (lv2 := [(0, .ref 48), (3, .int l3), (4, .int l4), (5, .int l5), (6, .int s0)]) rfl ?_)
        refine go_iconst (pc := 17) (v := 0) (by decide) dX6_wireBlock_17 ?_
        refine go_istore (pc := 18) (Nat.le_of_ble_eq_true rfl) dX6_wireBlock_18 (go_lv (lv2 := [(0, .ref 48), (3, .int l3), (4, .int l4), (5, .int l5), (6, .int s0), (7, .int 0)]) rfl ?_)
        have z1 : (0 : Int32).toInt = 0 := (ti_c (v := 0) (a := 0) (by decide))
        exact go_lv rfl (ih.2.1 l3 l4 l5 s0 0 hx hvx (by omega) (by omega) (by omega) (by omega) (by omega) (by omega) (by omega) (by omega) (by omega) (by omega) (by omega))
      ·
        intro l3 l4 l5 l6 l7 hx hvx l3l l3u l4l l4u l5l l5u l6l l6u l7l l7u hm
        refine go_iload (pc := 20) rfl dX6_wireBlock_20 ?_
        refine go_sipush (pc := 22) (v := 128) (by decide) dX6_wireBlock_22 ?_
        refine gf_icmp_ge (pc := 25) (tgt := 94) (ti_rfl l7) (ti_c (v := 128) (a := 128) (by decide)) (by decide) dX6_wireBlock_25 (fun q2 => ?_) (fun q2 => ?_)
        ·
          exact go_lv rfl (ih.2.2.2 l5 hx hvx (by omega) (by omega) (by omega))
        ·
          refine go_iload (pc := 28) rfl dX6_wireBlock_28 ?_
          refine gf_if_lt (pc := 30) (tgt := 94) (ti_rfl l6) (by decide) dX6_wireBlock_30 (fun q3 => ?_) (fun q3 => ?_)
          ·
            exact go_lv rfl (ih.2.2.2 l5 hx hvx (by omega) (by omega) (by omega))
          ·
            refine go_aload_n (pc := 33) rfl dX6_wireBlock_33 ?_
            refine gi_getF (pc := 34) (q := 36) hvx fL_X6_9 rfl (Nat.le_of_ble_eq_true rfl) rfl (hvx.rf (by decide)) dX6_wireBlock_34 ?_
            refine gi_getF (pc := 37) (q := 37) hvx fL_X6_38 rfl (Nat.le_of_ble_eq_true rfl) rfl (hvx.rf (by decide)) dX6_wireBlock_37 ?_
            refine go_iload (pc := 40) rfl dX6_wireBlock_40 ?_
            refine gi_iald (pc := 42) (lo := -1) (hi := 39) (len := 128) hvx (ti_rfl l6) rfl (by omega) (by omega) (fun _ => rfl) dX6_wireBlock_42 (fun v4 v4l v4u v4w => ?_)
            refine go_iconst (pc := 43) (v := (-1)) (by decide) dX6_wireBlock_43 ?_
            refine gf_icmp_ne (pc := 44) (tgt := 63) (ti_rfl v4) (ti_c (v := (-1)) (a := (-1)) (by decide)) (by decide) dX6_wireBlock_44 (fun q5 => ?_) (fun q5 => ?_)
            ·
              refine go_aload_n (pc := 63) rfl dX6_wireBlock_63 ?_
              refine go_iload (pc := 64) rfl dX6_wireBlock_64 ?_
              refine go_iload (pc := 66) rfl dX6_wireBlock_66 ?_
              refine go_iload_n (pc := 68) rfl dX6_wireBlock_68 ?_
              refine go_iload (pc := 69) rfl dX6_wireBlock_69 ?_
              refine go_invV (pc := 71) (sl := 0) (s_X6_wireStatement_lv1 l (d + 0) hvx l6 (by rw [show (l6 : Int32).toInt = l6.toInt from (ti_rfl l6)]; omega) (by rw [show (l6 : Int32).toInt = l6.toInt from (ti_rfl l6)]; omega) l5 (by rw [show (l5 : Int32).toInt = l5.toInt from (ti_rfl l5)]; omega) (by rw [show (l5 : Int32).toInt = l5.toInt from (ti_rfl l5)]; omega) l3 (by rw [show (l3 : Int32).toInt = l3.toInt from (ti_rfl l3)]; omega) (by rw [show (l3 : Int32).toInt = l3.toInt from (ti_rfl l3)]; omega) l4 (by rw [show (l4 : Int32).toInt = l4.toInt from (ti_rfl l4)]; omega) (by rw [show (l4 : Int32).toInt = l4.toInt from (ti_rfl l4)]; omega) (by rw [← v4w]; omega)) mL_X6_44 iM_X6_wireStatement sM_X6_wireStatement (hvx.sh rfl) rfl rfl rfl (Nat.le_of_ble_eq_true rfl) (show d + 0 + 12 + 1 ≤ d + 13 by omega) (show 8 + (7 + 11) + 40 * (d + 0 + 12) ≤ 40 * (d + 13) by omega) (g_c0 hvx.ln) (Nat.le_of_ble_eq_true rfl) dX6_wireBlock_71 ?_
              intro r h6 hq _
              obtain ⟨v7, rfl, v7l, v7u, hv6⟩ := hq
              refine go_istore (pc := 74) (Nat.le_of_ble_eq_true rfl) dX6_wireBlock_74 (go_lv (lv2 := [(0, .ref 48), (3, .int l3), (4, .int l4), (5, .int v7), (6, .int l6), (7, .int l7)]) rfl ?_)
              exact go_lv rfl (ih.2.2.1 l3 l4 v7 l6 l7 h6 hv6 (by omega) (by omega) (by omega) (by omega) (by omega) (by omega) (by omega) (by omega) (by omega) (by omega) (by omega))
            ·
              refine go_aload_n (pc := 47) rfl dX6_wireBlock_47 ?_
              refine go_iload (pc := 48) rfl dX6_wireBlock_48 ?_
              refine go_iload (pc := 50) rfl dX6_wireBlock_50 ?_
              refine go_iload_n (pc := 52) rfl dX6_wireBlock_52 ?_
              refine go_iload (pc := 53) rfl dX6_wireBlock_53 ?_
              refine go_invV (pc := 55) (sl := 0) (s_X6_wireTry_lv1 l (d + 0) hvx l6 (by rw [show (l6 : Int32).toInt = l6.toInt from (ti_rfl l6)]; omega) (by rw [show (l6 : Int32).toInt = l6.toInt from (ti_rfl l6)]; omega) l5 (by rw [show (l5 : Int32).toInt = l5.toInt from (ti_rfl l5)]; omega) (by rw [show (l5 : Int32).toInt = l5.toInt from (ti_rfl l5)]; omega) l3 (by rw [show (l3 : Int32).toInt = l3.toInt from (ti_rfl l3)]; omega) (by rw [show (l3 : Int32).toInt = l3.toInt from (ti_rfl l3)]; omega) l4 (by rw [show (l4 : Int32).toInt = l4.toInt from (ti_rfl l4)]; omega) (by rw [show (l4 : Int32).toInt = l4.toInt from (ti_rfl l4)]; omega)) mL_X6_41 iM_X6_wireTry sM_X6_wireTry (hvx.sh rfl) rfl rfl rfl (Nat.le_of_ble_eq_true rfl) (show d + 0 + 12 + 1 ≤ d + 13 by omega) (show 8 + (6 + 11) + 40 * (d + 0 + 12) ≤ 40 * (d + 13) by omega) (g_c0 hvx.ln) (Nat.le_of_ble_eq_true rfl) dX6_wireBlock_55 ?_
              intro r h8 hq _
              obtain ⟨v9, rfl, v9l, v9u, hv8⟩ := hq
              refine go_istore (pc := 58) (Nat.le_of_ble_eq_true rfl) dX6_wireBlock_58 (go_lv (lv2 := [(0, .ref 48), (3, .int l3), (4, .int l4), (5, .int v9), (6, .int l6), (7, .int l7)]) rfl ?_)
              refine go_goto (pc := 60) (tgt := 76) (by decide) dX6_wireBlock_60 ?_
              exact go_lv rfl (ih.2.2.1 l3 l4 v9 l6 l7 h8 hv8 (by omega) (by omega) (by omega) (by omega) (by omega) (by omega) (by omega) (by omega) (by omega) (by omega) (by omega))
      ·
        intro l3 l4 l5 l6 l7 hx hvx l3l l3u l4l l4u l5l l5u l6l l6u l7l l7u hm
        refine go_aload_n (pc := 76) rfl dX6_wireBlock_76 ?_
        refine gi_getF (pc := 77) (q := 36) hvx fL_X6_9 rfl (Nat.le_of_ble_eq_true rfl) rfl (hvx.rf (by decide)) dX6_wireBlock_77 ?_
        refine gi_getF (pc := 80) (q := 38) hvx fL_X6_47 rfl (Nat.le_of_ble_eq_true rfl) rfl (hvx.rf (by decide)) dX6_wireBlock_80 ?_
        refine go_iload (pc := 83) rfl dX6_wireBlock_83 ?_
        refine gi_iald (pc := 85) (lo := -1) (hi := 127) (len := 128) hvx (ti_rfl l6) rfl (by omega) (by omega) (fun _ => rfl) dX6_wireBlock_85 (fun v10 v10l v10u v10w => ?_)
        refine go_istore (pc := 86) (Nat.le_of_ble_eq_true rfl) dX6_wireBlock_86 (go_lv (lv2 := [(0, .ref 48), (3, .int l3), (4, .int l4), (5, .int l5), (6, .int v10), (7, .int l7)]) rfl ?_)
        refine gf_iinc (pc := 88) (Nat.le_of_ble_eq_true rfl) rfl (ti_rfl l7) (ti_c (by decide)) (by omega) (by omega) dX6_wireBlock_88 (fun v11 e12 => ?_)
        refine go_lv (lv2 := [(0, .ref 48), (3, .int l3), (4, .int l4), (5, .int l5), (6, .int v10), (7, .int v11)]) rfl ?_
        refine go_goto (pc := 91) (tgt := 20) (by decide) dX6_wireBlock_91 ?_
        have z13 : (v11 : Int32).toInt = (l7.toInt + 1) := e12
        exact go_lv rfl (ih.2.1 l3 l4 l5 v10 v11 hx hvx (by omega) (by omega) (by omega) (by omega) (by omega) (by omega) (by omega) (by omega) (by omega) (by omega) (by omega))
      ·
        intro l5 hx hvx l5l l5u hm
        refine go_iload (pc := 94) rfl dX6_wireBlock_94 ?_
        exact gi_iret (pc := 96) (ti_rfl l5) ⟨_, rfl, (by rw [show (l5 : Int32).toInt = l5.toInt from (ti_rfl l5)]; omega), (by rw [show (l5 : Int32).toInt = l5.toInt from (ti_rfl l5)]; omega), hvx⟩ hvx dX6_wireBlock_96
  refine go_iload_n (pc := 0) rfl dX6_wireBlock_0 ?_
  refine go_istore (pc := 1) (Nat.le_of_ble_eq_true rfl) dX6_wireBlock_1 (go_lv (lv2 := [(0, .ref 48), (1, .int a2), (2, .int a3), (3, .int a4), (4, .int a5), (5, .int a3)]) rfl ?_)
  refine go_iload (pc := 3) rfl dX6_wireBlock_3 ?_
  refine go_bipush (pc := 5) (v := 6) (by decide) dX6_wireBlock_5 ?_
  refine gf_icmp_le (pc := 7) (tgt := 14) (ti_rfl a5) (ti_c (v := 6) (a := 6) (by decide)) (by decide) dX6_wireBlock_7 (fun q14 => ?_) (fun q14 => False.elim (by omega))
  refine go_iload_n (pc := 14) rfl dX6_wireBlock_14 ?_
  exact go_lv rfl ((key 535).1 a4 a5 a3 a2 h hv (by omega) (by omega) (by omega) (by omega) (by omega) (by omega) (by omega) (by omega) (by omega))
set_option maxHeartbeats 4000000 in
set_option maxRecDepth 100000 in
theorem s_X6_wireTry_lv0 (l : Launch) (d : Nat) {P : PP} {h : HP} (hv : Iv P h) (a2 : Int32) (a2l : 0 ≤ a2.toInt) (a2u : a2.toInt ≤ 127) (a3 : Int32) (a3l : 0 ≤ a3.toInt) (a3u : a3.toInt ≤ 44) (a4 : Int32) (a4l : -1 ≤ a4.toInt) (a4u : a4.toInt ≤ 127) (a5 : Int32) (a5l : 0 ≤ a5.toInt) (a5u : a5.toInt ≤ 0) : Mt l yX6_wireTry cX6_wireTry 6 (some .int) (d + 14) [.ref 48, .int a2, .int a3, .int a4, .int a5] h 0 0 (fun r h' => ∃ v : Int32, r = some (.int v) ∧ 0 ≤ v.toInt ∧ v.toInt ≤ 44 ∧ Iv P h') := by
  refine Mt_iv hv (by decide) (Nat.le_of_ble_eq_true rfl) ?_
  show Go l RX6 cX6_wireTry 6 (g_rm (d + 14) 0 0) "wireTry" (some .int) 117 0 0 (fun _ _ => True) (fun r h' => ∃ v : Int32, r = some (.int v) ∧ 0 ≤ v.toInt ∧ v.toInt ≤ 44 ∧ Iv P h') 0 0 [(0, .ref 48), (1, .int a2), (2, .int a3), (3, .int a4), (4, .int a5)] [] h
  have key : ∀ n : Nat, (∀ (l1 : Int32) (l2 : Int32) (l4 : Int32) (s0 : Int32) (s1 : Int32) (hx : HP), Iv P hx → 0 ≤ l1.toInt → l1.toInt ≤ 127 → 0 ≤ l2.toInt → l2.toInt ≤ 44 → 0 ≤ l4.toInt → l4.toInt ≤ 0 → -2 ≤ s0.toInt → s0.toInt ≤ 44 → 0 ≤ s1.toInt → s1.toInt ≤ 127 → (1 : Int) < n → Go l RX6 cX6_wireTry 6 (g_rm (d + 14) 0 0) "wireTry" (some .int) 117 0 0 (fun _ _ => True) (fun r h' => ∃ v : Int32, r = some (.int v) ∧ 0 ≤ v.toInt ∧ v.toInt ≤ 44 ∧ Iv P h') 0 53 [(0, .ref 48), (1, .int l1), (2, .int l2), (4, .int l4)] [.int s0, .int s1, .ref 43] hx) := by
    intro n
    induction n with
    | zero => exact (by intros; omega)
    | succ n ih =>
      refine ?_
      ·
        intro l1 l2 l4 s0 s1 hx hvx l1l l1u l2l l2u l4l l4u s0l s0u s1l s1u hm
        refine gi_iast (pc := 53) (lo := -2) (hi := 44) (len := 128) hvx (ti_rfl s1) (ti_rfl s0) rfl (by omega) (by omega) (fun _ => rfl) (by omega) (by omega) (by decide) dX6_wireTry_53 (fun h1 hv1 hv1e => ?_)
        refine go_aload_n (pc := 54) rfl dX6_wireTry_54 ?_
        refine go_aload_n (pc := 55) rfl dX6_wireTry_55 ?_
        refine gi_getF (pc := 56) (q := 36) hv1 fL_X6_9 rfl (Nat.le_of_ble_eq_true rfl) rfl (hv1.rf (by decide)) dX6_wireTry_56 ?_
        refine gi_getF (pc := 59) (q := 39) hv1 fL_X6_59 rfl (Nat.le_of_ble_eq_true rfl) rfl (hv1.rf (by decide)) dX6_wireTry_59 ?_
        refine go_iload_n (pc := 62) rfl dX6_wireTry_62 ?_
        refine gi_iald (pc := 63) (lo := -1) (hi := 127) (len := 128) hv1 (ti_rfl l1) rfl (by omega) (by omega) (fun _ => rfl) dX6_wireTry_63 (fun v2 v2l v2u v2w => ?_)
        refine go_iload_n (pc := 64) rfl dX6_wireTry_64 ?_
        refine go_iload_n (pc := 65) rfl dX6_wireTry_65 ?_
        refine go_iload (pc := 66) rfl dX6_wireTry_66 ?_
        refine go_iconst (pc := 68) (v := 1) (by decide) dX6_wireTry_68 ?_
        refine gf_iadd (pc := 69) (ti_rfl l4) (ti_c (v := 1) (a := 1) (by decide)) (by omega) (by omega) dX6_wireTry_69 (fun v3 e4 => ?_)
        refine go_invV (pc := 70) (sl := 0) (s_X6_wireBlock_lv1 l (d + 0) hv1 v2 (by rw [show (v2 : Int32).toInt = v2.toInt from (ti_rfl v2)]; omega) (by rw [show (v2 : Int32).toInt = v2.toInt from (ti_rfl v2)]; omega) l2 (by rw [show (l2 : Int32).toInt = l2.toInt from (ti_rfl l2)]; omega) (by rw [show (l2 : Int32).toInt = l2.toInt from (ti_rfl l2)]; omega) l1 (by rw [show (l1 : Int32).toInt = l1.toInt from (ti_rfl l1)]; omega) (by rw [show (l1 : Int32).toInt = l1.toInt from (ti_rfl l1)]; omega) v3 (by rw [show (v3 : Int32).toInt = (l4.toInt + 1) from e4]; omega) (by rw [show (v3 : Int32).toInt = (l4.toInt + 1) from e4]; omega)) mL_X6_34 iM_X6_wireBlock sM_X6_wireBlock (hv1.sh rfl) rfl rfl rfl (Nat.le_of_ble_eq_true rfl) (show d + 0 + 13 + 1 ≤ d + 14 by omega) (show 8 + (8 + 11) + 40 * (d + 0 + 13) ≤ 40 * (d + 14) by omega) (g_c0 hv1.ln) (Nat.le_of_ble_eq_true rfl) dX6_wireTry_70 ?_
        intro r h5 hq _
        obtain ⟨v6, rfl, v6l, v6u, hv5⟩ := hq
        exact gi_iret (pc := 73) (ti_rfl v6) ⟨_, rfl, (by rw [show (v6 : Int32).toInt = v6.toInt from (ti_rfl v6)]; omega), (by rw [show (v6 : Int32).toInt = v6.toInt from (ti_rfl v6)]; omega), hv5⟩ hv5 dX6_wireTry_73
  refine go_aload_n (pc := 0) rfl dX6_wireTry_0 ?_
  refine go_aload_n (pc := 1) rfl dX6_wireTry_1 ?_
  refine gi_getF (pc := 2) (q := 36) hv fL_X6_9 rfl (Nat.le_of_ble_eq_true rfl) rfl (hv.rf (by decide)) dX6_wireTry_2 ?_
  refine gi_getF (pc := 5) (q := 40) hv fL_X6_50 rfl (Nat.le_of_ble_eq_true rfl) rfl (hv.rf (by decide)) dX6_wireTry_5 ?_
  refine go_iload_n (pc := 8) rfl dX6_wireTry_8 ?_
  refine gi_iald (pc := 9) (lo := -1) (hi := 127) (len := 128) hv (ti_rfl a2) rfl (by omega) (by omega) (fun _ => rfl) dX6_wireTry_9 (fun v7 v7l v7u v7w => ?_)
  refine go_iload_n (pc := 10) rfl dX6_wireTry_10 ?_
  refine go_iload_n (pc := 11) rfl dX6_wireTry_11 ?_
  refine go_iload (pc := 12) rfl dX6_wireTry_12 ?_
  refine go_iconst (pc := 14) (v := 1) (by decide) dX6_wireTry_14 ?_
  refine gf_iadd (pc := 15) (ti_rfl a5) (ti_c (v := 1) (a := 1) (by decide)) (by omega) (by omega) dX6_wireTry_15 (fun v8 e9 => ?_)
  refine go_invV (pc := 16) (sl := 0) (s_X6_wireBlock_lv1 l (d + 0) hv v7 (by rw [show (v7 : Int32).toInt = v7.toInt from (ti_rfl v7)]; omega) (by rw [show (v7 : Int32).toInt = v7.toInt from (ti_rfl v7)]; omega) a3 (by rw [show (a3 : Int32).toInt = a3.toInt from (ti_rfl a3)]; omega) (by rw [show (a3 : Int32).toInt = a3.toInt from (ti_rfl a3)]; omega) a4 (by rw [show (a4 : Int32).toInt = a4.toInt from (ti_rfl a4)]; omega) (by rw [show (a4 : Int32).toInt = a4.toInt from (ti_rfl a4)]; omega) v8 (by rw [show (v8 : Int32).toInt = (a5.toInt + 1) from e9]; omega) (by rw [show (v8 : Int32).toInt = (a5.toInt + 1) from e9]; omega)) mL_X6_34 iM_X6_wireBlock sM_X6_wireBlock (hv.sh rfl) rfl rfl rfl (Nat.le_of_ble_eq_true rfl) (show d + 0 + 13 + 1 ≤ d + 14 by omega) (show 8 + (8 + 11) + 40 * (d + 0 + 13) ≤ 40 * (d + 14) by omega) (g_c0 hv.ln) (Nat.le_of_ble_eq_true rfl) dX6_wireTry_16 ?_
  intro r h10 hq _
  obtain ⟨v11, rfl, v11l, v11u, hv10⟩ := hq
  refine go_istore (pc := 19) (Nat.le_of_ble_eq_true rfl) dX6_wireTry_19 (go_lv (lv2 := [(0, .ref 48), (1, .int a2), (2, .int a3), (3, .int a4), (4, .int a5), (5, .int v11)]) rfl ?_)
  refine go_aload_n (pc := 21) rfl dX6_wireTry_21 ?_
  refine gi_getF (pc := 22) (q := 36) hv10 fL_X6_9 rfl (Nat.le_of_ble_eq_true rfl) rfl (hv10.rf (by decide)) dX6_wireTry_22 ?_
  refine gi_getF (pc := 25) (q := 42) hv10 fL_X6_53 rfl (Nat.le_of_ble_eq_true rfl) rfl (hv10.rf (by decide)) dX6_wireTry_25 ?_
  refine go_iload_n (pc := 28) rfl dX6_wireTry_28 ?_
  refine go_iload (pc := 29) rfl dX6_wireTry_29 ?_
  refine gi_iast (pc := 31) (lo := 0) (hi := 44) (len := 128) hv10 (ti_rfl a2) (ti_rfl v11) rfl (by omega) (by omega) (fun _ => rfl) (by omega) (by omega) (by decide) dX6_wireTry_31 (fun h12 hv12 hv12e => ?_)
  refine go_aload_n (pc := 32) rfl dX6_wireTry_32 ?_
  refine gi_getF (pc := 33) (q := 36) hv12 fL_X6_9 rfl (Nat.le_of_ble_eq_true rfl) rfl (hv12.rf (by decide)) dX6_wireTry_33 ?_
  refine gi_getF (pc := 36) (q := 43) hv12 fL_X6_56 rfl (Nat.le_of_ble_eq_true rfl) rfl (hv12.rf (by decide)) dX6_wireTry_36 ?_
  refine go_iload_n (pc := 39) rfl dX6_wireTry_39 ?_
  refine go_iload (pc := 40) rfl dX6_wireTry_40 ?_
  refine go_iload_n (pc := 42) rfl dX6_wireTry_42 ?_
  refine gf_icmp_ne (pc := 43) (tgt := 51) (ti_rfl v11) (ti_rfl a3) (by decide) dX6_wireTry_43 (fun q13 => ?_) (fun q13 => ?_)
  ·
    refine go_iload (pc := 51) rfl dX6_wireTry_51 ?_
    exact go_lv rfl ((key 14) a2 a3 a5 v11 a2 h12 hv12 (by omega) (by omega) (by omega) (by omega) (by omega) (by omega) (by omega) (by omega) (by omega) (by omega) (by omega))
  ·
    refine go_bipush (pc := 46) (v := (-2)) (by decide) dX6_wireTry_46 ?_
    refine go_goto (pc := 48) (tgt := 53) (by decide) dX6_wireTry_48 ?_
    have z14 : ((-2) : Int32).toInt = (-2) := (ti_c (v := (-2)) (a := (-2)) (by decide))
    exact go_lv rfl ((key 14) a2 a3 a5 (-2) a2 h12 hv12 (by omega) (by omega) (by omega) (by omega) (by omega) (by omega) (by omega) (by omega) (by omega) (by omega) (by omega))
set_option maxHeartbeats 4000000 in
set_option maxRecDepth 100000 in
theorem s_X6_wireStatement_lv0 (l : Launch) (d : Nat) {P : PP} {h : HP} (hv : Iv P h) (a2 : Int32) (a2l : 0 ≤ a2.toInt) (a2u : a2.toInt ≤ 127) (a3 : Int32) (a3l : 0 ≤ a3.toInt) (a3u : a3.toInt ≤ 44) (a4 : Int32) (a4l : -1 ≤ a4.toInt) (a4u : a4.toInt ≤ 127) (a5 : Int32) (a5l : 0 ≤ a5.toInt) (a5u : a5.toInt ≤ 0) (hp : 0 ≤ (h.2.1 37 a2.toInt.toNat).toInt) : Mt l yX6_wireStatement cX6_wireStatement 7 (some .int) (d + 14) [.ref 48, .int a2, .int a3, .int a4, .int a5] h 0 0 (fun r h' => ∃ v : Int32, r = some (.int v) ∧ 0 ≤ v.toInt ∧ v.toInt ≤ 44 ∧ Iv P h') := by
  refine Mt_iv hv (by decide) (Nat.le_of_ble_eq_true rfl) ?_
  show Go l RX6 cX6_wireStatement 7 (g_rm (d + 14) 0 0) "wireStatement" (some .int) 117 0 0 (fun _ _ => True) (fun r h' => ∃ v : Int32, r = some (.int v) ∧ 0 ≤ v.toInt ∧ v.toInt ≤ 44 ∧ Iv P h') 0 0 [(0, .ref 48), (1, .int a2), (2, .int a3), (3, .int a4), (4, .int a5)] [] h
  have key : ∀ n : Nat, (∀ (l1 : Int32) (l2 : Int32) (l3 : Int32) (l4 : Int32) (l5 : Int32) (l6 : Int32) (s0 : Int32) (s1 : Int32) (s2 : Nat) (hx : HP), Iv P hx → 0 ≤ l1.toInt → l1.toInt ≤ 127 → 0 ≤ l2.toInt → l2.toInt ≤ 44 → -1 ≤ l3.toInt → l3.toInt ≤ 127 → 0 ≤ l4.toInt → l4.toInt ≤ 0 → 0 ≤ l5.toInt → l5.toInt ≤ 39 → 39 ≤ l6.toInt → l6.toInt ≤ 44 → 0 ≤ s0.toInt → s0.toInt ≤ 44 → 0 ≤ s1.toInt → s1.toInt ≤ 39 → (s2 = 2 ∨ s2 = 18) → (4 : Int) < n → Go l RX6 cX6_wireStatement 7 (g_rm (d + 14) 0 0) "wireStatement" (some .int) 117 0 0 (fun _ _ => True) (fun r h' => ∃ v : Int32, r = some (.int v) ∧ 0 ≤ v.toInt ∧ v.toInt ≤ 44 ∧ Iv P h') 0 75 [(0, .ref 48), (1, .int l1), (2, .int l2), (3, .int l3), (4, .int l4), (5, .int l5), (6, .int l6)] [.int s0, .int s1, .ref (s2 + 13)] hx) ∧ (∀ (l1 : Int32) (l2 : Int32) (l3 : Int32) (l4 : Int32) (l5 : Int32) (l6 : Int32) (s0 : Int32) (s1 : Int32) (s2 : Nat) (hx : HP), Iv P hx → 0 ≤ l1.toInt → l1.toInt ≤ 127 → 0 ≤ l2.toInt → l2.toInt ≤ 44 → -1 ≤ l3.toInt → l3.toInt ≤ 127 → 0 ≤ l4.toInt → l4.toInt ≤ 0 → 0 ≤ l5.toInt → l5.toInt ≤ 39 → 39 ≤ l6.toInt → l6.toInt ≤ 44 → -1 ≤ s0.toInt → s0.toInt ≤ 5 → 0 ≤ s1.toInt → s1.toInt ≤ 39 → (s2 = 2 ∨ s2 = 18) → (3 : Int) < n → Go l RX6 cX6_wireStatement 7 (g_rm (d + 14) 0 0) "wireStatement" (some .int) 117 0 0 (fun _ _ => True) (fun r h' => ∃ v : Int32, r = some (.int v) ∧ 0 ≤ v.toInt ∧ v.toInt ≤ 44 ∧ Iv P h') 0 102 [(0, .ref 48), (1, .int l1), (2, .int l2), (3, .int l3), (4, .int l4), (5, .int l5), (6, .int l6)] [.int s0, .int s1, .ref (s2 + 14)] hx) ∧ (∀ (l1 : Int32) (l2 : Int32) (l3 : Int32) (l4 : Int32) (l5 : Int32) (l6 : Int32) (s0 : Int32) (s1 : Int32) (s2 : Nat) (hx : HP), Iv P hx → 0 ≤ l1.toInt → l1.toInt ≤ 127 → 0 ≤ l2.toInt → l2.toInt ≤ 44 → -1 ≤ l3.toInt → l3.toInt ≤ 127 → 0 ≤ l4.toInt → l4.toInt ≤ 0 → 0 ≤ l5.toInt → l5.toInt ≤ 39 → 39 ≤ l6.toInt → l6.toInt ≤ 44 → -2 ≤ s0.toInt → s0.toInt ≤ 44 → 0 ≤ s1.toInt → s1.toInt ≤ 39 → (s2 = 2 ∨ s2 = 18) → (2 : Int) < n → Go l RX6 cX6_wireStatement 7 (g_rm (d + 14) 0 0) "wireStatement" (some .int) 117 0 0 (fun _ _ => True) (fun r h' => ∃ v : Int32, r = some (.int v) ∧ 0 ≤ v.toInt ∧ v.toInt ≤ 44 ∧ Iv P h') 0 130 [(0, .ref 48), (1, .int l1), (2, .int l2), (3, .int l3), (4, .int l4), (5, .int l5), (6, .int l6)] [.int s0, .int s1, .ref (s2 + 15)] hx) ∧ (∀ (l5 : Int32) (hx : HP), Iv P hx → 0 ≤ l5.toInt → l5.toInt ≤ 39 → (1 : Int) < n → Go l RX6 cX6_wireStatement 7 (g_rm (d + 14) 0 0) "wireStatement" (some .int) 117 0 0 (fun _ _ => True) (fun r h' => ∃ v : Int32, r = some (.int v) ∧ 0 ≤ v.toInt ∧ v.toInt ≤ 44 ∧ Iv P h') 0 279 [(5, .int l5)] [] hx) := by
    intro n
    induction n with
    | zero => exact ⟨(by intros; omega), (by intros; omega), (by intros; omega), (by intros; omega)⟩
    | succ n ih =>
      refine ⟨?_, ?_, ?_, ?_⟩
      ·
        intro l1 l2 l3 l4 l5 l6 s0 s1 s2 hx hvx l1l l1u l2l l2u l3l l3u l4l l4u l5l l5u l6l l6u s0l s0u s1l s1u hs2 hm
        refine gi_iast (pc := 75) (lo := 0) (hi := 44) (len := 40) hvx (ti_rfl s1) (ti_rfl s0) (by rcases hs2 with rfl | rfl <;> rfl) (by omega) (by omega) (fun _ => by rcases hs2 with rfl | rfl <;> rfl) (by omega) (by omega) (by rcases hs2 with rfl | rfl <;> decide) dX6_wireStatement_75 (fun h1 hv1 hv1e => ?_)
        refine go_aload_n (pc := 76) rfl dX6_wireStatement_76 ?_
        refine gi_getC (pc := 77) hv1 fL_X6_15 rfl (Nat.le_of_ble_eq_true rfl) rfl (by decide) dX6_wireStatement_77 (fun c2 hc2 fc2 => ?_)
        refine gi_getF (pc := 80) (q := c2 + 14) hv1 fL_X6_74 (by rcases hc2 with rfl | rfl <;> rfl) (Nat.le_of_ble_eq_true rfl) rfl (by rcases hc2 with rfl | rfl <;> exact hv1.rf (by decide)) dX6_wireStatement_80 ?_
        refine go_iload (pc := 83) rfl dX6_wireStatement_83 ?_
        refine go_iload_n (pc := 85) rfl dX6_wireStatement_85 ?_
        refine gf_if_ge (pc := 86) (tgt := 93) (ti_rfl l3) (by decide) dX6_wireStatement_86 (fun q3 => ?_) (fun q3 => ?_)
        ·
          refine go_aload_n (pc := 93) rfl dX6_wireStatement_93 ?_
          refine gi_getF (pc := 94) (q := 36) hv1 fL_X6_9 rfl (Nat.le_of_ble_eq_true rfl) rfl (hv1.rf (by decide)) dX6_wireStatement_94 ?_
          refine gi_getF (pc := 97) (q := 41) hv1 fL_X6_77 rfl (Nat.le_of_ble_eq_true rfl) rfl (hv1.rf (by decide)) dX6_wireStatement_97 ?_
          refine go_iload_n (pc := 100) rfl dX6_wireStatement_100 ?_
          refine gi_iald (pc := 101) (lo := -1) (hi := 5) (len := 128) hv1 (ti_rfl l3) rfl (by omega) (by omega) (fun _ => rfl) dX6_wireStatement_101 (fun v4 v4l v4u v4w => ?_)
          exact go_lv rfl (ih.2.1 l1 l2 l3 l4 l5 l6 v4 l5 c2 h1 hv1 (by omega) (by omega) (by omega) (by omega) (by omega) (by omega) (by omega) (by omega) (by omega) (by omega) (by omega) (by omega) (by omega) (by omega) (by omega) (by omega) hc2 (by omega))
        ·
          refine go_iconst (pc := 89) (v := (-1)) (by decide) dX6_wireStatement_89 ?_
          refine go_goto (pc := 90) (tgt := 102) (by decide) dX6_wireStatement_90 ?_
          have z5 : ((-1) : Int32).toInt = (-1) := (ti_c (v := (-1)) (a := (-1)) (by decide))
          exact go_lv rfl (ih.2.1 l1 l2 l3 l4 l5 l6 (-1) l5 c2 h1 hv1 (by omega) (by omega) (by omega) (by omega) (by omega) (by omega) (by omega) (by omega) (by omega) (by omega) (by omega) (by omega) (by omega) (by omega) (by omega) (by omega) hc2 (by omega))
      ·
        intro l1 l2 l3 l4 l5 l6 s0 s1 s2 hx hvx l1l l1u l2l l2u l3l l3u l4l l4u l5l l5u l6l l6u s0l s0u s1l s1u hs2 hm
        refine gi_iast (pc := 102) (lo := -1) (hi := 5) (len := 40) hvx (ti_rfl s1) (ti_rfl s0) (by rcases hs2 with rfl | rfl <;> rfl) (by omega) (by omega) (fun _ => by rcases hs2 with rfl | rfl <;> rfl) (by omega) (by omega) (by rcases hs2 with rfl | rfl <;> decide) dX6_wireStatement_102 (fun h6 hv6 hv6e => ?_)
        refine go_aload_n (pc := 103) rfl dX6_wireStatement_103 ?_
        refine gi_getC (pc := 104) hv6 fL_X6_15 rfl (Nat.le_of_ble_eq_true rfl) rfl (by decide) dX6_wireStatement_104 (fun c7 hc7 fc7 => ?_)
        refine gi_getF (pc := 107) (q := c7 + 15) hv6 fL_X6_80 (by rcases hc7 with rfl | rfl <;> rfl) (Nat.le_of_ble_eq_true rfl) rfl (by rcases hc7 with rfl | rfl <;> exact hv6.rf (by decide)) dX6_wireStatement_107 ?_
        refine go_iload (pc := 110) rfl dX6_wireStatement_110 ?_
        refine go_iload_n (pc := 112) rfl dX6_wireStatement_112 ?_
        refine gf_if_ge (pc := 113) (tgt := 121) (ti_rfl l3) (by decide) dX6_wireStatement_113 (fun q8 => ?_) (fun q8 => ?_)
        ·
          refine go_aload_n (pc := 121) rfl dX6_wireStatement_121 ?_
          refine gi_getF (pc := 122) (q := 36) hv6 fL_X6_9 rfl (Nat.le_of_ble_eq_true rfl) rfl (hv6.rf (by decide)) dX6_wireStatement_122 ?_
          refine gi_getF (pc := 125) (q := 43) hv6 fL_X6_56 rfl (Nat.le_of_ble_eq_true rfl) rfl (hv6.rf (by decide)) dX6_wireStatement_125 ?_
          refine go_iload_n (pc := 128) rfl dX6_wireStatement_128 ?_
          refine gi_iald (pc := 129) (lo := -2) (hi := 44) (len := 128) hv6 (ti_rfl l3) rfl (by omega) (by omega) (fun _ => rfl) dX6_wireStatement_129 (fun v9 v9l v9u v9w => ?_)
          exact go_lv rfl (ih.2.2.1 l1 l2 l3 l4 l5 l6 v9 l5 c7 h6 hv6 (by omega) (by omega) (by omega) (by omega) (by omega) (by omega) (by omega) (by omega) (by omega) (by omega) (by omega) (by omega) (by omega) (by omega) (by omega) (by omega) hc7 (by omega))
        ·
          refine go_bipush (pc := 116) (v := (-2)) (by decide) dX6_wireStatement_116 ?_
          refine go_goto (pc := 118) (tgt := 130) (by decide) dX6_wireStatement_118 ?_
          have z10 : ((-2) : Int32).toInt = (-2) := (ti_c (v := (-2)) (a := (-2)) (by decide))
          exact go_lv rfl (ih.2.2.1 l1 l2 l3 l4 l5 l6 (-2) l5 c7 h6 hv6 (by omega) (by omega) (by omega) (by omega) (by omega) (by omega) (by omega) (by omega) (by omega) (by omega) (by omega) (by omega) (by omega) (by omega) (by omega) (by omega) hc7 (by omega))
      ·
        intro l1 l2 l3 l4 l5 l6 s0 s1 s2 hx hvx l1l l1u l2l l2u l3l l3u l4l l4u l5l l5u l6l l6u s0l s0u s1l s1u hs2 hm
        refine gi_iast (pc := 130) (lo := -2) (hi := 44) (len := 40) hvx (ti_rfl s1) (ti_rfl s0) (by rcases hs2 with rfl | rfl <;> rfl) (by omega) (by omega) (fun _ => by rcases hs2 with rfl | rfl <;> rfl) (by omega) (by omega) (by rcases hs2 with rfl | rfl <;> decide) dX6_wireStatement_130 (fun h11 hv11 hv11e => ?_)
        refine go_aload_n (pc := 131) rfl dX6_wireStatement_131 ?_
        refine gi_getC (pc := 132) hv11 fL_X6_15 rfl (Nat.le_of_ble_eq_true rfl) rfl (by decide) dX6_wireStatement_132 (fun c12 hc12 fc12 => ?_)
        refine gi_getF (pc := 135) (q := c12 + 2) hv11 fL_X6_81 (by rcases hc12 with rfl | rfl <;> rfl) (Nat.le_of_ble_eq_true rfl) rfl (by rcases hc12 with rfl | rfl <;> exact hv11.rf (by decide)) dX6_wireStatement_135 ?_
        refine go_iload (pc := 138) rfl dX6_wireStatement_138 ?_
        refine gi_iald (pc := 140) (lo := 0) (hi := 5) (len := 40) hv11 (ti_rfl l5) (by rcases hc12 with rfl | rfl <;> rfl) (by omega) (by omega) (fun _ => by rcases hc12 with rfl | rfl <;> rfl) dX6_wireStatement_140 (fun v13 v13l v13u v13w => ?_)
        refine go_iconst (pc := 141) (v := 5) (by decide) dX6_wireStatement_141 ?_
        refine gf_icmp_ne (pc := 142) (tgt := 160) (ti_rfl v13) (ti_c (v := 5) (a := 5) (by decide)) (by decide) dX6_wireStatement_142 (fun q14 => ?_) (fun q14 => ?_)
        ·
          refine go_aload_n (pc := 160) rfl dX6_wireStatement_160 ?_
          refine gi_getC (pc := 161) hv11 fL_X6_15 rfl (Nat.le_of_ble_eq_true rfl) rfl (by decide) dX6_wireStatement_161 (fun c15 hc15 fc15 => ?_)
          refine gi_getF (pc := 164) (q := c15 + 2) hv11 fL_X6_81 (by rcases hc15 with rfl | rfl <;> rfl) (Nat.le_of_ble_eq_true rfl) rfl (by rcases hc15 with rfl | rfl <;> exact hv11.rf (by decide)) dX6_wireStatement_164 ?_
          refine go_iload (pc := 167) rfl dX6_wireStatement_167 ?_
          refine gi_iald (pc := 169) (lo := 0) (hi := 5) (len := 40) hv11 (ti_rfl l5) (by rcases hc15 with rfl | rfl <;> rfl) (by omega) (by omega) (fun _ => by rcases hc15 with rfl | rfl <;> rfl) dX6_wireStatement_169 (fun v16 v16l v16u v16w => ?_)
          refine go_iconst (pc := 170) (v := 3) (by decide) dX6_wireStatement_170 ?_
          refine gf_icmp_ne (pc := 171) (tgt := 207) (ti_rfl v16) (ti_c (v := 3) (a := 3) (by decide)) (by decide) dX6_wireStatement_171 (fun q17 => ?_) (fun q17 => ?_)
          ·
            refine go_aload_n (pc := 207) rfl dX6_wireStatement_207 ?_
            refine gi_getC (pc := 208) hv11 fL_X6_15 rfl (Nat.le_of_ble_eq_true rfl) rfl (by decide) dX6_wireStatement_208 (fun c18 hc18 fc18 => ?_)
            refine gi_getF (pc := 211) (q := c18 + 2) hv11 fL_X6_81 (by rcases hc18 with rfl | rfl <;> rfl) (Nat.le_of_ble_eq_true rfl) rfl (by rcases hc18 with rfl | rfl <;> exact hv11.rf (by decide)) dX6_wireStatement_211 ?_
            refine go_iload (pc := 214) rfl dX6_wireStatement_214 ?_
            refine gi_iald (pc := 216) (lo := 0) (hi := 5) (len := 40) hv11 (ti_rfl l5) (by rcases hc18 with rfl | rfl <;> rfl) (by omega) (by omega) (fun _ => by rcases hc18 with rfl | rfl <;> rfl) dX6_wireStatement_216 (fun v19 v19l v19u v19w => ?_)
            refine go_iconst (pc := 217) (v := 2) (by decide) dX6_wireStatement_217 ?_
            refine gf_icmp_ne (pc := 218) (tgt := 279) (ti_rfl v19) (ti_c (v := 2) (a := 2) (by decide)) (by decide) dX6_wireStatement_218 (fun q20 => ?_) (fun q20 => ?_)
            ·
              exact go_lv rfl (ih.2.2.2 l5 h11 hv11 (by omega) (by omega) (by omega))
            ·
              refine go_aload_n (pc := 221) rfl dX6_wireStatement_221 ?_
              refine gi_getC (pc := 222) hv11 fL_X6_15 rfl (Nat.le_of_ble_eq_true rfl) rfl (by decide) dX6_wireStatement_222 (fun c21 hc21 fc21 => ?_)
              refine gi_getF (pc := 225) (q := c21 + 13) hv11 fL_X6_71 (by rcases hc21 with rfl | rfl <;> rfl) (Nat.le_of_ble_eq_true rfl) rfl (by rcases hc21 with rfl | rfl <;> exact hv11.rf (by decide)) dX6_wireStatement_225 ?_
              refine go_iload (pc := 228) rfl dX6_wireStatement_228 ?_
              refine go_aload_n (pc := 230) rfl dX6_wireStatement_230 ?_
              refine go_aload_n (pc := 231) rfl dX6_wireStatement_231 ?_
              refine gi_getF (pc := 232) (q := 36) hv11 fL_X6_9 rfl (Nat.le_of_ble_eq_true rfl) rfl (hv11.rf (by decide)) dX6_wireStatement_232 ?_
              refine gi_getF (pc := 235) (q := 39) hv11 fL_X6_59 rfl (Nat.le_of_ble_eq_true rfl) rfl (hv11.rf (by decide)) dX6_wireStatement_235 ?_
              refine go_iload_n (pc := 238) rfl dX6_wireStatement_238 ?_
              refine gi_iald (pc := 239) (lo := -1) (hi := 127) (len := 128) hv11 (ti_rfl l1) rfl (by omega) (by omega) (fun _ => rfl) dX6_wireStatement_239 (fun v22 v22l v22u v22w => ?_)
              refine go_iload_n (pc := 240) rfl dX6_wireStatement_240 ?_
              refine go_iload_n (pc := 241) rfl dX6_wireStatement_241 ?_
              refine go_iload (pc := 242) rfl dX6_wireStatement_242 ?_
              refine go_iconst (pc := 244) (v := 1) (by decide) dX6_wireStatement_244 ?_
              refine gf_iadd (pc := 245) (ti_rfl l4) (ti_c (v := 1) (a := 1) (by decide)) (by omega) (by omega) dX6_wireStatement_245 (fun v23 e24 => ?_)
              refine go_invV (pc := 246) (sl := 0) (s_X6_wireBlock_lv1 l (d + 0) hv11 v22 (by rw [show (v22 : Int32).toInt = v22.toInt from (ti_rfl v22)]; omega) (by rw [show (v22 : Int32).toInt = v22.toInt from (ti_rfl v22)]; omega) l2 (by rw [show (l2 : Int32).toInt = l2.toInt from (ti_rfl l2)]; omega) (by rw [show (l2 : Int32).toInt = l2.toInt from (ti_rfl l2)]; omega) l3 (by rw [show (l3 : Int32).toInt = l3.toInt from (ti_rfl l3)]; omega) (by rw [show (l3 : Int32).toInt = l3.toInt from (ti_rfl l3)]; omega) v23 (by rw [show (v23 : Int32).toInt = (l4.toInt + 1) from e24]; omega) (by rw [show (v23 : Int32).toInt = (l4.toInt + 1) from e24]; omega)) mL_X6_34 iM_X6_wireBlock sM_X6_wireBlock (hv11.sh rfl) rfl rfl rfl (Nat.le_of_ble_eq_true rfl) (show d + 0 + 13 + 1 ≤ d + 14 by omega) (show 8 + (8 + 11) + 40 * (d + 0 + 13) ≤ 40 * (d + 14) by omega) (g_c0 hv11.ln) (Nat.le_of_ble_eq_true rfl) dX6_wireStatement_246 ?_
              intro r h25 hq _
              obtain ⟨v26, rfl, v26l, v26u, hv25⟩ := hq
              refine gi_iast (pc := 249) (lo := 0) (hi := 44) (len := 40) hv25 (ti_rfl l5) (ti_rfl v26) (by rcases hc21 with rfl | rfl <;> rfl) (by omega) (by omega) (fun _ => by rcases hc21 with rfl | rfl <;> rfl) (by omega) (by omega) (by rcases hc21 with rfl | rfl <;> decide) dX6_wireStatement_249 (fun h27 hv27 hv27e => ?_)
              refine go_aload_n (pc := 250) rfl dX6_wireStatement_250 ?_
              refine gi_getC (pc := 251) hv27 fL_X6_15 rfl (Nat.le_of_ble_eq_true rfl) rfl (by decide) dX6_wireStatement_251 (fun c28 hc28 fc28 => ?_)
              refine gi_getF (pc := 254) (q := c28 + 12) hv27 fL_X6_68 (by rcases hc28 with rfl | rfl <;> rfl) (Nat.le_of_ble_eq_true rfl) rfl (by rcases hc28 with rfl | rfl <;> exact hv27.rf (by decide)) dX6_wireStatement_254 ?_
              refine go_iload (pc := 257) rfl dX6_wireStatement_257 ?_
              refine go_aload_n (pc := 259) rfl dX6_wireStatement_259 ?_
              refine go_aload_n (pc := 260) rfl dX6_wireStatement_260 ?_
              refine gi_getF (pc := 261) (q := 36) hv27 fL_X6_9 rfl (Nat.le_of_ble_eq_true rfl) rfl (hv27.rf (by decide)) dX6_wireStatement_261 ?_
              refine gi_getF (pc := 264) (q := 40) hv27 fL_X6_50 rfl (Nat.le_of_ble_eq_true rfl) rfl (hv27.rf (by decide)) dX6_wireStatement_264 ?_
              refine go_iload_n (pc := 267) rfl dX6_wireStatement_267 ?_
              refine gi_iald (pc := 268) (lo := -1) (hi := 127) (len := 128) hv27 (ti_rfl l1) rfl (by omega) (by omega) (fun _ => rfl) dX6_wireStatement_268 (fun v29 v29l v29u v29w => ?_)
              refine go_iload_n (pc := 269) rfl dX6_wireStatement_269 ?_
              refine go_iload_n (pc := 270) rfl dX6_wireStatement_270 ?_
              refine go_iload (pc := 271) rfl dX6_wireStatement_271 ?_
              refine go_iconst (pc := 273) (v := 1) (by decide) dX6_wireStatement_273 ?_
              refine gf_iadd (pc := 274) (ti_rfl l4) (ti_c (v := 1) (a := 1) (by decide)) (by omega) (by omega) dX6_wireStatement_274 (fun v30 e31 => ?_)
              refine go_invV (pc := 275) (sl := 0) (s_X6_wireBlock_lv1 l (d + 0) hv27 v29 (by rw [show (v29 : Int32).toInt = v29.toInt from (ti_rfl v29)]; omega) (by rw [show (v29 : Int32).toInt = v29.toInt from (ti_rfl v29)]; omega) l2 (by rw [show (l2 : Int32).toInt = l2.toInt from (ti_rfl l2)]; omega) (by rw [show (l2 : Int32).toInt = l2.toInt from (ti_rfl l2)]; omega) l3 (by rw [show (l3 : Int32).toInt = l3.toInt from (ti_rfl l3)]; omega) (by rw [show (l3 : Int32).toInt = l3.toInt from (ti_rfl l3)]; omega) v30 (by rw [show (v30 : Int32).toInt = (l4.toInt + 1) from e31]; omega) (by rw [show (v30 : Int32).toInt = (l4.toInt + 1) from e31]; omega)) mL_X6_34 iM_X6_wireBlock sM_X6_wireBlock (hv27.sh rfl) rfl rfl rfl (Nat.le_of_ble_eq_true rfl) (show d + 0 + 13 + 1 ≤ d + 14 by omega) (show 8 + (8 + 11) + 40 * (d + 0 + 13) ≤ 40 * (d + 14) by omega) (g_c0 hv27.ln) (Nat.le_of_ble_eq_true rfl) dX6_wireStatement_275 ?_
              intro r h32 hq _
              obtain ⟨v33, rfl, v33l, v33u, hv32⟩ := hq
              refine gi_iast (pc := 278) (lo := 0) (hi := 44) (len := 40) hv32 (ti_rfl l5) (ti_rfl v33) (by rcases hc28 with rfl | rfl <;> rfl) (by omega) (by omega) (fun _ => by rcases hc28 with rfl | rfl <;> rfl) (by omega) (by omega) (by rcases hc28 with rfl | rfl <;> decide) dX6_wireStatement_278 (fun h34 hv34 hv34e => ?_)
              exact go_lv rfl (ih.2.2.2 l5 h34 hv34 (by omega) (by omega) (by omega))
          ·
            refine go_aload_n (pc := 174) rfl dX6_wireStatement_174 ?_
            refine gi_getC (pc := 175) hv11 fL_X6_15 rfl (Nat.le_of_ble_eq_true rfl) rfl (by decide) dX6_wireStatement_175 (fun c35 hc35 fc35 => ?_)
            refine gi_getF (pc := 178) (q := c35 + 13) hv11 fL_X6_71 (by rcases hc35 with rfl | rfl <;> rfl) (Nat.le_of_ble_eq_true rfl) rfl (by rcases hc35 with rfl | rfl <;> exact hv11.rf (by decide)) dX6_wireStatement_178 ?_
            refine go_iload (pc := 181) rfl dX6_wireStatement_181 ?_
            refine go_aload_n (pc := 183) rfl dX6_wireStatement_183 ?_
            refine go_aload_n (pc := 184) rfl dX6_wireStatement_184 ?_
            refine gi_getF (pc := 185) (q := 36) hv11 fL_X6_9 rfl (Nat.le_of_ble_eq_true rfl) rfl (hv11.rf (by decide)) dX6_wireStatement_185 ?_
            refine gi_getF (pc := 188) (q := 39) hv11 fL_X6_59 rfl (Nat.le_of_ble_eq_true rfl) rfl (hv11.rf (by decide)) dX6_wireStatement_188 ?_
            refine go_iload_n (pc := 191) rfl dX6_wireStatement_191 ?_
            refine gi_iald (pc := 192) (lo := -1) (hi := 127) (len := 128) hv11 (ti_rfl l1) rfl (by omega) (by omega) (fun _ => rfl) dX6_wireStatement_192 (fun v36 v36l v36u v36w => ?_)
            refine go_iload (pc := 193) rfl dX6_wireStatement_193 ?_
            refine go_iload_n (pc := 195) rfl dX6_wireStatement_195 ?_
            refine go_iload (pc := 196) rfl dX6_wireStatement_196 ?_
            refine go_iconst (pc := 198) (v := 1) (by decide) dX6_wireStatement_198 ?_
            refine gf_iadd (pc := 199) (ti_rfl l4) (ti_c (v := 1) (a := 1) (by decide)) (by omega) (by omega) dX6_wireStatement_199 (fun v37 e38 => ?_)
            refine go_invV (pc := 200) (sl := 0) (s_X6_wireBlock_lv1 l (d + 0) hv11 v36 (by rw [show (v36 : Int32).toInt = v36.toInt from (ti_rfl v36)]; omega) (by rw [show (v36 : Int32).toInt = v36.toInt from (ti_rfl v36)]; omega) l5 (by rw [show (l5 : Int32).toInt = l5.toInt from (ti_rfl l5)]; omega) (by rw [show (l5 : Int32).toInt = l5.toInt from (ti_rfl l5)]; omega) l3 (by rw [show (l3 : Int32).toInt = l3.toInt from (ti_rfl l3)]; omega) (by rw [show (l3 : Int32).toInt = l3.toInt from (ti_rfl l3)]; omega) v37 (by rw [show (v37 : Int32).toInt = (l4.toInt + 1) from e38]; omega) (by rw [show (v37 : Int32).toInt = (l4.toInt + 1) from e38]; omega)) mL_X6_34 iM_X6_wireBlock sM_X6_wireBlock (hv11.sh rfl) rfl rfl rfl (Nat.le_of_ble_eq_true rfl) (show d + 0 + 13 + 1 ≤ d + 14 by omega) (show 8 + (8 + 11) + 40 * (d + 0 + 13) ≤ 40 * (d + 14) by omega) (g_c0 hv11.ln) (Nat.le_of_ble_eq_true rfl) dX6_wireStatement_200 ?_
            intro r h39 hq _
            obtain ⟨v40, rfl, v40l, v40u, hv39⟩ := hq
            refine gi_iast (pc := 203) (lo := 0) (hi := 44) (len := 40) hv39 (ti_rfl l5) (ti_rfl v40) (by rcases hc35 with rfl | rfl <;> rfl) (by omega) (by omega) (fun _ => by rcases hc35 with rfl | rfl <;> rfl) (by omega) (by omega) (by rcases hc35 with rfl | rfl <;> decide) dX6_wireStatement_203 (fun h41 hv41 hv41e => ?_)
            refine go_goto (pc := 204) (tgt := 279) (by decide) dX6_wireStatement_204 ?_
            exact go_lv rfl (ih.2.2.2 l5 h41 hv41 (by omega) (by omega) (by omega))
        ·
          refine go_aload_n (pc := 145) rfl dX6_wireStatement_145 ?_
          refine gi_getC (pc := 146) hv11 fL_X6_15 rfl (Nat.le_of_ble_eq_true rfl) rfl (by decide) dX6_wireStatement_146 (fun c42 hc42 fc42 => ?_)
          refine gi_getF (pc := 149) (q := c42 + 13) hv11 fL_X6_71 (by rcases hc42 with rfl | rfl <;> rfl) (Nat.le_of_ble_eq_true rfl) rfl (by rcases hc42 with rfl | rfl <;> exact hv11.rf (by decide)) dX6_wireStatement_149 ?_
          refine go_iload (pc := 152) rfl dX6_wireStatement_152 ?_
          refine go_iload (pc := 154) rfl dX6_wireStatement_154 ?_
          refine gi_iast (pc := 156) (lo := 0) (hi := 44) (len := 40) hv11 (ti_rfl l5) (ti_rfl l6) (by rcases hc42 with rfl | rfl <;> rfl) (by omega) (by omega) (fun _ => by rcases hc42 with rfl | rfl <;> rfl) (by omega) (by omega) (by rcases hc42 with rfl | rfl <;> decide) dX6_wireStatement_156 (fun h43 hv43 hv43e => ?_)
          refine go_goto (pc := 157) (tgt := 279) (by decide) dX6_wireStatement_157 ?_
          exact go_lv rfl (ih.2.2.2 l5 h43 hv43 (by omega) (by omega) (by omega))
      ·
        intro l5 hx hvx l5l l5u hm
        refine go_iload (pc := 279) rfl dX6_wireStatement_279 ?_
        exact gi_iret (pc := 281) (ti_rfl l5) ⟨_, rfl, (by rw [show (l5 : Int32).toInt = l5.toInt from (ti_rfl l5)]; omega), (by rw [show (l5 : Int32).toInt = l5.toInt from (ti_rfl l5)]; omega), hvx⟩ hvx dX6_wireStatement_281
  refine go_aload_n (pc := 0) rfl dX6_wireStatement_0 ?_
  refine gi_getF (pc := 1) (q := 36) hv fL_X6_9 rfl (Nat.le_of_ble_eq_true rfl) rfl (hv.rf (by decide)) dX6_wireStatement_1 ?_
  refine gi_getF (pc := 4) (q := 37) hv fL_X6_38 rfl (Nat.le_of_ble_eq_true rfl) rfl (hv.rf (by decide)) dX6_wireStatement_4 ?_
  refine go_iload_n (pc := 7) rfl dX6_wireStatement_7 ?_
  refine gi_iald (pc := 8) (lo := -1) (hi := 39) (len := 128) hv (ti_rfl a2) rfl (by omega) (by omega) (fun _ => rfl) dX6_wireStatement_8 (fun v44 v44l v44u v44w => ?_)
  have kk : 0 ≤ v44.toInt := by rw [v44w]; exact hp
  refine go_istore (pc := 9) (Nat.le_of_ble_eq_true rfl) dX6_wireStatement_9 (go_lv (lv2 := [(0, .ref 48), (1, .int a2), (2, .int a3), (3, .int a4), (4, .int a5), (5, .int v44)]) rfl ?_)
  refine go_bipush (pc := 11) (v := 40) (by decide) dX6_wireStatement_11 ?_
  refine go_aload_n (pc := 13) rfl dX6_wireStatement_13 ?_
  refine gi_getC (pc := 14) hv fL_X6_15 rfl (Nat.le_of_ble_eq_true rfl) rfl (by decide) dX6_wireStatement_14 (fun c45 hc45 fc45 => ?_)
  refine gi_getF (pc := 17) (q := c45 + 3) hv fL_X6_62 (by rcases hc45 with rfl | rfl <;> rfl) (Nat.le_of_ble_eq_true rfl) rfl (by rcases hc45 with rfl | rfl <;> exact hv.rf (by decide)) dX6_wireStatement_17 ?_
  refine go_iload (pc := 20) rfl dX6_wireStatement_20 ?_
  refine gi_iald (pc := 22) (lo := -1) (hi := 4) (len := 40) hv (ti_rfl v44) (by rcases hc45 with rfl | rfl <;> rfl) (by omega) (by omega) (fun _ => by rcases hc45 with rfl | rfl <;> rfl) dX6_wireStatement_22 (fun v46 v46l v46u v46w => ?_)
  refine gf_iadd (pc := 23) (ti_c (v := 40) (a := 40) (by decide)) (ti_rfl v46) (by omega) (by omega) dX6_wireStatement_23 (fun v47 e48 => ?_)
  refine go_istore (pc := 24) (Nat.le_of_ble_eq_true rfl) dX6_wireStatement_24 (go_lv (lv2 := [(0, .ref 48), (1, .int a2), (2, .int a3), (3, .int a4), (4, .int a5), (5, .int v44), (6, .int v47)]) rfl ?_)
  refine go_aload_n (pc := 26) rfl dX6_wireStatement_26 ?_
  refine gi_getC (pc := 27) hv fL_X6_15 rfl (Nat.le_of_ble_eq_true rfl) rfl (by decide) dX6_wireStatement_27 (fun c49 hc49 fc49 => ?_)
  refine gi_getF (pc := 30) (q := c49 + 11) hv fL_X6_65 (by rcases hc49 with rfl | rfl <;> rfl) (Nat.le_of_ble_eq_true rfl) rfl (by rcases hc49 with rfl | rfl <;> exact hv.rf (by decide)) dX6_wireStatement_30 ?_
  refine go_iload (pc := 33) rfl dX6_wireStatement_33 ?_
  refine go_iload_n (pc := 35) rfl dX6_wireStatement_35 ?_
  refine gi_iast (pc := 36) (lo := 0) (hi := 44) (len := 40) hv (ti_rfl v44) (ti_rfl a3) (by rcases hc49 with rfl | rfl <;> rfl) (by omega) (by omega) (fun _ => by rcases hc49 with rfl | rfl <;> rfl) (by omega) (by omega) (by rcases hc49 with rfl | rfl <;> decide) dX6_wireStatement_36 (fun h50 hv50 hv50e => ?_)
  refine go_aload_n (pc := 37) rfl dX6_wireStatement_37 ?_
  refine gi_getC (pc := 38) hv50 fL_X6_15 rfl (Nat.le_of_ble_eq_true rfl) rfl (by decide) dX6_wireStatement_38 (fun c51 hc51 fc51 => ?_)
  refine gi_getF (pc := 41) (q := c51 + 12) hv50 fL_X6_68 (by rcases hc51 with rfl | rfl <;> rfl) (Nat.le_of_ble_eq_true rfl) rfl (by rcases hc51 with rfl | rfl <;> exact hv50.rf (by decide)) dX6_wireStatement_41 ?_
  refine go_iload (pc := 44) rfl dX6_wireStatement_44 ?_
  refine go_iload_n (pc := 46) rfl dX6_wireStatement_46 ?_
  refine gi_iast (pc := 47) (lo := 0) (hi := 44) (len := 40) hv50 (ti_rfl v44) (ti_rfl a3) (by rcases hc51 with rfl | rfl <;> rfl) (by omega) (by omega) (fun _ => by rcases hc51 with rfl | rfl <;> rfl) (by omega) (by omega) (by rcases hc51 with rfl | rfl <;> decide) dX6_wireStatement_47 (fun h52 hv52 hv52e => ?_)
  refine go_aload_n (pc := 48) rfl dX6_wireStatement_48 ?_
  refine gi_getC (pc := 49) hv52 fL_X6_15 rfl (Nat.le_of_ble_eq_true rfl) rfl (by decide) dX6_wireStatement_49 (fun c53 hc53 fc53 => ?_)
  refine gi_getF (pc := 52) (q := c53 + 13) hv52 fL_X6_71 (by rcases hc53 with rfl | rfl <;> rfl) (Nat.le_of_ble_eq_true rfl) rfl (by rcases hc53 with rfl | rfl <;> exact hv52.rf (by decide)) dX6_wireStatement_52 ?_
  refine go_iload (pc := 55) rfl dX6_wireStatement_55 ?_
  refine go_iload_n (pc := 57) rfl dX6_wireStatement_57 ?_
  refine gf_if_ge (pc := 58) (tgt := 66) (ti_rfl a4) (by decide) dX6_wireStatement_58 (fun q54 => ?_) (fun q54 => ?_)
  ·
    refine go_aload_n (pc := 66) rfl dX6_wireStatement_66 ?_
    refine gi_getF (pc := 67) (q := 36) hv52 fL_X6_9 rfl (Nat.le_of_ble_eq_true rfl) rfl (hv52.rf (by decide)) dX6_wireStatement_67 ?_
    refine gi_getF (pc := 70) (q := 42) hv52 fL_X6_53 rfl (Nat.le_of_ble_eq_true rfl) rfl (hv52.rf (by decide)) dX6_wireStatement_70 ?_
    refine go_iload_n (pc := 73) rfl dX6_wireStatement_73 ?_
    refine gi_iald (pc := 74) (lo := 0) (hi := 44) (len := 128) hv52 (ti_rfl a4) rfl (by omega) (by omega) (fun _ => rfl) dX6_wireStatement_74 (fun v55 v55l v55u v55w => ?_)
    have z56 : (v47 : Int32).toInt = (40 + v46.toInt) := e48
    exact go_lv rfl ((key 17).1 a2 a3 a4 a5 v44 v47 v55 v44 c53 h52 hv52 (by omega) (by omega) (by omega) (by omega) (by omega) (by omega) (by omega) (by omega) (by omega) (by omega) (by omega) (by omega) (by omega) (by omega) (by omega) (by omega) hc53 (by omega))
  ·
    refine go_iload (pc := 61) rfl dX6_wireStatement_61 ?_
    refine go_goto (pc := 63) (tgt := 75) (by decide) dX6_wireStatement_63 ?_
    have z57 : (v47 : Int32).toInt = (40 + v46.toInt) := e48
    have z58 : (v47 : Int32).toInt = (40 + v46.toInt) := e48
    exact go_lv rfl ((key 17).1 a2 a3 a4 a5 v44 v47 v47 v44 c53 h52 hv52 (by omega) (by omega) (by omega) (by omega) (by omega) (by omega) (by omega) (by omega) (by omega) (by omega) (by omega) (by omega) (by omega) (by omega) (by omega) (by omega) hc53 (by omega))
set_option maxHeartbeats 4000000 in
set_option maxRecDepth 100000 in
theorem s_X6_wireBlock_lv0 (l : Launch) (d : Nat) {P : PP} {h : HP} (hv : Iv P h) (a2 : Int32) (a2l : -1 ≤ a2.toInt) (a2u : a2.toInt ≤ 127) (a3 : Int32) (a3l : 0 ≤ a3.toInt) (a3u : a3.toInt ≤ 44) (a4 : Int32) (a4l : -1 ≤ a4.toInt) (a4u : a4.toInt ≤ 127) (a5 : Int32) (a5l : 0 ≤ a5.toInt) (a5u : a5.toInt ≤ 0) : Mt l yX6_wireBlock cX6_wireBlock 8 (some .int) (d + 15) [.ref 48, .int a2, .int a3, .int a4, .int a5] h 0 0 (fun r h' => ∃ v : Int32, r = some (.int v) ∧ 0 ≤ v.toInt ∧ v.toInt ≤ 44 ∧ Iv P h') := by
  refine Mt_iv hv (by decide) (Nat.le_of_ble_eq_true rfl) ?_
  show Go l RX6 cX6_wireBlock 8 (g_rm (d + 15) 0 0) "wireBlock" (some .int) 117 0 0 (fun _ _ => True) (fun r h' => ∃ v : Int32, r = some (.int v) ∧ 0 ≤ v.toInt ∧ v.toInt ≤ 44 ∧ Iv P h') 0 0 [(0, .ref 48), (1, .int a2), (2, .int a3), (3, .int a4), (4, .int a5)] [] h
  have key : ∀ n : Nat, (∀ (l3 : Int32) (l4 : Int32) (l5 : Int32) (s0 : Int32) (hx : HP), Iv P hx → -1 ≤ l3.toInt → l3.toInt ≤ 127 → 0 ≤ l4.toInt → l4.toInt ≤ 0 → 0 ≤ l5.toInt → l5.toInt ≤ 44 → -1 ≤ s0.toInt → s0.toInt ≤ 127 → (522 : Int) < n → Go l RX6 cX6_wireBlock 8 (g_rm (d + 15) 0 0) "wireBlock" (some .int) 117 0 0 (fun _ _ => True) (fun r h' => ∃ v : Int32, r = some (.int v) ∧ 0 ≤ v.toInt ∧ v.toInt ≤ 44 ∧ Iv P h') 0 15 [(0, .ref 48), (3, .int l3), (4, .int l4), (5, .int l5)] [.int s0] hx) ∧ (∀ (l3 : Int32) (l4 : Int32) (l5 : Int32) (l6 : Int32) (l7 : Int32) (hx : HP), Iv P hx → -1 ≤ l3.toInt → l3.toInt ≤ 127 → 0 ≤ l4.toInt → l4.toInt ≤ 0 → 0 ≤ l5.toInt → l5.toInt ≤ 44 → -1 ≤ l6.toInt → l6.toInt ≤ 127 → 0 ≤ l7.toInt → l7.toInt ≤ 128 → (4 * (128 - l7.toInt) + 4 : Int) < n → Go l RX6 cX6_wireBlock 8 (g_rm (d + 15) 0 0) "wireBlock" (some .int) 117 0 0 (fun _ _ => True) (fun r h' => ∃ v : Int32, r = some (.int v) ∧ 0 ≤ v.toInt ∧ v.toInt ≤ 44 ∧ Iv P h') 0 20 [(0, .ref 48), (3, .int l3), (4, .int l4), (5, .int l5), (6, .int l6), (7, .int l7)] [] hx) ∧ (∀ (l3 : Int32) (l4 : Int32) (l5 : Int32) (l6 : Int32) (l7 : Int32) (hx : HP), Iv P hx → -1 ≤ l3.toInt → l3.toInt ≤ 127 → 0 ≤ l4.toInt → l4.toInt ≤ 0 → 0 ≤ l5.toInt → l5.toInt ≤ 44 → 0 ≤ l6.toInt → l6.toInt ≤ 127 → 0 ≤ l7.toInt → l7.toInt ≤ 127 → (4 * (128 - l7.toInt) + 3 : Int) < n → Go l RX6 cX6_wireBlock 8 (g_rm (d + 15) 0 0) "wireBlock" (some .int) 117 0 0 (fun _ _ => True) (fun r h' => ∃ v : Int32, r = some (.int v) ∧ 0 ≤ v.toInt ∧ v.toInt ≤ 44 ∧ Iv P h') 0 76 [(0, .ref 48), (3, .int l3), (4, .int l4), (5, .int l5), (6, .int l6), (7, .int l7)] [] hx) ∧ (∀ (l5 : Int32) (hx : HP), Iv P hx → 0 ≤ l5.toInt → l5.toInt ≤ 44 → (1 : Int) < n → Go l RX6 cX6_wireBlock 8 (g_rm (d + 15) 0 0) "wireBlock" (some .int) 117 0 0 (fun _ _ => True) (fun r h' => ∃ v : Int32, r = some (.int v) ∧ 0 ≤ v.toInt ∧ v.toInt ≤ 44 ∧ Iv P h') 0 94 [(5, .int l5)] [] hx) := by
    intro n
    induction n with
    | zero => exact ⟨(by intros; omega), (by intros; omega), (by intros; omega), (by intros; omega)⟩
    | succ n ih =>
      refine ⟨?_, ?_, ?_, ?_⟩
      ·
        intro l3 l4 l5 s0 hx hvx l3l l3u l4l l4u l5l l5u s0l s0u hm
        refine go_istore (pc := 15) (Nat.le_of_ble_eq_true rfl) dX6_wireBlock_15 (go_lv (lv2 := [(0, .ref 48), (3, .int l3), (4, .int l4), (5, .int l5), (6, .int s0)]) rfl ?_)
        refine go_iconst (pc := 17) (v := 0) (by decide) dX6_wireBlock_17 ?_
        refine go_istore (pc := 18) (Nat.le_of_ble_eq_true rfl) dX6_wireBlock_18 (go_lv (lv2 := [(0, .ref 48), (3, .int l3), (4, .int l4), (5, .int l5), (6, .int s0), (7, .int 0)]) rfl ?_)
        have z1 : (0 : Int32).toInt = 0 := (ti_c (v := 0) (a := 0) (by decide))
        exact go_lv rfl (ih.2.1 l3 l4 l5 s0 0 hx hvx (by omega) (by omega) (by omega) (by omega) (by omega) (by omega) (by omega) (by omega) (by omega) (by omega) (by omega))
      ·
        intro l3 l4 l5 l6 l7 hx hvx l3l l3u l4l l4u l5l l5u l6l l6u l7l l7u hm
        refine go_iload (pc := 20) rfl dX6_wireBlock_20 ?_
        refine go_sipush (pc := 22) (v := 128) (by decide) dX6_wireBlock_22 ?_
        refine gf_icmp_ge (pc := 25) (tgt := 94) (ti_rfl l7) (ti_c (v := 128) (a := 128) (by decide)) (by decide) dX6_wireBlock_25 (fun q2 => ?_) (fun q2 => ?_)
        ·
          exact go_lv rfl (ih.2.2.2 l5 hx hvx (by omega) (by omega) (by omega))
        ·
          refine go_iload (pc := 28) rfl dX6_wireBlock_28 ?_
          refine gf_if_lt (pc := 30) (tgt := 94) (ti_rfl l6) (by decide) dX6_wireBlock_30 (fun q3 => ?_) (fun q3 => ?_)
          ·
            exact go_lv rfl (ih.2.2.2 l5 hx hvx (by omega) (by omega) (by omega))
          ·
            refine go_aload_n (pc := 33) rfl dX6_wireBlock_33 ?_
            refine gi_getF (pc := 34) (q := 36) hvx fL_X6_9 rfl (Nat.le_of_ble_eq_true rfl) rfl (hvx.rf (by decide)) dX6_wireBlock_34 ?_
            refine gi_getF (pc := 37) (q := 37) hvx fL_X6_38 rfl (Nat.le_of_ble_eq_true rfl) rfl (hvx.rf (by decide)) dX6_wireBlock_37 ?_
            refine go_iload (pc := 40) rfl dX6_wireBlock_40 ?_
            refine gi_iald (pc := 42) (lo := -1) (hi := 39) (len := 128) hvx (ti_rfl l6) rfl (by omega) (by omega) (fun _ => rfl) dX6_wireBlock_42 (fun v4 v4l v4u v4w => ?_)
            refine go_iconst (pc := 43) (v := (-1)) (by decide) dX6_wireBlock_43 ?_
            refine gf_icmp_ne (pc := 44) (tgt := 63) (ti_rfl v4) (ti_c (v := (-1)) (a := (-1)) (by decide)) (by decide) dX6_wireBlock_44 (fun q5 => ?_) (fun q5 => ?_)
            ·
              refine go_aload_n (pc := 63) rfl dX6_wireBlock_63 ?_
              refine go_iload (pc := 64) rfl dX6_wireBlock_64 ?_
              refine go_iload (pc := 66) rfl dX6_wireBlock_66 ?_
              refine go_iload_n (pc := 68) rfl dX6_wireBlock_68 ?_
              refine go_iload (pc := 69) rfl dX6_wireBlock_69 ?_
              refine go_invV (pc := 71) (sl := 0) (s_X6_wireStatement_lv0 l (d + 0) hvx l6 (by rw [show (l6 : Int32).toInt = l6.toInt from (ti_rfl l6)]; omega) (by rw [show (l6 : Int32).toInt = l6.toInt from (ti_rfl l6)]; omega) l5 (by rw [show (l5 : Int32).toInt = l5.toInt from (ti_rfl l5)]; omega) (by rw [show (l5 : Int32).toInt = l5.toInt from (ti_rfl l5)]; omega) l3 (by rw [show (l3 : Int32).toInt = l3.toInt from (ti_rfl l3)]; omega) (by rw [show (l3 : Int32).toInt = l3.toInt from (ti_rfl l3)]; omega) l4 (by rw [show (l4 : Int32).toInt = l4.toInt from (ti_rfl l4)]; omega) (by rw [show (l4 : Int32).toInt = l4.toInt from (ti_rfl l4)]; omega) (by rw [← v4w]; omega)) mL_X6_44 iM_X6_wireStatement sM_X6_wireStatement (hvx.sh rfl) rfl rfl rfl (Nat.le_of_ble_eq_true rfl) (show d + 0 + 14 + 1 ≤ d + 15 by omega) (show 8 + (7 + 11) + 40 * (d + 0 + 14) ≤ 40 * (d + 15) by omega) (g_c0 hvx.ln) (Nat.le_of_ble_eq_true rfl) dX6_wireBlock_71 ?_
              intro r h6 hq _
              obtain ⟨v7, rfl, v7l, v7u, hv6⟩ := hq
              refine go_istore (pc := 74) (Nat.le_of_ble_eq_true rfl) dX6_wireBlock_74 (go_lv (lv2 := [(0, .ref 48), (3, .int l3), (4, .int l4), (5, .int v7), (6, .int l6), (7, .int l7)]) rfl ?_)
              exact go_lv rfl (ih.2.2.1 l3 l4 v7 l6 l7 h6 hv6 (by omega) (by omega) (by omega) (by omega) (by omega) (by omega) (by omega) (by omega) (by omega) (by omega) (by omega))
            ·
              refine go_aload_n (pc := 47) rfl dX6_wireBlock_47 ?_
              refine go_iload (pc := 48) rfl dX6_wireBlock_48 ?_
              refine go_iload (pc := 50) rfl dX6_wireBlock_50 ?_
              refine go_iload_n (pc := 52) rfl dX6_wireBlock_52 ?_
              refine go_iload (pc := 53) rfl dX6_wireBlock_53 ?_
              refine go_invV (pc := 55) (sl := 0) (s_X6_wireTry_lv0 l (d + 0) hvx l6 (by rw [show (l6 : Int32).toInt = l6.toInt from (ti_rfl l6)]; omega) (by rw [show (l6 : Int32).toInt = l6.toInt from (ti_rfl l6)]; omega) l5 (by rw [show (l5 : Int32).toInt = l5.toInt from (ti_rfl l5)]; omega) (by rw [show (l5 : Int32).toInt = l5.toInt from (ti_rfl l5)]; omega) l3 (by rw [show (l3 : Int32).toInt = l3.toInt from (ti_rfl l3)]; omega) (by rw [show (l3 : Int32).toInt = l3.toInt from (ti_rfl l3)]; omega) l4 (by rw [show (l4 : Int32).toInt = l4.toInt from (ti_rfl l4)]; omega) (by rw [show (l4 : Int32).toInt = l4.toInt from (ti_rfl l4)]; omega)) mL_X6_41 iM_X6_wireTry sM_X6_wireTry (hvx.sh rfl) rfl rfl rfl (Nat.le_of_ble_eq_true rfl) (show d + 0 + 14 + 1 ≤ d + 15 by omega) (show 8 + (6 + 11) + 40 * (d + 0 + 14) ≤ 40 * (d + 15) by omega) (g_c0 hvx.ln) (Nat.le_of_ble_eq_true rfl) dX6_wireBlock_55 ?_
              intro r h8 hq _
              obtain ⟨v9, rfl, v9l, v9u, hv8⟩ := hq
              refine go_istore (pc := 58) (Nat.le_of_ble_eq_true rfl) dX6_wireBlock_58 (go_lv (lv2 := [(0, .ref 48), (3, .int l3), (4, .int l4), (5, .int v9), (6, .int l6), (7, .int l7)]) rfl ?_)
              refine go_goto (pc := 60) (tgt := 76) (by decide) dX6_wireBlock_60 ?_
              exact go_lv rfl (ih.2.2.1 l3 l4 v9 l6 l7 h8 hv8 (by omega) (by omega) (by omega) (by omega) (by omega) (by omega) (by omega) (by omega) (by omega) (by omega) (by omega))
      ·
        intro l3 l4 l5 l6 l7 hx hvx l3l l3u l4l l4u l5l l5u l6l l6u l7l l7u hm
        refine go_aload_n (pc := 76) rfl dX6_wireBlock_76 ?_
        refine gi_getF (pc := 77) (q := 36) hvx fL_X6_9 rfl (Nat.le_of_ble_eq_true rfl) rfl (hvx.rf (by decide)) dX6_wireBlock_77 ?_
        refine gi_getF (pc := 80) (q := 38) hvx fL_X6_47 rfl (Nat.le_of_ble_eq_true rfl) rfl (hvx.rf (by decide)) dX6_wireBlock_80 ?_
        refine go_iload (pc := 83) rfl dX6_wireBlock_83 ?_
        refine gi_iald (pc := 85) (lo := -1) (hi := 127) (len := 128) hvx (ti_rfl l6) rfl (by omega) (by omega) (fun _ => rfl) dX6_wireBlock_85 (fun v10 v10l v10u v10w => ?_)
        refine go_istore (pc := 86) (Nat.le_of_ble_eq_true rfl) dX6_wireBlock_86 (go_lv (lv2 := [(0, .ref 48), (3, .int l3), (4, .int l4), (5, .int l5), (6, .int v10), (7, .int l7)]) rfl ?_)
        refine gf_iinc (pc := 88) (Nat.le_of_ble_eq_true rfl) rfl (ti_rfl l7) (ti_c (by decide)) (by omega) (by omega) dX6_wireBlock_88 (fun v11 e12 => ?_)
        refine go_lv (lv2 := [(0, .ref 48), (3, .int l3), (4, .int l4), (5, .int l5), (6, .int v10), (7, .int v11)]) rfl ?_
        refine go_goto (pc := 91) (tgt := 20) (by decide) dX6_wireBlock_91 ?_
        have z13 : (v11 : Int32).toInt = (l7.toInt + 1) := e12
        exact go_lv rfl (ih.2.1 l3 l4 l5 v10 v11 hx hvx (by omega) (by omega) (by omega) (by omega) (by omega) (by omega) (by omega) (by omega) (by omega) (by omega) (by omega))
      ·
        intro l5 hx hvx l5l l5u hm
        refine go_iload (pc := 94) rfl dX6_wireBlock_94 ?_
        exact gi_iret (pc := 96) (ti_rfl l5) ⟨_, rfl, (by rw [show (l5 : Int32).toInt = l5.toInt from (ti_rfl l5)]; omega), (by rw [show (l5 : Int32).toInt = l5.toInt from (ti_rfl l5)]; omega), hvx⟩ hvx dX6_wireBlock_96
  refine go_iload_n (pc := 0) rfl dX6_wireBlock_0 ?_
  refine go_istore (pc := 1) (Nat.le_of_ble_eq_true rfl) dX6_wireBlock_1 (go_lv (lv2 := [(0, .ref 48), (1, .int a2), (2, .int a3), (3, .int a4), (4, .int a5), (5, .int a3)]) rfl ?_)
  refine go_iload (pc := 3) rfl dX6_wireBlock_3 ?_
  refine go_bipush (pc := 5) (v := 6) (by decide) dX6_wireBlock_5 ?_
  refine gf_icmp_le (pc := 7) (tgt := 14) (ti_rfl a5) (ti_c (v := 6) (a := 6) (by decide)) (by decide) dX6_wireBlock_7 (fun q14 => ?_) (fun q14 => False.elim (by omega))
  refine go_iload_n (pc := 14) rfl dX6_wireBlock_14 ?_
  exact go_lv rfl ((key 535).1 a4 a5 a3 a2 h hv (by omega) (by omega) (by omega) (by omega) (by omega) (by omega) (by omega) (by omega) (by omega))
set_option maxHeartbeats 4000000 in
set_option maxRecDepth 100000 in
theorem s_X6_wire (l : Launch) (d : Nat) {P : PP} {h : HP} (hv : Iv P h) (c2 : Nat) (hc2 : c2 = 2 ∨ c2 = 18) : Mt l yX6_wire cX6_wire 4 none (d + 16) [.ref 48, .ref c2] h 0 0 (fun r h' => r = none ∧ Iv P h') := by
  refine Mt_iv hv (by decide) (Nat.le_of_ble_eq_true rfl) ?_
  show Go l RX6 cX6_wire 4 (g_rm (d + 16) 0 0) "wire" none 117 0 0 (fun _ _ => True) (fun r h' => r = none ∧ Iv P h') 0 0 [(0, .ref 48), (1, .ref c2)] [] h
  have key : ∀ n : Nat, (∀ (l2 : Int32) (hx : HP), Iv P hx → 0 ≤ l2.toInt → l2.toInt ≤ 5 → (3 * (5 - l2.toInt) + 2 : Int) < n → Go l RX6 cX6_wire 4 (g_rm (d + 16) 0 0) "wire" none 117 0 0 (fun _ _ => True) (fun r h' => r = none ∧ Iv P h') 0 7 [(0, .ref 48), (2, .int l2)] [] hx) := by
    intro n
    induction n with
    | zero => exact (by intros; omega)
    | succ n ih =>
      refine ?_
      ·
        intro l2 hx hvx l2l l2u hm
        refine go_iload_n (pc := 7) rfl dX6_wire_7 ?_
        refine go_aload_n (pc := 8) rfl dX6_wire_8 ?_
        refine gi_getC (pc := 9) hvx fL_X6_15 rfl (Nat.le_of_ble_eq_true rfl) rfl (by decide) dX6_wire_9 (fun c1 hc1 fc1 => ?_)
        refine gi_get (pc := 12) (lo := 0) (hi := 5) hvx fL_X6_19 (by rcases hc1 with rfl | rfl <;> rfl) (Nat.le_of_ble_eq_true rfl) rfl (by rcases hc1 with rfl | rfl <;> rfl) dX6_wire_12 (fun v2 v2l v2u v2w => ?_)
        refine gf_icmp_ge (pc := 15) (tgt := 54) (ti_rfl l2) (ti_rfl v2) (by decide) dX6_wire_15 (fun q3 => ?_) (fun q3 => ?_)
        ·
          exact gi_vret (pc := 54) ⟨rfl, hvx⟩ hvx dX6_wire_54
        ·
          refine go_aload_n (pc := 18) rfl dX6_wire_18 ?_
          refine gi_getF (pc := 19) (q := 36) hvx fL_X6_9 rfl (Nat.le_of_ble_eq_true rfl) rfl (hvx.rf (by decide)) dX6_wire_19 ?_
          refine gi_getF (pc := 22) (q := 44) hvx fL_X6_25 rfl (Nat.le_of_ble_eq_true rfl) rfl (hvx.rf (by decide)) dX6_wire_22 ?_
          refine go_iload_n (pc := 25) rfl dX6_wire_25 ?_
          refine gi_iald (pc := 26) (lo := -1) (hi := 127) (len := 5) hvx (ti_rfl l2) rfl (by omega) (by omega) (fun _ => rfl) dX6_wire_26 (fun v4 v4l v4u v4w => ?_)
          refine go_istore_n (pc := 27) (Nat.le_of_ble_eq_true rfl) dX6_wire_27 (go_lv (lv2 := [(0, .ref 48), (2, .int l2), (3, .int v4)]) rfl ?_)
          refine go_aload_n (pc := 28) rfl dX6_wire_28 ?_
          refine gi_getC (pc := 29) hvx fL_X6_15 rfl (Nat.le_of_ble_eq_true rfl) rfl (by decide) dX6_wire_29 (fun c5 hc5 fc5 => ?_)
          refine gi_getF (pc := 32) (q := c5 + 1) hvx fL_X6_31 (by rcases hc5 with rfl | rfl <;> rfl) (Nat.le_of_ble_eq_true rfl) rfl (by rcases hc5 with rfl | rfl <;> exact hvx.rf (by decide)) dX6_wire_32 ?_
          refine go_iload_n (pc := 35) rfl dX6_wire_35 ?_
          refine go_aload_n (pc := 36) rfl dX6_wire_36 ?_
          refine go_iload_n (pc := 37) rfl dX6_wire_37 ?_
          refine go_bipush (pc := 38) (v := 40) (by decide) dX6_wire_38 ?_
          refine go_iload_n (pc := 40) rfl dX6_wire_40 ?_
          refine gf_iadd (pc := 41) (ti_c (v := 40) (a := 40) (by decide)) (ti_rfl l2) (by omega) (by omega) dX6_wire_41 (fun v6 e7 => ?_)
          refine go_iconst (pc := 42) (v := (-1)) (by decide) dX6_wire_42 ?_
          refine go_iconst (pc := 43) (v := 0) (by decide) dX6_wire_43 ?_
          refine go_invV (pc := 44) (sl := 0) (s_X6_wireBlock_lv0 l (d + 0) hvx v4 (by rw [show (v4 : Int32).toInt = v4.toInt from (ti_rfl v4)]; omega) (by rw [show (v4 : Int32).toInt = v4.toInt from (ti_rfl v4)]; omega) v6 (by rw [show (v6 : Int32).toInt = (40 + l2.toInt) from e7]; omega) (by rw [show (v6 : Int32).toInt = (40 + l2.toInt) from e7]; omega) (-1) (by rw [show ((-1) : Int32).toInt = (-1) from (ti_c (v := (-1)) (a := (-1)) (by decide))]; omega) (by rw [show ((-1) : Int32).toInt = (-1) from (ti_c (v := (-1)) (a := (-1)) (by decide))]; omega) 0 (by rw [show (0 : Int32).toInt = 0 from (ti_c (v := 0) (a := 0) (by decide))]; omega) (by rw [show (0 : Int32).toInt = 0 from (ti_c (v := 0) (a := 0) (by decide))]; omega)) mL_X6_34 iM_X6_wireBlock sM_X6_wireBlock (hvx.sh rfl) rfl rfl rfl (Nat.le_of_ble_eq_true rfl) (show d + 0 + 15 + 1 ≤ d + 16 by omega) (show 8 + (8 + 11) + 40 * (d + 0 + 15) ≤ 40 * (d + 16) by omega) (g_c0 hvx.ln) (Nat.le_of_ble_eq_true rfl) dX6_wire_44 ?_
          intro r h8 hq _
          obtain ⟨v9, rfl, v9l, v9u, hv8⟩ := hq
          refine gi_iast (pc := 47) (lo := 0) (hi := 44) (len := 5) hv8 (ti_rfl l2) (ti_rfl v9) (by rcases hc5 with rfl | rfl <;> rfl) (by omega) (by omega) (fun _ => by rcases hc5 with rfl | rfl <;> rfl) (by omega) (by omega) (by rcases hc5 with rfl | rfl <;> decide) dX6_wire_47 (fun h10 hv10 hv10e => ?_)
          refine gf_iinc (pc := 48) (Nat.le_of_ble_eq_true rfl) rfl (ti_rfl l2) (ti_c (by decide)) (by omega) (by omega) dX6_wire_48 (fun v11 e12 => ?_)
          refine go_lv (lv2 := [(0, .ref 48), (2, .int v11), (3, .int v4)]) rfl ?_
          refine go_goto (pc := 51) (tgt := 7) (by decide) dX6_wire_51 ?_
          have z13 : (v11 : Int32).toInt = (l2.toInt + 1) := e12
          exact go_lv rfl (ih v11 h10 hv10 (by omega) (by omega) (by omega))
  refine go_aload_n (pc := 0) rfl dX6_wire_0 ?_
  refine go_aload_n (pc := 1) rfl dX6_wire_1 ?_
  refine gi_putC (pc := 2) hv hc2 (fP_X6_15 _) rfl (Nat.le_of_ble_eq_true rfl) rfl (fun _ => rfl) (fun _ => rfl) (by decide) (by decide) (by decide) (by decide) dX6_wire_2 (fun h14 hv14 hv14e => ?_)
  refine go_iconst (pc := 5) (v := 0) (by decide) dX6_wire_5 ?_
  refine go_istore_n (pc := 6) (Nat.le_of_ble_eq_true rfl) dX6_wire_6 (go_lv (lv2 := [(0, .ref 48), (1, .ref c2), (2, .int 0)]) rfl ?_)
  have z15 : (0 : Int32).toInt = 0 := (ti_c (v := 0) (a := 0) (by decide))
  exact go_lv rfl ((key 34) 0 h14 hv14 (by omega) (by omega) (by omega))
