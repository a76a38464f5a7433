theorem RT2.ve {F G : FN} (e : VE F G) {s : Int} (h : RD F s ∧ TD F s) : RD G s ∧ TD G s := ⟨h.1.ve e, h.2.kx (KX.ve (m := 102) (by omega) e) (by omega)⟩
def gmi (x : Int) : Int := if x = -1 then 0 else 300 - x
theorem gmi_s (x : Int) : (x = -1 → gmi x = 0) ∧ (¬ x = -1 → gmi x = 300 - x) := by
  unfold gmi
  by_cases h : x = -1
  · rw [if_pos h]; exact ⟨fun _ => rfl, fun q => absurd h q⟩
  · rw [if_neg h]; exact ⟨fun q => absurd q h, fun _ => rfl⟩
theorem gmi_lo {x : Int} (h : x ≤ 300) : 0 ≤ gmi x := by
  have := gmi_s x
  omega
theorem dX8_calls__0 : decode cX8_calls_ 0 = .ok (.iload_n 2, 1) := by decide +kernel
theorem dX8_calls__1 : decode cX8_calls_ 1 = .ok (.bipush 30, 2) := by decide +kernel
theorem dX8_calls__3 : decode cX8_calls_ 3 = .ok (.if_icmp .ne 5, 3) := by decide +kernel
theorem dX8_calls__6 : decode cX8_calls_ 6 = .ok (.iconst 3, 1) := by decide +kernel
theorem dX8_calls__7 : decode cX8_calls_ 7 = .ok (.ireturn, 1) := by decide +kernel
theorem dX8_calls__8 : decode cX8_calls_ 8 = .ok (.aload_n 0, 1) := by decide +kernel
theorem dX8_calls__9 : decode cX8_calls_ 9 = .ok (.aload_n 0, 1) := by decide +kernel
theorem dX8_calls__10 : decode cX8_calls_ 10 = .ok (.getfield 50, 3) := by decide +kernel
theorem dX8_calls__13 : decode cX8_calls_ 13 = .ok (.iload_n 1, 1) := by decide +kernel
theorem dX8_calls__14 : decode cX8_calls_ 14 = .ok (.iaload, 1) := by decide +kernel
theorem dX8_calls__15 : decode cX8_calls_ 15 = .ok (.iload_n 2, 1) := by decide +kernel
theorem dX8_calls__16 : decode cX8_calls_ 16 = .ok (.iconst 1, 1) := by decide +kernel
theorem dX8_calls__17 : decode cX8_calls_ 17 = .ok (.iadd, 1) := by decide +kernel
theorem dX8_calls__18 : decode cX8_calls_ 18 = .ok (.iload_n 3, 1) := by decide +kernel
theorem dX8_calls__19 : decode cX8_calls_ 19 = .ok (.iload 4, 2) := by decide +kernel
theorem dX8_calls__21 : decode cX8_calls_ 21 = .ok (.invokevirtual 457, 3) := by decide +kernel
theorem dX8_calls__24 : decode cX8_calls_ 24 = .ok (.istore 5, 2) := by decide +kernel
theorem dX8_calls__26 : decode cX8_calls_ 26 = .ok (.iload 5, 2) := by decide +kernel
theorem dX8_calls__28 : decode cX8_calls_ 28 = .ok (.iconst 3, 1) := by decide +kernel
theorem dX8_calls__29 : decode cX8_calls_ 29 = .ok (.if_icmp .ne 5, 3) := by decide +kernel
theorem dX8_calls__32 : decode cX8_calls_ 32 = .ok (.iconst 3, 1) := by decide +kernel
theorem dX8_calls__33 : decode cX8_calls_ 33 = .ok (.ireturn, 1) := by decide +kernel
theorem dX8_calls__34 : decode cX8_calls_ 34 = .ok (.aload_n 0, 1) := by decide +kernel
theorem dX8_calls__35 : decode cX8_calls_ 35 = .ok (.iload_n 1, 1) := by decide +kernel
theorem dX8_calls__36 : decode cX8_calls_ 36 = .ok (.aload_n 0, 1) := by decide +kernel
theorem dX8_calls__37 : decode cX8_calls_ 37 = .ok (.getfield 434, 3) := by decide +kernel
theorem dX8_calls__40 : decode cX8_calls_ 40 = .ok (.invokevirtual 448, 3) := by decide +kernel
theorem dX8_calls__43 : decode cX8_calls_ 43 = .ok (.iload 5, 2) := by decide +kernel
theorem dX8_calls__45 : decode cX8_calls_ 45 = .ok (.iconst 2, 1) := by decide +kernel
theorem dX8_calls__46 : decode cX8_calls_ 46 = .ok (.if_icmp .ne 5, 3) := by decide +kernel
theorem dX8_calls__49 : decode cX8_calls_ 49 = .ok (.iconst 2, 1) := by decide +kernel
theorem dX8_calls__50 : decode cX8_calls_ 50 = .ok (.ireturn, 1) := by decide +kernel
theorem dX8_calls__51 : decode cX8_calls_ 51 = .ok (.aload_n 0, 1) := by decide +kernel
theorem dX8_calls__52 : decode cX8_calls_ 52 = .ok (.iload_n 2, 1) := by decide +kernel
theorem dX8_calls__53 : decode cX8_calls_ 53 = .ok (.aload_n 0, 1) := by decide +kernel
theorem dX8_calls__54 : decode cX8_calls_ 54 = .ok (.getfield 44, 3) := by decide +kernel
theorem dX8_calls__57 : decode cX8_calls_ 57 = .ok (.iload_n 1, 1) := by decide +kernel
theorem dX8_calls__58 : decode cX8_calls_ 58 = .ok (.iaload, 1) := by decide +kernel
theorem dX8_calls__59 : decode cX8_calls_ 59 = .ok (.aload_n 0, 1) := by decide +kernel
theorem dX8_calls__60 : decode cX8_calls_ 60 = .ok (.getfield 434, 3) := by decide +kernel
theorem dX8_calls__63 : decode cX8_calls_ 63 = .ok (.invokevirtual 445, 3) := by decide +kernel
theorem dX8_calls__66 : decode cX8_calls_ 66 = .ok (.iconst 0, 1) := by decide +kernel
theorem dX8_calls__67 : decode cX8_calls_ 67 = .ok (.ireturn, 1) := by decide +kernel
theorem dX8_does_0 : decode cX8_does 0 = .ok (.aload_n 0, 1) := by decide +kernel
theorem dX8_does_1 : decode cX8_does 1 = .ok (.getfield 437, 3) := by decide +kernel
theorem dX8_does_4 : decode cX8_does 4 = .ok (.sipush 3000, 3) := by decide +kernel
theorem dX8_does_7 : decode cX8_does 7 = .ok (.if_icmp .ne 5, 3) := by decide +kernel
theorem dX8_does_10 : decode cX8_does 10 = .ok (.iconst 3, 1) := by decide +kernel
theorem dX8_does_11 : decode cX8_does 11 = .ok (.ireturn, 1) := by decide +kernel
theorem dX8_does_12 : decode cX8_does 12 = .ok (.aload_n 0, 1) := by decide +kernel
theorem dX8_does_13 : decode cX8_does 13 = .ok (.dup, 1) := by decide +kernel
theorem dX8_does_14 : decode cX8_does 14 = .ok (.getfield 437, 3) := by decide +kernel
theorem dX8_does_17 : decode cX8_does 17 = .ok (.iconst 1, 1) := by decide +kernel
theorem dX8_does_18 : decode cX8_does 18 = .ok (.iadd, 1) := by decide +kernel
theorem dX8_does_19 : decode cX8_does 19 = .ok (.putfield 437, 3) := by decide +kernel
theorem dX8_does_22 : decode cX8_does 22 = .ok (.aload_n 0, 1) := by decide +kernel
theorem dX8_does_23 : decode cX8_does 23 = .ok (.iload_n 2, 1) := by decide +kernel
theorem dX8_does_24 : decode cX8_does 24 = .ok (.iload_n 1, 1) := by decide +kernel
theorem dX8_does_25 : decode cX8_does 25 = .ok (.iconst 0, 1) := by decide +kernel
theorem dX8_does_26 : decode cX8_does 26 = .ok (.invokevirtual 440, 3) := by decide +kernel
theorem dX8_does_29 : decode cX8_does 29 = .ok (.istore_n 3, 1) := by decide +kernel
theorem dX8_does_30 : decode cX8_does 30 = .ok (.aload_n 0, 1) := by decide +kernel
theorem dX8_does_31 : decode cX8_does 31 = .ok (.iload_n 2, 1) := by decide +kernel
theorem dX8_does_32 : decode cX8_does 32 = .ok (.iload_n 1, 1) := by decide +kernel
theorem dX8_does_33 : decode cX8_does 33 = .ok (.iconst 1, 1) := by decide +kernel
theorem dX8_does_34 : decode cX8_does 34 = .ok (.invokevirtual 440, 3) := by decide +kernel
theorem dX8_does_37 : decode cX8_does 37 = .ok (.istore 4, 2) := by decide +kernel
theorem dX8_does_39 : decode cX8_does 39 = .ok (.aload_n 0, 1) := by decide +kernel
theorem dX8_does_40 : decode cX8_does 40 = .ok (.getfield 29, 3) := by decide +kernel
theorem dX8_does_43 : decode cX8_does 43 = .ok (.iload_n 1, 1) := by decide +kernel
theorem dX8_does_44 : decode cX8_does 44 = .ok (.iaload, 1) := by decide +kernel
theorem dX8_does_45 : decode cX8_does 45 = .ok (.tableswitch 159 0 3 #[31, 80, 90, 152], 31) := by decide +kernel
theorem dX8_does_76 : decode cX8_does 76 = .ok (.aload_n 0, 1) := by decide +kernel
theorem dX8_does_77 : decode cX8_does 77 = .ok (.getfield 47, 3) := by decide +kernel
theorem dX8_does_80 : decode cX8_does 80 = .ok (.iload_n 1, 1) := by decide +kernel
theorem dX8_does_81 : decode cX8_does 81 = .ok (.iaload, 1) := by decide +kernel
theorem dX8_does_82 : decode cX8_does 82 = .ok (.ifCond .ne 7, 3) := by decide +kernel
theorem dX8_does_85 : decode cX8_does 85 = .ok (.iload_n 3, 1) := by decide +kernel
theorem dX8_does_86 : decode cX8_does 86 = .ok (.goto 15, 3) := by decide +kernel
theorem dX8_does_89 : decode cX8_does 89 = .ok (.aload_n 0, 1) := by decide +kernel
theorem dX8_does_90 : decode cX8_does 90 = .ok (.getfield 47, 3) := by decide +kernel
theorem dX8_does_93 : decode cX8_does 93 = .ok (.iload_n 1, 1) := by decide +kernel
theorem dX8_does_94 : decode cX8_does 94 = .ok (.iaload, 1) := by decide +kernel
theorem dX8_does_95 : decode cX8_does 95 = .ok (.iload_n 3, 1) := by decide +kernel
theorem dX8_does_96 : decode cX8_does 96 = .ok (.iload 4, 2) := by decide +kernel
theorem dX8_does_98 : decode cX8_does 98 = .ok (.invokestatic 442, 3) := by decide +kernel
theorem dX8_does_101 : decode cX8_does 101 = .ok (.istore 5, 2) := by decide +kernel
theorem dX8_does_103 : decode cX8_does 103 = .ok (.aload_n 0, 1) := by decide +kernel
theorem dX8_does_104 : decode cX8_does 104 = .ok (.iload_n 2, 1) := by decide +kernel
theorem dX8_does_105 : decode cX8_does 105 = .ok (.aload_n 0, 1) := by decide +kernel
theorem dX8_does_106 : decode cX8_does 106 = .ok (.getfield 44, 3) := by decide +kernel
theorem dX8_does_109 : decode cX8_does 109 = .ok (.iload_n 1, 1) := by decide +kernel
theorem dX8_does_110 : decode cX8_does 110 = .ok (.iaload, 1) := by decide +kernel
theorem dX8_does_111 : decode cX8_does 111 = .ok (.iload 5, 2) := by decide +kernel
theorem dX8_does_113 : decode cX8_does 113 = .ok (.invokevirtual 445, 3) := by decide +kernel
theorem dX8_does_116 : decode cX8_does 116 = .ok (.aload_n 0, 1) := by decide +kernel
theorem dX8_does_117 : decode cX8_does 117 = .ok (.iload_n 1, 1) := by decide +kernel
theorem dX8_does_118 : decode cX8_does 118 = .ok (.iload 5, 2) := by decide +kernel
theorem dX8_does_120 : decode cX8_does 120 = .ok (.invokevirtual 448, 3) := by decide +kernel
theorem dX8_does_123 : decode cX8_does 123 = .ok (.iconst 0, 1) := by decide +kernel
theorem dX8_does_124 : decode cX8_does 124 = .ok (.ireturn, 1) := by decide +kernel
theorem dX8_does_125 : decode cX8_does 125 = .ok (.aload_n 0, 1) := by decide +kernel
theorem dX8_does_126 : decode cX8_does 126 = .ok (.iload_n 1, 1) := by decide +kernel
theorem dX8_does_127 : decode cX8_does 127 = .ok (.iload_n 2, 1) := by decide +kernel
theorem dX8_does_128 : decode cX8_does 128 = .ok (.iload_n 3, 1) := by decide +kernel
theorem dX8_does_129 : decode cX8_does 129 = .ok (.iload 4, 2) := by decide +kernel
theorem dX8_does_131 : decode cX8_does 131 = .ok (.invokevirtual 451, 3) := by decide +kernel
theorem dX8_does_134 : decode cX8_does 134 = .ok (.ireturn, 1) := by decide +kernel
theorem dX8_does_135 : decode cX8_does 135 = .ok (.aload_n 0, 1) := by decide +kernel
theorem dX8_does_136 : decode cX8_does 136 = .ok (.iload_n 1, 1) := by decide +kernel
theorem dX8_does_137 : decode cX8_does 137 = .ok (.iload_n 3, 1) := by decide +kernel
theorem dX8_does_138 : decode cX8_does 138 = .ok (.iload 4, 2) := by decide +kernel
theorem dX8_does_140 : decode cX8_does 140 = .ok (.if_icmp .ge 7, 3) := by decide +kernel
theorem dX8_does_143 : decode cX8_does 143 = .ok (.iconst 1, 1) := by decide +kernel
theorem dX8_does_144 : decode cX8_does 144 = .ok (.goto 4, 3) := by decide +kernel
theorem dX8_does_147 : decode cX8_does 147 = .ok (.iconst 0, 1) := by decide +kernel
theorem dX8_does_148 : decode cX8_does 148 = .ok (.invokevirtual 448, 3) := by decide +kernel
theorem dX8_does_151 : decode cX8_does 151 = .ok (.iload_n 3, 1) := by decide +kernel
theorem dX8_does_152 : decode cX8_does 152 = .ok (.iload 4, 2) := by decide +kernel
theorem dX8_does_154 : decode cX8_does 154 = .ok (.if_icmp .ge 17, 3) := by decide +kernel
theorem dX8_does_157 : decode cX8_does 157 = .ok (.aload_n 0, 1) := by decide +kernel
theorem dX8_does_158 : decode cX8_does 158 = .ok (.aload_n 0, 1) := by decide +kernel
theorem dX8_does_159 : decode cX8_does 159 = .ok (.getfield 53, 3) := by decide +kernel
theorem dX8_does_162 : decode cX8_does 162 = .ok (.iload_n 1, 1) := by decide +kernel
theorem dX8_does_163 : decode cX8_does 163 = .ok (.iaload, 1) := by decide +kernel
theorem dX8_does_164 : decode cX8_does 164 = .ok (.iload_n 2, 1) := by decide +kernel
theorem dX8_does_165 : decode cX8_does 165 = .ok (.invokevirtual 431, 3) := by decide +kernel
theorem dX8_does_168 : decode cX8_does 168 = .ok (.goto 28, 3) := by decide +kernel
theorem dX8_does_171 : decode cX8_does 171 = .ok (.aload_n 0, 1) := by decide +kernel
theorem dX8_does_172 : decode cX8_does 172 = .ok (.getfield 56, 3) := by decide +kernel
theorem dX8_does_175 : decode cX8_does 175 = .ok (.iload_n 1, 1) := by decide +kernel
theorem dX8_does_176 : decode cX8_does 176 = .ok (.iaload, 1) := by decide +kernel
theorem dX8_does_177 : decode cX8_does 177 = .ok (.iconst (-1), 1) := by decide +kernel
theorem dX8_does_178 : decode cX8_does 178 = .ok (.if_icmp .ne 7, 3) := by decide +kernel
theorem dX8_does_181 : decode cX8_does 181 = .ok (.iconst 0, 1) := by decide +kernel
theorem dX8_does_182 : decode cX8_does 182 = .ok (.goto 14, 3) := by decide +kernel
theorem dX8_does_185 : decode cX8_does 185 = .ok (.aload_n 0, 1) := by decide +kernel
theorem dX8_does_186 : decode cX8_does 186 = .ok (.aload_n 0, 1) := by decide +kernel
theorem dX8_does_187 : decode cX8_does 187 = .ok (.getfield 56, 3) := by decide +kernel
theorem dX8_does_190 : decode cX8_does 190 = .ok (.iload_n 1, 1) := by decide +kernel
theorem dX8_does_191 : decode cX8_does 191 = .ok (.iaload, 1) := by decide +kernel
theorem dX8_does_192 : decode cX8_does 192 = .ok (.iload_n 2, 1) := by decide +kernel
theorem dX8_does_193 : decode cX8_does 193 = .ok (.invokevirtual 431, 3) := by decide +kernel
theorem dX8_does_196 : decode cX8_does 196 = .ok (.ireturn, 1) := by decide +kernel
theorem dX8_does_197 : decode cX8_does 197 = .ok (.aload_n 0, 1) := by decide +kernel
theorem dX8_does_198 : decode cX8_does 198 = .ok (.iload_n 1, 1) := by decide +kernel
theorem dX8_does_199 : decode cX8_does 199 = .ok (.iload_n 2, 1) := by decide +kernel
theorem dX8_does_200 : decode cX8_does 200 = .ok (.invokevirtual 454, 3) := by decide +kernel
theorem dX8_does_203 : decode cX8_does 203 = .ok (.ireturn, 1) := by decide +kernel
theorem dX8_does_204 : decode cX8_does 204 = .ok (.aload_n 0, 1) := by decide +kernel
theorem dX8_does_205 : decode cX8_does 205 = .ok (.iload_n 1, 1) := by decide +kernel
theorem dX8_does_206 : decode cX8_does 206 = .ok (.iload_n 3, 1) := by decide +kernel
theorem dX8_does_207 : decode cX8_does 207 = .ok (.invokevirtual 448, 3) := by decide +kernel
theorem dX8_does_210 : decode cX8_does 210 = .ok (.aload_n 0, 1) := by decide +kernel
theorem dX8_does_211 : decode cX8_does 211 = .ok (.iload_n 3, 1) := by decide +kernel
theorem dX8_does_212 : decode cX8_does 212 = .ok (.putfield 434, 3) := by decide +kernel
theorem dX8_does_215 : decode cX8_does 215 = .ok (.aload_n 0, 1) := by decide +kernel
theorem dX8_does_216 : decode cX8_does 216 = .ok (.getfield 29, 3) := by decide +kernel
theorem dX8_does_219 : decode cX8_does 219 = .ok (.iload_n 1, 1) := by decide +kernel
theorem dX8_does_220 : decode cX8_does 220 = .ok (.iaload, 1) := by decide +kernel
theorem dX8_does_221 : decode cX8_does 221 = .ok (.iconst 4, 1) := by decide +kernel
theorem dX8_does_222 : decode cX8_does 222 = .ok (.if_icmp .ne 7, 3) := by decide +kernel
theorem dX8_does_225 : decode cX8_does 225 = .ok (.iconst 2, 1) := by decide +kernel
theorem dX8_does_226 : decode cX8_does 226 = .ok (.goto 4, 3) := by decide +kernel
theorem dX8_does_229 : decode cX8_does 229 = .ok (.iconst 1, 1) := by decide +kernel
theorem dX8_does_230 : decode cX8_does 230 = .ok (.ireturn, 1) := by decide +kernel
theorem dX8_goesBlock_0 : decode cX8_goesBlock 0 = .ok (.aload_n 0, 1) := by decide +kernel
theorem dX8_goesBlock_1 : decode cX8_goesBlock 1 = .ok (.getfield 68, 3) := by decide +kernel
theorem dX8_goesBlock_4 : decode cX8_goesBlock 4 = .ok (.iload_n 1, 1) := by decide +kernel
theorem dX8_goesBlock_5 : decode cX8_goesBlock 5 = .ok (.iaload, 1) := by decide +kernel
theorem dX8_goesBlock_6 : decode cX8_goesBlock 6 = .ok (.istore_n 3, 1) := by decide +kernel
theorem dX8_goesBlock_7 : decode cX8_goesBlock 7 = .ok (.iload_n 3, 1) := by decide +kernel
theorem dX8_goesBlock_8 : decode cX8_goesBlock 8 = .ok (.iconst (-1), 1) := by decide +kernel
theorem dX8_goesBlock_9 : decode cX8_goesBlock 9 = .ok (.if_icmp .eq 69, 3) := by decide +kernel
theorem dX8_goesBlock_12 : decode cX8_goesBlock 12 = .ok (.aload_n 0, 1) := by decide +kernel
theorem dX8_goesBlock_13 : decode cX8_goesBlock 13 = .ok (.getfield 29, 3) := by decide +kernel
theorem dX8_goesBlock_16 : decode cX8_goesBlock 16 = .ok (.iload_n 3, 1) := by decide +kernel
theorem dX8_goesBlock_17 : decode cX8_goesBlock 17 = .ok (.iaload, 1) := by decide +kernel
theorem dX8_goesBlock_18 : decode cX8_goesBlock 18 = .ok (.bipush 6, 2) := by decide +kernel
theorem dX8_goesBlock_20 : decode cX8_goesBlock 20 = .ok (.if_icmp .ne 12, 3) := by decide +kernel
theorem dX8_goesBlock_23 : decode cX8_goesBlock 23 = .ok (.aload_n 0, 1) := by decide +kernel
theorem dX8_goesBlock_24 : decode cX8_goesBlock 24 = .ok (.iload_n 3, 1) := by decide +kernel
theorem dX8_goesBlock_25 : decode cX8_goesBlock 25 = .ok (.iload_n 2, 1) := by decide +kernel
theorem dX8_goesBlock_26 : decode cX8_goesBlock 26 = .ok (.invokevirtual 421, 3) := by decide +kernel
theorem dX8_goesBlock_29 : decode cX8_goesBlock 29 = .ok (.goto 29, 3) := by decide +kernel
theorem dX8_goesBlock_32 : decode cX8_goesBlock 32 = .ok (.aload_n 0, 1) := by decide +kernel
theorem dX8_goesBlock_33 : decode cX8_goesBlock 33 = .ok (.getfield 424, 3) := by decide +kernel
theorem dX8_goesBlock_36 : decode cX8_goesBlock 36 = .ok (.aload_n 0, 1) := by decide +kernel
theorem dX8_goesBlock_37 : decode cX8_goesBlock 37 = .ok (.getfield 32, 3) := by decide +kernel
theorem dX8_goesBlock_40 : decode cX8_goesBlock 40 = .ok (.iload_n 3, 1) := by decide +kernel
theorem dX8_goesBlock_41 : decode cX8_goesBlock 41 = .ok (.iaload, 1) := by decide +kernel
theorem dX8_goesBlock_42 : decode cX8_goesBlock 42 = .ok (.invokestatic 280, 3) := by decide +kernel
theorem dX8_goesBlock_45 : decode cX8_goesBlock 45 = .ok (.ifCond .eq 12, 3) := by decide +kernel
theorem dX8_goesBlock_48 : decode cX8_goesBlock 48 = .ok (.aload_n 0, 1) := by decide +kernel
theorem dX8_goesBlock_49 : decode cX8_goesBlock 49 = .ok (.iload_n 3, 1) := by decide +kernel
theorem dX8_goesBlock_50 : decode cX8_goesBlock 50 = .ok (.iload_n 2, 1) := by decide +kernel
theorem dX8_goesBlock_51 : decode cX8_goesBlock 51 = .ok (.invokevirtual 428, 3) := by decide +kernel
theorem dX8_goesBlock_54 : decode cX8_goesBlock 54 = .ok (.goto 4, 3) := by decide +kernel
theorem dX8_goesBlock_57 : decode cX8_goesBlock 57 = .ok (.iconst 0, 1) := by decide +kernel
theorem dX8_goesBlock_58 : decode cX8_goesBlock 58 = .ok (.istore 4, 2) := by decide +kernel
theorem dX8_goesBlock_60 : decode cX8_goesBlock 60 = .ok (.iload 4, 2) := by decide +kernel
theorem dX8_goesBlock_62 : decode cX8_goesBlock 62 = .ok (.ifCond .eq 6, 3) := by decide +kernel
theorem dX8_goesBlock_65 : decode cX8_goesBlock 65 = .ok (.iload 4, 2) := by decide +kernel
theorem dX8_goesBlock_67 : decode cX8_goesBlock 67 = .ok (.ireturn, 1) := by decide +kernel
theorem dX8_goesBlock_68 : decode cX8_goesBlock 68 = .ok (.aload_n 0, 1) := by decide +kernel
theorem dX8_goesBlock_69 : decode cX8_goesBlock 69 = .ok (.getfield 59, 3) := by decide +kernel
theorem dX8_goesBlock_72 : decode cX8_goesBlock 72 = .ok (.iload_n 3, 1) := by decide +kernel
theorem dX8_goesBlock_73 : decode cX8_goesBlock 73 = .ok (.iaload, 1) := by decide +kernel
theorem dX8_goesBlock_74 : decode cX8_goesBlock 74 = .ok (.istore_n 3, 1) := by decide +kernel
theorem dX8_goesBlock_75 : decode cX8_goesBlock 75 = .ok (.goto (-68), 3) := by decide +kernel
theorem dX8_goesBlock_78 : decode cX8_goesBlock 78 = .ok (.iconst 0, 1) := by decide +kernel
theorem dX8_goesBlock_79 : decode cX8_goesBlock 79 = .ok (.ireturn, 1) := by decide +kernel
theorem dX8_loops_0 : decode cX8_loops 0 = .ok (.aload_n 0, 1) := by decide +kernel
theorem dX8_loops_1 : decode cX8_loops 1 = .ok (.iload_n 2, 1) := by decide +kernel
theorem dX8_loops_2 : decode cX8_loops 2 = .ok (.iload_n 1, 1) := by decide +kernel
theorem dX8_loops_3 : decode cX8_loops 3 = .ok (.iconst 0, 1) := by decide +kernel
theorem dX8_loops_4 : decode cX8_loops 4 = .ok (.invokevirtual 440, 3) := by decide +kernel
theorem dX8_loops_7 : decode cX8_loops 7 = .ok (.aload_n 0, 1) := by decide +kernel
theorem dX8_loops_8 : decode cX8_loops 8 = .ok (.iload_n 2, 1) := by decide +kernel
theorem dX8_loops_9 : decode cX8_loops 9 = .ok (.iload_n 1, 1) := by decide +kernel
theorem dX8_loops_10 : decode cX8_loops 10 = .ok (.iconst 1, 1) := by decide +kernel
theorem dX8_loops_11 : decode cX8_loops 11 = .ok (.invokevirtual 440, 3) := by decide +kernel
theorem dX8_loops_14 : decode cX8_loops 14 = .ok (.if_icmp .ge 7, 3) := by decide +kernel
theorem dX8_loops_17 : decode cX8_loops 17 = .ok (.iconst 1, 1) := by decide +kernel
theorem dX8_loops_18 : decode cX8_loops 18 = .ok (.goto 4, 3) := by decide +kernel
theorem dX8_loops_21 : decode cX8_loops 21 = .ok (.iconst 0, 1) := by decide +kernel
theorem dX8_loops_22 : decode cX8_loops 22 = .ok (.istore_n 3, 1) := by decide +kernel
theorem dX8_loops_23 : decode cX8_loops 23 = .ok (.aload_n 0, 1) := by decide +kernel
theorem dX8_loops_24 : decode cX8_loops 24 = .ok (.iload_n 1, 1) := by decide +kernel
theorem dX8_loops_25 : decode cX8_loops 25 = .ok (.iload_n 3, 1) := by decide +kernel
theorem dX8_loops_26 : decode cX8_loops 26 = .ok (.ifCond .eq 7, 3) := by decide +kernel
theorem dX8_loops_29 : decode cX8_loops 29 = .ok (.iconst 1, 1) := by decide +kernel
theorem dX8_loops_30 : decode cX8_loops 30 = .ok (.goto 4, 3) := by decide +kernel
theorem dX8_loops_33 : decode cX8_loops 33 = .ok (.iconst 0, 1) := by decide +kernel
theorem dX8_loops_34 : decode cX8_loops 34 = .ok (.invokevirtual 448, 3) := by decide +kernel
theorem dX8_loops_37 : decode cX8_loops 37 = .ok (.iload_n 3, 1) := by decide +kernel
theorem dX8_loops_38 : decode cX8_loops 38 = .ok (.ifCond .eq 86, 3) := by decide +kernel
theorem dX8_loops_41 : decode cX8_loops 41 = .ok (.aload_n 0, 1) := by decide +kernel
theorem dX8_loops_42 : decode cX8_loops 42 = .ok (.aload_n 0, 1) := by decide +kernel
theorem dX8_loops_43 : decode cX8_loops 43 = .ok (.getfield 53, 3) := by decide +kernel
theorem dX8_loops_46 : decode cX8_loops 46 = .ok (.iload_n 1, 1) := by decide +kernel
theorem dX8_loops_47 : decode cX8_loops 47 = .ok (.iaload, 1) := by decide +kernel
theorem dX8_loops_48 : decode cX8_loops 48 = .ok (.iload_n 2, 1) := by decide +kernel
theorem dX8_loops_49 : decode cX8_loops 49 = .ok (.invokevirtual 431, 3) := by decide +kernel
theorem dX8_loops_52 : decode cX8_loops 52 = .ok (.istore 4, 2) := by decide +kernel
theorem dX8_loops_54 : decode cX8_loops 54 = .ok (.iload 4, 2) := by decide +kernel
theorem dX8_loops_56 : decode cX8_loops 56 = .ok (.ifCond .eq 6, 3) := by decide +kernel
theorem dX8_loops_59 : decode cX8_loops 59 = .ok (.iload 4, 2) := by decide +kernel
theorem dX8_loops_61 : decode cX8_loops 61 = .ok (.ireturn, 1) := by decide +kernel
theorem dX8_loops_62 : decode cX8_loops 62 = .ok (.aload_n 0, 1) := by decide +kernel
theorem dX8_loops_63 : decode cX8_loops 63 = .ok (.getfield 437, 3) := by decide +kernel
theorem dX8_loops_66 : decode cX8_loops 66 = .ok (.sipush 3000, 3) := by decide +kernel
theorem dX8_loops_69 : decode cX8_loops 69 = .ok (.if_icmp .ne 5, 3) := by decide +kernel
theorem dX8_loops_72 : decode cX8_loops 72 = .ok (.iconst 3, 1) := by decide +kernel
theorem dX8_loops_73 : decode cX8_loops 73 = .ok (.ireturn, 1) := by decide +kernel
theorem dX8_loops_74 : decode cX8_loops 74 = .ok (.aload_n 0, 1) := by decide +kernel
theorem dX8_loops_75 : decode cX8_loops 75 = .ok (.dup, 1) := by decide +kernel
theorem dX8_loops_76 : decode cX8_loops 76 = .ok (.getfield 437, 3) := by decide +kernel
theorem dX8_loops_79 : decode cX8_loops 79 = .ok (.iconst 1, 1) := by decide +kernel
theorem dX8_loops_80 : decode cX8_loops 80 = .ok (.iadd, 1) := by decide +kernel
theorem dX8_loops_81 : decode cX8_loops 81 = .ok (.putfield 437, 3) := by decide +kernel
theorem dX8_loops_84 : decode cX8_loops 84 = .ok (.aload_n 0, 1) := by decide +kernel
theorem dX8_loops_85 : decode cX8_loops 85 = .ok (.iload_n 2, 1) := by decide +kernel
theorem dX8_loops_86 : decode cX8_loops 86 = .ok (.iload_n 1, 1) := by decide +kernel
theorem dX8_loops_87 : decode cX8_loops 87 = .ok (.iconst 0, 1) := by decide +kernel
theorem dX8_loops_88 : decode cX8_loops 88 = .ok (.invokevirtual 440, 3) := by decide +kernel
theorem dX8_loops_91 : decode cX8_loops 91 = .ok (.aload_n 0, 1) := by decide +kernel
theorem dX8_loops_92 : decode cX8_loops 92 = .ok (.iload_n 2, 1) := by decide +kernel
theorem dX8_loops_93 : decode cX8_loops 93 = .ok (.iload_n 1, 1) := by decide +kernel
theorem dX8_loops_94 : decode cX8_loops 94 = .ok (.iconst 1, 1) := by decide +kernel
theorem dX8_loops_95 : decode cX8_loops 95 = .ok (.invokevirtual 440, 3) := by decide +kernel
theorem dX8_loops_98 : decode cX8_loops 98 = .ok (.if_icmp .ge 7, 3) := by decide +kernel
theorem dX8_loops_101 : decode cX8_loops 101 = .ok (.iconst 1, 1) := by decide +kernel
theorem dX8_loops_102 : decode cX8_loops 102 = .ok (.goto 4, 3) := by decide +kernel
theorem dX8_loops_105 : decode cX8_loops 105 = .ok (.iconst 0, 1) := by decide +kernel
theorem dX8_loops_106 : decode cX8_loops 106 = .ok (.istore_n 3, 1) := by decide +kernel
theorem dX8_loops_107 : decode cX8_loops 107 = .ok (.aload_n 0, 1) := by decide +kernel
theorem dX8_loops_108 : decode cX8_loops 108 = .ok (.iload_n 1, 1) := by decide +kernel
theorem dX8_loops_109 : decode cX8_loops 109 = .ok (.iload_n 3, 1) := by decide +kernel
theorem dX8_loops_110 : decode cX8_loops 110 = .ok (.ifCond .eq 7, 3) := by decide +kernel
theorem dX8_loops_113 : decode cX8_loops 113 = .ok (.iconst 1, 1) := by decide +kernel
theorem dX8_loops_114 : decode cX8_loops 114 = .ok (.goto 4, 3) := by decide +kernel
theorem dX8_loops_117 : decode cX8_loops 117 = .ok (.iconst 0, 1) := by decide +kernel
theorem dX8_loops_118 : decode cX8_loops 118 = .ok (.invokevirtual 448, 3) := by decide +kernel
theorem dX8_loops_121 : decode cX8_loops 121 = .ok (.goto (-84), 3) := by decide +kernel
theorem dX8_loops_124 : decode cX8_loops 124 = .ok (.iconst 0, 1) := by decide +kernel
theorem dX8_loops_125 : decode cX8_loops 125 = .ok (.ireturn, 1) := by decide +kernel
theorem dX8_procedure_0 : decode cX8_procedure 0 = .ok (.iconst 0, 1) := by decide +kernel
theorem dX8_procedure_1 : decode cX8_procedure 1 = .ok (.istore 5, 2) := by decide +kernel
theorem dX8_procedure_3 : decode cX8_procedure 3 = .ok (.iload 5, 2) := by decide +kernel
theorem dX8_procedure_5 : decode cX8_procedure 5 = .ok (.bipush 6, 2) := by decide +kernel
theorem dX8_procedure_7 : decode cX8_procedure 7 = .ok (.if_icmp .ge 42, 3) := by decide +kernel
theorem dX8_procedure_10 : decode cX8_procedure 10 = .ok (.aload_n 0, 1) := by decide +kernel
theorem dX8_procedure_11 : decode cX8_procedure 11 = .ok (.getfield 142, 3) := by decide +kernel
theorem dX8_procedure_14 : decode cX8_procedure 14 = .ok (.bipush 6, 2) := by decide +kernel
theorem dX8_procedure_16 : decode cX8_procedure 16 = .ok (.iload_n 2, 1) := by decide +kernel
theorem dX8_procedure_17 : decode cX8_procedure 17 = .ok (.imul, 1) := by decide +kernel
theorem dX8_procedure_18 : decode cX8_procedure 18 = .ok (.iload 5, 2) := by decide +kernel
theorem dX8_procedure_20 : decode cX8_procedure 20 = .ok (.iadd, 1) := by decide +kernel
theorem dX8_procedure_21 : decode cX8_procedure 21 = .ok (.iload 5, 2) := by decide +kernel
theorem dX8_procedure_23 : decode cX8_procedure 23 = .ok (.ifCond .ne 7, 3) := by decide +kernel
theorem dX8_procedure_26 : decode cX8_procedure 26 = .ok (.iload_n 3, 1) := by decide +kernel
theorem dX8_procedure_27 : decode cX8_procedure 27 = .ok (.goto 15, 3) := by decide +kernel
theorem dX8_procedure_30 : decode cX8_procedure 30 = .ok (.iload 5, 2) := by decide +kernel
theorem dX8_procedure_32 : decode cX8_procedure 32 = .ok (.iconst 1, 1) := by decide +kernel
theorem dX8_procedure_33 : decode cX8_procedure 33 = .ok (.if_icmp .ne 8, 3) := by decide +kernel
theorem dX8_procedure_36 : decode cX8_procedure 36 = .ok (.iload 4, 2) := by decide +kernel
theorem dX8_procedure_38 : decode cX8_procedure 38 = .ok (.goto 4, 3) := by decide +kernel
theorem dX8_procedure_41 : decode cX8_procedure 41 = .ok (.iconst 0, 1) := by decide +kernel
theorem dX8_procedure_42 : decode cX8_procedure 42 = .ok (.iastore, 1) := by decide +kernel
theorem dX8_procedure_43 : decode cX8_procedure 43 = .ok (.iinc 5 1, 3) := by decide +kernel
theorem dX8_procedure_46 : decode cX8_procedure 46 = .ok (.goto (-43), 3) := by decide +kernel
theorem dX8_procedure_49 : decode cX8_procedure 49 = .ok (.aload_n 0, 1) := by decide +kernel
theorem dX8_procedure_50 : decode cX8_procedure 50 = .ok (.aload_n 0, 1) := by decide +kernel
theorem dX8_procedure_51 : decode cX8_procedure 51 = .ok (.getfield 80, 3) := by decide +kernel
theorem dX8_procedure_54 : decode cX8_procedure 54 = .ok (.iconst 5, 1) := by decide +kernel
theorem dX8_procedure_55 : decode cX8_procedure 55 = .ok (.aload_n 0, 1) := by decide +kernel
theorem dX8_procedure_56 : decode cX8_procedure 56 = .ok (.getfield 228, 3) := by decide +kernel
theorem dX8_procedure_59 : decode cX8_procedure 59 = .ok (.imul, 1) := by decide +kernel
theorem dX8_procedure_60 : decode cX8_procedure 60 = .ok (.iload_n 1, 1) := by decide +kernel
theorem dX8_procedure_61 : decode cX8_procedure 61 = .ok (.iadd, 1) := by decide +kernel
theorem dX8_procedure_62 : decode cX8_procedure 62 = .ok (.iaload, 1) := by decide +kernel
theorem dX8_procedure_63 : decode cX8_procedure 63 = .ok (.iload_n 2, 1) := by decide +kernel
theorem dX8_procedure_64 : decode cX8_procedure 64 = .ok (.invokevirtual 431, 3) := by decide +kernel
theorem dX8_procedure_67 : decode cX8_procedure 67 = .ok (.istore 5, 2) := by decide +kernel
theorem dX8_procedure_69 : decode cX8_procedure 69 = .ok (.iload 5, 2) := by decide +kernel
theorem dX8_procedure_71 : decode cX8_procedure 71 = .ok (.ifCond .ne 8, 3) := by decide +kernel
theorem dX8_procedure_74 : decode cX8_procedure 74 = .ok (.aload_n 0, 1) := by decide +kernel
theorem dX8_procedure_75 : decode cX8_procedure 75 = .ok (.iconst 0, 1) := by decide +kernel
theorem dX8_procedure_76 : decode cX8_procedure 76 = .ok (.putfield 434, 3) := by decide +kernel
theorem dX8_procedure_79 : decode cX8_procedure 79 = .ok (.iload 5, 2) := by decide +kernel
theorem dX8_procedure_81 : decode cX8_procedure 81 = .ok (.ifCond .ne 7, 3) := by decide +kernel
theorem dX8_procedure_84 : decode cX8_procedure 84 = .ok (.iconst 1, 1) := by decide +kernel
theorem dX8_procedure_85 : decode cX8_procedure 85 = .ok (.goto 5, 3) := by decide +kernel
theorem dX8_procedure_88 : decode cX8_procedure 88 = .ok (.iload 5, 2) := by decide +kernel
theorem dX8_procedure_90 : decode cX8_procedure 90 = .ok (.ireturn, 1) := by decide +kernel
theorem dX8_tries_0 : decode cX8_tries 0 = .ok (.aload_n 0, 1) := by decide +kernel
theorem dX8_tries_1 : decode cX8_tries 1 = .ok (.aload_n 0, 1) := by decide +kernel
theorem dX8_tries_2 : decode cX8_tries 2 = .ok (.getfield 53, 3) := by decide +kernel
theorem dX8_tries_5 : decode cX8_tries 5 = .ok (.iload_n 1, 1) := by decide +kernel
theorem dX8_tries_6 : decode cX8_tries 6 = .ok (.iaload, 1) := by decide +kernel
theorem dX8_tries_7 : decode cX8_tries 7 = .ok (.iload_n 2, 1) := by decide +kernel
theorem dX8_tries_8 : decode cX8_tries 8 = .ok (.invokevirtual 431, 3) := by decide +kernel
theorem dX8_tries_11 : decode cX8_tries 11 = .ok (.istore_n 3, 1) := by decide +kernel
theorem dX8_tries_12 : decode cX8_tries 12 = .ok (.iload_n 3, 1) := by decide +kernel
theorem dX8_tries_13 : decode cX8_tries 13 = .ok (.iconst 2, 1) := by decide +kernel
theorem dX8_tries_14 : decode cX8_tries 14 = .ok (.if_icmp .eq 5, 3) := by decide +kernel
theorem dX8_tries_17 : decode cX8_tries 17 = .ok (.iload_n 3, 1) := by decide +kernel
theorem dX8_tries_18 : decode cX8_tries 18 = .ok (.ireturn, 1) := by decide +kernel
theorem dX8_tries_19 : decode cX8_tries 19 = .ok (.aload_n 0, 1) := by decide +kernel
theorem dX8_tries_20 : decode cX8_tries 20 = .ok (.getfield 142, 3) := by decide +kernel
theorem dX8_tries_23 : decode cX8_tries 23 = .ok (.bipush 6, 2) := by decide +kernel
theorem dX8_tries_25 : decode cX8_tries 25 = .ok (.iload_n 2, 1) := by decide +kernel
theorem dX8_tries_26 : decode cX8_tries 26 = .ok (.imul, 1) := by decide +kernel
theorem dX8_tries_27 : decode cX8_tries 27 = .ok (.aload_n 0, 1) := by decide +kernel
theorem dX8_tries_28 : decode cX8_tries 28 = .ok (.getfield 44, 3) := by decide +kernel
theorem dX8_tries_31 : decode cX8_tries 31 = .ok (.iload_n 1, 1) := by decide +kernel
theorem dX8_tries_32 : decode cX8_tries 32 = .ok (.iaload, 1) := by decide +kernel
theorem dX8_tries_33 : decode cX8_tries 33 = .ok (.iadd, 1) := by decide +kernel
theorem dX8_tries_34 : decode cX8_tries 34 = .ok (.aload_n 0, 1) := by decide +kernel
theorem dX8_tries_35 : decode cX8_tries 35 = .ok (.getfield 434, 3) := by decide +kernel
theorem dX8_tries_38 : decode cX8_tries 38 = .ok (.iastore, 1) := by decide +kernel
theorem dX8_tries_39 : decode cX8_tries 39 = .ok (.aload_n 0, 1) := by decide +kernel
theorem dX8_tries_40 : decode cX8_tries 40 = .ok (.aload_n 0, 1) := by decide +kernel
theorem dX8_tries_41 : decode cX8_tries 41 = .ok (.getfield 56, 3) := by decide +kernel
theorem dX8_tries_44 : decode cX8_tries 44 = .ok (.iload_n 1, 1) := by decide +kernel
theorem dX8_tries_45 : decode cX8_tries 45 = .ok (.iaload, 1) := by decide +kernel
theorem dX8_tries_46 : decode cX8_tries 46 = .ok (.iload_n 2, 1) := by decide +kernel
theorem dX8_tries_47 : decode cX8_tries 47 = .ok (.invokevirtual 431, 3) := by decide +kernel
theorem dX8_tries_50 : decode cX8_tries 50 = .ok (.ireturn, 1) := by decide +kernel
