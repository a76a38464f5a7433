theorem RT2.ve {F G : FN} (e : VE F G) {s : Int} (h : RD F s ∧ TD F s) : RD G s ∧ TD G s := ⟨h.1.ve e, h.2.kx (KX.ve (m := 102) (by omega) e) (by omega)⟩
def gmi (x : Int) : Int := if x = -1 then 0 else 300 - x
theorem gmi_s (x : Int) : (x = -1 → gmi x = 0) ∧ (¬ x = -1 → gmi x = 300 - x) := by
  unfold gmi
  by_cases h : x = -1
  · rw [if_pos h]; exact ⟨fun _ => rfl, fun q => absurd h q⟩
  · rw [if_neg h]; exact ⟨fun q => absurd q h, fun _ => rfl⟩
theorem gmi_lo {x : Int} (h : x ≤ 300) : 0 ≤ gmi x := by
  have := gmi_s x
  omega
theorem dX8_calls__0 : decode cX8_calls_ 0 = .ok (.iload_n 2, 1) := by decide +kernel
theorem dX8_calls__1 : decode cX8_calls_ 1 = .ok (.bipush 30, 2) := by decide +kernel
theorem dX8_calls__3 : decode cX8_calls_ 3 = .ok (.if_icmp .ne 5, 3) := by decide +kernel
theorem dX8_calls__6 : decode cX8_calls_ 6 = .ok (.iconst 3, 1) := by decide +kernel
theorem dX8_calls__7 : decode cX8_calls_ 7 = .ok (.ireturn, 1) := by decide +kernel
theorem dX8_calls__8 : decode cX8_calls_ 8 = .ok (.aload_n 0, 1) := by decide +kernel
theorem dX8_calls__9 : decode cX8_calls_ 9 = .ok (.aload_n 0, 1) := by decide +kernel
theorem dX8_calls__10 : decode cX8_calls_ 10 = .ok (.getfield 50, 3) := by decide +kernel
theorem dX8_calls__13 : decode cX8_calls_ 13 = .ok (.iload_n 1, 1) := by decide +kernel
theorem dX8_calls__14 : decode cX8_calls_ 14 = .ok (.iaload, 1) := by decide +kernel
theorem dX8_calls__15 : decode cX8_calls_ 15 = .ok (.iload_n 2, 1) := by decide +kernel
theorem dX8_calls__16 : decode cX8_calls_ 16 = .ok (.iconst 1, 1) := by decide +kernel
theorem dX8_calls__17 : decode cX8_calls_ 17 = .ok (.iadd, 1) := by decide +kernel
theorem dX8_calls__18 : decode cX8_calls_ 18 = .ok (.iload_n 3, 1) := by decide +kernel
theorem dX8_calls__19 : decode cX8_calls_ 19 = .ok (.iload 4, 2) := by decide +kernel
theorem dX8_calls__21 : decode cX8_calls_ 21 = .ok (.invokevirtual 457, 3) := by decide +kernel
theorem dX8_calls__24 : decode cX8_calls_ 24 = .ok (.istore 5, 2) := by decide +kernel
theorem dX8_calls__26 : decode cX8_calls_ 26 = .ok (.iload 5, 2) := by decide +kernel
theorem dX8_calls__28 : decode cX8_calls_ 28 = .ok (.iconst 3, 1) := by decide +kernel
theorem dX8_calls__29 : decode cX8_calls_ 29 = .ok (.if_icmp .ne 5, 3) := by decide +kernel
theorem dX8_calls__32 : decode cX8_calls_ 32 = .ok (.iconst 3, 1) := by decide +kernel
theorem dX8_calls__33 : decode cX8_calls_ 33 = .ok (.ireturn, 1) := by decide +kernel
theorem dX8_calls__34 : decode cX8_calls_ 34 = .ok (.aload_n 0, 1) := by decide +kernel
theorem dX8_calls__35 : decode cX8_calls_ 35 = .ok (.iload_n 1, 1) := by decide +kernel
theorem dX8_calls__36 : decode cX8_calls_ 36 = .ok (.aload_n 0, 1) := by decide +kernel
theorem dX8_calls__37 : decode cX8_calls_ 37 = .ok (.getfield 434, 3) := by decide +kernel
theorem dX8_calls__40 : decode cX8_calls_ 40 = .ok (.invokevirtual 448, 3) := by decide +kernel
theorem dX8_calls__43 : decode cX8_calls_ 43 = .ok (.iload 5, 2) := by decide +kernel
theorem dX8_calls__45 : decode cX8_calls_ 45 = .ok (.iconst 2, 1) := by decide +kernel
theorem dX8_calls__46 : decode cX8_calls_ 46 = .ok (.if_icmp .ne 5, 3) := by decide +kernel
theorem dX8_calls__49 : decode cX8_calls_ 49 = .ok (.iconst 2, 1) := by decide +kernel
theorem dX8_calls__50 : decode cX8_calls_ 50 = .ok (.ireturn, 1) := by decide +kernel
theorem dX8_calls__51 : decode cX8_calls_ 51 = .ok (.aload_n 0, 1) := by decide +kernel
theorem dX8_calls__52 : decode cX8_calls_ 52 = .ok (.iload_n 2, 1) := by decide +kernel
theorem dX8_calls__53 : decode cX8_calls_ 53 = .ok (.aload_n 0, 1) := by decide +kernel
theorem dX8_calls__54 : decode cX8_calls_ 54 = .ok (.getfield 44, 3) := by decide +kernel
theorem dX8_calls__57 : decode cX8_calls_ 57 = .ok (.iload_n 1, 1) := by decide +kernel
theorem dX8_calls__58 : decode cX8_calls_ 58 = .ok (.iaload, 1) := by decide +kernel
theorem dX8_calls__59 : decode cX8_calls_ 59 = .ok (.aload_n 0, 1) := by decide +kernel
theorem dX8_calls__60 : decode cX8_calls_ 60 = .ok (.getfield 434, 3) := by decide +kernel
theorem dX8_calls__63 : decode cX8_calls_ 63 = .ok (.invokevirtual 445, 3) := by decide +kernel
theorem dX8_calls__66 : decode cX8_calls_ 66 = .ok (.iconst 0, 1) := by decide +kernel
theorem dX8_calls__67 : decode cX8_calls_ 67 = .ok (.ireturn, 1) := by decide +kernel
theorem dX8_does_0 : decode cX8_does 0 = .ok (.aload_n 0, 1) := by decide +kernel
theorem dX8_does_1 : decode cX8_does 1 = .ok (.getfield 437, 3) := by decide +kernel
theorem dX8_does_4 : decode cX8_does 4 = .ok (.sipush 3000, 3) := by decide +kernel
theorem dX8_does_7 : decode cX8_does 7 = .ok (.if_icmp .ne 5, 3) := by decide +kernel
theorem dX8_does_10 : decode cX8_does 10 = .ok (.iconst 3, 1) := by decide +kernel
theorem dX8_does_11 : decode cX8_does 11 = .ok (.ireturn, 1) := by decide +kernel
theorem dX8_does_12 : decode cX8_does 12 = .ok (.aload_n 0, 1) := by decide +kernel
theorem dX8_does_13 : decode cX8_does 13 = .ok (.dup, 1) := by decide +kernel
theorem dX8_does_14 : decode cX8_does 14 = .ok (.getfield 437, 3) := by decide +kernel
theorem dX8_does_17 : decode cX8_does 17 = .ok (.iconst 1, 1) := by decide +kernel
theorem dX8_does_18 : decode cX8_does 18 = .ok (.iadd, 1) := by decide +kernel
theorem dX8_does_19 : decode cX8_does 19 = .ok (.putfield 437, 3) := by decide +kernel
theorem dX8_does_22 : decode cX8_does 22 = .ok (.aload_n 0, 1) := by decide +kernel
theorem dX8_does_23 : decode cX8_does 23 = .ok (.iload_n 2, 1) := by decide +kernel
theorem dX8_does_24 : decode cX8_does 24 = .ok (.iload_n 1, 1) := by decide +kernel
theorem dX8_does_25 : decode cX8_does 25 = .ok (.iconst 0, 1) := by decide +kernel
theorem dX8_does_26 : decode cX8_does 26 = .ok (.invokevirtual 440, 3) := by decide +kernel
theorem dX8_does_29 : decode cX8_does 29 = .ok (.istore_n 3, 1) := by decide +kernel
theorem dX8_does_30 : decode cX8_does 30 = .ok (.aload_n 0, 1) := by decide +kernel
theorem dX8_does_31 : decode cX8_does 31 = .ok (.iload_n 2, 1) := by decide +kernel
theorem dX8_does_32 : decode cX8_does 32 = .ok (.iload_n 1, 1) := by decide +kernel
theorem dX8_does_33 : decode cX8_does 33 = .ok (.iconst 1, 1) := by decide +kernel
theorem dX8_does_34 : decode cX8_does 34 = .ok (.invokevirtual 440, 3) := by decide +kernel
theorem dX8_does_37 : decode cX8_does 37 = .ok (.istore 4, 2) := by decide +kernel
theorem dX8_does_39 : decode cX8_does 39 = .ok (.aload_n 0, 1) := by decide +kernel
theorem dX8_does_40 : decode cX8_does 40 = .ok (.getfield 29, 3) := by decide +kernel
theorem dX8_does_43 : decode cX8_does 43 = .ok (.iload_n 1, 1) := by decide +kernel
theorem dX8_does_44 : decode cX8_does 44 = .ok (.iaload, 1) := by decide +kernel
theorem dX8_does_45 : decode cX8_does 45 = .ok (.tableswitch 159 0 3 #[31, 80, 90, 152], 31) := by decide +kernel
theorem dX8_does_76 : decode cX8_does 76 = .ok (.aload_n 0, 1) := by decide +kernel
theorem dX8_does_77 : decode cX8_does 77 = .ok (.getfield 47, 3) := by decide +kernel
theorem dX8_does_80 : decode cX8_does 80 = .ok (.iload_n 1, 1) := by decide +kernel
theorem dX8_does_81 : decode cX8_does 81 = .ok (.iaload, 1) := by decide +kernel
theorem dX8_does_82 : decode cX8_does 82 = .ok (.ifCond .ne 7, 3) := by decide +kernel
theorem dX8_does_85 : decode cX8_does 85 = .ok (.iload_n 3, 1) := by decide +kernel
theorem dX8_does_86 : decode cX8_does 86 = .ok (.goto 15, 3) := by decide +kernel
theorem dX8_does_89 : decode cX8_does 89 = .ok (.aload_n 0, 1) := by decide +kernel
theorem dX8_does_90 : decode cX8_does 90 = .ok (.getfield 47, 3) := by decide +kernel
theorem dX8_does_93 : decode cX8_does 93 = .ok (.iload_n 1, 1) := by decide +kernel
theorem dX8_does_94 : decode cX8_does 94 = .ok (.iaload, 1) := by decide +kernel
theorem dX8_does_95 : decode cX8_does 95 = .ok (.iload_n 3, 1) := by decide +kernel
theorem dX8_does_96 : decode cX8_does 96 = .ok (.iload 4, 2) := by decide +kernel
theorem dX8_does_98 : decode cX8_does 98 = .ok (.invokestatic 442, 3) := by decide +kernel
theorem dX8_does_101 : decode cX8_does 101 = .ok (.istore 5, 2) := by decide +kernel
theorem dX8_does_103 : decode cX8_does 103 = .ok (.aload_n 0, 1) := by decide +kernel
theorem dX8_does_104 : decode cX8_does 104 = .ok (.iload_n 2, 1) := by decide +kernel
theorem dX8_does_105 : decode cX8_does 105 = .ok (.aload_n 0, 1) := by decide +kernel
theorem dX8_does_106 : decode cX8_does 106 = .ok (.getfield 44, 3) := by decide +kernel
theorem dX8_does_109 : decode cX8_does 109 = .ok (.iload_n 1, 1) := by decide +kernel
theorem dX8_does_110 : decode cX8_does 110 = .ok (.iaload, 1) := by decide +kernel
theorem dX8_does_111 : decode cX8_does 111 = .ok (.iload 5, 2) := by decide +kernel
theorem dX8_does_113 : decode cX8_does 113 = .ok (.invokevirtual 445, 3) := by decide +kernel
theorem dX8_does_116 : decode cX8_does 116 = .ok (.aload_n 0, 1) := by decide +kernel
theorem dX8_does_117 : decode cX8_does 117 = .ok (.iload_n 1, 1) := by decide +kernel
theorem dX8_does_118 : decode cX8_does 118 = .ok (.iload 5, 2) := by decide +kernel
theorem dX8_does_120 : decode cX8_does 120 = .ok (.invokevirtual 448, 3) := by decide +kernel
theorem dX8_does_123 : decode cX8_does 123 = .ok (.iconst 0, 1) := by decide +kernel
theorem dX8_does_124 : decode cX8_does 124 = .ok (.ireturn, 1) := by decide +kernel
theorem dX8_does_125 : decode cX8_does 125 = .ok (.aload_n 0, 1) := by decide +kernel
theorem dX8_does_126 : decode cX8_does 126 = .ok (.iload_n 1, 1) := by decide +kernel
theorem dX8_does_127 : decode cX8_does 127 = .ok (.iload_n 2, 1) := by decide +kernel
theorem dX8_does_128 : decode cX8_does 128 = .ok (.iload_n 3, 1) := by decide +kernel
theorem dX8_does_129 : decode cX8_does 129 = .ok (.iload 4, 2) := by decide +kernel
theorem dX8_does_131 : decode cX8_does 131 = .ok (.invokevirtual 451, 3) := by decide +kernel
theorem dX8_does_134 : decode cX8_does 134 = .ok (.ireturn, 1) := by decide +kernel
theorem dX8_does_135 : decode cX8_does 135 = .ok (.aload_n 0, 1) := by decide +kernel
theorem dX8_does_136 : decode cX8_does 136 = .ok (.iload_n 1, 1) := by decide +kernel
theorem dX8_does_137 : decode cX8_does 137 = .ok (.iload_n 3, 1) := by decide +kernel
theorem dX8_does_138 : decode cX8_does 138 = .ok (.iload 4, 2) := by decide +kernel
theorem dX8_does_140 : decode cX8_does 140 = .ok (.if_icmp .ge 7, 3) := by decide +kernel
theorem dX8_does_143 : decode cX8_does 143 = .ok (.iconst 1, 1) := by decide +kernel
theorem dX8_does_144 : decode cX8_does 144 = .ok (.goto 4, 3) := by decide +kernel
theorem dX8_does_147 : decode cX8_does 147 = .ok (.iconst 0, 1) := by decide +kernel
theorem dX8_does_148 : decode cX8_does 148 = .ok (.invokevirtual 448, 3) := by decide +kernel
theorem dX8_does_151 : decode cX8_does 151 = .ok (.iload_n 3, 1) := by decide +kernel
theorem dX8_does_152 : decode cX8_does 152 = .ok (.iload 4, 2) := by decide +kernel
theorem dX8_does_154 : decode cX8_does 154 = .ok (.if_icmp .ge 17, 3) := by decide +kernel
theorem dX8_does_157 : decode cX8_does 157 = .ok (.aload_n 0, 1) := by decide +kernel
theorem dX8_does_158 : decode cX8_does 158 = .ok (.aload_n 0, 1) := by decide +kernel
theorem dX8_does_159 : decode cX8_does 159 = .ok (.getfield 53, 3) := by decide +kernel
theorem dX8_does_162 : decode cX8_does 162 = .ok (.iload_n 1, 1) := by decide +kernel
theorem dX8_does_163 : decode cX8_does 163 = .ok (.iaload, 1) := by decide +kernel
theorem dX8_does_164 : decode cX8_does 164 = .ok (.iload_n 2, 1) := by decide +kernel
theorem dX8_does_165 : decode cX8_does 165 = .ok (.invokevirtual 431, 3) := by decide +kernel
theorem dX8_does_168 : decode cX8_does 168 = .ok (.goto 28, 3) := by decide +kernel
theorem dX8_does_171 : decode cX8_does 171 = .ok (.aload_n 0, 1) := by decide +kernel
theorem dX8_does_172 : decode cX8_does 172 = .ok (.getfield 56, 3) := by decide +kernel
theorem dX8_does_175 : decode cX8_does 175 = .ok (.iload_n 1, 1) := by decide +kernel
theorem dX8_does_176 : decode cX8_does 176 = .ok (.iaload, 1) := by decide +kernel
theorem dX8_does_177 : decode cX8_does 177 = .ok (.iconst (-1), 1) := by decide +kernel
theorem dX8_does_178 : decode cX8_does 178 = .ok (.if_icmp .ne 7, 3) := by decide +kernel
theorem dX8_does_181 : decode cX8_does 181 = .ok (.iconst 0, 1) := by decide +kernel
theorem dX8_does_182 : decode cX8_does 182 = .ok (.goto 14, 3) := by decide +kernel
theorem dX8_does_185 : decode cX8_does 185 = .ok (.aload_n 0, 1) := by decide +kernel
theorem dX8_does_186 : decode cX8_does 186 = .ok (.aload_n 0, 1) := by decide +kernel
theorem dX8_does_187 : decode cX8_does 187 = .ok (.getfield 56, 3) := by decide +kernel
theorem dX8_does_190 : decode cX8_does 190 = .ok (.iload_n 1, 1) := by decide +kernel
theorem dX8_does_191 : decode cX8_does 191 = .ok (.iaload, 1) := by decide +kernel
theorem dX8_does_192 : decode cX8_does 192 = .ok (.iload_n 2, 1) := by decide +kernel
theorem dX8_does_193 : decode cX8_does 193 = .ok (.invokevirtual 431, 3) := by decide +kernel
theorem dX8_does_196 : decode cX8_does 196 = .ok (.ireturn, 1) := by decide +kernel
theorem dX8_does_197 : decode cX8_does 197 = .ok (.aload_n 0, 1) := by decide +kernel
theorem dX8_does_198 : decode cX8_does 198 = .ok (.iload_n 1, 1) := by decide +kernel
theorem dX8_does_199 : decode cX8_does 199 = .ok (.iload_n 2, 1) := by decide +kernel
theorem dX8_does_200 : decode cX8_does 200 = .ok (.invokevirtual 454, 3) := by decide +kernel
theorem dX8_does_203 : decode cX8_does 203 = .ok (.ireturn, 1) := by decide +kernel
theorem dX8_does_204 : decode cX8_does 204 = .ok (.aload_n 0, 1) := by decide +kernel
theorem dX8_does_205 : decode cX8_does 205 = .ok (.iload_n 1, 1) := by decide +kernel
theorem dX8_does_206 : decode cX8_does 206 = .ok (.iload_n 3, 1) := by decide +kernel
theorem dX8_does_207 : decode cX8_does 207 = .ok (.invokevirtual 448, 3) := by decide +kernel
theorem dX8_does_210 : decode cX8_does 210 = .ok (.aload_n 0, 1) := by decide +kernel
theorem dX8_does_211 : decode cX8_does 211 = .ok (.iload_n 3, 1) := by decide +kernel
theorem dX8_does_212 : decode cX8_does 212 = .ok (.putfield 434, 3) := by decide +kernel
theorem dX8_does_215 : decode cX8_does 215 = .ok (.aload_n 0, 1) := by decide +kernel
theorem dX8_does_216 : decode cX8_does 216 = .ok (.getfield 29, 3) := by decide +kernel
theorem dX8_does_219 : decode cX8_does 219 = .ok (.iload_n 1, 1) := by decide +kernel
theorem dX8_does_220 : decode cX8_does 220 = .ok (.iaload, 1) := by decide +kernel
theorem dX8_does_221 : decode cX8_does 221 = .ok (.iconst 4, 1) := by decide +kernel
theorem dX8_does_222 : decode cX8_does 222 = .ok (.if_icmp .ne 7, 3) := by decide +kernel
theorem dX8_does_225 : decode cX8_does 225 = .ok (.iconst 2, 1) := by decide +kernel
theorem dX8_does_226 : decode cX8_does 226 = .ok (.goto 4, 3) := by decide +kernel
theorem dX8_does_229 : decode cX8_does 229 = .ok (.iconst 1, 1) := by decide +kernel
theorem dX8_does_230 : decode cX8_does 230 = .ok (.ireturn, 1) := by decide +kernel
theorem dX8_goesBlock_0 : decode cX8_goesBlock 0 = .ok (.aload_n 0, 1) := by decide +kernel
theorem dX8_goesBlock_1 : decode cX8_goesBlock 1 = .ok (.getfield 68, 3) := by decide +kernel
theorem dX8_goesBlock_4 : decode cX8_goesBlock 4 = .ok (.iload_n 1, 1) := by decide +kernel
theorem dX8_goesBlock_5 : decode cX8_goesBlock 5 = .ok (.iaload, 1) := by decide +kernel
theorem dX8_goesBlock_6 : decode cX8_goesBlock 6 = .ok (.istore_n 3, 1) := by decide +kernel
theorem dX8_goesBlock_7 : decode cX8_goesBlock 7 = .ok (.iload_n 3, 1) := by decide +kernel
theorem dX8_goesBlock_8 : decode cX8_goesBlock 8 = .ok (.iconst (-1), 1) := by decide +kernel
theorem dX8_goesBlock_9 : decode cX8_goesBlock 9 = .ok (.if_icmp .eq 69, 3) := by decide +kernel
theorem dX8_goesBlock_12 : decode cX8_goesBlock 12 = .ok (.aload_n 0, 1) := by decide +kernel
theorem dX8_goesBlock_13 : decode cX8_goesBlock 13 = .ok (.getfield 29, 3) := by decide +kernel
theorem dX8_goesBlock_16 : decode cX8_goesBlock 16 = .ok (.iload_n 3, 1) := by decide +kernel
theorem dX8_goesBlock_17 : decode cX8_goesBlock 17 = .ok (.iaload, 1) := by decide +kernel
theorem dX8_goesBlock_18 : decode cX8_goesBlock 18 = .ok (.bipush 6, 2) := by decide +kernel
theorem dX8_goesBlock_20 : decode cX8_goesBlock 20 = .ok (.if_icmp .ne 12, 3) := by decide +kernel
theorem dX8_goesBlock_23 : decode cX8_goesBlock 23 = .ok (.aload_n 0, 1) := by decide +kernel
theorem dX8_goesBlock_24 : decode cX8_goesBlock 24 = .ok (.iload_n 3, 1) := by decide +kernel
theorem dX8_goesBlock_25 : decode cX8_goesBlock 25 = .ok (.iload_n 2, 1) := by decide +kernel
theorem dX8_goesBlock_26 : decode cX8_goesBlock 26 = .ok (.invokevirtual 421, 3) := by decide +kernel
theorem dX8_goesBlock_29 : decode cX8_goesBlock 29 = .ok (.goto 29, 3) := by decide +kernel
theorem dX8_goesBlock_32 : decode cX8_goesBlock 32 = .ok (.aload_n 0, 1) := by decide +kernel
theorem dX8_goesBlock_33 : decode cX8_goesBlock 33 = .ok (.getfield 424, 3) := by decide +kernel
theorem dX8_goesBlock_36 : decode cX8_goesBlock 36 = .ok (.aload_n 0, 1) := by decide +kernel
theorem dX8_goesBlock_37 : decode cX8_goesBlock 37 = .ok (.getfield 32, 3) := by decide +kernel
theorem dX8_goesBlock_40 : decode cX8_goesBlock 40 = .ok (.iload_n 3, 1) := by decide +kernel
theorem dX8_goesBlock_41 : decode cX8_goesBlock 41 = .ok (.iaload, 1) := by decide +kernel
theorem dX8_goesBlock_42 : decode cX8_goesBlock 42 = .ok (.invokestatic 280, 3) := by decide +kernel
theorem dX8_goesBlock_45 : decode cX8_goesBlock 45 = .ok (.ifCond .eq 12, 3) := by decide +kernel
theorem dX8_goesBlock_48 : decode cX8_goesBlock 48 = .ok (.aload_n 0, 1) := by decide +kernel
theorem dX8_goesBlock_49 : decode cX8_goesBlock 49 = .ok (.iload_n 3, 1) := by decide +kernel
theorem dX8_goesBlock_50 : decode cX8_goesBlock 50 = .ok (.iload_n 2, 1) := by decide +kernel
theorem dX8_goesBlock_51 : decode cX8_goesBlock 51 = .ok (.invokevirtual 428, 3) := by decide +kernel
theorem dX8_goesBlock_54 : decode cX8_goesBlock 54 = .ok (.goto 4, 3) := by decide +kernel
theorem dX8_goesBlock_57 : decode cX8_goesBlock 57 = .ok (.iconst 0, 1) := by decide +kernel
theorem dX8_goesBlock_58 : decode cX8_goesBlock 58 = .ok (.istore 4, 2) := by decide +kernel
theorem dX8_goesBlock_60 : decode cX8_goesBlock 60 = .ok (.iload 4, 2) := by decide +kernel
theorem dX8_goesBlock_62 : decode cX8_goesBlock 62 = .ok (.ifCond .eq 6, 3) := by decide +kernel
theorem dX8_goesBlock_65 : decode cX8_goesBlock 65 = .ok (.iload 4, 2) := by decide +kernel
theorem dX8_goesBlock_67 : decode cX8_goesBlock 67 = .ok (.ireturn, 1) := by decide +kernel
theorem dX8_goesBlock_68 : decode cX8_goesBlock 68 = .ok (.aload_n 0, 1) := by decide +kernel
theorem dX8_goesBlock_69 : decode cX8_goesBlock 69 = .ok (.getfield 59, 3) := by decide +kernel
theorem dX8_goesBlock_72 : decode cX8_goesBlock 72 = .ok (.iload_n 3, 1) := by decide +kernel
theorem dX8_goesBlock_73 : decode cX8_goesBlock 73 = .ok (.iaload, 1) := by decide +kernel
theorem dX8_goesBlock_74 : decode cX8_goesBlock 74 = .ok (.istore_n 3, 1) := by decide +kernel
theorem dX8_goesBlock_75 : decode cX8_goesBlock 75 = .ok (.goto (-68), 3) := by decide +kernel
theorem dX8_goesBlock_78 : decode cX8_goesBlock 78 = .ok (.iconst 0, 1) := by decide +kernel
theorem dX8_goesBlock_79 : decode cX8_goesBlock 79 = .ok (.ireturn, 1) := by decide +kernel
theorem dX8_loops_0 : decode cX8_loops 0 = .ok (.aload_n 0, 1) := by decide +kernel
theorem dX8_loops_1 : decode cX8_loops 1 = .ok (.iload_n 2, 1) := by decide +kernel
theorem dX8_loops_2 : decode cX8_loops 2 = .ok (.iload_n 1, 1) := by decide +kernel
theorem dX8_loops_3 : decode cX8_loops 3 = .ok (.iconst 0, 1) := by decide +kernel
theorem dX8_loops_4 : decode cX8_loops 4 = .ok (.invokevirtual 440, 3) := by decide +kernel
theorem dX8_loops_7 : decode cX8_loops 7 = .ok (.aload_n 0, 1) := by decide +kernel
theorem dX8_loops_8 : decode cX8_loops 8 = .ok (.iload_n 2, 1) := by decide +kernel
theorem dX8_loops_9 : decode cX8_loops 9 = .ok (.iload_n 1, 1) := by decide +kernel
theorem dX8_loops_10 : decode cX8_loops 10 = .ok (.iconst 1, 1) := by decide +kernel
theorem dX8_loops_11 : decode cX8_loops 11 = .ok (.invokevirtual 440, 3) := by decide +kernel
theorem dX8_loops_14 : decode cX8_loops 14 = .ok (.if_icmp .ge 7, 3) := by decide +kernel
theorem dX8_loops_17 : decode cX8_loops 17 = .ok (.iconst 1, 1) := by decide +kernel
theorem dX8_loops_18 : decode cX8_loops 18 = .ok (.goto 4, 3) := by decide +kernel
theorem dX8_loops_21 : decode cX8_loops 21 = .ok (.iconst 0, 1) := by decide +kernel
theorem dX8_loops_22 : decode cX8_loops 22 = .ok (.istore_n 3, 1) := by decide +kernel
theorem dX8_loops_23 : decode cX8_loops 23 = .ok (.aload_n 0, 1) := by decide +kernel
theorem dX8_loops_24 : decode cX8_loops 24 = .ok (.iload_n 1, 1) := by decide +kernel
theorem dX8_loops_25 : decode cX8_loops 25 = .ok (.iload_n 3, 1) := by decide +kernel
theorem dX8_loops_26 : decode cX8_loops 26 = .ok (.ifCond .eq 7, 3) := by decide +kernel
theorem dX8_loops_29 : decode cX8_loops 29 = .ok (.iconst 1, 1) := by decide +kernel
theorem dX8_loops_30 : decode cX8_loops 30 = .ok (.goto 4, 3) := by decide +kernel
theorem dX8_loops_33 : decode cX8_loops 33 = .ok (.iconst 0, 1) := by decide +kernel
theorem dX8_loops_34 : decode cX8_loops 34 = .ok (.invokevirtual 448, 3) := by decide +kernel
theorem dX8_loops_37 : decode cX8_loops 37 = .ok (.iload_n 3, 1) := by decide +kernel
theorem dX8_loops_38 : decode cX8_loops 38 = .ok (.ifCond .eq 86, 3) := by decide +kernel
theorem dX8_loops_41 : decode cX8_loops 41 = .ok (.aload_n 0, 1) := by decide +kernel
theorem dX8_loops_42 : decode cX8_loops 42 = .ok (.aload_n 0, 1) := by decide +kernel
theorem dX8_loops_43 : decode cX8_loops 43 = .ok (.getfield 53, 3) := by decide +kernel
theorem dX8_loops_46 : decode cX8_loops 46 = .ok (.iload_n 1, 1) := by decide +kernel
theorem dX8_loops_47 : decode cX8_loops 47 = .ok (.iaload, 1) := by decide +kernel
theorem dX8_loops_48 : decode cX8_loops 48 = .ok (.iload_n 2, 1) := by decide +kernel
theorem dX8_loops_49 : decode cX8_loops 49 = .ok (.invokevirtual 431, 3) := by decide +kernel
theorem dX8_loops_52 : decode cX8_loops 52 = .ok (.istore 4, 2) := by decide +kernel
theorem dX8_loops_54 : decode cX8_loops 54 = .ok (.iload 4, 2) := by decide +kernel
theorem dX8_loops_56 : decode cX8_loops 56 = .ok (.ifCond .eq 6, 3) := by decide +kernel
theorem dX8_loops_59 : decode cX8_loops 59 = .ok (.iload 4, 2) := by decide +kernel
theorem dX8_loops_61 : decode cX8_loops 61 = .ok (.ireturn, 1) := by decide +kernel
theorem dX8_loops_62 : decode cX8_loops 62 = .ok (.aload_n 0, 1) := by decide +kernel
theorem dX8_loops_63 : decode cX8_loops 63 = .ok (.getfield 437, 3) := by decide +kernel
theorem dX8_loops_66 : decode cX8_loops 66 = .ok (.sipush 3000, 3) := by decide +kernel
theorem dX8_loops_69 : decode cX8_loops 69 = .ok (.if_icmp .ne 5, 3) := by decide +kernel
theorem dX8_loops_72 : decode cX8_loops 72 = .ok (.iconst 3, 1) := by decide +kernel
theorem dX8_loops_73 : decode cX8_loops 73 = .ok (.ireturn, 1) := by decide +kernel
theorem dX8_loops_74 : decode cX8_loops 74 = .ok (.aload_n 0, 1) := by decide +kernel
theorem dX8_loops_75 : decode cX8_loops 75 = .ok (.dup, 1) := by decide +kernel
theorem dX8_loops_76 : decode cX8_loops 76 = .ok (.getfield 437, 3) := by decide +kernel
theorem dX8_loops_79 : decode cX8_loops 79 = .ok (.iconst 1, 1) := by decide +kernel
theorem dX8_loops_80 : decode cX8_loops 80 = .ok (.iadd, 1) := by decide +kernel
theorem dX8_loops_81 : decode cX8_loops 81 = .ok (.putfield 437, 3) := by decide +kernel
theorem dX8_loops_84 : decode cX8_loops 84 = .ok (.aload_n 0, 1) := by decide +kernel
theorem dX8_loops_85 : decode cX8_loops 85 = .ok (.iload_n 2, 1) := by decide +kernel
theorem dX8_loops_86 : decode cX8_loops 86 = .ok (.iload_n 1, 1) := by decide +kernel
theorem dX8_loops_87 : decode cX8_loops 87 = .ok (.iconst 0, 1) := by decide +kernel
theorem dX8_loops_88 : decode cX8_loops 88 = .ok (.invokevirtual 440, 3) := by decide +kernel
theorem dX8_loops_91 : decode cX8_loops 91 = .ok (.aload_n 0, 1) := by decide +kernel
theorem dX8_loops_92 : decode cX8_loops 92 = .ok (.iload_n 2, 1) := by decide +kernel
theorem dX8_loops_93 : decode cX8_loops 93 = .ok (.iload_n 1, 1) := by decide +kernel
theorem dX8_loops_94 : decode cX8_loops 94 = .ok (.iconst 1, 1) := by decide +kernel
theorem dX8_loops_95 : decode cX8_loops 95 = .ok (.invokevirtual 440, 3) := by decide +kernel
theorem dX8_loops_98 : decode cX8_loops 98 = .ok (.if_icmp .ge 7, 3) := by decide +kernel
theorem dX8_loops_101 : decode cX8_loops 101 = .ok (.iconst 1, 1) := by decide +kernel
theorem dX8_loops_102 : decode cX8_loops 102 = .ok (.goto 4, 3) := by decide +kernel
theorem dX8_loops_105 : decode cX8_loops 105 = .ok (.iconst 0, 1) := by decide +kernel
theorem dX8_loops_106 : decode cX8_loops 106 = .ok (.istore_n 3, 1) := by decide +kernel
theorem dX8_loops_107 : decode cX8_loops 107 = .ok (.aload_n 0, 1) := by decide +kernel
theorem dX8_loops_108 : decode cX8_loops 108 = .ok (.iload_n 1, 1) := by decide +kernel
theorem dX8_loops_109 : decode cX8_loops 109 = .ok (.iload_n 3, 1) := by decide +kernel
theorem dX8_loops_110 : decode cX8_loops 110 = .ok (.ifCond .eq 7, 3) := by decide +kernel
theorem dX8_loops_113 : decode cX8_loops 113 = .ok (.iconst 1, 1) := by decide +kernel
theorem dX8_loops_114 : decode cX8_loops 114 = .ok (.goto 4, 3) := by decide +kernel
theorem dX8_loops_117 : decode cX8_loops 117 = .ok (.iconst 0, 1) := by decide +kernel
theorem dX8_loops_118 : decode cX8_loops 118 = .ok (.invokevirtual 448, 3) := by decide +kernel
theorem dX8_loops_121 : decode cX8_loops 121 = .ok (.goto (-84), 3) := by decide +kernel
theorem dX8_loops_124 : decode cX8_loops 124 = .ok (.iconst 0, 1) := by decide +kernel
theorem dX8_loops_125 : decode cX8_loops 125 = .ok (.ireturn, 1) := by decide +kernel
theorem dX8_procedure_0 : decode cX8_procedure 0 = .ok (.iconst 0, 1) := by decide +kernel
theorem dX8_procedure_1 : decode cX8_procedure 1 = .ok (.istore 5, 2) := by decide +kernel
theorem dX8_procedure_3 : decode cX8_procedure 3 = .ok (.iload 5, 2) := by decide +kernel
theorem dX8_procedure_5 : decode cX8_procedure 5 = .ok (.bipush 6, 2) := by decide +kernel
theorem dX8_procedure_7 : decode cX8_procedure 7 = .ok (.if_icmp .ge 42, 3) := by decide +kernel
theorem dX8_procedure_10 : decode cX8_procedure 10 = .ok (.aload_n 0, 1) := by decide +kernel
theorem dX8_procedure_11 : decode cX8_procedure 11 = .ok (.getfield 142, 3) := by decide +kernel
theorem dX8_procedure_14 : decode cX8_procedure 14 = .ok (.bipush 6, 2) := by decide +kernel
theorem dX8_procedure_16 : decode cX8_procedure 16 = .ok (.iload_n 2, 1) := by decide +kernel
theorem dX8_procedure_17 : decode cX8_procedure 17 = .ok (.imul, 1) := by decide +kernel
theorem dX8_procedure_18 : decode cX8_procedure 18 = .ok (.iload 5, 2) := by decide +kernel
theorem dX8_procedure_20 : decode cX8_procedure 20 = .ok (.iadd, 1) := by decide +kernel
theorem dX8_procedure_21 : decode cX8_procedure 21 = .ok (.iload 5, 2) := by decide +kernel
theorem dX8_procedure_23 : decode cX8_procedure 23 = .ok (.ifCond .ne 7, 3) := by decide +kernel
theorem dX8_procedure_26 : decode cX8_procedure 26 = .ok (.iload_n 3, 1) := by decide +kernel
theorem dX8_procedure_27 : decode cX8_procedure 27 = .ok (.goto 15, 3) := by decide +kernel
theorem dX8_procedure_30 : decode cX8_procedure 30 = .ok (.iload 5, 2) := by decide +kernel
theorem dX8_procedure_32 : decode cX8_procedure 32 = .ok (.iconst 1, 1) := by decide +kernel
theorem dX8_procedure_33 : decode cX8_procedure 33 = .ok (.if_icmp .ne 8, 3) := by decide +kernel
theorem dX8_procedure_36 : decode cX8_procedure 36 = .ok (.iload 4, 2) := by decide +kernel
theorem dX8_procedure_38 : decode cX8_procedure 38 = .ok (.goto 4, 3) := by decide +kernel
theorem dX8_procedure_41 : decode cX8_procedure 41 = .ok (.iconst 0, 1) := by decide +kernel
theorem dX8_procedure_42 : decode cX8_procedure 42 = .ok (.iastore, 1) := by decide +kernel
theorem dX8_procedure_43 : decode cX8_procedure 43 = .ok (.iinc 5 1, 3) := by decide +kernel
theorem dX8_procedure_46 : decode cX8_procedure 46 = .ok (.goto (-43), 3) := by decide +kernel
theorem dX8_procedure_49 : decode cX8_procedure 49 = .ok (.aload_n 0, 1) := by decide +kernel
theorem dX8_procedure_50 : decode cX8_procedure 50 = .ok (.aload_n 0, 1) := by decide +kernel
theorem dX8_procedure_51 : decode cX8_procedure 51 = .ok (.getfield 80, 3) := by decide +kernel
theorem dX8_procedure_54 : decode cX8_procedure 54 = .ok (.iconst 5, 1) := by decide +kernel
theorem dX8_procedure_55 : decode cX8_procedure 55 = .ok (.aload_n 0, 1) := by decide +kernel
theorem dX8_procedure_56 : decode cX8_procedure 56 = .ok (.getfield 228, 3) := by decide +kernel
theorem dX8_procedure_59 : decode cX8_procedure 59 = .ok (.imul, 1) := by decide +kernel
theorem dX8_procedure_60 : decode cX8_procedure 60 = .ok (.iload_n 1, 1) := by decide +kernel
theorem dX8_procedure_61 : decode cX8_procedure 61 = .ok (.iadd, 1) := by decide +kernel
theorem dX8_procedure_62 : decode cX8_procedure 62 = .ok (.iaload, 1) := by decide +kernel
theorem dX8_procedure_63 : decode cX8_procedure 63 = .ok (.iload_n 2, 1) := by decide +kernel
theorem dX8_procedure_64 : decode cX8_procedure 64 = .ok (.invokevirtual 431, 3) := by decide +kernel
theorem dX8_procedure_67 : decode cX8_procedure 67 = .ok (.istore 5, 2) := by decide +kernel
theorem dX8_procedure_69 : decode cX8_procedure 69 = .ok (.iload 5, 2) := by decide +kernel
theorem dX8_procedure_71 : decode cX8_procedure 71 = .ok (.ifCond .ne 8, 3) := by decide +kernel
theorem dX8_procedure_74 : decode cX8_procedure 74 = .ok (.aload_n 0, 1) := by decide +kernel
theorem dX8_procedure_75 : decode cX8_procedure 75 = .ok (.iconst 0, 1) := by decide +kernel
theorem dX8_procedure_76 : decode cX8_procedure 76 = .ok (.putfield 434, 3) := by decide +kernel
theorem dX8_procedure_79 : decode cX8_procedure 79 = .ok (.iload 5, 2) := by decide +kernel
theorem dX8_procedure_81 : decode cX8_procedure 81 = .ok (.ifCond .ne 7, 3) := by decide +kernel
theorem dX8_procedure_84 : decode cX8_procedure 84 = .ok (.iconst 1, 1) := by decide +kernel
theorem dX8_procedure_85 : decode cX8_procedure 85 = .ok (.goto 5, 3) := by decide +kernel
theorem dX8_procedure_88 : decode cX8_procedure 88 = .ok (.iload 5, 2) := by decide +kernel
theorem dX8_procedure_90 : decode cX8_procedure 90 = .ok (.ireturn, 1) := by decide +kernel
theorem dX8_tries_0 : decode cX8_tries 0 = .ok (.aload_n 0, 1) := by decide +kernel
theorem dX8_tries_1 : decode cX8_tries 1 = .ok (.aload_n 0, 1) := by decide +kernel
theorem dX8_tries_2 : decode cX8_tries 2 = .ok (.getfield 53, 3) := by decide +kernel
theorem dX8_tries_5 : decode cX8_tries 5 = .ok (.iload_n 1, 1) := by decide +kernel
theorem dX8_tries_6 : decode cX8_tries 6 = .ok (.iaload, 1) := by decide +kernel
theorem dX8_tries_7 : decode cX8_tries 7 = .ok (.iload_n 2, 1) := by decide +kernel
theorem dX8_tries_8 : decode cX8_tries 8 = .ok (.invokevirtual 431, 3) := by decide +kernel
theorem dX8_tries_11 : decode cX8_tries 11 = .ok (.istore_n 3, 1) := by decide +kernel
theorem dX8_tries_12 : decode cX8_tries 12 = .ok (.iload_n 3, 1) := by decide +kernel
theorem dX8_tries_13 : decode cX8_tries 13 = .ok (.iconst 2, 1) := by decide +kernel
theorem dX8_tries_14 : decode cX8_tries 14 = .ok (.if_icmp .eq 5, 3) := by decide +kernel
theorem dX8_tries_17 : decode cX8_tries 17 = .ok (.iload_n 3, 1) := by decide +kernel
theorem dX8_tries_18 : decode cX8_tries 18 = .ok (.ireturn, 1) := by decide +kernel
theorem dX8_tries_19 : decode cX8_tries 19 = .ok (.aload_n 0, 1) := by decide +kernel
theorem dX8_tries_20 : decode cX8_tries 20 = .ok (.getfield 142, 3) := by decide +kernel
theorem dX8_tries_23 : decode cX8_tries 23 = .ok (.bipush 6, 2) := by decide +kernel
theorem dX8_tries_25 : decode cX8_tries 25 = .ok (.iload_n 2, 1) := by decide +kernel
theorem dX8_tries_26 : decode cX8_tries 26 = .ok (.imul, 1) := by decide +kernel
theorem dX8_tries_27 : decode cX8_tries 27 = .ok (.aload_n 0, 1) := by decide +kernel
theorem dX8_tries_28 : decode cX8_tries 28 = .ok (.getfield 44, 3) := by decide +kernel
theorem dX8_tries_31 : decode cX8_tries 31 = .ok (.iload_n 1, 1) := by decide +kernel
theorem dX8_tries_32 : decode cX8_tries 32 = .ok (.iaload, 1) := by decide +kernel
theorem dX8_tries_33 : decode cX8_tries 33 = .ok (.iadd, 1) := by decide +kernel
theorem dX8_tries_34 : decode cX8_tries 34 = .ok (.aload_n 0, 1) := by decide +kernel
theorem dX8_tries_35 : decode cX8_tries 35 = .ok (.getfield 434, 3) := by decide +kernel
theorem dX8_tries_38 : decode cX8_tries 38 = .ok (.iastore, 1) := by decide +kernel
theorem dX8_tries_39 : decode cX8_tries 39 = .ok (.aload_n 0, 1) := by decide +kernel
theorem dX8_tries_40 : decode cX8_tries 40 = .ok (.aload_n 0, 1) := by decide +kernel
theorem dX8_tries_41 : decode cX8_tries 41 = .ok (.getfield 56, 3) := by decide +kernel
theorem dX8_tries_44 : decode cX8_tries 44 = .ok (.iload_n 1, 1) := by decide +kernel
theorem dX8_tries_45 : decode cX8_tries 45 = .ok (.iaload, 1) := by decide +kernel
theorem dX8_tries_46 : decode cX8_tries 46 = .ok (.iload_n 2, 1) := by decide +kernel
theorem dX8_tries_47 : decode cX8_tries 47 = .ok (.invokevirtual 431, 3) := by decide +kernel
theorem dX8_tries_50 : decode cX8_tries 50 = .ok (.ireturn, 1) := by decide +kernel
set_option maxHeartbeats 4000000 in
set_option maxRecDepth 100000 in
theorem s_X8_sees_x (l : Launch) (d : Nat) {P : PP} {h : HP} (hv : Iv P h) (a2 : Int32) (a2l : 0 ≤ a2.toInt) (a2u : a2.toInt ≤ 259) (a3 : Int32) : Mt l yX8_sees cX8_sees 3 none (d + 1) [.ref 70, .int a2, .int a3] h 0 0 (fun r h' => r = none ∧ Iv P h' ∧ ((h'.2.1 70 53).toInt = (h.2.1 70 53).toInt)) := by
  refine Mt_iv hv (by decide) (Nat.le_of_ble_eq_true rfl) ?_
  show Go l RX8 cX8_sees 3 (g_rm (d + 1) 0 0) "sees" none 117 0 0 (fun _ _ => True) (fun r h' => r = none ∧ Iv P h' ∧ ((h'.2.1 70 53).toInt = (h.2.1 70 53).toInt)) 0 0 [(0, .ref 70), (1, .int a2), (2, .int a3)] [] h
  refine go_aload_n (pc := 0) rfl dX8_sees_0 ?_
  refine gi_get (pc := 1) (lo := 0) (hi := 500) hv fL_X8_418 rfl (Nat.le_of_ble_eq_true rfl) rfl rfl dX8_sees_1 (fun v1 v1l v1u v1w => ?_)
  refine go_sipush (pc := 4) (v := 500) (by decide) dX8_sees_4 ?_
  refine gf_icmp_ne (pc := 7) (tgt := 11) (ti_rfl v1) (ti_c (v := 500) (a := 500) (by decide)) (by decide) dX8_sees_7 (fun q2 => ?_) (fun q2 => ?_)
  ·
    refine go_aload_n (pc := 11) rfl dX8_sees_11 ?_
    refine gi_getF (pc := 12) (q := 115) hv fL_X8_145 rfl (Nat.le_of_ble_eq_true rfl) rfl (hv.rf (by decide)) dX8_sees_12 ?_
    refine go_aload_n (pc := 15) rfl dX8_sees_15 ?_
    refine gi_get (pc := 16) (lo := 0) (hi := 500) hv fL_X8_418 rfl (Nat.le_of_ble_eq_true rfl) rfl rfl dX8_sees_16 (fun v3 v3l v3u v3w => ?_)
    have v3r : v1 = h.2.1 70 54 := v1w
    have v3q : TI v3 v1.toInt := by rw [v3w.trans v3r.symm]; exact (ti_rfl v1)
    refine go_aload_n (pc := 19) rfl dX8_sees_19 ?_
    refine gi_getF (pc := 20) (q := 78) hv fL_X8_32 rfl (Nat.le_of_ble_eq_true rfl) rfl (hv.rf (by decide)) dX8_sees_20 ?_
    refine go_iload_n (pc := 23) rfl dX8_sees_23 ?_
    refine gi_iald (pc := 24) (lo := -1) (hi := 39) (len := 260) hv (ti_rfl a2) rfl (by omega) (by omega) (fun _ => rfl) dX8_sees_24 (fun v4 v4l v4u v4w => ?_)
    refine gi_iast (pc := 25) (lo := -2147483648) (hi := 2147483647) (len := 500) hv v3q (ti_rfl v4) rfl (by omega) (by omega) (fun _ => rfl) (ti_ge (ti_rfl v4)) (ti_le2 (ti_rfl v4)) (by decide) dX8_sees_25 (fun h5 hv5 hv5e => ?_)
    refine go_aload_n (pc := 26) rfl dX8_sees_26 ?_
    refine gi_getF (pc := 27) (q := 116) hv5 fL_X8_148 rfl (Nat.le_of_ble_eq_true rfl) rfl (hv5.rf (by decide)) dX8_sees_27 ?_
    refine go_aload_n (pc := 30) rfl dX8_sees_30 ?_
    refine gi_get (pc := 31) (lo := 0) (hi := 500) hv5 fL_X8_418 rfl (Nat.le_of_ble_eq_true rfl) rfl rfl dX8_sees_31 (fun v6 v6l v6u v6w => ?_)
    have v6r : v1 = h5.2.1 70 54 := (show v1 = h5.2.1 70 54 from by rw [hv5e]; exact (g_iI rfl v1w.symm).symm)
    have v6q : TI v6 v1.toInt := by rw [v6w.trans v6r.symm]; exact (ti_rfl v1)
    refine go_iload_n (pc := 34) rfl dX8_sees_34 ?_
    refine gi_iast (pc := 35) (lo := -2147483648) (hi := 2147483647) (len := 500) hv5 v6q (ti_rfl a3) rfl (by omega) (by omega) (fun _ => rfl) (ti_ge (ti_rfl a3)) (ti_le2 (ti_rfl a3)) (by decide) dX8_sees_35 (fun h7 hv7 hv7e => ?_)
    refine go_aload_n (pc := 36) rfl dX8_sees_36 ?_
    refine go_dup (pc := 37) rfl dX8_sees_37 ?_
    refine gi_get (pc := 38) (lo := 0) (hi := 500) hv7 fL_X8_418 rfl (Nat.le_of_ble_eq_true rfl) rfl rfl dX8_sees_38 (fun v8 v8l v8u v8w => ?_)
    have v8r : v1 = h7.2.1 70 54 := (show v1 = h7.2.1 70 54 from by rw [hv7e]; exact (g_iI rfl (show v1 = h5.2.1 70 54 from by rw [hv5e]; exact (g_iI rfl v1w.symm).symm).symm).symm)
    have v8q : TI v8 v1.toInt := by rw [v8w.trans v8r.symm]; exact (ti_rfl v1)
    refine go_iconst (pc := 41) (v := 1) (by decide) dX8_sees_41 ?_
    refine gf_iadd (pc := 42) v8q (ti_c (v := 1) (a := 1) (by decide)) (by omega) (by omega) dX8_sees_42 (fun v9 e10 => ?_)
    refine gi_put (pc := 43) (lo := 0) (hi := 500) hv7 e10 (fP_X8_418 _) rfl (Nat.le_of_ble_eq_true rfl) rfl rfl (by omega) (by omega) rfl rfl (by decide) (by decide) (by decide) (by decide) dX8_sees_43 (fun h11 hv11 hv11e => ?_)
    exact gi_vret (pc := 46) ⟨rfl, hv11, (by rw [hv11e, hv7e, hv5e]; rfl)⟩ hv11 dX8_sees_46
  ·
    exact gi_vret (pc := 10) ⟨rfl, hv, rfl⟩ hv dX8_sees_10
set_option maxHeartbeats 4000000 in
set_option maxRecDepth 100000 in
theorem s_X8_tellsName_x (l : Launch) (d : Nat) {P : PP} {h : HP} (hv : Iv P h) (a2 : Int32) (a2l : 0 ≤ a2.toInt) (a2u : a2.toInt ≤ 30) (a3 : Int32) (a3l : 0 ≤ a3.toInt) (a3u : a3.toInt ≤ 9) (a4 : Int32) : Mt l yX8_tellsName cX8_tellsName 4 none (d + 1) [.ref 70, .int a2, .int a3, .int a4] h 0 0 (fun r h' => r = none ∧ Iv P h' ∧ ((h'.2.1 70 53).toInt = (h.2.1 70 53).toInt)) := by
  refine Mt_iv hv (by decide) (Nat.le_of_ble_eq_true rfl) ?_
  show Go l RX8 cX8_tellsName 4 (g_rm (d + 1) 0 0) "tellsName" none 117 0 0 (fun _ _ => True) (fun r h' => r = none ∧ Iv P h' ∧ ((h'.2.1 70 53).toInt = (h.2.1 70 53).toInt)) 0 0 [(0, .ref 70), (1, .int a2), (2, .int a3), (3, .int a4)] [] h
  refine go_iload_n (pc := 0) rfl dX8_tellsName_0 ?_
  refine go_bipush (pc := 1) (v := 6) (by decide) dX8_tellsName_1 ?_
  refine gf_icmp_ge (pc := 3) (tgt := 21) (ti_rfl a3) (ti_c (v := 6) (a := 6) (by decide)) (by decide) dX8_tellsName_3 (fun q1 => ?_) (fun q1 => ?_)
  ·
    refine go_aload_n (pc := 21) rfl dX8_tellsName_21 ?_
    refine gi_getF (pc := 22) (q := 113) hv fL_X8_139 rfl (Nat.le_of_ble_eq_true rfl) rfl (hv.rf (by decide)) dX8_tellsName_22 ?_
    refine go_iload_n (pc := 25) rfl dX8_tellsName_25 ?_
    refine go_bipush (pc := 26) (v := 6) (by decide) dX8_tellsName_26 ?_
    refine gf_isub (pc := 28) (ti_rfl a3) (ti_c (v := 6) (a := 6) (by decide)) (by omega) (by omega) dX8_tellsName_28 (fun v2 e3 => ?_)
    refine go_iload_n (pc := 29) rfl dX8_tellsName_29 ?_
    refine gi_iast (pc := 30) (lo := -2147483648) (hi := 2147483647) (len := 4) hv e3 (ti_rfl a4) rfl (by omega) (by omega) (fun _ => rfl) (ti_ge (ti_rfl a4)) (ti_le2 (ti_rfl a4)) (by decide) dX8_tellsName_30 (fun h4 hv4 hv4e => ?_)
    exact gi_vret (pc := 31) ⟨rfl, hv4, (by rw [hv4e]; rfl)⟩ hv4 dX8_tellsName_31
  ·
    refine go_aload_n (pc := 6) rfl dX8_tellsName_6 ?_
    refine gi_getF (pc := 7) (q := 114) hv fL_X8_142 rfl (Nat.le_of_ble_eq_true rfl) rfl (hv.rf (by decide)) dX8_tellsName_7 ?_
    refine go_bipush (pc := 10) (v := 6) (by decide) dX8_tellsName_10 ?_
    refine go_iload_n (pc := 12) rfl dX8_tellsName_12 ?_
    refine gf_imul (pc := 13) (ti_c (v := 6) (a := 6) (by decide)) (ti_rfl a2) (by omega) (by omega) dX8_tellsName_13 (fun v5 e6 => ?_)
    refine go_iload_n (pc := 14) rfl dX8_tellsName_14 ?_
    refine gf_iadd (pc := 15) e6 (ti_rfl a3) (by omega) (by omega) dX8_tellsName_15 (fun v7 e8 => ?_)
    refine go_iload_n (pc := 16) rfl dX8_tellsName_16 ?_
    refine gi_iast (pc := 17) (lo := -2147483648) (hi := 2147483647) (len := 192) hv e8 (ti_rfl a4) rfl (by omega) (by omega) (fun _ => rfl) (ti_ge (ti_rfl a4)) (ti_le2 (ti_rfl a4)) (by decide) dX8_tellsName_17 (fun h9 hv9 hv9e => ?_)
    refine go_goto (pc := 18) (tgt := 31) (by decide) dX8_tellsName_18 ?_
    exact gi_vret (pc := 31) ⟨rfl, hv9, (by rw [hv9e]; rfl)⟩ hv9 dX8_tellsName_31
set_option maxHeartbeats 4000000 in
set_option maxRecDepth 100000 in
theorem s_X8_goesBlock_b (l : Launch) (d : Nat) {nn : Nat} (ihD : ∀ {P : PP} {h : HP} (_ : Iv P h) (a2 : Int32) (a2l : 0 ≤ a2.toInt) (a2u : a2.toInt ≤ 259) (a3 : Int32) (a3l : 0 ≤ a3.toInt) (a3u : a3.toInt ≤ 30) (hr : RD h.2.1 (h.2.1 70 6).toInt ∧ TD h.2.1 (h.2.1 70 6).toInt) (hl : (h.2.1 70 29).toInt = (h.2.1 70 6).toInt) (ckf : CKF h.2.1) (hi : II h.2.1 (h.2.1 70 6).toInt a2.toInt) (hk : ¬ V h.2.1 77 a2.toInt = 6) (hg : 30 * (30 - a3.toInt) + 3 * (7 - V h.2.1 80 a2.toInt) + 2 ≤ (nn : Int)), Mt l yX8_does cX8_does 6 (some .int) (d + 1) [.ref 70, .int a2, .int a3] h 0 0 (fun r h' => ∃ v : Int32, r = some (.int v) ∧ 0 ≤ v.toInt ∧ v.toInt ≤ 3 ∧ Iv P h' ∧ ((h.2.1 70 53).toInt ≤ (h'.2.1 70 53).toInt))) (ihY : ∀ {P : PP} {h : HP} (_ : Iv P h) (a2 : Int32) (a2l : 0 ≤ a2.toInt) (a2u : a2.toInt ≤ 259) (a3 : Int32) (a3l : 0 ≤ a3.toInt) (a3u : a3.toInt ≤ 30) (hr : RD h.2.1 (h.2.1 70 6).toInt ∧ TD h.2.1 (h.2.1 70 6).toInt) (hl : (h.2.1 70 29).toInt = (h.2.1 70 6).toInt) (ckf : CKF h.2.1) (hi : II h.2.1 (h.2.1 70 6).toInt a2.toInt) (hk : V h.2.1 77 a2.toInt = 6) (hg : 30 * (30 - a3.toInt) + 3 * (7 - V h.2.1 80 a2.toInt) + 2 ≤ (nn : Int)), Mt l yX8_tries cX8_tries 4 (some .int) (d + 1) [.ref 70, .int a2, .int a3] h 0 0 (fun r h' => ∃ v : Int32, r = some (.int v) ∧ 0 ≤ v.toInt ∧ v.toInt ≤ 3 ∧ Iv P h' ∧ ((h.2.1 70 53).toInt ≤ (h'.2.1 70 53).toInt))) {P : PP} {h : HP} (hv : Iv P h) (a2 : Int32) (a2l : 0 ≤ a2.toInt) (a2u : a2.toInt ≤ 559) (a3 : Int32) (a3l : 0 ≤ a3.toInt) (a3u : a3.toInt ≤ 30) (hr : RD h.2.1 (h.2.1 70 6).toInt ∧ TD h.2.1 (h.2.1 70 6).toInt) (hl : (h.2.1 70 29).toInt = (h.2.1 70 6).toInt) (ckf : CKF h.2.1) (hb : BB h.2.1 (h.2.1 70 6).toInt a2.toInt) (hg : (V h.2.1 92 a2.toInt = -1 → 30 * (30 - a3.toInt) + 24 ≤ ((nn + 1 : Nat) : Int)) ∧ (0 ≤ V h.2.1 92 a2.toInt → 30 * (30 - a3.toInt) + 3 * (6 - V h.2.1 80 (V h.2.1 92 a2.toInt)) + 3 ≤ ((nn + 1 : Nat) : Int))) : Mt l yX8_goesBlock cX8_goesBlock 5 (some .int) (d + 2) [.ref 70, .int a2, .int a3] h 0 0 (fun r h' => ∃ v : Int32, r = some (.int v) ∧ 0 ≤ v.toInt ∧ v.toInt ≤ 3 ∧ Iv P h' ∧ ((h.2.1 70 53).toInt ≤ (h'.2.1 70 53).toInt)) := by
  refine Mt_iv hv (by decide) (Nat.le_of_ble_eq_true rfl) ?_
  show Go l RX8 cX8_goesBlock 5 (g_rm (d + 2) 0 0) "goesBlock" (some .int) 117 0 0 (fun _ _ => True) (fun r h' => ∃ v : Int32, r = some (.int v) ∧ 0 ≤ v.toInt ∧ v.toInt ≤ 3 ∧ Iv P h' ∧ ((h.2.1 70 53).toInt ≤ (h'.2.1 70 53).toInt)) 0 0 [(0, .ref 70), (1, .int a2), (2, .int a3)] [] h
  obtain ⟨S, hS⟩ : ∃ S : Int, S = (h.2.1 70 6).toInt := ⟨_, rfl⟩
  have S0 : 0 ≤ S := by rw [hS]; exact (hv.2.1 70 6).1
  have S1 : S ≤ 1 := by rw [hS]; exact (hv.2.1 70 6).2
  rw [← hS] at hr
  rw [← hS] at hl
  rw [← hS] at hb
  have key : ∀ n : Nat, (∀ (l2 : Int32) (l3 : Int32) (hx : HP), Iv P hx → 0 ≤ l2.toInt → l2.toInt ≤ 30 → -1 ≤ l3.toInt → l3.toInt ≤ 259 → (l3.toInt = -1 ∨ (II h.2.1 S l3.toInt ∧ V h.2.1 88 l3.toInt = a2.toInt)) → (l2.toInt = a3.toInt) → ((h.2.1 70 53).toInt ≤ (hx.2.1 70 53).toInt) → (0 ≤ gmi l3.toInt) → (0 : Int) ≤ (hx.2.1 70 53).toInt → (hx.2.1 70 53).toInt ≤ 3000 → (gmi l3.toInt : Int) < n → Go l RX8 cX8_goesBlock 5 (g_rm (d + 2) 0 0) "goesBlock" (some .int) 117 0 0 (fun _ _ => True) (fun r h' => ∃ v : Int32, r = some (.int v) ∧ 0 ≤ v.toInt ∧ v.toInt ≤ 3 ∧ Iv P h' ∧ ((h.2.1 70 53).toInt ≤ (h'.2.1 70 53).toInt)) 0 7 [(0, .ref 70), (2, .int l2), (3, .int l3)] [] hx) := by
    intro n
    induction n with
    | zero => exact (by intros; omega)
    | succ n ih =>
      refine ?_
      ·
        intro l2 l3 hx hvx l2l l2u l3l l3u x0 x1 x2 x3 y0l y0u hm
        refine go_iload_n (pc := 7) rfl dX8_goesBlock_7 ?_
        refine go_iconst (pc := 8) (v := (-1)) (by decide) dX8_goesBlock_8 ?_
        refine gf_icmp_eq (pc := 9) (tgt := 78) (ti_rfl l3) (ti_c (v := (-1)) (a := (-1)) (by decide)) (by decide) dX8_goesBlock_9 (fun q1 => ?_) (fun q1 => ?_)
        ·
          refine go_iconst (pc := 78) (v := 0) (by decide) dX8_goesBlock_78 ?_
          have g2 : (0 : Int) ≤ (hx.2.1 70 53).toInt := (hvx.2.1 70 53).1
          have g3 : (hx.2.1 70 53).toInt ≤ 3000 := (hvx.2.1 70 53).2
          exact gi_iret (pc := 79) (ti_c (v := 0) (a := 0) (by decide)) ⟨_, rfl, (by rw [show (0 : Int32).toInt = 0 from (ti_c (v := 0) (a := 0) (by decide))]; omega), (by rw [show (0 : Int32).toInt = 0 from (ti_c (v := 0) (a := 0) (by decide))]; omega), hvx, (by omega)⟩ hvx dX8_goesBlock_79
        ·
          have gml := gmi_s l3.toInt
          have iq : II h.2.1 S l3.toInt ∧ V h.2.1 88 l3.toInt = a2.toInt := by rcases x0 with z | z; (omega); (exact z)
          have t2 := (hr.1.1.2.2.1 l3.toInt iq.1).2
          rw [iq.2] at t2
          have dm : 30 * (30 - l2.toInt) + 3 * (7 - V h.2.1 80 l3.toInt) + 2 ≤ nn := by rcases t2 with z | z; (have q := hg.1 z.1; omega); (have q := hg.2 (by omega); omega)
          refine go_aload_n (pc := 12) rfl dX8_goesBlock_12 ?_
          refine gi_getF (pc := 13) (q := 77) hvx fL_X8_29 rfl (Nat.le_of_ble_eq_true rfl) rfl (hvx.rf (by decide)) dX8_goesBlock_13 ?_
          refine go_iload_n (pc := 16) rfl dX8_goesBlock_16 ?_
          refine gi_iald (pc := 17) (lo := 0) (hi := 6) (len := 260) hvx (ti_rfl l3) rfl (by omega) (by omega) (fun _ => rfl) dX8_goesBlock_17 (fun v4 v4l v4u v4w => ?_)
          have v4V : v4.toInt = V h.2.1 77 l3.toInt := by rw [v4w, hvx.fz (c := 77) (by omega) (by omega), ← hv.fz (c := 77) (by omega) (by omega)]; rfl
          refine go_bipush (pc := 18) (v := 6) (by decide) dX8_goesBlock_18 ?_
          refine gf_icmp_ne (pc := 20) (tgt := 32) (ti_rfl v4) (ti_c (v := 6) (a := 6) (by decide)) (by decide) dX8_goesBlock_20 (fun q5 => ?_) (fun q5 => ?_)
          ·
            refine go_aload_n (pc := 32) rfl dX8_goesBlock_32 ?_
            refine gi_getL (pc := 33) hvx fL_X8_424 rfl (Nat.le_of_ble_eq_true rfl) rfl dX8_goesBlock_33 (fun v6 => ?_)
            refine go_aload_n (pc := 36) rfl dX8_goesBlock_36 ?_
            refine gi_getF (pc := 37) (q := 78) hvx fL_X8_32 rfl (Nat.le_of_ble_eq_true rfl) rfl (hvx.rf (by decide)) dX8_goesBlock_37 ?_
            refine go_iload_n (pc := 40) rfl dX8_goesBlock_40 ?_
            refine gi_iald (pc := 41) (lo := -1) (hi := 39) (len := 260) hvx (ti_rfl l3) rfl (by omega) (by omega) (fun _ => rfl) dX8_goesBlock_41 (fun v7 v7l v7u v7w => ?_)
            have v7V : v7.toInt = V h.2.1 78 l3.toInt := by rw [v7w, hvx.fz (c := 78) (by omega) (by omega), ← hv.fz (c := 78) (by omega) (by omega)]; rfl
            refine go_invS (pc := 42) (sl := 0) (s_X8_has l (d + 0) hvx v6 v7) mL_X8_280 iM_X8_has rfl rfl (Nat.le_of_ble_eq_true rfl) (show d + 0 + 1 + 1 ≤ d + 2 by omega) (show 8 + (3 + 11) + 40 * (d + 0 + 1) ≤ 40 * (d + 2) by omega) (g_c0 hvx.ln) (Nat.le_of_ble_eq_true rfl) dX8_goesBlock_42 ?_
            intro r h8 hq _
            obtain ⟨v9, rfl, v9l, v9u, rfl⟩ := hq
            refine gf_if_eq (pc := 45) (tgt := 57) (ti_rfl v9) (by decide) dX8_goesBlock_45 (fun q10 => ?_) (fun q10 => ?_)
            ·
              refine go_iconst (pc := 57) (v := 0) (by decide) dX8_goesBlock_57 ?_
              refine go_istore (pc := 58) (Nat.le_of_ble_eq_true rfl) dX8_goesBlock_58 (go_lv (lv2 := [(0, .ref 70), (2, .int l2), (3, .int l3), (4, .int 0)]) rfl ?_)
              refine go_iload (pc := 60) rfl dX8_goesBlock_60 ?_
              refine gf_if_eq (pc := 62) (tgt := 68) (ti_c (v := 0) (a := 0) (by decide)) (by decide) dX8_goesBlock_62 (fun q11 => ?_) (fun q11 => False.elim (by omega))
              refine go_aload_n (pc := 68) rfl dX8_goesBlock_68 ?_
              refine gi_getF (pc := 69) (q := 87) hvx fL_X8_59 rfl (Nat.le_of_ble_eq_true rfl) rfl (hvx.rf (by decide)) dX8_goesBlock_69 ?_
              refine go_iload_n (pc := 72) rfl dX8_goesBlock_72 ?_
              refine gi_iald (pc := 73) (lo := -1) (hi := 259) (len := 260) hvx (ti_rfl l3) rfl (by omega) (by omega) (fun _ => rfl) dX8_goesBlock_73 (fun v12 v12l v12u v12w => ?_)
              have v12V : v12.toInt = V h.2.1 87 l3.toInt := by rw [v12w, hvx.fz (c := 87) (by omega) (by omega), ← hv.fz (c := 87) (by omega) (by omega)]; rfl
              have t1 := hr.1.1.2.1 l3.toInt iq.1
              unfold T1 at t1
              rw [← v12V] at t1
              have gmn := gmi_s v12.toInt
              have t1m : v12.toInt = -1 ∨ l3.toInt < v12.toInt := by rcases t1 with z | z; (exact Or.inl z); (exact Or.inr z.1)
              refine go_istore_n (pc := 74) (Nat.le_of_ble_eq_true rfl) dX8_goesBlock_74 (go_lv (lv2 := [(0, .ref 70), (2, .int l2), (3, .int v12), (4, .int 0)]) rfl ?_)
              refine go_goto (pc := 75) (tgt := 7) (by decide) dX8_goesBlock_75 ?_
              have g13 : (0 : Int) ≤ (hx.2.1 70 53).toInt := (hvx.2.1 70 53).1
              have g14 : (hx.2.1 70 53).toInt ≤ 3000 := (hvx.2.1 70 53).2
              exact go_lv rfl (ih l2 v12 hx hvx (by omega) (by omega) (by omega) (by omega) (by rcases t1 with z | z; (exact Or.inl z); (exact Or.inr ⟨⟨by have q := iq.1.1; omega, z.2.1⟩, z.2.2.trans iq.2⟩)) (by omega) (by omega) (gmi_lo (by omega)) (by omega) (by omega) (by omega))
            ·
              refine go_aload_n (pc := 48) rfl dX8_goesBlock_48 ?_
              refine go_iload_n (pc := 49) rfl dX8_goesBlock_49 ?_
              refine go_iload_n (pc := 50) rfl dX8_goesBlock_50 ?_
              have sM15 : (hx.2.1 70 6).toInt = S := by rw [hvx.fy (j := 6) (by omega), ← hv.fy (j := 6) (by omega)]; exact hS.symm
              have g16 : (0 : Int) ≤ (hx.2.1 70 53).toInt := (hvx.2.1 70 53).1
              have g17 : (hx.2.1 70 53).toInt ≤ 3000 := (hvx.2.1 70 53).2
              refine go_invV (pc := 51) (sl := 0) (ihD hvx l3 (by rw [show (l3 : Int32).toInt = l3.toInt from (ti_rfl l3)]; omega) (by rw [show (l3 : Int32).toInt = l3.toInt from (ti_rfl l3)]; omega) l2 (by rw [show (l2 : Int32).toInt = l2.toInt from (ti_rfl l2)]; omega) (by rw [show (l2 : Int32).toInt = l2.toInt from (ti_rfl l2)]; omega) (by rw [sM15]; exact (RT2.ve (VE.of hv hvx) hr)) (by rw [sM15]; exact (by rw [hvx.fy (j := 29) (by omega), ← hv.fy (j := 29) (by omega)]; exact hl)) (CKF.ve (VE.of hv hvx) ckf) (by rw [sM15]; exact ((II.ve (VE.of hv hvx)).mpr iq.1)) (by rw [VE.v (VE.of hv hvx) (c := 77) (by omega) (by omega)]; omega) (by rw [VE.v (VE.of hv hvx) (c := 80) (by omega) (by omega)]; omega)) mL_X8_428 iM_X8_does sM_X8_does (hvx.sh rfl) rfl rfl rfl (Nat.le_of_ble_eq_true rfl) (show d + 1 + 1 ≤ d + 2 by omega) (show 8 + (6 + 11) + 40 * (d + 1) ≤ 40 * (d + 2) by omega) (g_c0 hvx.ln) (Nat.le_of_ble_eq_true rfl) dX8_goesBlock_51 ?_
              intro r h18 hq _
              obtain ⟨v20, rfl, v20l, v20u, hv18, f19⟩ := hq
              obtain ⟨u21, u21w⟩ : ∃ v : Int32, v = h18.2.1 70 53 := ⟨_, rfl⟩
              have u21e : (h18.2.1 70 53).toInt = u21.toInt := by rw [u21w]
              have u21l : 0 ≤ u21.toInt := by rw [u21w]; exact (hv18.2.1 70 53).1
              have u21u : u21.toInt ≤ 3000 := by rw [u21w]; exact (hv18.2.1 70 53).2
              refine go_goto (pc := 54) (tgt := 58) (by decide) dX8_goesBlock_54 ?_
              refine go_istore (pc := 58) (Nat.le_of_ble_eq_true rfl) dX8_goesBlock_58 (go_lv (lv2 := [(0, .ref 70), (2, .int l2), (3, .int l3), (4, .int v20)]) rfl ?_)
              refine go_iload (pc := 60) rfl dX8_goesBlock_60 ?_
              refine gf_if_eq (pc := 62) (tgt := 68) (ti_rfl v20) (by decide) dX8_goesBlock_62 (fun q22 => ?_) (fun q22 => ?_)
              ·
                refine go_aload_n (pc := 68) rfl dX8_goesBlock_68 ?_
                refine gi_getF (pc := 69) (q := 87) hv18 fL_X8_59 rfl (Nat.le_of_ble_eq_true rfl) rfl (hv18.rf (by decide)) dX8_goesBlock_69 ?_
                refine go_iload_n (pc := 72) rfl dX8_goesBlock_72 ?_
                refine gi_iald (pc := 73) (lo := -1) (hi := 259) (len := 260) hv18 (ti_rfl l3) rfl (by omega) (by omega) (fun _ => rfl) dX8_goesBlock_73 (fun v23 v23l v23u v23w => ?_)
                have v23V : v23.toInt = V h.2.1 87 l3.toInt := by rw [v23w, hv18.fz (c := 87) (by omega) (by omega), ← hv.fz (c := 87) (by omega) (by omega)]; rfl
                have t1 := hr.1.1.2.1 l3.toInt iq.1
                unfold T1 at t1
                rw [← v23V] at t1
                have gmn := gmi_s v23.toInt
                have t1m : v23.toInt = -1 ∨ l3.toInt < v23.toInt := by rcases t1 with z | z; (exact Or.inl z); (exact Or.inr z.1)
                refine go_istore_n (pc := 74) (Nat.le_of_ble_eq_true rfl) dX8_goesBlock_74 (go_lv (lv2 := [(0, .ref 70), (2, .int l2), (3, .int v23), (4, .int v20)]) rfl ?_)
                refine go_goto (pc := 75) (tgt := 7) (by decide) dX8_goesBlock_75 ?_
                have g24 : (0 : Int) ≤ (h18.2.1 70 53).toInt := (hv18.2.1 70 53).1
                have g25 : (h18.2.1 70 53).toInt ≤ 3000 := (hv18.2.1 70 53).2
                have g26 : (h18.2.1 70 53).toInt = u21.toInt := by rw [← (show u21 = h18.2.1 70 53 from u21w)] <;> exact (ti_rfl u21)
                exact go_lv rfl (ih l2 v23 h18 hv18 (by omega) (by omega) (by omega) (by omega) (by rcases t1 with z | z; (exact Or.inl z); (exact Or.inr ⟨⟨by have q := iq.1.1; omega, z.2.1⟩, z.2.2.trans iq.2⟩)) (by omega) (by omega) (gmi_lo (by omega)) (by omega) (by omega) (by omega))
              ·
                refine go_iload (pc := 65) rfl dX8_goesBlock_65 ?_
                have g27 : (0 : Int) ≤ (h18.2.1 70 53).toInt := (hv18.2.1 70 53).1
                have g28 : (h18.2.1 70 53).toInt ≤ 3000 := (hv18.2.1 70 53).2
                have g29 : (h18.2.1 70 53).toInt = u21.toInt := by rw [← (show u21 = h18.2.1 70 53 from u21w)] <;> exact (ti_rfl u21)
                exact gi_iret (pc := 67) (ti_rfl v20) ⟨_, rfl, (by rw [show (v20 : Int32).toInt = v20.toInt from (ti_rfl v20)]; omega), (by rw [show (v20 : Int32).toInt = v20.toInt from (ti_rfl v20)]; omega), hv18, (by omega)⟩ hv18 dX8_goesBlock_67
          ·
            refine go_aload_n (pc := 23) rfl dX8_goesBlock_23 ?_
            refine go_iload_n (pc := 24) rfl dX8_goesBlock_24 ?_
            refine go_iload_n (pc := 25) rfl dX8_goesBlock_25 ?_
            have sM30 : (hx.2.1 70 6).toInt = S := by rw [hvx.fy (j := 6) (by omega), ← hv.fy (j := 6) (by omega)]; exact hS.symm
            have g31 : (0 : Int) ≤ (hx.2.1 70 53).toInt := (hvx.2.1 70 53).1
            have g32 : (hx.2.1 70 53).toInt ≤ 3000 := (hvx.2.1 70 53).2
            refine go_invV (pc := 26) (sl := 0) (ihY hvx l3 (by rw [show (l3 : Int32).toInt = l3.toInt from (ti_rfl l3)]; omega) (by rw [show (l3 : Int32).toInt = l3.toInt from (ti_rfl l3)]; omega) l2 (by rw [show (l2 : Int32).toInt = l2.toInt from (ti_rfl l2)]; omega) (by rw [show (l2 : Int32).toInt = l2.toInt from (ti_rfl l2)]; omega) (by rw [sM30]; exact (RT2.ve (VE.of hv hvx) hr)) (by rw [sM30]; exact (by rw [hvx.fy (j := 29) (by omega), ← hv.fy (j := 29) (by omega)]; exact hl)) (CKF.ve (VE.of hv hvx) ckf) (by rw [sM30]; exact ((II.ve (VE.of hv hvx)).mpr iq.1)) (by rw [VE.v (VE.of hv hvx) (c := 77) (by omega) (by omega)]; omega) (by rw [VE.v (VE.of hv hvx) (c := 80) (by omega) (by omega)]; omega)) mL_X8_421 iM_X8_tries sM_X8_tries (hvx.sh rfl) rfl rfl rfl (Nat.le_of_ble_eq_true rfl) (show d + 1 + 1 ≤ d + 2 by omega) (show 8 + (4 + 11) + 40 * (d + 1) ≤ 40 * (d + 2) by omega) (g_c0 hvx.ln) (Nat.le_of_ble_eq_true rfl) dX8_goesBlock_26 ?_
            intro r h33 hq _
            obtain ⟨v35, rfl, v35l, v35u, hv33, f34⟩ := hq
            obtain ⟨u36, u36w⟩ : ∃ v : Int32, v = h33.2.1 70 53 := ⟨_, rfl⟩
            have u36e : (h33.2.1 70 53).toInt = u36.toInt := by rw [u36w]
            have u36l : 0 ≤ u36.toInt := by rw [u36w]; exact (hv33.2.1 70 53).1
            have u36u : u36.toInt ≤ 3000 := by rw [u36w]; exact (hv33.2.1 70 53).2
            refine go_goto (pc := 29) (tgt := 58) (by decide) dX8_goesBlock_29 ?_
            refine go_istore (pc := 58) (Nat.le_of_ble_eq_true rfl) dX8_goesBlock_58 (go_lv (lv2 := [(0, .ref 70), (2, .int l2), (3, .int l3), (4, .int v35)]) rfl ?_)
            refine go_iload (pc := 60) rfl dX8_goesBlock_60 ?_
            refine gf_if_eq (pc := 62) (tgt := 68) (ti_rfl v35) (by decide) dX8_goesBlock_62 (fun q37 => ?_) (fun q37 => ?_)
            ·
              refine go_aload_n (pc := 68) rfl dX8_goesBlock_68 ?_
              refine gi_getF (pc := 69) (q := 87) hv33 fL_X8_59 rfl (Nat.le_of_ble_eq_true rfl) rfl (hv33.rf (by decide)) dX8_goesBlock_69 ?_
              refine go_iload_n (pc := 72) rfl dX8_goesBlock_72 ?_
              refine gi_iald (pc := 73) (lo := -1) (hi := 259) (len := 260) hv33 (ti_rfl l3) rfl (by omega) (by omega) (fun _ => rfl) dX8_goesBlock_73 (fun v38 v38l v38u v38w => ?_)
              have v38V : v38.toInt = V h.2.1 87 l3.toInt := by rw [v38w, hv33.fz (c := 87) (by omega) (by omega), ← hv.fz (c := 87) (by omega) (by omega)]; rfl
              have t1 := hr.1.1.2.1 l3.toInt iq.1
              unfold T1 at t1
              rw [← v38V] at t1
              have gmn := gmi_s v38.toInt
              have t1m : v38.toInt = -1 ∨ l3.toInt < v38.toInt := by rcases t1 with z | z; (exact Or.inl z); (exact Or.inr z.1)
              refine go_istore_n (pc := 74) (Nat.le_of_ble_eq_true rfl) dX8_goesBlock_74 (go_lv (lv2 := [(0, .ref 70), (2, .int l2), (3, .int v38), (4, .int v35)]) rfl ?_)
              refine go_goto (pc := 75) (tgt := 7) (by decide) dX8_goesBlock_75 ?_
              have g39 : (0 : Int) ≤ (h33.2.1 70 53).toInt := (hv33.2.1 70 53).1
              have g40 : (h33.2.1 70 53).toInt ≤ 3000 := (hv33.2.1 70 53).2
              have g41 : (h33.2.1 70 53).toInt = u36.toInt := by rw [← (show u36 = h33.2.1 70 53 from u36w)] <;> exact (ti_rfl u36)
              exact go_lv rfl (ih l2 v38 h33 hv33 (by omega) (by omega) (by omega) (by omega) (by rcases t1 with z | z; (exact Or.inl z); (exact Or.inr ⟨⟨by have q := iq.1.1; omega, z.2.1⟩, z.2.2.trans iq.2⟩)) (by omega) (by omega) (gmi_lo (by omega)) (by omega) (by omega) (by omega))
            ·
              refine go_iload (pc := 65) rfl dX8_goesBlock_65 ?_
              have g42 : (0 : Int) ≤ (h33.2.1 70 53).toInt := (hv33.2.1 70 53).1
              have g43 : (h33.2.1 70 53).toInt ≤ 3000 := (hv33.2.1 70 53).2
              have g44 : (h33.2.1 70 53).toInt = u36.toInt := by rw [← (show u36 = h33.2.1 70 53 from u36w)] <;> exact (ti_rfl u36)
              exact gi_iret (pc := 67) (ti_rfl v35) ⟨_, rfl, (by rw [show (v35 : Int32).toInt = v35.toInt from (ti_rfl v35)]; omega), (by rw [show (v35 : Int32).toInt = v35.toInt from (ti_rfl v35)]; omega), hv33, (by omega)⟩ hv33 dX8_goesBlock_67
  refine go_aload_n (pc := 0) rfl dX8_goesBlock_0 ?_
  refine gi_getF (pc := 1) (q := 90) hv fL_X8_68 rfl (Nat.le_of_ble_eq_true rfl) rfl (hv.rf (by decide)) dX8_goesBlock_1 ?_
  refine go_iload_n (pc := 4) rfl dX8_goesBlock_4 ?_
  refine gi_iald (pc := 5) (lo := -1) (hi := 259) (len := 560) hv (ti_rfl a2) rfl (by omega) (by omega) (fun _ => rfl) dX8_goesBlock_5 (fun v45 v45l v45u v45w => ?_)
  have v45V : v45.toInt = V h.2.1 90 a2.toInt := by rw [v45w]; rfl
  have gma := gmi_s v45.toInt
  refine go_istore_n (pc := 6) (Nat.le_of_ble_eq_true rfl) dX8_goesBlock_6 (go_lv (lv2 := [(0, .ref 70), (1, .int a2), (2, .int a3), (3, .int v45)]) rfl ?_)
  have g46 : (0 : Int) ≤ (h.2.1 70 53).toInt := (hv.2.1 70 53).1
  have g47 : (h.2.1 70 53).toInt ≤ 3000 := (hv.2.1 70 53).2
  exact go_lv rfl ((key 1001) a3 v45 h hv (by omega) (by omega) (by omega) (by omega) (by rw [v45V]; exact (hr.1.1.2.2.2.2.2.1 a2.toInt hb).1) (by omega) (by omega) (gmi_lo (by omega)) (by omega) (by omega) (by omega))
set_option maxHeartbeats 4000000 in
set_option maxRecDepth 100000 in
theorem s_X8_tries_b (l : Launch) (d : Nat) {nn : Nat} (ihG : ∀ {P : PP} {h : HP} (_ : Iv P h) (a2 : Int32) (a2l : 0 ≤ a2.toInt) (a2u : a2.toInt ≤ 559) (a3 : Int32) (a3l : 0 ≤ a3.toInt) (a3u : a3.toInt ≤ 30) (hr : RD h.2.1 (h.2.1 70 6).toInt ∧ TD h.2.1 (h.2.1 70 6).toInt) (hl : (h.2.1 70 29).toInt = (h.2.1 70 6).toInt) (ckf : CKF h.2.1) (hb : BB h.2.1 (h.2.1 70 6).toInt a2.toInt) (hg : (V h.2.1 92 a2.toInt = -1 → 30 * (30 - a3.toInt) + 24 ≤ (nn : Int)) ∧ (0 ≤ V h.2.1 92 a2.toInt → 30 * (30 - a3.toInt) + 3 * (6 - V h.2.1 80 (V h.2.1 92 a2.toInt)) + 3 ≤ (nn : Int))), Mt l yX8_goesBlock cX8_goesBlock 5 (some .int) (d + 0) [.ref 70, .int a2, .int a3] h 0 0 (fun r h' => ∃ v : Int32, r = some (.int v) ∧ 0 ≤ v.toInt ∧ v.toInt ≤ 3 ∧ Iv P h' ∧ ((h.2.1 70 53).toInt ≤ (h'.2.1 70 53).toInt))) {P : PP} {h : HP} (hv : Iv P h) (a2 : Int32) (a2l : 0 ≤ a2.toInt) (a2u : a2.toInt ≤ 259) (a3 : Int32) (a3l : 0 ≤ a3.toInt) (a3u : a3.toInt ≤ 30) (hr : RD h.2.1 (h.2.1 70 6).toInt ∧ TD h.2.1 (h.2.1 70 6).toInt) (hl : (h.2.1 70 29).toInt = (h.2.1 70 6).toInt) (ckf : CKF h.2.1) (hi : II h.2.1 (h.2.1 70 6).toInt a2.toInt) (hk : V h.2.1 77 a2.toInt = 6) (hg : 30 * (30 - a3.toInt) + 3 * (7 - V h.2.1 80 a2.toInt) + 2 ≤ ((nn + 1 : Nat) : Int)) : Mt l yX8_tries cX8_tries 4 (some .int) (d + 1) [.ref 70, .int a2, .int a3] h 0 0 (fun r h' => ∃ v : Int32, r = some (.int v) ∧ 0 ≤ v.toInt ∧ v.toInt ≤ 3 ∧ Iv P h' ∧ ((h.2.1 70 53).toInt ≤ (h'.2.1 70 53).toInt)) := by
  refine Mt_iv hv (by decide) (Nat.le_of_ble_eq_true rfl) ?_
  show Go l RX8 cX8_tries 4 (g_rm (d + 1) 0 0) "tries" (some .int) 117 0 0 (fun _ _ => True) (fun r h' => ∃ v : Int32, r = some (.int v) ∧ 0 ≤ v.toInt ∧ v.toInt ≤ 3 ∧ Iv P h' ∧ ((h.2.1 70 53).toInt ≤ (h'.2.1 70 53).toInt)) 0 0 [(0, .ref 70), (1, .int a2), (2, .int a3)] [] h
  obtain ⟨S, hS⟩ : ∃ S : Int, S = (h.2.1 70 6).toInt := ⟨_, rfl⟩
  have S0 : 0 ≤ S := by rw [hS]; exact (hv.2.1 70 6).1
  have S1 : S ≤ 1 := by rw [hS]; exact (hv.2.1 70 6).2
  rw [← hS] at hr
  rw [← hS] at hl
  rw [← hS] at hi
  have cc := (hr.1.2.1 a2.toInt hi.1 hi.2).2
  have cd := (hr.1.2.1 a2.toInt hi.1 hi.2).1
  have t3 := hr.1.1.2.2.2.1 a2.toInt hi
  have r8 : V h.2.1 80 a2.toInt ≤ 6 := (hv.2.1 80 _).2
  have c6 := cc.1 hk
  refine go_aload_n (pc := 0) rfl dX8_tries_0 ?_
  refine go_aload_n (pc := 1) rfl dX8_tries_1 ?_
  refine gi_getF (pc := 2) (q := 85) hv fL_X8_53 rfl (Nat.le_of_ble_eq_true rfl) rfl (hv.rf (by decide)) dX8_tries_2 ?_
  refine go_iload_n (pc := 5) rfl dX8_tries_5 ?_
  refine gi_iald (pc := 6) (lo := -1) (hi := 559) (len := 260) hv (ti_rfl a2) rfl (by omega) (by omega) (fun _ => rfl) dX8_tries_6 (fun v1 v1l v1u v1w => ?_)
  have v1V : v1.toInt = V h.2.1 85 a2.toInt := by rw [v1w]; rfl
  refine go_iload_n (pc := 7) rfl dX8_tries_7 ?_
  rcases (hr.1.1.2.2.2.2.1 a2.toInt hi).1 with t42 | t42
  · exact False.elim (by omega)
  have sM3 : (h.2.1 70 6).toInt = S := by rw [hv.fy (j := 6) (by omega), ← hv.fy (j := 6) (by omega)]; exact hS.symm
  have g4 : (0 : Int) ≤ (h.2.1 70 53).toInt := (hv.2.1 70 53).1
  have g5 : (h.2.1 70 53).toInt ≤ 3000 := (hv.2.1 70 53).2
  refine go_invV (pc := 8) (sl := 0) (ihG hv v1 (by rw [show (v1 : Int32).toInt = v1.toInt from (ti_rfl v1)]; omega) (by rw [show (v1 : Int32).toInt = v1.toInt from (ti_rfl v1)]; omega) a3 (by rw [show (a3 : Int32).toInt = a3.toInt from (ti_rfl a3)]; omega) (by rw [show (a3 : Int32).toInt = a3.toInt from (ti_rfl a3)]; omega) (by rw [sM3]; exact (RT2.ve (VE.of hv hv) hr)) (by rw [sM3]; exact (by rw [hv.fy (j := 29) (by omega), ← hv.fy (j := 29) (by omega)]; exact hl)) (CKF.ve (VE.of hv hv) ckf) (by rw [sM3]; exact (by rw [v1V]; exact (BB.ve (VE.of hv hv)).mpr t42.1)) (by rw [v1V, VE.v (VE.of hv hv) (c := 92) (by omega) (by omega), t42.2]; exact ⟨fun q => by omega, fun q => by rw [VE.v (VE.of hv hv) (c := 80) (by omega) (by omega)]; omega⟩)) mL_X8_431 iM_X8_goesBlock sM_X8_goesBlock (hv.sh rfl) rfl rfl rfl (Nat.le_of_ble_eq_true rfl) (show d + 0 + 1 ≤ d + 1 by omega) (show 8 + (5 + 11) + 40 * (d + 0) ≤ 40 * (d + 1) by omega) (g_c0 hv.ln) (Nat.le_of_ble_eq_true rfl) dX8_tries_8 ?_
  intro r h6 hq _
  obtain ⟨v8, rfl, v8l, v8u, hv6, f7⟩ := hq
  obtain ⟨u9, u9w⟩ : ∃ v : Int32, v = h6.2.1 70 53 := ⟨_, rfl⟩
  have u9e : (h6.2.1 70 53).toInt = u9.toInt := by rw [u9w]
  have u9l : 0 ≤ u9.toInt := by rw [u9w]; exact (hv6.2.1 70 53).1
  have u9u : u9.toInt ≤ 3000 := by rw [u9w]; exact (hv6.2.1 70 53).2
  refine go_istore_n (pc := 11) (Nat.le_of_ble_eq_true rfl) dX8_tries_11 (go_lv (lv2 := [(0, .ref 70), (1, .int a2), (2, .int a3), (3, .int v8)]) rfl ?_)
  refine go_iload_n (pc := 12) rfl dX8_tries_12 ?_
  refine go_iconst (pc := 13) (v := 2) (by decide) dX8_tries_13 ?_
  refine gf_icmp_eq (pc := 14) (tgt := 19) (ti_rfl v8) (ti_c (v := 2) (a := 2) (by decide)) (by decide) dX8_tries_14 (fun q10 => ?_) (fun q10 => ?_)
  ·
    refine go_aload_n (pc := 19) rfl dX8_tries_19 ?_
    refine gi_getF (pc := 20) (q := 114) hv6 fL_X8_142 rfl (Nat.le_of_ble_eq_true rfl) rfl (hv6.rf (by decide)) dX8_tries_20 ?_
    refine go_bipush (pc := 23) (v := 6) (by decide) dX8_tries_23 ?_
    refine go_iload_n (pc := 25) rfl dX8_tries_25 ?_
    refine gf_imul (pc := 26) (ti_c (v := 6) (a := 6) (by decide)) (ti_rfl a3) (by omega) (by omega) dX8_tries_26 (fun v11 e12 => ?_)
    refine go_aload_n (pc := 27) rfl dX8_tries_27 ?_
    refine gi_getF (pc := 28) (q := 82) hv6 fL_X8_44 rfl (Nat.le_of_ble_eq_true rfl) rfl (hv6.rf (by decide)) dX8_tries_28 ?_
    refine go_iload_n (pc := 31) rfl dX8_tries_31 ?_
    refine gi_iald (pc := 32) (lo := -1) (hi := 9) (len := 260) hv6 (ti_rfl a2) rfl (by omega) (by omega) (fun _ => rfl) dX8_tries_32 (fun v13 v13l v13u v13w => ?_)
    have v13V : v13.toInt = V h.2.1 82 a2.toInt := by rw [v13w, hv6.fz (c := 82) (by omega) (by omega), ← hv.fz (c := 82) (by omega) (by omega)]; rfl
    have k5 : 0 ≤ v13.toInt ∧ v13.toInt ≤ 5 := by omega
    refine gf_iadd (pc := 33) e12 (ti_rfl v13) (by omega) (by omega) dX8_tries_33 (fun v14 e15 => ?_)
    refine go_aload_n (pc := 34) rfl dX8_tries_34 ?_
    refine gi_get (pc := 35) (lo := -2147483648) (hi := 2147483647) hv6 fL_X8_434 rfl (Nat.le_of_ble_eq_true rfl) rfl rfl dX8_tries_35 (fun v16 v16l v16u v16w => ?_)
    refine gi_iast (pc := 38) (lo := -2147483648) (hi := 2147483647) (len := 192) hv6 e15 (ti_rfl v16) rfl (by omega) (by omega) (fun _ => rfl) (ti_ge (ti_rfl v16)) (ti_le2 (ti_rfl v16)) (by decide) dX8_tries_38 (fun h17 hv17 hv17e => ?_)
    refine go_aload_n (pc := 39) rfl dX8_tries_39 ?_
    refine go_aload_n (pc := 40) rfl dX8_tries_40 ?_
    refine gi_getF (pc := 41) (q := 86) hv17 fL_X8_56 rfl (Nat.le_of_ble_eq_true rfl) rfl (hv17.rf (by decide)) dX8_tries_41 ?_
    refine go_iload_n (pc := 44) rfl dX8_tries_44 ?_
    refine gi_iald (pc := 45) (lo := -1) (hi := 559) (len := 260) hv17 (ti_rfl a2) rfl (by omega) (by omega) (fun _ => rfl) dX8_tries_45 (fun v18 v18l v18u v18w => ?_)
    have v18V : v18.toInt = V h.2.1 86 a2.toInt := by rw [v18w, hv17.fz (c := 86) (by omega) (by omega), ← hv.fz (c := 86) (by omega) (by omega)]; rfl
    refine go_iload_n (pc := 46) rfl dX8_tries_46 ?_
    rcases (hr.1.1.2.2.2.2.1 a2.toInt hi).2 with t419 | t419
    · exact False.elim (by omega)
    have sM20 : (h17.2.1 70 6).toInt = S := by rw [hv17.fy (j := 6) (by omega), ← hv.fy (j := 6) (by omega)]; exact hS.symm
    have g21 : (0 : Int) ≤ (h17.2.1 70 53).toInt := (hv17.2.1 70 53).1
    have g22 : (h17.2.1 70 53).toInt ≤ 3000 := (hv17.2.1 70 53).2
    have g23 : (h17.2.1 70 53).toInt = u9.toInt := by rw [← (show u9 = h17.2.1 70 53 from (show u9 = h17.2.1 70 53 from by rw [hv17e]; exact (g_iI rfl u9w.symm).symm))] <;> exact (ti_rfl u9)
    refine go_invV (pc := 47) (sl := 0) (ihG hv17 v18 (by rw [show (v18 : Int32).toInt = v18.toInt from (ti_rfl v18)]; omega) (by rw [show (v18 : Int32).toInt = v18.toInt from (ti_rfl v18)]; omega) a3 (by rw [show (a3 : Int32).toInt = a3.toInt from (ti_rfl a3)]; omega) (by rw [show (a3 : Int32).toInt = a3.toInt from (ti_rfl a3)]; omega) (by rw [sM20]; exact (RT2.ve (VE.of hv hv17) hr)) (by rw [sM20]; exact (by rw [hv17.fy (j := 29) (by omega), ← hv.fy (j := 29) (by omega)]; exact hl)) (CKF.ve (VE.of hv hv17) ckf) (by rw [sM20]; exact (by rw [v18V]; exact (BB.ve (VE.of hv hv17)).mpr t419.1)) (by rw [v18V, VE.v (VE.of hv hv17) (c := 92) (by omega) (by omega), t419.2]; exact ⟨fun q => by omega, fun q => by rw [VE.v (VE.of hv hv17) (c := 80) (by omega) (by omega)]; omega⟩)) mL_X8_431 iM_X8_goesBlock sM_X8_goesBlock (hv17.sh rfl) rfl rfl rfl (Nat.le_of_ble_eq_true rfl) (show d + 0 + 1 ≤ d + 1 by omega) (show 8 + (5 + 11) + 40 * (d + 0) ≤ 40 * (d + 1) by omega) (g_c0 hv17.ln) (Nat.le_of_ble_eq_true rfl) dX8_tries_47 ?_
    intro r h24 hq _
    obtain ⟨v26, rfl, v26l, v26u, hv24, f25⟩ := hq
    obtain ⟨u27, u27w⟩ : ∃ v : Int32, v = h24.2.1 70 53 := ⟨_, rfl⟩
    have u27e : (h24.2.1 70 53).toInt = u27.toInt := by rw [u27w]
    have u27l : 0 ≤ u27.toInt := by rw [u27w]; exact (hv24.2.1 70 53).1
    have u27u : u27.toInt ≤ 3000 := by rw [u27w]; exact (hv24.2.1 70 53).2
    have g28 : (0 : Int) ≤ (h24.2.1 70 53).toInt := (hv24.2.1 70 53).1
    have g29 : (h24.2.1 70 53).toInt ≤ 3000 := (hv24.2.1 70 53).2
    have g30 : (h24.2.1 70 53).toInt = u27.toInt := by rw [← (show u27 = h24.2.1 70 53 from u27w)] <;> exact (ti_rfl u27)
    exact gi_iret (pc := 50) (ti_rfl v26) ⟨_, rfl, (by rw [show (v26 : Int32).toInt = v26.toInt from (ti_rfl v26)]; omega), (by rw [show (v26 : Int32).toInt = v26.toInt from (ti_rfl v26)]; omega), hv24, (by omega)⟩ hv24 dX8_tries_50
  ·
    refine go_iload_n (pc := 17) rfl dX8_tries_17 ?_
    have g31 : (0 : Int) ≤ (h6.2.1 70 53).toInt := (hv6.2.1 70 53).1
    have g32 : (h6.2.1 70 53).toInt ≤ 3000 := (hv6.2.1 70 53).2
    have g33 : (h6.2.1 70 53).toInt = u9.toInt := by rw [← (show u9 = h6.2.1 70 53 from u9w)] <;> exact (ti_rfl u9)
    exact gi_iret (pc := 18) (ti_rfl v8) ⟨_, rfl, (by rw [show (v8 : Int32).toInt = v8.toInt from (ti_rfl v8)]; omega), (by rw [show (v8 : Int32).toInt = v8.toInt from (ti_rfl v8)]; omega), hv6, (by omega)⟩ hv6 dX8_tries_18
set_option maxHeartbeats 4000000 in
set_option maxRecDepth 100000 in
theorem s_X8_does_b (l : Launch) (d : Nat) {nn : Nat} (ihC : ∀ {P : PP} {h : HP} (_ : Iv P h) (a2 : Int32) (a2l : 0 ≤ a2.toInt) (a2u : a2.toInt ≤ 259) (a3 : Int32) (a3l : 0 ≤ a3.toInt) (a3u : a3.toInt ≤ 30) (a4 : Int32) (a5 : Int32) (hr : RD h.2.1 (h.2.1 70 6).toInt ∧ TD h.2.1 (h.2.1 70 6).toInt) (hl : (h.2.1 70 29).toInt = (h.2.1 70 6).toInt) (ckf : CKF h.2.1) (hi : II h.2.1 (h.2.1 70 6).toInt a2.toInt) (hk : V h.2.1 77 a2.toInt = 1) (hg : 30 * (30 - a3.toInt) + 1 ≤ (nn : Int)), Mt l yX8_calls_ cX8_calls_ 6 (some .int) (d + 2) [.ref 70, .int a2, .int a3, .int a4, .int a5] h 0 0 (fun r h' => ∃ v : Int32, r = some (.int v) ∧ 0 ≤ v.toInt ∧ v.toInt ≤ 3 ∧ Iv P h' ∧ ((h.2.1 70 53).toInt ≤ (h'.2.1 70 53).toInt))) (ihG : ∀ {P : PP} {h : HP} (_ : Iv P h) (a2 : Int32) (a2l : 0 ≤ a2.toInt) (a2u : a2.toInt ≤ 559) (a3 : Int32) (a3l : 0 ≤ a3.toInt) (a3u : a3.toInt ≤ 30) (hr : RD h.2.1 (h.2.1 70 6).toInt ∧ TD h.2.1 (h.2.1 70 6).toInt) (hl : (h.2.1 70 29).toInt = (h.2.1 70 6).toInt) (ckf : CKF h.2.1) (hb : BB h.2.1 (h.2.1 70 6).toInt a2.toInt) (hg : (V h.2.1 92 a2.toInt = -1 → 30 * (30 - a3.toInt) + 24 ≤ (nn : Int)) ∧ (0 ≤ V h.2.1 92 a2.toInt → 30 * (30 - a3.toInt) + 3 * (6 - V h.2.1 80 (V h.2.1 92 a2.toInt)) + 3 ≤ (nn : Int))), Mt l yX8_goesBlock cX8_goesBlock 5 (some .int) (d + 2) [.ref 70, .int a2, .int a3] h 0 0 (fun r h' => ∃ v : Int32, r = some (.int v) ∧ 0 ≤ v.toInt ∧ v.toInt ≤ 3 ∧ Iv P h' ∧ ((h.2.1 70 53).toInt ≤ (h'.2.1 70 53).toInt))) (ihL : ∀ {P : PP} {h : HP} (_ : Iv P h) (a2 : Int32) (a2l : 0 ≤ a2.toInt) (a2u : a2.toInt ≤ 259) (a3 : Int32) (a3l : 0 ≤ a3.toInt) (a3u : a3.toInt ≤ 30) (hr : RD h.2.1 (h.2.1 70 6).toInt ∧ TD h.2.1 (h.2.1 70 6).toInt) (hl : (h.2.1 70 29).toInt = (h.2.1 70 6).toInt) (ckf : CKF h.2.1) (hi : II h.2.1 (h.2.1 70 6).toInt a2.toInt) (hk : V h.2.1 77 a2.toInt = 3) (hg : 30 * (30 - a3.toInt) + 3 * (7 - V h.2.1 80 a2.toInt) + 1 ≤ (nn : Int)), Mt l yX8_loops cX8_loops 5 (some .int) (d + 2) [.ref 70, .int a2, .int a3] h 0 0 (fun r h' => ∃ v : Int32, r = some (.int v) ∧ 0 ≤ v.toInt ∧ v.toInt ≤ 3 ∧ Iv P h' ∧ ((h.2.1 70 53).toInt ≤ (h'.2.1 70 53).toInt))) {P : PP} {h : HP} (hv : Iv P h) (a2 : Int32) (a2l : 0 ≤ a2.toInt) (a2u : a2.toInt ≤ 259) (a3 : Int32) (a3l : 0 ≤ a3.toInt) (a3u : a3.toInt ≤ 30) (hr : RD h.2.1 (h.2.1 70 6).toInt ∧ TD h.2.1 (h.2.1 70 6).toInt) (hl : (h.2.1 70 29).toInt = (h.2.1 70 6).toInt) (ckf : CKF h.2.1) (hi : II h.2.1 (h.2.1 70 6).toInt a2.toInt) (hk : ¬ V h.2.1 77 a2.toInt = 6) (hg : 30 * (30 - a3.toInt) + 3 * (7 - V h.2.1 80 a2.toInt) + 2 ≤ ((nn + 1 : Nat) : Int)) : Mt l yX8_does cX8_does 6 (some .int) (d + 3) [.ref 70, .int a2, .int a3] h 0 0 (fun r h' => ∃ v : Int32, r = some (.int v) ∧ 0 ≤ v.toInt ∧ v.toInt ≤ 3 ∧ Iv P h' ∧ ((h.2.1 70 53).toInt ≤ (h'.2.1 70 53).toInt)) := by
  refine Mt_iv hv (by decide) (Nat.le_of_ble_eq_true rfl) ?_
  show Go l RX8 cX8_does 6 (g_rm (d + 3) 0 0) "does" (some .int) 117 0 0 (fun _ _ => True) (fun r h' => ∃ v : Int32, r = some (.int v) ∧ 0 ≤ v.toInt ∧ v.toInt ≤ 3 ∧ Iv P h' ∧ ((h.2.1 70 53).toInt ≤ (h'.2.1 70 53).toInt)) 0 0 [(0, .ref 70), (1, .int a2), (2, .int a3)] [] h
  obtain ⟨S, hS⟩ : ∃ S : Int, S = (h.2.1 70 6).toInt := ⟨_, rfl⟩
  have S0 : 0 ≤ S := by rw [hS]; exact (hv.2.1 70 6).1
  have S1 : S ≤ 1 := by rw [hS]; exact (hv.2.1 70 6).2
  rw [← hS] at hr
  rw [← hS] at hl
  rw [← hS] at hi
  have cc := (hr.1.2.1 a2.toInt hi.1 hi.2).2
  have cd := (hr.1.2.1 a2.toInt hi.1 hi.2).1
  have t3 := hr.1.1.2.2.2.1 a2.toInt hi
  have r8 : V h.2.1 80 a2.toInt ≤ 6 := (hv.2.1 80 _).2
  refine go_aload_n (pc := 0) rfl dX8_does_0 ?_
  refine gi_get (pc := 1) (lo := 0) (hi := 3000) hv fL_X8_437 rfl (Nat.le_of_ble_eq_true rfl) rfl rfl dX8_does_1 (fun v1 v1l v1u v1w => ?_)
  have g2 : (h.2.1 70 53).toInt = v1.toInt := by rw [v1w]
  refine go_sipush (pc := 4) (v := 3000) (by decide) dX8_does_4 ?_
  refine gf_icmp_ne (pc := 7) (tgt := 12) (ti_rfl v1) (ti_c (v := 3000) (a := 3000) (by decide)) (by decide) dX8_does_7 (fun q3 => ?_) (fun q3 => ?_)
  ·
    refine go_aload_n (pc := 12) rfl dX8_does_12 ?_
    refine go_dup (pc := 13) rfl dX8_does_13 ?_
    refine gi_get (pc := 14) (lo := 0) (hi := 3000) hv fL_X8_437 rfl (Nat.le_of_ble_eq_true rfl) rfl rfl dX8_does_14 (fun v4 v4l v4u v4w => ?_)
    have v4r : v1 = h.2.1 70 53 := v1w
    have v4q : TI v4 v1.toInt := by rw [v4w.trans v4r.symm]; exact (ti_rfl v1)
    refine go_iconst (pc := 17) (v := 1) (by decide) dX8_does_17 ?_
    refine gf_iadd (pc := 18) v4q (ti_c (v := 1) (a := 1) (by decide)) (by omega) (by omega) dX8_does_18 (fun v5 e6 => ?_)
    refine gi_put (pc := 19) (lo := 0) (hi := 3000) hv e6 (fP_X8_437 _) rfl (Nat.le_of_ble_eq_true rfl) rfl rfl (by omega) (by omega) rfl rfl (by decide) (by decide) (by decide) (by decide) dX8_does_19 (fun h7 hv7 hv7e => ?_)
    refine go_aload_n (pc := 22) rfl dX8_does_22 ?_
    refine go_iload_n (pc := 23) rfl dX8_does_23 ?_
    refine go_iload_n (pc := 24) rfl dX8_does_24 ?_
    refine go_iconst (pc := 25) (v := 0) (by decide) dX8_does_25 ?_
    refine go_invV (pc := 26) (sl := 0) (s_X8_number_ l (d + 0) hv7 a3 (by rw [show (a3 : Int32).toInt = a3.toInt from (ti_rfl a3)]; omega) (by rw [show (a3 : Int32).toInt = a3.toInt from (ti_rfl a3)]; omega) a2 (by rw [show (a2 : Int32).toInt = a2.toInt from (ti_rfl a2)]; omega) (by rw [show (a2 : Int32).toInt = a2.toInt from (ti_rfl a2)]; omega) 0 (by rw [show (0 : Int32).toInt = 0 from (ti_c (v := 0) (a := 0) (by decide))]; omega) (by rw [show (0 : Int32).toInt = 0 from (ti_c (v := 0) (a := 0) (by decide))]; omega) (show V h7.2.1 89 (2 * a2.toInt + (0 : Int32).toInt) ≤ 1009 from by rw [VE.v (VE.of hv hv7) (c := 89) (by omega) (by omega)]; exact (by rw [show ((0 : Int32).toInt) = 0 by decide, Int.add_zero]; exact t3.2.2.2.1))) mL_X8_440 iM_X8_number_ sM_X8_number_ (hv7.sh rfl) rfl rfl rfl (Nat.le_of_ble_eq_true rfl) (show d + 0 + 2 + 1 ≤ d + 3 by omega) (show 8 + (4 + 11) + 40 * (d + 0 + 2) ≤ 40 * (d + 3) by omega) (g_c0 hv7.ln) (Nat.le_of_ble_eq_true rfl) dX8_does_26 ?_
    intro r h8 hq _
    obtain ⟨v9, rfl, v9l, v9u, rfl⟩ := hq
    refine go_istore_n (pc := 29) (Nat.le_of_ble_eq_true rfl) dX8_does_29 (go_lv (lv2 := [(0, .ref 70), (1, .int a2), (2, .int a3), (3, .int v9)]) rfl ?_)
    refine go_aload_n (pc := 30) rfl dX8_does_30 ?_
    refine go_iload_n (pc := 31) rfl dX8_does_31 ?_
    refine go_iload_n (pc := 32) rfl dX8_does_32 ?_
    refine go_iconst (pc := 33) (v := 1) (by decide) dX8_does_33 ?_
    refine go_invV (pc := 34) (sl := 0) (s_X8_number_ l (d + 0) hv7 a3 (by rw [show (a3 : Int32).toInt = a3.toInt from (ti_rfl a3)]; omega) (by rw [show (a3 : Int32).toInt = a3.toInt from (ti_rfl a3)]; omega) a2 (by rw [show (a2 : Int32).toInt = a2.toInt from (ti_rfl a2)]; omega) (by rw [show (a2 : Int32).toInt = a2.toInt from (ti_rfl a2)]; omega) 1 (by rw [show (1 : Int32).toInt = 1 from (ti_c (v := 1) (a := 1) (by decide))]; omega) (by rw [show (1 : Int32).toInt = 1 from (ti_c (v := 1) (a := 1) (by decide))]; omega) (show V h7.2.1 89 (2 * a2.toInt + (1 : Int32).toInt) ≤ 1009 from by rw [VE.v (VE.of hv hv7) (c := 89) (by omega) (by omega)]; exact (by rw [show ((1 : Int32).toInt) = 1 by decide]; exact t3.2.2.2.2))) mL_X8_440 iM_X8_number_ sM_X8_number_ (hv7.sh rfl) rfl rfl rfl (Nat.le_of_ble_eq_true rfl) (show d + 0 + 2 + 1 ≤ d + 3 by omega) (show 8 + (4 + 11) + 40 * (d + 0 + 2) ≤ 40 * (d + 3) by omega) (g_c0 hv7.ln) (Nat.le_of_ble_eq_true rfl) dX8_does_34 ?_
    intro r h10 hq _
    obtain ⟨v11, rfl, v11l, v11u, rfl⟩ := hq
    refine go_istore (pc := 37) (Nat.le_of_ble_eq_true rfl) dX8_does_37 (go_lv (lv2 := [(0, .ref 70), (1, .int a2), (2, .int a3), (3, .int v9), (4, .int v11)]) rfl ?_)
    refine go_aload_n (pc := 39) rfl dX8_does_39 ?_
    refine gi_getF (pc := 40) (q := 77) hv7 fL_X8_29 rfl (Nat.le_of_ble_eq_true rfl) rfl (hv7.rf (by decide)) dX8_does_40 ?_
    refine go_iload_n (pc := 43) rfl dX8_does_43 ?_
    refine gi_iald (pc := 44) (lo := 0) (hi := 6) (len := 260) hv7 (ti_rfl a2) rfl (by omega) (by omega) (fun _ => rfl) dX8_does_44 (fun v12 v12l v12u v12w => ?_)
    have v12V : v12.toInt = V h.2.1 77 a2.toInt := by rw [v12w, hv7.fz (c := 77) (by omega) (by omega), ← hv.fz (c := 77) (by omega) (by omega)]; rfl
    by_cases q13 : v12.toInt = 0
    ·
      refine go_tableIn (pc := 45) (tgt := 76) (off := 31) (by rw [show (v12 : Int32).toInt = v12.toInt from (ti_rfl v12)]; omega) (by rw [show (v12 : Int32).toInt = v12.toInt from (ti_rfl v12)]; omega) (by rw [show (v12 : Int32).toInt = v12.toInt from (ti_rfl v12), q13]; rfl) (by decide) dX8_does_45 ?_
      refine go_aload_n (pc := 76) rfl dX8_does_76 ?_
      refine gi_getF (pc := 77) (q := 83) hv7 fL_X8_47 rfl (Nat.le_of_ble_eq_true rfl) rfl (hv7.rf (by decide)) dX8_does_77 ?_
      refine go_iload_n (pc := 80) rfl dX8_does_80 ?_
      refine gi_iald (pc := 81) (lo := -2147483648) (hi := 2147483647) (len := 260) hv7 (ti_rfl a2) rfl (by omega) (by omega) (fun _ => rfl) dX8_does_81 (fun v14 v14l v14u v14w => ?_)
      have v14V : v14.toInt = V h.2.1 83 a2.toInt := by rw [v14w, hv7.fz (c := 83) (by omega) (by omega), ← hv.fz (c := 83) (by omega) (by omega)]; rfl
      refine gf_if_ne (pc := 82) (tgt := 89) (ti_rfl v14) (by decide) dX8_does_82 (fun q15 => ?_) (fun q15 => ?_)
      ·
        refine go_aload_n (pc := 89) rfl dX8_does_89 ?_
        refine gi_getF (pc := 90) (q := 83) hv7 fL_X8_47 rfl (Nat.le_of_ble_eq_true rfl) rfl (hv7.rf (by decide)) dX8_does_90 ?_
        refine go_iload_n (pc := 93) rfl dX8_does_93 ?_
        refine gi_iald (pc := 94) (lo := -2147483648) (hi := 2147483647) (len := 260) hv7 (ti_rfl a2) rfl (by omega) (by omega) (fun _ => rfl) dX8_does_94 (fun v16 v16l v16u v16w => ?_)
        have v16V : v16.toInt = V h.2.1 83 a2.toInt := by rw [v16w, hv7.fz (c := 83) (by omega) (by omega), ← hv.fz (c := 83) (by omega) (by omega)]; rfl
        refine go_iload_n (pc := 95) rfl dX8_does_95 ?_
        refine go_iload (pc := 96) rfl dX8_does_96 ?_
        refine go_invS (pc := 98) (sl := 0) (s_X8_worked l (d + 1) hv7 v16 v9 v11) mL_X8_442 iM_X8_worked rfl rfl (Nat.le_of_ble_eq_true rfl) (show d + 1 + 1 + 1 ≤ d + 3 by omega) (show 8 + (3 + 11) + 40 * (d + 1 + 1) ≤ 40 * (d + 3) by omega) (g_c0 hv7.ln) (Nat.le_of_ble_eq_true rfl) dX8_does_98 ?_
        intro r h17 hq _
        obtain ⟨v18, rfl, v18l, v18u, rfl⟩ := hq
        refine go_istore (pc := 101) (Nat.le_of_ble_eq_true rfl) dX8_does_101 (go_lv (lv2 := [(0, .ref 70), (1, .int a2), (2, .int a3), (3, .int v9), (4, .int v11), (5, .int v18)]) rfl ?_)
        refine go_aload_n (pc := 103) rfl dX8_does_103 ?_
        refine go_iload_n (pc := 104) rfl dX8_does_104 ?_
        refine go_aload_n (pc := 105) rfl dX8_does_105 ?_
        refine gi_getF (pc := 106) (q := 82) hv7 fL_X8_44 rfl (Nat.le_of_ble_eq_true rfl) rfl (hv7.rf (by decide)) dX8_does_106 ?_
        refine go_iload_n (pc := 109) rfl dX8_does_109 ?_
        refine gi_iald (pc := 110) (lo := -1) (hi := 9) (len := 260) hv7 (ti_rfl a2) rfl (by omega) (by omega) (fun _ => rfl) dX8_does_110 (fun v19 v19l v19u v19w => ?_)
        have v19V : v19.toInt = V h.2.1 82 a2.toInt := by rw [v19w, hv7.fz (c := 82) (by omega) (by omega), ← hv.fz (c := 82) (by omega) (by omega)]; rfl
        refine go_iload (pc := 111) rfl dX8_does_111 ?_
        have k9 : 0 ≤ v19.toInt := by have q := t3.2.1 (by omega); omega
        have g20 : (0 : Int) ≤ (h7.2.1 70 53).toInt := (hv7.2.1 70 53).1
        have g21 : (h7.2.1 70 53).toInt ≤ 3000 := (hv7.2.1 70 53).2
        have g22 : (h7.2.1 70 53).toInt = (v1.toInt + 1) := by rw [← (show v5 = h7.2.1 70 53 from (show v5 = h7.2.1 70 53 from by rw [hv7e]; exact g_iS.symm))] <;> exact e6
        refine go_invV (pc := 113) (sl := 0) (s_X8_tellsName_x l (d + 1) hv7 a3 (by rw [show (a3 : Int32).toInt = a3.toInt from (ti_rfl a3)]; omega) (by rw [show (a3 : Int32).toInt = a3.toInt from (ti_rfl a3)]; omega) v19 (by rw [show (v19 : Int32).toInt = v19.toInt from (ti_rfl v19)]; omega) (by rw [show (v19 : Int32).toInt = v19.toInt from (ti_rfl v19)]; omega) v18) mL_X8_445 iM_X8_tellsName sM_X8_tellsName (hv7.sh rfl) rfl rfl rfl (Nat.le_of_ble_eq_true rfl) (show d + 1 + 1 + 1 ≤ d + 3 by omega) (show 8 + (4 + 11) + 40 * (d + 1 + 1) ≤ 40 * (d + 3) by omega) (g_c0 hv7.ln) (Nat.le_of_ble_eq_true rfl) dX8_does_113 ?_
        intro r h23 hq _
        obtain ⟨rfl, hv23, f24⟩ := hq
        obtain ⟨u25, u25w⟩ : ∃ v : Int32, v = h23.2.1 70 53 := ⟨_, rfl⟩
        have u25e : (h23.2.1 70 53).toInt = u25.toInt := by rw [u25w]
        have u25l : 0 ≤ u25.toInt := by rw [u25w]; exact (hv23.2.1 70 53).1
        have u25u : u25.toInt ≤ 3000 := by rw [u25w]; exact (hv23.2.1 70 53).2
        refine go_aload_n (pc := 116) rfl dX8_does_116 ?_
        refine go_iload_n (pc := 117) rfl dX8_does_117 ?_
        refine go_iload (pc := 118) rfl dX8_does_118 ?_
        have g26 : (0 : Int) ≤ (h23.2.1 70 53).toInt := (hv23.2.1 70 53).1
        have g27 : (h23.2.1 70 53).toInt ≤ 3000 := (hv23.2.1 70 53).2
        have g28 : (h23.2.1 70 53).toInt = u25.toInt := by rw [← (show u25 = h23.2.1 70 53 from u25w)] <;> exact (ti_rfl u25)
        refine go_invV (pc := 120) (sl := 0) (s_X8_sees_x l (d + 1) hv23 a2 (by rw [show (a2 : Int32).toInt = a2.toInt from (ti_rfl a2)]; omega) (by rw [show (a2 : Int32).toInt = a2.toInt from (ti_rfl a2)]; omega) v18) mL_X8_448 iM_X8_sees sM_X8_sees (hv23.sh rfl) rfl rfl rfl (Nat.le_of_ble_eq_true rfl) (show d + 1 + 1 + 1 ≤ d + 3 by omega) (show 8 + (3 + 11) + 40 * (d + 1 + 1) ≤ 40 * (d + 3) by omega) (g_c0 hv23.ln) (Nat.le_of_ble_eq_true rfl) dX8_does_120 ?_
        intro r h29 hq _
        obtain ⟨rfl, hv29, f30⟩ := hq
        obtain ⟨u31, u31w⟩ : ∃ v : Int32, v = h29.2.1 70 53 := ⟨_, rfl⟩
        have u31e : (h29.2.1 70 53).toInt = u31.toInt := by rw [u31w]
        have u31l : 0 ≤ u31.toInt := by rw [u31w]; exact (hv29.2.1 70 53).1
        have u31u : u31.toInt ≤ 3000 := by rw [u31w]; exact (hv29.2.1 70 53).2
        refine go_iconst (pc := 123) (v := 0) (by decide) dX8_does_123 ?_
        have g32 : (0 : Int) ≤ (h29.2.1 70 53).toInt := (hv29.2.1 70 53).1
        have g33 : (h29.2.1 70 53).toInt ≤ 3000 := (hv29.2.1 70 53).2
        have g34 : (h29.2.1 70 53).toInt = u31.toInt := by rw [← (show u31 = h29.2.1 70 53 from u31w)] <;> exact (ti_rfl u31)
        exact gi_iret (pc := 124) (ti_c (v := 0) (a := 0) (by decide)) ⟨_, rfl, (by rw [show (0 : Int32).toInt = 0 from (ti_c (v := 0) (a := 0) (by decide))]; omega), (by rw [show (0 : Int32).toInt = 0 from (ti_c (v := 0) (a := 0) (by decide))]; omega), hv29, (by omega)⟩ hv29 dX8_does_124
      ·
        refine go_iload_n (pc := 85) rfl dX8_does_85 ?_
        refine go_goto (pc := 86) (tgt := 101) (by decide) dX8_does_86 ?_
        refine go_istore (pc := 101) (Nat.le_of_ble_eq_true rfl) dX8_does_101 (go_lv (lv2 := [(0, .ref 70), (1, .int a2), (2, .int a3), (3, .int v9), (4, .int v11), (5, .int v9)]) rfl ?_)
        refine go_aload_n (pc := 103) rfl dX8_does_103 ?_
        refine go_iload_n (pc := 104) rfl dX8_does_104 ?_
        refine go_aload_n (pc := 105) rfl dX8_does_105 ?_
        refine gi_getF (pc := 106) (q := 82) hv7 fL_X8_44 rfl (Nat.le_of_ble_eq_true rfl) rfl (hv7.rf (by decide)) dX8_does_106 ?_
        refine go_iload_n (pc := 109) rfl dX8_does_109 ?_
        refine gi_iald (pc := 110) (lo := -1) (hi := 9) (len := 260) hv7 (ti_rfl a2) rfl (by omega) (by omega) (fun _ => rfl) dX8_does_110 (fun v35 v35l v35u v35w => ?_)
        have v35V : v35.toInt = V h.2.1 82 a2.toInt := by rw [v35w, hv7.fz (c := 82) (by omega) (by omega), ← hv.fz (c := 82) (by omega) (by omega)]; rfl
        refine go_iload (pc := 111) rfl dX8_does_111 ?_
        have k9 : 0 ≤ v35.toInt := by have q := t3.2.1 (by omega); omega
        have g36 : (0 : Int) ≤ (h7.2.1 70 53).toInt := (hv7.2.1 70 53).1
        have g37 : (h7.2.1 70 53).toInt ≤ 3000 := (hv7.2.1 70 53).2
        have g38 : (h7.2.1 70 53).toInt = (v1.toInt + 1) := by rw [← (show v5 = h7.2.1 70 53 from (show v5 = h7.2.1 70 53 from by rw [hv7e]; exact g_iS.symm))] <;> exact e6
        refine go_invV (pc := 113) (sl := 0) (s_X8_tellsName_x l (d + 1) hv7 a3 (by rw [show (a3 : Int32).toInt = a3.toInt from (ti_rfl a3)]; omega) (by rw [show (a3 : Int32).toInt = a3.toInt from (ti_rfl a3)]; omega) v35 (by rw [show (v35 : Int32).toInt = v35.toInt from (ti_rfl v35)]; omega) (by rw [show (v35 : Int32).toInt = v35.toInt from (ti_rfl v35)]; omega) v9) mL_X8_445 iM_X8_tellsName sM_X8_tellsName (hv7.sh rfl) rfl rfl rfl (Nat.le_of_ble_eq_true rfl) (show d + 1 + 1 + 1 ≤ d + 3 by omega) (show 8 + (4 + 11) + 40 * (d + 1 + 1) ≤ 40 * (d + 3) by omega) (g_c0 hv7.ln) (Nat.le_of_ble_eq_true rfl) dX8_does_113 ?_
        intro r h39 hq _
        obtain ⟨rfl, hv39, f40⟩ := hq
        obtain ⟨u41, u41w⟩ : ∃ v : Int32, v = h39.2.1 70 53 := ⟨_, rfl⟩
        have u41e : (h39.2.1 70 53).toInt = u41.toInt := by rw [u41w]
        have u41l : 0 ≤ u41.toInt := by rw [u41w]; exact (hv39.2.1 70 53).1
        have u41u : u41.toInt ≤ 3000 := by rw [u41w]; exact (hv39.2.1 70 53).2
        refine go_aload_n (pc := 116) rfl dX8_does_116 ?_
        refine go_iload_n (pc := 117) rfl dX8_does_117 ?_
        refine go_iload (pc := 118) rfl dX8_does_118 ?_
        have g42 : (0 : Int) ≤ (h39.2.1 70 53).toInt := (hv39.2.1 70 53).1
        have g43 : (h39.2.1 70 53).toInt ≤ 3000 := (hv39.2.1 70 53).2
        have g44 : (h39.2.1 70 53).toInt = u41.toInt := by rw [← (show u41 = h39.2.1 70 53 from u41w)] <;> exact (ti_rfl u41)
        refine go_invV (pc := 120) (sl := 0) (s_X8_sees_x l (d + 1) hv39 a2 (by rw [show (a2 : Int32).toInt = a2.toInt from (ti_rfl a2)]; omega) (by rw [show (a2 : Int32).toInt = a2.toInt from (ti_rfl a2)]; omega) v9) mL_X8_448 iM_X8_sees sM_X8_sees (hv39.sh rfl) rfl rfl rfl (Nat.le_of_ble_eq_true rfl) (show d + 1 + 1 + 1 ≤ d + 3 by omega) (show 8 + (3 + 11) + 40 * (d + 1 + 1) ≤ 40 * (d + 3) by omega) (g_c0 hv39.ln) (Nat.le_of_ble_eq_true rfl) dX8_does_120 ?_
        intro r h45 hq _
        obtain ⟨rfl, hv45, f46⟩ := hq
        obtain ⟨u47, u47w⟩ : ∃ v : Int32, v = h45.2.1 70 53 := ⟨_, rfl⟩
        have u47e : (h45.2.1 70 53).toInt = u47.toInt := by rw [u47w]
        have u47l : 0 ≤ u47.toInt := by rw [u47w]; exact (hv45.2.1 70 53).1
        have u47u : u47.toInt ≤ 3000 := by rw [u47w]; exact (hv45.2.1 70 53).2
        refine go_iconst (pc := 123) (v := 0) (by decide) dX8_does_123 ?_
        have g48 : (0 : Int) ≤ (h45.2.1 70 53).toInt := (hv45.2.1 70 53).1
        have g49 : (h45.2.1 70 53).toInt ≤ 3000 := (hv45.2.1 70 53).2
        have g50 : (h45.2.1 70 53).toInt = u47.toInt := by rw [← (show u47 = h45.2.1 70 53 from u47w)] <;> exact (ti_rfl u47)
        exact gi_iret (pc := 124) (ti_c (v := 0) (a := 0) (by decide)) ⟨_, rfl, (by rw [show (0 : Int32).toInt = 0 from (ti_c (v := 0) (a := 0) (by decide))]; omega), (by rw [show (0 : Int32).toInt = 0 from (ti_c (v := 0) (a := 0) (by decide))]; omega), hv45, (by omega)⟩ hv45 dX8_does_124
    by_cases q51 : v12.toInt = 1
    ·
      refine go_tableIn (pc := 45) (tgt := 125) (off := 80) (by rw [show (v12 : Int32).toInt = v12.toInt from (ti_rfl v12)]; omega) (by rw [show (v12 : Int32).toInt = v12.toInt from (ti_rfl v12)]; omega) (by rw [show (v12 : Int32).toInt = v12.toInt from (ti_rfl v12), q51]; rfl) (by decide) dX8_does_45 ?_
      refine go_aload_n (pc := 125) rfl dX8_does_125 ?_
      refine go_iload_n (pc := 126) rfl dX8_does_126 ?_
      refine go_iload_n (pc := 127) rfl dX8_does_127 ?_
      refine go_iload_n (pc := 128) rfl dX8_does_128 ?_
      refine go_iload (pc := 129) rfl dX8_does_129 ?_
      have sM52 : (h7.2.1 70 6).toInt = S := by rw [hv7.fy (j := 6) (by omega), ← hv.fy (j := 6) (by omega)]; exact hS.symm
      have g53 : (0 : Int) ≤ (h7.2.1 70 53).toInt := (hv7.2.1 70 53).1
      have g54 : (h7.2.1 70 53).toInt ≤ 3000 := (hv7.2.1 70 53).2
      have g55 : (h7.2.1 70 53).toInt = (v1.toInt + 1) := by rw [← (show v5 = h7.2.1 70 53 from (show v5 = h7.2.1 70 53 from by rw [hv7e]; exact g_iS.symm))] <;> exact e6
      refine go_invV (pc := 131) (sl := 0) (ihC hv7 a2 (by rw [show (a2 : Int32).toInt = a2.toInt from (ti_rfl a2)]; omega) (by rw [show (a2 : Int32).toInt = a2.toInt from (ti_rfl a2)]; omega) a3 (by rw [show (a3 : Int32).toInt = a3.toInt from (ti_rfl a3)]; omega) (by rw [show (a3 : Int32).toInt = a3.toInt from (ti_rfl a3)]; omega) v9 v11 (by rw [sM52]; exact (RT2.ve (VE.of hv hv7) hr)) (by rw [sM52]; exact (by rw [hv7.fy (j := 29) (by omega), ← hv.fy (j := 29) (by omega)]; exact hl)) (CKF.ve (VE.of hv hv7) ckf) (by rw [sM52]; exact ((II.ve (VE.of hv hv7)).mpr hi)) (by rw [VE.v (VE.of hv hv7) (c := 77) (by omega) (by omega)]; omega) (by omega)) mL_X8_451 iM_X8_calls_ sM_X8_calls_ (hv7.sh rfl) rfl rfl rfl (Nat.le_of_ble_eq_true rfl) (show d + 2 + 1 ≤ d + 3 by omega) (show 8 + (6 + 11) + 40 * (d + 2) ≤ 40 * (d + 3) by omega) (g_c0 hv7.ln) (Nat.le_of_ble_eq_true rfl) dX8_does_131 ?_
      intro r h56 hq _
      obtain ⟨v58, rfl, v58l, v58u, hv56, f57⟩ := hq
      obtain ⟨u59, u59w⟩ : ∃ v : Int32, v = h56.2.1 70 53 := ⟨_, rfl⟩
      have u59e : (h56.2.1 70 53).toInt = u59.toInt := by rw [u59w]
      have u59l : 0 ≤ u59.toInt := by rw [u59w]; exact (hv56.2.1 70 53).1
      have u59u : u59.toInt ≤ 3000 := by rw [u59w]; exact (hv56.2.1 70 53).2
      have g60 : (0 : Int) ≤ (h56.2.1 70 53).toInt := (hv56.2.1 70 53).1
      have g61 : (h56.2.1 70 53).toInt ≤ 3000 := (hv56.2.1 70 53).2
      have g62 : (h56.2.1 70 53).toInt = u59.toInt := by rw [← (show u59 = h56.2.1 70 53 from u59w)] <;> exact (ti_rfl u59)
      exact gi_iret (pc := 134) (ti_rfl v58) ⟨_, rfl, (by rw [show (v58 : Int32).toInt = v58.toInt from (ti_rfl v58)]; omega), (by rw [show (v58 : Int32).toInt = v58.toInt from (ti_rfl v58)]; omega), hv56, (by omega)⟩ hv56 dX8_does_134
    by_cases q63 : v12.toInt = 2
    ·
      refine go_tableIn (pc := 45) (tgt := 135) (off := 90) (by rw [show (v12 : Int32).toInt = v12.toInt from (ti_rfl v12)]; omega) (by rw [show (v12 : Int32).toInt = v12.toInt from (ti_rfl v12)]; omega) (by rw [show (v12 : Int32).toInt = v12.toInt from (ti_rfl v12), q63]; rfl) (by decide) dX8_does_45 ?_
      refine go_aload_n (pc := 135) rfl dX8_does_135 ?_
      refine go_iload_n (pc := 136) rfl dX8_does_136 ?_
      refine go_iload_n (pc := 137) rfl dX8_does_137 ?_
      refine go_iload (pc := 138) rfl dX8_does_138 ?_
      refine gf_icmp_ge (pc := 140) (tgt := 147) (ti_rfl v9) (ti_rfl v11) (by decide) dX8_does_140 (fun q64 => ?_) (fun q64 => ?_)
      ·
        refine go_iconst (pc := 147) (v := 0) (by decide) dX8_does_147 ?_
        have g65 : (0 : Int) ≤ (h7.2.1 70 53).toInt := (hv7.2.1 70 53).1
        have g66 : (h7.2.1 70 53).toInt ≤ 3000 := (hv7.2.1 70 53).2
        have g67 : (h7.2.1 70 53).toInt = (v1.toInt + 1) := by rw [← (show v5 = h7.2.1 70 53 from (show v5 = h7.2.1 70 53 from by rw [hv7e]; exact g_iS.symm))] <;> exact e6
        refine go_invV (pc := 148) (sl := 0) (s_X8_sees_x l (d + 1) hv7 a2 (by rw [show (a2 : Int32).toInt = a2.toInt from (ti_rfl a2)]; omega) (by rw [show (a2 : Int32).toInt = a2.toInt from (ti_rfl a2)]; omega) 0) mL_X8_448 iM_X8_sees sM_X8_sees (hv7.sh rfl) rfl rfl rfl (Nat.le_of_ble_eq_true rfl) (show d + 1 + 1 + 1 ≤ d + 3 by omega) (show 8 + (3 + 11) + 40 * (d + 1 + 1) ≤ 40 * (d + 3) by omega) (g_c0 hv7.ln) (Nat.le_of_ble_eq_true rfl) dX8_does_148 ?_
        intro r h68 hq _
        obtain ⟨rfl, hv68, f69⟩ := hq
        try rw [show (0 : Int32).toInt = 0 from (ti_c (v := 0) (a := 0) (by decide))] at f69
        obtain ⟨u70, u70w⟩ : ∃ v : Int32, v = h68.2.1 70 53 := ⟨_, rfl⟩
        have u70e : (h68.2.1 70 53).toInt = u70.toInt := by rw [u70w]
        have u70l : 0 ≤ u70.toInt := by rw [u70w]; exact (hv68.2.1 70 53).1
        have u70u : u70.toInt ≤ 3000 := by rw [u70w]; exact (hv68.2.1 70 53).2
        refine go_iload_n (pc := 151) rfl dX8_does_151 ?_
        refine go_iload (pc := 152) rfl dX8_does_152 ?_
        refine gf_icmp_ge (pc := 154) (tgt := 171) (ti_rfl v9) (ti_rfl v11) (by decide) dX8_does_154 (fun q71 => ?_) (fun q71 => ?_)
        ·
          refine go_aload_n (pc := 171) rfl dX8_does_171 ?_
          refine gi_getF (pc := 172) (q := 86) hv68 fL_X8_56 rfl (Nat.le_of_ble_eq_true rfl) rfl (hv68.rf (by decide)) dX8_does_172 ?_
          refine go_iload_n (pc := 175) rfl dX8_does_175 ?_
          refine gi_iald (pc := 176) (lo := -1) (hi := 559) (len := 260) hv68 (ti_rfl a2) rfl (by omega) (by omega) (fun _ => rfl) dX8_does_176 (fun v72 v72l v72u v72w => ?_)
          have v72V : v72.toInt = V h.2.1 86 a2.toInt := by rw [v72w, hv68.fz (c := 86) (by omega) (by omega), ← hv.fz (c := 86) (by omega) (by omega)]; rfl
          refine go_iconst (pc := 177) (v := (-1)) (by decide) dX8_does_177 ?_
          refine gf_icmp_ne (pc := 178) (tgt := 185) (ti_rfl v72) (ti_c (v := (-1)) (a := (-1)) (by decide)) (by decide) dX8_does_178 (fun q73 => ?_) (fun q73 => ?_)
          ·
            refine go_aload_n (pc := 185) rfl dX8_does_185 ?_
            refine go_aload_n (pc := 186) rfl dX8_does_186 ?_
            refine gi_getF (pc := 187) (q := 86) hv68 fL_X8_56 rfl (Nat.le_of_ble_eq_true rfl) rfl (hv68.rf (by decide)) dX8_does_187 ?_
            refine go_iload_n (pc := 190) rfl dX8_does_190 ?_
            refine gi_iald (pc := 191) (lo := -1) (hi := 559) (len := 260) hv68 (ti_rfl a2) rfl (by omega) (by omega) (fun _ => rfl) dX8_does_191 (fun v74 v74l v74u v74w => ?_)
            have v74V : v74.toInt = V h.2.1 86 a2.toInt := by rw [v74w, hv68.fz (c := 86) (by omega) (by omega), ← hv.fz (c := 86) (by omega) (by omega)]; rfl
            refine go_iload_n (pc := 192) rfl dX8_does_192 ?_
            rcases (hr.1.1.2.2.2.2.1 a2.toInt hi).2 with t475 | t475
            · exact False.elim (by omega)
            have sM76 : (h68.2.1 70 6).toInt = S := by rw [hv68.fy (j := 6) (by omega), ← hv.fy (j := 6) (by omega)]; exact hS.symm
            have g77 : (0 : Int) ≤ (h68.2.1 70 53).toInt := (hv68.2.1 70 53).1
            have g78 : (h68.2.1 70 53).toInt ≤ 3000 := (hv68.2.1 70 53).2
            have g79 : (h68.2.1 70 53).toInt = u70.toInt := by rw [← (show u70 = h68.2.1 70 53 from u70w)] <;> exact (ti_rfl u70)
            refine go_invV (pc := 193) (sl := 0) (ihG hv68 v74 (by rw [show (v74 : Int32).toInt = v74.toInt from (ti_rfl v74)]; omega) (by rw [show (v74 : Int32).toInt = v74.toInt from (ti_rfl v74)]; omega) a3 (by rw [show (a3 : Int32).toInt = a3.toInt from (ti_rfl a3)]; omega) (by rw [show (a3 : Int32).toInt = a3.toInt from (ti_rfl a3)]; omega) (by rw [sM76]; exact (RT2.ve (VE.of hv hv68) hr)) (by rw [sM76]; exact (by rw [hv68.fy (j := 29) (by omega), ← hv.fy (j := 29) (by omega)]; exact hl)) (CKF.ve (VE.of hv hv68) ckf) (by rw [sM76]; exact (by rw [v74V]; exact (BB.ve (VE.of hv hv68)).mpr t475.1)) (by rw [v74V, VE.v (VE.of hv hv68) (c := 92) (by omega) (by omega), t475.2]; exact ⟨fun q => by omega, fun q => by rw [VE.v (VE.of hv hv68) (c := 80) (by omega) (by omega)]; omega⟩)) mL_X8_431 iM_X8_goesBlock sM_X8_goesBlock (hv68.sh rfl) rfl rfl rfl (Nat.le_of_ble_eq_true rfl) (show d + 2 + 1 ≤ d + 3 by omega) (show 8 + (5 + 11) + 40 * (d + 2) ≤ 40 * (d + 3) by omega) (g_c0 hv68.ln) (Nat.le_of_ble_eq_true rfl) dX8_does_193 ?_
            intro r h80 hq _
            obtain ⟨v82, rfl, v82l, v82u, hv80, f81⟩ := hq
            obtain ⟨u83, u83w⟩ : ∃ v : Int32, v = h80.2.1 70 53 := ⟨_, rfl⟩
            have u83e : (h80.2.1 70 53).toInt = u83.toInt := by rw [u83w]
            have u83l : 0 ≤ u83.toInt := by rw [u83w]; exact (hv80.2.1 70 53).1
            have u83u : u83.toInt ≤ 3000 := by rw [u83w]; exact (hv80.2.1 70 53).2
            have g84 : (0 : Int) ≤ (h80.2.1 70 53).toInt := (hv80.2.1 70 53).1
            have g85 : (h80.2.1 70 53).toInt ≤ 3000 := (hv80.2.1 70 53).2
            have g86 : (h80.2.1 70 53).toInt = u83.toInt := by rw [← (show u83 = h80.2.1 70 53 from u83w)] <;> exact (ti_rfl u83)
            exact gi_iret (pc := 196) (ti_rfl v82) ⟨_, rfl, (by rw [show (v82 : Int32).toInt = v82.toInt from (ti_rfl v82)]; omega), (by rw [show (v82 : Int32).toInt = v82.toInt from (ti_rfl v82)]; omega), hv80, (by omega)⟩ hv80 dX8_does_196
          ·
            refine go_iconst (pc := 181) (v := 0) (by decide) dX8_does_181 ?_
            refine go_goto (pc := 182) (tgt := 196) (by decide) dX8_does_182 ?_
            have g87 : (0 : Int) ≤ (h68.2.1 70 53).toInt := (hv68.2.1 70 53).1
            have g88 : (h68.2.1 70 53).toInt ≤ 3000 := (hv68.2.1 70 53).2
            have g89 : (h68.2.1 70 53).toInt = u70.toInt := by rw [← (show u70 = h68.2.1 70 53 from u70w)] <;> exact (ti_rfl u70)
            exact gi_iret (pc := 196) (ti_c (v := 0) (a := 0) (by decide)) ⟨_, rfl, (by rw [show (0 : Int32).toInt = 0 from (ti_c (v := 0) (a := 0) (by decide))]; omega), (by rw [show (0 : Int32).toInt = 0 from (ti_c (v := 0) (a := 0) (by decide))]; omega), hv68, (by omega)⟩ hv68 dX8_does_196
        ·
          refine go_aload_n (pc := 157) rfl dX8_does_157 ?_
          refine go_aload_n (pc := 158) rfl dX8_does_158 ?_
          refine gi_getF (pc := 159) (q := 85) hv68 fL_X8_53 rfl (Nat.le_of_ble_eq_true rfl) rfl (hv68.rf (by decide)) dX8_does_159 ?_
          refine go_iload_n (pc := 162) rfl dX8_does_162 ?_
          refine gi_iald (pc := 163) (lo := -1) (hi := 559) (len := 260) hv68 (ti_rfl a2) rfl (by omega) (by omega) (fun _ => rfl) dX8_does_163 (fun v90 v90l v90u v90w => ?_)
          have v90V : v90.toInt = V h.2.1 85 a2.toInt := by rw [v90w, hv68.fz (c := 85) (by omega) (by omega), ← hv.fz (c := 85) (by omega) (by omega)]; rfl
          refine go_iload_n (pc := 164) rfl dX8_does_164 ?_
          have c23 := cc.2 (by omega)
          rcases (hr.1.1.2.2.2.2.1 a2.toInt hi).1 with t491 | t491
          · exact False.elim (by omega)
          have sM92 : (h68.2.1 70 6).toInt = S := by rw [hv68.fy (j := 6) (by omega), ← hv.fy (j := 6) (by omega)]; exact hS.symm
          have g93 : (0 : Int) ≤ (h68.2.1 70 53).toInt := (hv68.2.1 70 53).1
          have g94 : (h68.2.1 70 53).toInt ≤ 3000 := (hv68.2.1 70 53).2
          have g95 : (h68.2.1 70 53).toInt = u70.toInt := by rw [← (show u70 = h68.2.1 70 53 from u70w)] <;> exact (ti_rfl u70)
          refine go_invV (pc := 165) (sl := 0) (ihG hv68 v90 (by rw [show (v90 : Int32).toInt = v90.toInt from (ti_rfl v90)]; omega) (by rw [show (v90 : Int32).toInt = v90.toInt from (ti_rfl v90)]; omega) a3 (by rw [show (a3 : Int32).toInt = a3.toInt from (ti_rfl a3)]; omega) (by rw [show (a3 : Int32).toInt = a3.toInt from (ti_rfl a3)]; omega) (by rw [sM92]; exact (RT2.ve (VE.of hv hv68) hr)) (by rw [sM92]; exact (by rw [hv68.fy (j := 29) (by omega), ← hv.fy (j := 29) (by omega)]; exact hl)) (CKF.ve (VE.of hv hv68) ckf) (by rw [sM92]; exact (by rw [v90V]; exact (BB.ve (VE.of hv hv68)).mpr t491.1)) (by rw [v90V, VE.v (VE.of hv hv68) (c := 92) (by omega) (by omega), t491.2]; exact ⟨fun q => by omega, fun q => by rw [VE.v (VE.of hv hv68) (c := 80) (by omega) (by omega)]; omega⟩)) mL_X8_431 iM_X8_goesBlock sM_X8_goesBlock (hv68.sh rfl) rfl rfl rfl (Nat.le_of_ble_eq_true rfl) (show d + 2 + 1 ≤ d + 3 by omega) (show 8 + (5 + 11) + 40 * (d + 2) ≤ 40 * (d + 3) by omega) (g_c0 hv68.ln) (Nat.le_of_ble_eq_true rfl) dX8_does_165 ?_
          intro r h96 hq _
          obtain ⟨v98, rfl, v98l, v98u, hv96, f97⟩ := hq
          obtain ⟨u99, u99w⟩ : ∃ v : Int32, v = h96.2.1 70 53 := ⟨_, rfl⟩
          have u99e : (h96.2.1 70 53).toInt = u99.toInt := by rw [u99w]
          have u99l : 0 ≤ u99.toInt := by rw [u99w]; exact (hv96.2.1 70 53).1
          have u99u : u99.toInt ≤ 3000 := by rw [u99w]; exact (hv96.2.1 70 53).2
          refine go_goto (pc := 168) (tgt := 196) (by decide) dX8_does_168 ?_
          have g100 : (0 : Int) ≤ (h96.2.1 70 53).toInt := (hv96.2.1 70 53).1
          have g101 : (h96.2.1 70 53).toInt ≤ 3000 := (hv96.2.1 70 53).2
          have g102 : (h96.2.1 70 53).toInt = u99.toInt := by rw [← (show u99 = h96.2.1 70 53 from u99w)] <;> exact (ti_rfl u99)
          exact gi_iret (pc := 196) (ti_rfl v98) ⟨_, rfl, (by rw [show (v98 : Int32).toInt = v98.toInt from (ti_rfl v98)]; omega), (by rw [show (v98 : Int32).toInt = v98.toInt from (ti_rfl v98)]; omega), hv96, (by omega)⟩ hv96 dX8_does_196
      ·
        refine go_iconst (pc := 143) (v := 1) (by decide) dX8_does_143 ?_
        refine go_goto (pc := 144) (tgt := 148) (by decide) dX8_does_144 ?_
        have g103 : (0 : Int) ≤ (h7.2.1 70 53).toInt := (hv7.2.1 70 53).1
        have g104 : (h7.2.1 70 53).toInt ≤ 3000 := (hv7.2.1 70 53).2
        have g105 : (h7.2.1 70 53).toInt = (v1.toInt + 1) := by rw [← (show v5 = h7.2.1 70 53 from (show v5 = h7.2.1 70 53 from by rw [hv7e]; exact g_iS.symm))] <;> exact e6
        refine go_invV (pc := 148) (sl := 0) (s_X8_sees_x l (d + 1) hv7 a2 (by rw [show (a2 : Int32).toInt = a2.toInt from (ti_rfl a2)]; omega) (by rw [show (a2 : Int32).toInt = a2.toInt from (ti_rfl a2)]; omega) 1) mL_X8_448 iM_X8_sees sM_X8_sees (hv7.sh rfl) rfl rfl rfl (Nat.le_of_ble_eq_true rfl) (show d + 1 + 1 + 1 ≤ d + 3 by omega) (show 8 + (3 + 11) + 40 * (d + 1 + 1) ≤ 40 * (d + 3) by omega) (g_c0 hv7.ln) (Nat.le_of_ble_eq_true rfl) dX8_does_148 ?_
        intro r h106 hq _
        obtain ⟨rfl, hv106, f107⟩ := hq
        try rw [show (1 : Int32).toInt = 1 from (ti_c (v := 1) (a := 1) (by decide))] at f107
        obtain ⟨u108, u108w⟩ : ∃ v : Int32, v = h106.2.1 70 53 := ⟨_, rfl⟩
        have u108e : (h106.2.1 70 53).toInt = u108.toInt := by rw [u108w]
        have u108l : 0 ≤ u108.toInt := by rw [u108w]; exact (hv106.2.1 70 53).1
        have u108u : u108.toInt ≤ 3000 := by rw [u108w]; exact (hv106.2.1 70 53).2
        refine go_iload_n (pc := 151) rfl dX8_does_151 ?_
        refine go_iload (pc := 152) rfl dX8_does_152 ?_
        refine gf_icmp_ge (pc := 154) (tgt := 171) (ti_rfl v9) (ti_rfl v11) (by decide) dX8_does_154 (fun q109 => ?_) (fun q109 => ?_)
        ·
          refine go_aload_n (pc := 171) rfl dX8_does_171 ?_
          refine gi_getF (pc := 172) (q := 86) hv106 fL_X8_56 rfl (Nat.le_of_ble_eq_true rfl) rfl (hv106.rf (by decide)) dX8_does_172 ?_
          refine go_iload_n (pc := 175) rfl dX8_does_175 ?_
          refine gi_iald (pc := 176) (lo := -1) (hi := 559) (len := 260) hv106 (ti_rfl a2) rfl (by omega) (by omega) (fun _ => rfl) dX8_does_176 (fun v110 v110l v110u v110w => ?_)
          have v110V : v110.toInt = V h.2.1 86 a2.toInt := by rw [v110w, hv106.fz (c := 86) (by omega) (by omega), ← hv.fz (c := 86) (by omega) (by omega)]; rfl
          refine go_iconst (pc := 177) (v := (-1)) (by decide) dX8_does_177 ?_
          refine gf_icmp_ne (pc := 178) (tgt := 185) (ti_rfl v110) (ti_c (v := (-1)) (a := (-1)) (by decide)) (by decide) dX8_does_178 (fun q111 => ?_) (fun q111 => ?_)
          ·
            refine go_aload_n (pc := 185) rfl dX8_does_185 ?_
            refine go_aload_n (pc := 186) rfl dX8_does_186 ?_
            refine gi_getF (pc := 187) (q := 86) hv106 fL_X8_56 rfl (Nat.le_of_ble_eq_true rfl) rfl (hv106.rf (by decide)) dX8_does_187 ?_
            refine go_iload_n (pc := 190) rfl dX8_does_190 ?_
            refine gi_iald (pc := 191) (lo := -1) (hi := 559) (len := 260) hv106 (ti_rfl a2) rfl (by omega) (by omega) (fun _ => rfl) dX8_does_191 (fun v112 v112l v112u v112w => ?_)
            have v112V : v112.toInt = V h.2.1 86 a2.toInt := by rw [v112w, hv106.fz (c := 86) (by omega) (by omega), ← hv.fz (c := 86) (by omega) (by omega)]; rfl
            refine go_iload_n (pc := 192) rfl dX8_does_192 ?_
            rcases (hr.1.1.2.2.2.2.1 a2.toInt hi).2 with t4113 | t4113
            · exact False.elim (by omega)
            have sM114 : (h106.2.1 70 6).toInt = S := by rw [hv106.fy (j := 6) (by omega), ← hv.fy (j := 6) (by omega)]; exact hS.symm
            have g115 : (0 : Int) ≤ (h106.2.1 70 53).toInt := (hv106.2.1 70 53).1
            have g116 : (h106.2.1 70 53).toInt ≤ 3000 := (hv106.2.1 70 53).2
            have g117 : (h106.2.1 70 53).toInt = u108.toInt := by rw [← (show u108 = h106.2.1 70 53 from u108w)] <;> exact (ti_rfl u108)
            refine go_invV (pc := 193) (sl := 0) (ihG hv106 v112 (by rw [show (v112 : Int32).toInt = v112.toInt from (ti_rfl v112)]; omega) (by rw [show (v112 : Int32).toInt = v112.toInt from (ti_rfl v112)]; omega) a3 (by rw [show (a3 : Int32).toInt = a3.toInt from (ti_rfl a3)]; omega) (by rw [show (a3 : Int32).toInt = a3.toInt from (ti_rfl a3)]; omega) (by rw [sM114]; exact (RT2.ve (VE.of hv hv106) hr)) (by rw [sM114]; exact (by rw [hv106.fy (j := 29) (by omega), ← hv.fy (j := 29) (by omega)]; exact hl)) (CKF.ve (VE.of hv hv106) ckf) (by rw [sM114]; exact (by rw [v112V]; exact (BB.ve (VE.of hv hv106)).mpr t4113.1)) (by rw [v112V, VE.v (VE.of hv hv106) (c := 92) (by omega) (by omega), t4113.2]; exact ⟨fun q => by omega, fun q => by rw [VE.v (VE.of hv hv106) (c := 80) (by omega) (by omega)]; omega⟩)) mL_X8_431 iM_X8_goesBlock sM_X8_goesBlock (hv106.sh rfl) rfl rfl rfl (Nat.le_of_ble_eq_true rfl) (show d + 2 + 1 ≤ d + 3 by omega) (show 8 + (5 + 11) + 40 * (d + 2) ≤ 40 * (d + 3) by omega) (g_c0 hv106.ln) (Nat.le_of_ble_eq_true rfl) dX8_does_193 ?_
            intro r h118 hq _
            obtain ⟨v120, rfl, v120l, v120u, hv118, f119⟩ := hq
            obtain ⟨u121, u121w⟩ : ∃ v : Int32, v = h118.2.1 70 53 := ⟨_, rfl⟩
            have u121e : (h118.2.1 70 53).toInt = u121.toInt := by rw [u121w]
            have u121l : 0 ≤ u121.toInt := by rw [u121w]; exact (hv118.2.1 70 53).1
            have u121u : u121.toInt ≤ 3000 := by rw [u121w]; exact (hv118.2.1 70 53).2
            have g122 : (0 : Int) ≤ (h118.2.1 70 53).toInt := (hv118.2.1 70 53).1
            have g123 : (h118.2.1 70 53).toInt ≤ 3000 := (hv118.2.1 70 53).2
            have g124 : (h118.2.1 70 53).toInt = u121.toInt := by rw [← (show u121 = h118.2.1 70 53 from u121w)] <;> exact (ti_rfl u121)
            exact gi_iret (pc := 196) (ti_rfl v120) ⟨_, rfl, (by rw [show (v120 : Int32).toInt = v120.toInt from (ti_rfl v120)]; omega), (by rw [show (v120 : Int32).toInt = v120.toInt from (ti_rfl v120)]; omega), hv118, (by omega)⟩ hv118 dX8_does_196
          ·
            refine go_iconst (pc := 181) (v := 0) (by decide) dX8_does_181 ?_
            refine go_goto (pc := 182) (tgt := 196) (by decide) dX8_does_182 ?_
            have g125 : (0 : Int) ≤ (h106.2.1 70 53).toInt := (hv106.2.1 70 53).1
            have g126 : (h106.2.1 70 53).toInt ≤ 3000 := (hv106.2.1 70 53).2
            have g127 : (h106.2.1 70 53).toInt = u108.toInt := by rw [← (show u108 = h106.2.1 70 53 from u108w)] <;> exact (ti_rfl u108)
            exact gi_iret (pc := 196) (ti_c (v := 0) (a := 0) (by decide)) ⟨_, rfl, (by rw [show (0 : Int32).toInt = 0 from (ti_c (v := 0) (a := 0) (by decide))]; omega), (by rw [show (0 : Int32).toInt = 0 from (ti_c (v := 0) (a := 0) (by decide))]; omega), hv106, (by omega)⟩ hv106 dX8_does_196
        ·
          refine go_aload_n (pc := 157) rfl dX8_does_157 ?_
          refine go_aload_n (pc := 158) rfl dX8_does_158 ?_
          refine gi_getF (pc := 159) (q := 85) hv106 fL_X8_53 rfl (Nat.le_of_ble_eq_true rfl) rfl (hv106.rf (by decide)) dX8_does_159 ?_
          refine go_iload_n (pc := 162) rfl dX8_does_162 ?_
          refine gi_iald (pc := 163) (lo := -1) (hi := 559) (len := 260) hv106 (ti_rfl a2) rfl (by omega) (by omega) (fun _ => rfl) dX8_does_163 (fun v128 v128l v128u v128w => ?_)
          have v128V : v128.toInt = V h.2.1 85 a2.toInt := by rw [v128w, hv106.fz (c := 85) (by omega) (by omega), ← hv.fz (c := 85) (by omega) (by omega)]; rfl
          refine go_iload_n (pc := 164) rfl dX8_does_164 ?_
          have c23 := cc.2 (by omega)
          rcases (hr.1.1.2.2.2.2.1 a2.toInt hi).1 with t4129 | t4129
          · exact False.elim (by omega)
          have sM130 : (h106.2.1 70 6).toInt = S := by rw [hv106.fy (j := 6) (by omega), ← hv.fy (j := 6) (by omega)]; exact hS.symm
          have g131 : (0 : Int) ≤ (h106.2.1 70 53).toInt := (hv106.2.1 70 53).1
          have g132 : (h106.2.1 70 53).toInt ≤ 3000 := (hv106.2.1 70 53).2
          have g133 : (h106.2.1 70 53).toInt = u108.toInt := by rw [← (show u108 = h106.2.1 70 53 from u108w)] <;> exact (ti_rfl u108)
          refine go_invV (pc := 165) (sl := 0) (ihG hv106 v128 (by rw [show (v128 : Int32).toInt = v128.toInt from (ti_rfl v128)]; omega) (by rw [show (v128 : Int32).toInt = v128.toInt from (ti_rfl v128)]; omega) a3 (by rw [show (a3 : Int32).toInt = a3.toInt from (ti_rfl a3)]; omega) (by rw [show (a3 : Int32).toInt = a3.toInt from (ti_rfl a3)]; omega) (by rw [sM130]; exact (RT2.ve (VE.of hv hv106) hr)) (by rw [sM130]; exact (by rw [hv106.fy (j := 29) (by omega), ← hv.fy (j := 29) (by omega)]; exact hl)) (CKF.ve (VE.of hv hv106) ckf) (by rw [sM130]; exact (by rw [v128V]; exact (BB.ve (VE.of hv hv106)).mpr t4129.1)) (by rw [v128V, VE.v (VE.of hv hv106) (c := 92) (by omega) (by omega), t4129.2]; exact ⟨fun q => by omega, fun q => by rw [VE.v (VE.of hv hv106) (c := 80) (by omega) (by omega)]; omega⟩)) mL_X8_431 iM_X8_goesBlock sM_X8_goesBlock (hv106.sh rfl) rfl rfl rfl (Nat.le_of_ble_eq_true rfl) (show d + 2 + 1 ≤ d + 3 by omega) (show 8 + (5 + 11) + 40 * (d + 2) ≤ 40 * (d + 3) by omega) (g_c0 hv106.ln) (Nat.le_of_ble_eq_true rfl) dX8_does_165 ?_
          intro r h134 hq _
          obtain ⟨v136, rfl, v136l, v136u, hv134, f135⟩ := hq
          obtain ⟨u137, u137w⟩ : ∃ v : Int32, v = h134.2.1 70 53 := ⟨_, rfl⟩
          have u137e : (h134.2.1 70 53).toInt = u137.toInt := by rw [u137w]
          have u137l : 0 ≤ u137.toInt := by rw [u137w]; exact (hv134.2.1 70 53).1
          have u137u : u137.toInt ≤ 3000 := by rw [u137w]; exact (hv134.2.1 70 53).2
          refine go_goto (pc := 168) (tgt := 196) (by decide) dX8_does_168 ?_
          have g138 : (0 : Int) ≤ (h134.2.1 70 53).toInt := (hv134.2.1 70 53).1
          have g139 : (h134.2.1 70 53).toInt ≤ 3000 := (hv134.2.1 70 53).2
          have g140 : (h134.2.1 70 53).toInt = u137.toInt := by rw [← (show u137 = h134.2.1 70 53 from u137w)] <;> exact (ti_rfl u137)
          exact gi_iret (pc := 196) (ti_rfl v136) ⟨_, rfl, (by rw [show (v136 : Int32).toInt = v136.toInt from (ti_rfl v136)]; omega), (by rw [show (v136 : Int32).toInt = v136.toInt from (ti_rfl v136)]; omega), hv134, (by omega)⟩ hv134 dX8_does_196
    by_cases q141 : v12.toInt = 3
    ·
      refine go_tableIn (pc := 45) (tgt := 197) (off := 152) (by rw [show (v12 : Int32).toInt = v12.toInt from (ti_rfl v12)]; omega) (by rw [show (v12 : Int32).toInt = v12.toInt from (ti_rfl v12)]; omega) (by rw [show (v12 : Int32).toInt = v12.toInt from (ti_rfl v12), q141]; rfl) (by decide) dX8_does_45 ?_
      refine go_aload_n (pc := 197) rfl dX8_does_197 ?_
      refine go_iload_n (pc := 198) rfl dX8_does_198 ?_
      refine go_iload_n (pc := 199) rfl dX8_does_199 ?_
      have sM142 : (h7.2.1 70 6).toInt = S := by rw [hv7.fy (j := 6) (by omega), ← hv.fy (j := 6) (by omega)]; exact hS.symm
      have g143 : (0 : Int) ≤ (h7.2.1 70 53).toInt := (hv7.2.1 70 53).1
      have g144 : (h7.2.1 70 53).toInt ≤ 3000 := (hv7.2.1 70 53).2
      have g145 : (h7.2.1 70 53).toInt = (v1.toInt + 1) := by rw [← (show v5 = h7.2.1 70 53 from (show v5 = h7.2.1 70 53 from by rw [hv7e]; exact g_iS.symm))] <;> exact e6
      refine go_invV (pc := 200) (sl := 0) (ihL hv7 a2 (by rw [show (a2 : Int32).toInt = a2.toInt from (ti_rfl a2)]; omega) (by rw [show (a2 : Int32).toInt = a2.toInt from (ti_rfl a2)]; omega) a3 (by rw [show (a3 : Int32).toInt = a3.toInt from (ti_rfl a3)]; omega) (by rw [show (a3 : Int32).toInt = a3.toInt from (ti_rfl a3)]; omega) (by rw [sM142]; exact (RT2.ve (VE.of hv hv7) hr)) (by rw [sM142]; exact (by rw [hv7.fy (j := 29) (by omega), ← hv.fy (j := 29) (by omega)]; exact hl)) (CKF.ve (VE.of hv hv7) ckf) (by rw [sM142]; exact ((II.ve (VE.of hv hv7)).mpr hi)) (by rw [VE.v (VE.of hv hv7) (c := 77) (by omega) (by omega)]; omega) (by rw [VE.v (VE.of hv hv7) (c := 80) (by omega) (by omega)]; omega)) mL_X8_454 iM_X8_loops sM_X8_loops (hv7.sh rfl) rfl rfl rfl (Nat.le_of_ble_eq_true rfl) (show d + 2 + 1 ≤ d + 3 by omega) (show 8 + (5 + 11) + 40 * (d + 2) ≤ 40 * (d + 3) by omega) (g_c0 hv7.ln) (Nat.le_of_ble_eq_true rfl) dX8_does_200 ?_
      intro r h146 hq _
      obtain ⟨v148, rfl, v148l, v148u, hv146, f147⟩ := hq
      obtain ⟨u149, u149w⟩ : ∃ v : Int32, v = h146.2.1 70 53 := ⟨_, rfl⟩
      have u149e : (h146.2.1 70 53).toInt = u149.toInt := by rw [u149w]
      have u149l : 0 ≤ u149.toInt := by rw [u149w]; exact (hv146.2.1 70 53).1
      have u149u : u149.toInt ≤ 3000 := by rw [u149w]; exact (hv146.2.1 70 53).2
      have g150 : (0 : Int) ≤ (h146.2.1 70 53).toInt := (hv146.2.1 70 53).1
      have g151 : (h146.2.1 70 53).toInt ≤ 3000 := (hv146.2.1 70 53).2
      have g152 : (h146.2.1 70 53).toInt = u149.toInt := by rw [← (show u149 = h146.2.1 70 53 from u149w)] <;> exact (ti_rfl u149)
      exact gi_iret (pc := 203) (ti_rfl v148) ⟨_, rfl, (by rw [show (v148 : Int32).toInt = v148.toInt from (ti_rfl v148)]; omega), (by rw [show (v148 : Int32).toInt = v148.toInt from (ti_rfl v148)]; omega), hv146, (by omega)⟩ hv146 dX8_does_203
    refine go_tableOut (pc := 45) (tgt := 204) (by rw [show (v12 : Int32).toInt = v12.toInt from (ti_rfl v12)]; omega) (by decide) dX8_does_45 ?_
    refine go_aload_n (pc := 204) rfl dX8_does_204 ?_
    refine go_iload_n (pc := 205) rfl dX8_does_205 ?_
    refine go_iload_n (pc := 206) rfl dX8_does_206 ?_
    have g153 : (0 : Int) ≤ (h7.2.1 70 53).toInt := (hv7.2.1 70 53).1
    have g154 : (h7.2.1 70 53).toInt ≤ 3000 := (hv7.2.1 70 53).2
    have g155 : (h7.2.1 70 53).toInt = (v1.toInt + 1) := by rw [← (show v5 = h7.2.1 70 53 from (show v5 = h7.2.1 70 53 from by rw [hv7e]; exact g_iS.symm))] <;> exact e6
    refine go_invV (pc := 207) (sl := 0) (s_X8_sees_x l (d + 1) hv7 a2 (by rw [show (a2 : Int32).toInt = a2.toInt from (ti_rfl a2)]; omega) (by rw [show (a2 : Int32).toInt = a2.toInt from (ti_rfl a2)]; omega) v9) mL_X8_448 iM_X8_sees sM_X8_sees (hv7.sh rfl) rfl rfl rfl (Nat.le_of_ble_eq_true rfl) (show d + 1 + 1 + 1 ≤ d + 3 by omega) (show 8 + (3 + 11) + 40 * (d + 1 + 1) ≤ 40 * (d + 3) by omega) (g_c0 hv7.ln) (Nat.le_of_ble_eq_true rfl) dX8_does_207 ?_
    intro r h156 hq _
    obtain ⟨rfl, hv156, f157⟩ := hq
    obtain ⟨u158, u158w⟩ : ∃ v : Int32, v = h156.2.1 70 53 := ⟨_, rfl⟩
    have u158e : (h156.2.1 70 53).toInt = u158.toInt := by rw [u158w]
    have u158l : 0 ≤ u158.toInt := by rw [u158w]; exact (hv156.2.1 70 53).1
    have u158u : u158.toInt ≤ 3000 := by rw [u158w]; exact (hv156.2.1 70 53).2
    refine go_aload_n (pc := 210) rfl dX8_does_210 ?_
    refine go_iload_n (pc := 211) rfl dX8_does_211 ?_
    refine gi_put (pc := 212) (lo := -2147483648) (hi := 2147483647) hv156 (ti_rfl v9) (fP_X8_434 _) rfl (Nat.le_of_ble_eq_true rfl) rfl rfl (ti_ge (ti_rfl v9)) (ti_le2 (ti_rfl v9)) rfl rfl (by decide) (by decide) (by decide) (by decide) dX8_does_212 (fun h159 hv159 hv159e => ?_)
    refine go_aload_n (pc := 215) rfl dX8_does_215 ?_
    refine gi_getF (pc := 216) (q := 77) hv159 fL_X8_29 rfl (Nat.le_of_ble_eq_true rfl) rfl (hv159.rf (by decide)) dX8_does_216 ?_
    refine go_iload_n (pc := 219) rfl dX8_does_219 ?_
    refine gi_iald (pc := 220) (lo := 0) (hi := 6) (len := 260) hv159 (ti_rfl a2) rfl (by omega) (by omega) (fun _ => rfl) dX8_does_220 (fun v160 v160l v160u v160w => ?_)
    have v160V : v160.toInt = V h.2.1 77 a2.toInt := by rw [v160w, hv159.fz (c := 77) (by omega) (by omega), ← hv.fz (c := 77) (by omega) (by omega)]; rfl
    refine go_iconst (pc := 221) (v := 4) (by decide) dX8_does_221 ?_
    refine gf_icmp_ne (pc := 222) (tgt := 229) (ti_rfl v160) (ti_c (v := 4) (a := 4) (by decide)) (by decide) dX8_does_222 (fun q161 => ?_) (fun q161 => ?_)
    ·
      refine go_iconst (pc := 229) (v := 1) (by decide) dX8_does_229 ?_
      have g162 : (0 : Int) ≤ (h159.2.1 70 53).toInt := (hv159.2.1 70 53).1
      have g163 : (h159.2.1 70 53).toInt ≤ 3000 := (hv159.2.1 70 53).2
      have g164 : (h159.2.1 70 53).toInt = u158.toInt := by rw [← (show u158 = h159.2.1 70 53 from (show u158 = h159.2.1 70 53 from by rw [hv159e]; exact (g_iI rfl u158w.symm).symm))] <;> exact (ti_rfl u158)
      exact gi_iret (pc := 230) (ti_c (v := 1) (a := 1) (by decide)) ⟨_, rfl, (by rw [show (1 : Int32).toInt = 1 from (ti_c (v := 1) (a := 1) (by decide))]; omega), (by rw [show (1 : Int32).toInt = 1 from (ti_c (v := 1) (a := 1) (by decide))]; omega), hv159, (by omega)⟩ hv159 dX8_does_230
    ·
      refine go_iconst (pc := 225) (v := 2) (by decide) dX8_does_225 ?_
      refine go_goto (pc := 226) (tgt := 230) (by decide) dX8_does_226 ?_
      have g165 : (0 : Int) ≤ (h159.2.1 70 53).toInt := (hv159.2.1 70 53).1
      have g166 : (h159.2.1 70 53).toInt ≤ 3000 := (hv159.2.1 70 53).2
      have g167 : (h159.2.1 70 53).toInt = u158.toInt := by rw [← (show u158 = h159.2.1 70 53 from (show u158 = h159.2.1 70 53 from by rw [hv159e]; exact (g_iI rfl u158w.symm).symm))] <;> exact (ti_rfl u158)
      exact gi_iret (pc := 230) (ti_c (v := 2) (a := 2) (by decide)) ⟨_, rfl, (by rw [show (2 : Int32).toInt = 2 from (ti_c (v := 2) (a := 2) (by decide))]; omega), (by rw [show (2 : Int32).toInt = 2 from (ti_c (v := 2) (a := 2) (by decide))]; omega), hv159, (by omega)⟩ hv159 dX8_does_230
  ·
    refine go_iconst (pc := 10) (v := 3) (by decide) dX8_does_10 ?_
    have g168 : (0 : Int) ≤ (h.2.1 70 53).toInt := (hv.2.1 70 53).1
    have g169 : (h.2.1 70 53).toInt ≤ 3000 := (hv.2.1 70 53).2
    have g170 : (h.2.1 70 53).toInt = v1.toInt := by rw [← (show v1 = h.2.1 70 53 from v1w)] <;> exact (ti_rfl v1)
    exact gi_iret (pc := 11) (ti_c (v := 3) (a := 3) (by decide)) ⟨_, rfl, (by rw [show (3 : Int32).toInt = 3 from (ti_c (v := 3) (a := 3) (by decide))]; omega), (by rw [show (3 : Int32).toInt = 3 from (ti_c (v := 3) (a := 3) (by decide))]; omega), hv, (by omega)⟩ hv dX8_does_11
set_option maxHeartbeats 4000000 in
set_option maxRecDepth 100000 in
theorem s_X8_loops_b (l : Launch) (d : Nat) {nn : Nat} (ihG : ∀ {P : PP} {h : HP} (_ : Iv P h) (a2 : Int32) (a2l : 0 ≤ a2.toInt) (a2u : a2.toInt ≤ 559) (a3 : Int32) (a3l : 0 ≤ a3.toInt) (a3u : a3.toInt ≤ 30) (hr : RD h.2.1 (h.2.1 70 6).toInt ∧ TD h.2.1 (h.2.1 70 6).toInt) (hl : (h.2.1 70 29).toInt = (h.2.1 70 6).toInt) (ckf : CKF h.2.1) (hb : BB h.2.1 (h.2.1 70 6).toInt a2.toInt) (hg : (V h.2.1 92 a2.toInt = -1 → 30 * (30 - a3.toInt) + 24 ≤ (nn : Int)) ∧ (0 ≤ V h.2.1 92 a2.toInt → 30 * (30 - a3.toInt) + 3 * (6 - V h.2.1 80 (V h.2.1 92 a2.toInt)) + 3 ≤ (nn : Int))), Mt l yX8_goesBlock cX8_goesBlock 5 (some .int) (d + 2) [.ref 70, .int a2, .int a3] h 0 0 (fun r h' => ∃ v : Int32, r = some (.int v) ∧ 0 ≤ v.toInt ∧ v.toInt ≤ 3 ∧ Iv P h' ∧ ((h.2.1 70 53).toInt ≤ (h'.2.1 70 53).toInt))) {P : PP} {h : HP} (hv : Iv P h) (a2 : Int32) (a2l : 0 ≤ a2.toInt) (a2u : a2.toInt ≤ 259) (a3 : Int32) (a3l : 0 ≤ a3.toInt) (a3u : a3.toInt ≤ 30) (hr : RD h.2.1 (h.2.1 70 6).toInt ∧ TD h.2.1 (h.2.1 70 6).toInt) (hl : (h.2.1 70 29).toInt = (h.2.1 70 6).toInt) (ckf : CKF h.2.1) (hi : II h.2.1 (h.2.1 70 6).toInt a2.toInt) (hk : V h.2.1 77 a2.toInt = 3) (hg : 30 * (30 - a3.toInt) + 3 * (7 - V h.2.1 80 a2.toInt) + 1 ≤ ((nn + 1 : Nat) : Int)) : Mt l yX8_loops cX8_loops 5 (some .int) (d + 3) [.ref 70, .int a2, .int a3] h 0 0 (fun r h' => ∃ v : Int32, r = some (.int v) ∧ 0 ≤ v.toInt ∧ v.toInt ≤ 3 ∧ Iv P h' ∧ ((h.2.1 70 53).toInt ≤ (h'.2.1 70 53).toInt)) := by
  refine Mt_iv hv (by decide) (Nat.le_of_ble_eq_true rfl) ?_
  show Go l RX8 cX8_loops 5 (g_rm (d + 3) 0 0) "loops" (some .int) 117 0 0 (fun _ _ => True) (fun r h' => ∃ v : Int32, r = some (.int v) ∧ 0 ≤ v.toInt ∧ v.toInt ≤ 3 ∧ Iv P h' ∧ ((h.2.1 70 53).toInt ≤ (h'.2.1 70 53).toInt)) 0 0 [(0, .ref 70), (1, .int a2), (2, .int a3)] [] h
  obtain ⟨S, hS⟩ : ∃ S : Int, S = (h.2.1 70 6).toInt := ⟨_, rfl⟩
  have S0 : 0 ≤ S := by rw [hS]; exact (hv.2.1 70 6).1
  have S1 : S ≤ 1 := by rw [hS]; exact (hv.2.1 70 6).2
  rw [← hS] at hr
  rw [← hS] at hl
  rw [← hS] at hi
  have cc := (hr.1.2.1 a2.toInt hi.1 hi.2).2
  have cd := (hr.1.2.1 a2.toInt hi.1 hi.2).1
  have t3 := hr.1.1.2.2.2.1 a2.toInt hi
  have r8 : V h.2.1 80 a2.toInt ≤ 6 := (hv.2.1 80 _).2
  have key : ∀ n : Nat, (∀ (l1 : Int32) (l2 : Int32) (l3 : Int32) (hx : HP), Iv P hx → 0 ≤ l1.toInt → l1.toInt ≤ 259 → 0 ≤ l2.toInt → l2.toInt ≤ 30 → 0 ≤ l3.toInt → l3.toInt ≤ 1 → (l2.toInt = a3.toInt) → (l1.toInt = a2.toInt) → ((h.2.1 70 53).toInt ≤ (hx.2.1 70 53).toInt) → (0 : Int) ≤ (hx.2.1 70 53).toInt → (hx.2.1 70 53).toInt ≤ 3000 → (3010 - (hx.2.1 70 53).toInt : Int) < n → Go l RX8 cX8_loops 5 (g_rm (d + 3) 0 0) "loops" (some .int) 117 0 0 (fun _ _ => True) (fun r h' => ∃ v : Int32, r = some (.int v) ∧ 0 ≤ v.toInt ∧ v.toInt ≤ 3 ∧ Iv P h' ∧ ((h.2.1 70 53).toInt ≤ (h'.2.1 70 53).toInt)) 0 37 [(0, .ref 70), (1, .int l1), (2, .int l2), (3, .int l3)] [] hx) := by
    intro n
    induction n with
    | zero => exact (by intros; omega)
    | succ n ih =>
      refine ?_
      ·
        intro l1 l2 l3 hx hvx l1l l1u l2l l2u l3l l3u x0 x1 x2 y0l y0u hm
        refine go_iload_n (pc := 37) rfl dX8_loops_37 ?_
        refine gf_if_eq (pc := 38) (tgt := 124) (ti_rfl l3) (by decide) dX8_loops_38 (fun q1 => ?_) (fun q1 => ?_)
        ·
          refine go_iconst (pc := 124) (v := 0) (by decide) dX8_loops_124 ?_
          have g2 : (0 : Int) ≤ (hx.2.1 70 53).toInt := (hvx.2.1 70 53).1
          have g3 : (hx.2.1 70 53).toInt ≤ 3000 := (hvx.2.1 70 53).2
          exact gi_iret (pc := 125) (ti_c (v := 0) (a := 0) (by decide)) ⟨_, rfl, (by rw [show (0 : Int32).toInt = 0 from (ti_c (v := 0) (a := 0) (by decide))]; omega), (by rw [show (0 : Int32).toInt = 0 from (ti_c (v := 0) (a := 0) (by decide))]; omega), hvx, (by omega)⟩ hvx dX8_loops_125
        ·
          refine go_aload_n (pc := 41) rfl dX8_loops_41 ?_
          refine go_aload_n (pc := 42) rfl dX8_loops_42 ?_
          refine gi_getF (pc := 43) (q := 85) hvx fL_X8_53 rfl (Nat.le_of_ble_eq_true rfl) rfl (hvx.rf (by decide)) dX8_loops_43 ?_
          refine go_iload_n (pc := 46) rfl dX8_loops_46 ?_
          refine gi_iald (pc := 47) (lo := -1) (hi := 559) (len := 260) hvx (ti_rfl l1) rfl (by omega) (by omega) (fun _ => rfl) dX8_loops_47 (fun v4 v4l v4u v4w => ?_)
          have v4V : v4.toInt = V h.2.1 85 l1.toInt := by rw [v4w, hvx.fz (c := 85) (by omega) (by omega), ← hv.fz (c := 85) (by omega) (by omega)]; rfl
          refine go_iload_n (pc := 48) rfl dX8_loops_48 ?_
          have c23 := cc.2 (Or.inr hk)
          rcases (hr.1.1.2.2.2.2.1 a2.toInt hi).1 with t4 | t4
          · exact False.elim (by omega)
          have bE : v4.toInt = V h.2.1 85 a2.toInt := by rw [v4V, x1]
          have sM5 : (hx.2.1 70 6).toInt = S := by rw [hvx.fy (j := 6) (by omega), ← hv.fy (j := 6) (by omega)]; exact hS.symm
          have g6 : (0 : Int) ≤ (hx.2.1 70 53).toInt := (hvx.2.1 70 53).1
          have g7 : (hx.2.1 70 53).toInt ≤ 3000 := (hvx.2.1 70 53).2
          refine go_invV (pc := 49) (sl := 0) (ihG hvx v4 (by rw [show (v4 : Int32).toInt = v4.toInt from (ti_rfl v4)]; omega) (by rw [show (v4 : Int32).toInt = v4.toInt from (ti_rfl v4)]; omega) l2 (by rw [show (l2 : Int32).toInt = l2.toInt from (ti_rfl l2)]; omega) (by rw [show (l2 : Int32).toInt = l2.toInt from (ti_rfl l2)]; omega) (by rw [sM5]; exact (RT2.ve (VE.of hv hvx) hr)) (by rw [sM5]; exact (by rw [hvx.fy (j := 29) (by omega), ← hv.fy (j := 29) (by omega)]; exact hl)) (CKF.ve (VE.of hv hvx) ckf) (by rw [sM5]; exact (by rw [bE]; exact (BB.ve (VE.of hv hvx)).mpr t4.1)) (by rw [bE, VE.v (VE.of hv hvx) (c := 92) (by omega) (by omega), t4.2]; exact ⟨fun q => by omega, fun q => by rw [VE.v (VE.of hv hvx) (c := 80) (by omega) (by omega)]; omega⟩)) mL_X8_431 iM_X8_goesBlock sM_X8_goesBlock (hvx.sh rfl) rfl rfl rfl (Nat.le_of_ble_eq_true rfl) (show d + 2 + 1 ≤ d + 3 by omega) (show 8 + (5 + 11) + 40 * (d + 2) ≤ 40 * (d + 3) by omega) (g_c0 hvx.ln) (Nat.le_of_ble_eq_true rfl) dX8_loops_49 ?_
          intro r h8 hq _
          obtain ⟨v10, rfl, v10l, v10u, hv8, f9⟩ := hq
          obtain ⟨u11, u11w⟩ : ∃ v : Int32, v = h8.2.1 70 53 := ⟨_, rfl⟩
          have u11e : (h8.2.1 70 53).toInt = u11.toInt := by rw [u11w]
          have u11l : 0 ≤ u11.toInt := by rw [u11w]; exact (hv8.2.1 70 53).1
          have u11u : u11.toInt ≤ 3000 := by rw [u11w]; exact (hv8.2.1 70 53).2
          refine go_istore (pc := 52) (Nat.le_of_ble_eq_true rfl) dX8_loops_52 (go_lv (lv2 := [(0, .ref 70), (1, .int l1), (2, .int l2), (3, .int l3), (4, .int v10)]) rfl ?_)
          refine go_iload (pc := 54) rfl dX8_loops_54 ?_
          refine gf_if_eq (pc := 56) (tgt := 62) (ti_rfl v10) (by decide) dX8_loops_56 (fun q12 => ?_) (fun q12 => ?_)
          ·
            refine go_aload_n (pc := 62) rfl dX8_loops_62 ?_
            refine gi_get (pc := 63) (lo := 0) (hi := 3000) hv8 fL_X8_437 rfl (Nat.le_of_ble_eq_true rfl) rfl rfl dX8_loops_63 (fun v13 v13l v13u v13w => ?_)
            have v13r : u11 = h8.2.1 70 53 := u11w
            have v13q : TI v13 u11.toInt := by rw [v13w.trans v13r.symm]; exact (ti_rfl u11)
            refine go_sipush (pc := 66) (v := 3000) (by decide) dX8_loops_66 ?_
            refine gf_icmp_ne (pc := 69) (tgt := 74) v13q (ti_c (v := 3000) (a := 3000) (by decide)) (by decide) dX8_loops_69 (fun q14 => ?_) (fun q14 => ?_)
            ·
              refine go_aload_n (pc := 74) rfl dX8_loops_74 ?_
              refine go_dup (pc := 75) rfl dX8_loops_75 ?_
              refine gi_get (pc := 76) (lo := 0) (hi := 3000) hv8 fL_X8_437 rfl (Nat.le_of_ble_eq_true rfl) rfl rfl dX8_loops_76 (fun v15 v15l v15u v15w => ?_)
              have v15r : u11 = h8.2.1 70 53 := u11w
              have v15q : TI v15 u11.toInt := by rw [v15w.trans v15r.symm]; exact (ti_rfl u11)
              refine go_iconst (pc := 79) (v := 1) (by decide) dX8_loops_79 ?_
              refine gf_iadd (pc := 80) v15q (ti_c (v := 1) (a := 1) (by decide)) (by omega) (by omega) dX8_loops_80 (fun v16 e17 => ?_)
              refine gi_put (pc := 81) (lo := 0) (hi := 3000) hv8 e17 (fP_X8_437 _) rfl (Nat.le_of_ble_eq_true rfl) rfl rfl (by omega) (by omega) rfl rfl (by decide) (by decide) (by decide) (by decide) dX8_loops_81 (fun h18 hv18 hv18e => ?_)
              refine go_aload_n (pc := 84) rfl dX8_loops_84 ?_
              refine go_iload_n (pc := 85) rfl dX8_loops_85 ?_
              refine go_iload_n (pc := 86) rfl dX8_loops_86 ?_
              refine go_iconst (pc := 87) (v := 0) (by decide) dX8_loops_87 ?_
              refine go_invV (pc := 88) (sl := 0) (s_X8_number_ l (d + 0) hv18 l2 (by rw [show (l2 : Int32).toInt = l2.toInt from (ti_rfl l2)]; omega) (by rw [show (l2 : Int32).toInt = l2.toInt from (ti_rfl l2)]; omega) l1 (by rw [show (l1 : Int32).toInt = l1.toInt from (ti_rfl l1)]; omega) (by rw [show (l1 : Int32).toInt = l1.toInt from (ti_rfl l1)]; omega) 0 (by rw [show (0 : Int32).toInt = 0 from (ti_c (v := 0) (a := 0) (by decide))]; omega) (by rw [show (0 : Int32).toInt = 0 from (ti_c (v := 0) (a := 0) (by decide))]; omega) (show V h18.2.1 89 (2 * l1.toInt + (0 : Int32).toInt) ≤ 1009 from by rw [x1, VE.v (VE.of hv hv18) (c := 89) (by omega) (by omega)]; exact (by rw [show ((0 : Int32).toInt) = 0 by decide, Int.add_zero]; exact t3.2.2.2.1))) mL_X8_440 iM_X8_number_ sM_X8_number_ (hv18.sh rfl) rfl rfl rfl (Nat.le_of_ble_eq_true rfl) (show d + 0 + 2 + 1 ≤ d + 3 by omega) (show 8 + (4 + 11) + 40 * (d + 0 + 2) ≤ 40 * (d + 3) by omega) (g_c0 hv18.ln) (Nat.le_of_ble_eq_true rfl) dX8_loops_88 ?_
              intro r h19 hq _
              obtain ⟨v20, rfl, v20l, v20u, rfl⟩ := hq
              refine go_aload_n (pc := 91) rfl dX8_loops_91 ?_
              refine go_iload_n (pc := 92) rfl dX8_loops_92 ?_
              refine go_iload_n (pc := 93) rfl dX8_loops_93 ?_
              refine go_iconst (pc := 94) (v := 1) (by decide) dX8_loops_94 ?_
              refine go_invV (pc := 95) (sl := 0) (s_X8_number_ l (d + 0) hv18 l2 (by rw [show (l2 : Int32).toInt = l2.toInt from (ti_rfl l2)]; omega) (by rw [show (l2 : Int32).toInt = l2.toInt from (ti_rfl l2)]; omega) l1 (by rw [show (l1 : Int32).toInt = l1.toInt from (ti_rfl l1)]; omega) (by rw [show (l1 : Int32).toInt = l1.toInt from (ti_rfl l1)]; omega) 1 (by rw [show (1 : Int32).toInt = 1 from (ti_c (v := 1) (a := 1) (by decide))]; omega) (by rw [show (1 : Int32).toInt = 1 from (ti_c (v := 1) (a := 1) (by decide))]; omega) (show V h18.2.1 89 (2 * l1.toInt + (1 : Int32).toInt) ≤ 1009 from by rw [x1, VE.v (VE.of hv hv18) (c := 89) (by omega) (by omega)]; exact (by rw [show ((1 : Int32).toInt) = 1 by decide]; exact t3.2.2.2.2))) mL_X8_440 iM_X8_number_ sM_X8_number_ (hv18.sh rfl) rfl rfl rfl (Nat.le_of_ble_eq_true rfl) (show d + 0 + 2 + 1 ≤ d + 3 by omega) (show 8 + (4 + 11) + 40 * (d + 0 + 2) ≤ 40 * (d + 3) by omega) (g_c0 hv18.ln) (Nat.le_of_ble_eq_true rfl) dX8_loops_95 ?_
              intro r h21 hq _
              obtain ⟨v22, rfl, v22l, v22u, rfl⟩ := hq
              refine gf_icmp_ge (pc := 98) (tgt := 105) (ti_rfl v20) (ti_rfl v22) (by decide) dX8_loops_98 (fun q23 => ?_) (fun q23 => ?_)
              ·
                refine go_iconst (pc := 105) (v := 0) (by decide) dX8_loops_105 ?_
                refine go_istore_n (pc := 106) (Nat.le_of_ble_eq_true rfl) dX8_loops_106 (go_lv (lv2 := [(0, .ref 70), (1, .int l1), (2, .int l2), (3, .int 0), (4, .int v10)]) rfl ?_)
                refine go_aload_n (pc := 107) rfl dX8_loops_107 ?_
                refine go_iload_n (pc := 108) rfl dX8_loops_108 ?_
                refine go_iload_n (pc := 109) rfl dX8_loops_109 ?_
                refine gf_if_eq (pc := 110) (tgt := 117) (ti_c (v := 0) (a := 0) (by decide)) (by decide) dX8_loops_110 (fun q24 => ?_) (fun q24 => False.elim (by omega))
                refine go_iconst (pc := 117) (v := 0) (by decide) dX8_loops_117 ?_
                have g25 : (0 : Int) ≤ (h18.2.1 70 53).toInt := (hv18.2.1 70 53).1
                have g26 : (h18.2.1 70 53).toInt ≤ 3000 := (hv18.2.1 70 53).2
                have g27 : (h18.2.1 70 53).toInt = (u11.toInt + 1) := by rw [← (show v16 = h18.2.1 70 53 from (show v16 = h18.2.1 70 53 from by rw [hv18e]; exact g_iS.symm))] <;> exact e17
                refine go_invV (pc := 118) (sl := 0) (s_X8_sees_x l (d + 1) hv18 l1 (by rw [show (l1 : Int32).toInt = l1.toInt from (ti_rfl l1)]; omega) (by rw [show (l1 : Int32).toInt = l1.toInt from (ti_rfl l1)]; omega) 0) mL_X8_448 iM_X8_sees sM_X8_sees (hv18.sh rfl) rfl rfl rfl (Nat.le_of_ble_eq_true rfl) (show d + 1 + 1 + 1 ≤ d + 3 by omega) (show 8 + (3 + 11) + 40 * (d + 1 + 1) ≤ 40 * (d + 3) by omega) (g_c0 hv18.ln) (Nat.le_of_ble_eq_true rfl) dX8_loops_118 ?_
                intro r h28 hq _
                obtain ⟨rfl, hv28, f29⟩ := hq
                try rw [show (0 : Int32).toInt = 0 from (ti_c (v := 0) (a := 0) (by decide))] at f29
                obtain ⟨u30, u30w⟩ : ∃ v : Int32, v = h28.2.1 70 53 := ⟨_, rfl⟩
                have u30e : (h28.2.1 70 53).toInt = u30.toInt := by rw [u30w]
                have u30l : 0 ≤ u30.toInt := by rw [u30w]; exact (hv28.2.1 70 53).1
                have u30u : u30.toInt ≤ 3000 := by rw [u30w]; exact (hv28.2.1 70 53).2
                refine go_goto (pc := 121) (tgt := 37) (by decide) dX8_loops_121 ?_
                have z31 : (0 : Int32).toInt = 0 := (ti_c (v := 0) (a := 0) (by decide))
                have g32 : (0 : Int) ≤ (h28.2.1 70 53).toInt := (hv28.2.1 70 53).1
                have g33 : (h28.2.1 70 53).toInt ≤ 3000 := (hv28.2.1 70 53).2
                have g34 : (h28.2.1 70 53).toInt = u30.toInt := by rw [← (show u30 = h28.2.1 70 53 from u30w)] <;> exact (ti_rfl u30)
                exact go_lv rfl (ih l1 l2 0 h28 hv28 (by omega) (by omega) (by omega) (by omega) (by omega) (by omega) (by omega) (by omega) (by omega) (by omega) (by omega) (by omega))
              ·
                refine go_iconst (pc := 101) (v := 1) (by decide) dX8_loops_101 ?_
                refine go_goto (pc := 102) (tgt := 106) (by decide) dX8_loops_102 ?_
                refine go_istore_n (pc := 106) (Nat.le_of_ble_eq_true rfl) dX8_loops_106 (go_lv (lv2 := [(0, .ref 70), (1, .int l1), (2, .int l2), (3, .int 1), (4, .int v10)]) rfl ?_)
                refine go_aload_n (pc := 107) rfl dX8_loops_107 ?_
                refine go_iload_n (pc := 108) rfl dX8_loops_108 ?_
                refine go_iload_n (pc := 109) rfl dX8_loops_109 ?_
                refine gf_if_eq (pc := 110) (tgt := 117) (ti_c (v := 1) (a := 1) (by decide)) (by decide) dX8_loops_110 (fun q35 => False.elim (by omega)) (fun q35 => ?_)
                refine go_iconst (pc := 113) (v := 1) (by decide) dX8_loops_113 ?_
                refine go_goto (pc := 114) (tgt := 118) (by decide) dX8_loops_114 ?_
                have g36 : (0 : Int) ≤ (h18.2.1 70 53).toInt := (hv18.2.1 70 53).1
                have g37 : (h18.2.1 70 53).toInt ≤ 3000 := (hv18.2.1 70 53).2
                have g38 : (h18.2.1 70 53).toInt = (u11.toInt + 1) := by rw [← (show v16 = h18.2.1 70 53 from (show v16 = h18.2.1 70 53 from by rw [hv18e]; exact g_iS.symm))] <;> exact e17
                refine go_invV (pc := 118) (sl := 0) (s_X8_sees_x l (d + 1) hv18 l1 (by rw [show (l1 : Int32).toInt = l1.toInt from (ti_rfl l1)]; omega) (by rw [show (l1 : Int32).toInt = l1.toInt from (ti_rfl l1)]; omega) 1) mL_X8_448 iM_X8_sees sM_X8_sees (hv18.sh rfl) rfl rfl rfl (Nat.le_of_ble_eq_true rfl) (show d + 1 + 1 + 1 ≤ d + 3 by omega) (show 8 + (3 + 11) + 40 * (d + 1 + 1) ≤ 40 * (d + 3) by omega) (g_c0 hv18.ln) (Nat.le_of_ble_eq_true rfl) dX8_loops_118 ?_
                intro r h39 hq _
                obtain ⟨rfl, hv39, f40⟩ := hq
                try rw [show (1 : Int32).toInt = 1 from (ti_c (v := 1) (a := 1) (by decide))] at f40
                obtain ⟨u41, u41w⟩ : ∃ v : Int32, v = h39.2.1 70 53 := ⟨_, rfl⟩
                have u41e : (h39.2.1 70 53).toInt = u41.toInt := by rw [u41w]
                have u41l : 0 ≤ u41.toInt := by rw [u41w]; exact (hv39.2.1 70 53).1
                have u41u : u41.toInt ≤ 3000 := by rw [u41w]; exact (hv39.2.1 70 53).2
                refine go_goto (pc := 121) (tgt := 37) (by decide) dX8_loops_121 ?_
                have z42 : (1 : Int32).toInt = 1 := (ti_c (v := 1) (a := 1) (by decide))
                have g43 : (0 : Int) ≤ (h39.2.1 70 53).toInt := (hv39.2.1 70 53).1
                have g44 : (h39.2.1 70 53).toInt ≤ 3000 := (hv39.2.1 70 53).2
                have g45 : (h39.2.1 70 53).toInt = u41.toInt := by rw [← (show u41 = h39.2.1 70 53 from u41w)] <;> exact (ti_rfl u41)
                exact go_lv rfl (ih l1 l2 1 h39 hv39 (by omega) (by omega) (by omega) (by omega) (by omega) (by omega) (by omega) (by omega) (by omega) (by omega) (by omega) (by omega))
            ·
              refine go_iconst (pc := 72) (v := 3) (by decide) dX8_loops_72 ?_
              have g46 : (0 : Int) ≤ (h8.2.1 70 53).toInt := (hv8.2.1 70 53).1
              have g47 : (h8.2.1 70 53).toInt ≤ 3000 := (hv8.2.1 70 53).2
              have g48 : (h8.2.1 70 53).toInt = u11.toInt := by rw [← (show u11 = h8.2.1 70 53 from u11w)] <;> exact (ti_rfl u11)
              exact gi_iret (pc := 73) (ti_c (v := 3) (a := 3) (by decide)) ⟨_, rfl, (by rw [show (3 : Int32).toInt = 3 from (ti_c (v := 3) (a := 3) (by decide))]; omega), (by rw [show (3 : Int32).toInt = 3 from (ti_c (v := 3) (a := 3) (by decide))]; omega), hv8, (by omega)⟩ hv8 dX8_loops_73
          ·
            refine go_iload (pc := 59) rfl dX8_loops_59 ?_
            have g49 : (0 : Int) ≤ (h8.2.1 70 53).toInt := (hv8.2.1 70 53).1
            have g50 : (h8.2.1 70 53).toInt ≤ 3000 := (hv8.2.1 70 53).2
            have g51 : (h8.2.1 70 53).toInt = u11.toInt := by rw [← (show u11 = h8.2.1 70 53 from u11w)] <;> exact (ti_rfl u11)
            exact gi_iret (pc := 61) (ti_rfl v10) ⟨_, rfl, (by rw [show (v10 : Int32).toInt = v10.toInt from (ti_rfl v10)]; omega), (by rw [show (v10 : Int32).toInt = v10.toInt from (ti_rfl v10)]; omega), hv8, (by omega)⟩ hv8 dX8_loops_61
  refine go_aload_n (pc := 0) rfl dX8_loops_0 ?_
  refine go_iload_n (pc := 1) rfl dX8_loops_1 ?_
  refine go_iload_n (pc := 2) rfl dX8_loops_2 ?_
  refine go_iconst (pc := 3) (v := 0) (by decide) dX8_loops_3 ?_
  refine go_invV (pc := 4) (sl := 0) (s_X8_number_ l (d + 0) hv a3 (by rw [show (a3 : Int32).toInt = a3.toInt from (ti_rfl a3)]; omega) (by rw [show (a3 : Int32).toInt = a3.toInt from (ti_rfl a3)]; omega) a2 (by rw [show (a2 : Int32).toInt = a2.toInt from (ti_rfl a2)]; omega) (by rw [show (a2 : Int32).toInt = a2.toInt from (ti_rfl a2)]; omega) 0 (by rw [show (0 : Int32).toInt = 0 from (ti_c (v := 0) (a := 0) (by decide))]; omega) (by rw [show (0 : Int32).toInt = 0 from (ti_c (v := 0) (a := 0) (by decide))]; omega) (show V h.2.1 89 (2 * a2.toInt + (0 : Int32).toInt) ≤ 1009 from by rw [VE.v (VE.of hv hv) (c := 89) (by omega) (by omega)]; exact (by rw [show ((0 : Int32).toInt) = 0 by decide, Int.add_zero]; exact t3.2.2.2.1))) mL_X8_440 iM_X8_number_ sM_X8_number_ (hv.sh rfl) rfl rfl rfl (Nat.le_of_ble_eq_true rfl) (show d + 0 + 2 + 1 ≤ d + 3 by omega) (show 8 + (4 + 11) + 40 * (d + 0 + 2) ≤ 40 * (d + 3) by omega) (g_c0 hv.ln) (Nat.le_of_ble_eq_true rfl) dX8_loops_4 ?_
  intro r h52 hq _
  obtain ⟨v53, rfl, v53l, v53u, rfl⟩ := hq
  refine go_aload_n (pc := 7) rfl dX8_loops_7 ?_
  refine go_iload_n (pc := 8) rfl dX8_loops_8 ?_
  refine go_iload_n (pc := 9) rfl dX8_loops_9 ?_
  refine go_iconst (pc := 10) (v := 1) (by decide) dX8_loops_10 ?_
  refine go_invV (pc := 11) (sl := 0) (s_X8_number_ l (d + 0) hv a3 (by rw [show (a3 : Int32).toInt = a3.toInt from (ti_rfl a3)]; omega) (by rw [show (a3 : Int32).toInt = a3.toInt from (ti_rfl a3)]; omega) a2 (by rw [show (a2 : Int32).toInt = a2.toInt from (ti_rfl a2)]; omega) (by rw [show (a2 : Int32).toInt = a2.toInt from (ti_rfl a2)]; omega) 1 (by rw [show (1 : Int32).toInt = 1 from (ti_c (v := 1) (a := 1) (by decide))]; omega) (by rw [show (1 : Int32).toInt = 1 from (ti_c (v := 1) (a := 1) (by decide))]; omega) (show V h.2.1 89 (2 * a2.toInt + (1 : Int32).toInt) ≤ 1009 from by rw [VE.v (VE.of hv hv) (c := 89) (by omega) (by omega)]; exact (by rw [show ((1 : Int32).toInt) = 1 by decide]; exact t3.2.2.2.2))) mL_X8_440 iM_X8_number_ sM_X8_number_ (hv.sh rfl) rfl rfl rfl (Nat.le_of_ble_eq_true rfl) (show d + 0 + 2 + 1 ≤ d + 3 by omega) (show 8 + (4 + 11) + 40 * (d + 0 + 2) ≤ 40 * (d + 3) by omega) (g_c0 hv.ln) (Nat.le_of_ble_eq_true rfl) dX8_loops_11 ?_
  intro r h54 hq _
  obtain ⟨v55, rfl, v55l, v55u, rfl⟩ := hq
  refine gf_icmp_ge (pc := 14) (tgt := 21) (ti_rfl v53) (ti_rfl v55) (by decide) dX8_loops_14 (fun q56 => ?_) (fun q56 => ?_)
  ·
    refine go_iconst (pc := 21) (v := 0) (by decide) dX8_loops_21 ?_
    refine go_istore_n (pc := 22) (Nat.le_of_ble_eq_true rfl) dX8_loops_22 (go_lv (lv2 := [(0, .ref 70), (1, .int a2), (2, .int a3), (3, .int 0)]) rfl ?_)
    refine go_aload_n (pc := 23) rfl dX8_loops_23 ?_
    refine go_iload_n (pc := 24) rfl dX8_loops_24 ?_
    refine go_iload_n (pc := 25) rfl dX8_loops_25 ?_
    refine gf_if_eq (pc := 26) (tgt := 33) (ti_c (v := 0) (a := 0) (by decide)) (by decide) dX8_loops_26 (fun q57 => ?_) (fun q57 => False.elim (by omega))
    refine go_iconst (pc := 33) (v := 0) (by decide) dX8_loops_33 ?_
    have g58 : (0 : Int) ≤ (h.2.1 70 53).toInt := (hv.2.1 70 53).1
    have g59 : (h.2.1 70 53).toInt ≤ 3000 := (hv.2.1 70 53).2
    refine go_invV (pc := 34) (sl := 0) (s_X8_sees_x l (d + 1) hv a2 (by rw [show (a2 : Int32).toInt = a2.toInt from (ti_rfl a2)]; omega) (by rw [show (a2 : Int32).toInt = a2.toInt from (ti_rfl a2)]; omega) 0) mL_X8_448 iM_X8_sees sM_X8_sees (hv.sh rfl) rfl rfl rfl (Nat.le_of_ble_eq_true rfl) (show d + 1 + 1 + 1 ≤ d + 3 by omega) (show 8 + (3 + 11) + 40 * (d + 1 + 1) ≤ 40 * (d + 3) by omega) (g_c0 hv.ln) (Nat.le_of_ble_eq_true rfl) dX8_loops_34 ?_
    intro r h60 hq _
    obtain ⟨rfl, hv60, f61⟩ := hq
    try rw [show (0 : Int32).toInt = 0 from (ti_c (v := 0) (a := 0) (by decide))] at f61
    obtain ⟨u62, u62w⟩ : ∃ v : Int32, v = h60.2.1 70 53 := ⟨_, rfl⟩
    have u62e : (h60.2.1 70 53).toInt = u62.toInt := by rw [u62w]
    have u62l : 0 ≤ u62.toInt := by rw [u62w]; exact (hv60.2.1 70 53).1
    have u62u : u62.toInt ≤ 3000 := by rw [u62w]; exact (hv60.2.1 70 53).2
    have z63 : (0 : Int32).toInt = 0 := (ti_c (v := 0) (a := 0) (by decide))
    have g64 : (0 : Int) ≤ (h60.2.1 70 53).toInt := (hv60.2.1 70 53).1
    have g65 : (h60.2.1 70 53).toInt ≤ 3000 := (hv60.2.1 70 53).2
    have g66 : (h60.2.1 70 53).toInt = u62.toInt := by rw [← (show u62 = h60.2.1 70 53 from u62w)] <;> exact (ti_rfl u62)
    exact go_lv rfl ((key 10001) a2 a3 0 h60 hv60 (by omega) (by omega) (by omega) (by omega) (by omega) (by omega) (by omega) (by omega) (by omega) (by omega) (by omega) (by omega))
  ·
    refine go_iconst (pc := 17) (v := 1) (by decide) dX8_loops_17 ?_
    refine go_goto (pc := 18) (tgt := 22) (by decide) dX8_loops_18 ?_
    refine go_istore_n (pc := 22) (Nat.le_of_ble_eq_true rfl) dX8_loops_22 (go_lv (lv2 := [(0, .ref 70), (1, .int a2), (2, .int a3), (3, .int 1)]) rfl ?_)
    refine go_aload_n (pc := 23) rfl dX8_loops_23 ?_
    refine go_iload_n (pc := 24) rfl dX8_loops_24 ?_
    refine go_iload_n (pc := 25) rfl dX8_loops_25 ?_
    refine gf_if_eq (pc := 26) (tgt := 33) (ti_c (v := 1) (a := 1) (by decide)) (by decide) dX8_loops_26 (fun q67 => False.elim (by omega)) (fun q67 => ?_)
    refine go_iconst (pc := 29) (v := 1) (by decide) dX8_loops_29 ?_
    refine go_goto (pc := 30) (tgt := 34) (by decide) dX8_loops_30 ?_
    have g68 : (0 : Int) ≤ (h.2.1 70 53).toInt := (hv.2.1 70 53).1
    have g69 : (h.2.1 70 53).toInt ≤ 3000 := (hv.2.1 70 53).2
    refine go_invV (pc := 34) (sl := 0) (s_X8_sees_x l (d + 1) hv a2 (by rw [show (a2 : Int32).toInt = a2.toInt from (ti_rfl a2)]; omega) (by rw [show (a2 : Int32).toInt = a2.toInt from (ti_rfl a2)]; omega) 1) mL_X8_448 iM_X8_sees sM_X8_sees (hv.sh rfl) rfl rfl rfl (Nat.le_of_ble_eq_true rfl) (show d + 1 + 1 + 1 ≤ d + 3 by omega) (show 8 + (3 + 11) + 40 * (d + 1 + 1) ≤ 40 * (d + 3) by omega) (g_c0 hv.ln) (Nat.le_of_ble_eq_true rfl) dX8_loops_34 ?_
    intro r h70 hq _
    obtain ⟨rfl, hv70, f71⟩ := hq
    try rw [show (1 : Int32).toInt = 1 from (ti_c (v := 1) (a := 1) (by decide))] at f71
    obtain ⟨u72, u72w⟩ : ∃ v : Int32, v = h70.2.1 70 53 := ⟨_, rfl⟩
    have u72e : (h70.2.1 70 53).toInt = u72.toInt := by rw [u72w]
    have u72l : 0 ≤ u72.toInt := by rw [u72w]; exact (hv70.2.1 70 53).1
    have u72u : u72.toInt ≤ 3000 := by rw [u72w]; exact (hv70.2.1 70 53).2
    have z73 : (1 : Int32).toInt = 1 := (ti_c (v := 1) (a := 1) (by decide))
    have g74 : (0 : Int) ≤ (h70.2.1 70 53).toInt := (hv70.2.1 70 53).1
    have g75 : (h70.2.1 70 53).toInt ≤ 3000 := (hv70.2.1 70 53).2
    have g76 : (h70.2.1 70 53).toInt = u72.toInt := by rw [← (show u72 = h70.2.1 70 53 from u72w)] <;> exact (ti_rfl u72)
    exact go_lv rfl ((key 10001) a2 a3 1 h70 hv70 (by omega) (by omega) (by omega) (by omega) (by omega) (by omega) (by omega) (by omega) (by omega) (by omega) (by omega) (by omega))
set_option maxHeartbeats 4000000 in
set_option maxRecDepth 100000 in
theorem s_X8_calls__b (l : Launch) (d : Nat) {nn : Nat} (ihP : ∀ {P : PP} {h : HP} (_ : Iv P h) (a2 : Int32) (a2l : 0 ≤ a2.toInt) (a2u : a2.toInt ≤ 4) (a3 : Int32) (a3l : 0 ≤ a3.toInt) (a3u : a3.toInt ≤ 30) (a4 : Int32) (a5 : Int32) (hr : RD h.2.1 (h.2.1 70 6).toInt ∧ TD h.2.1 (h.2.1 70 6).toInt) (hl : (h.2.1 70 29).toInt = (h.2.1 70 6).toInt) (ckf : CKF h.2.1) (hp : a2.toInt < V h.2.1 76 (h.2.1 70 6).toInt) (hg : 30 * (30 - a3.toInt) + 27 ≤ (nn : Int)), Mt l yX8_procedure cX8_procedure 6 (some .int) (d + 1) [.ref 70, .int a2, .int a3, .int a4, .int a5] h 0 0 (fun r h' => ∃ v : Int32, r = some (.int v) ∧ 0 ≤ v.toInt ∧ v.toInt ≤ 3 ∧ Iv P h' ∧ ((h.2.1 70 53).toInt ≤ (h'.2.1 70 53).toInt))) {P : PP} {h : HP} (hv : Iv P h) (a2 : Int32) (a2l : 0 ≤ a2.toInt) (a2u : a2.toInt ≤ 259) (a3 : Int32) (a3l : 0 ≤ a3.toInt) (a3u : a3.toInt ≤ 30) (a4 : Int32) (a5 : Int32) (hr : RD h.2.1 (h.2.1 70 6).toInt ∧ TD h.2.1 (h.2.1 70 6).toInt) (hl : (h.2.1 70 29).toInt = (h.2.1 70 6).toInt) (ckf : CKF h.2.1) (hi : II h.2.1 (h.2.1 70 6).toInt a2.toInt) (hk : V h.2.1 77 a2.toInt = 1) (hg : 30 * (30 - a3.toInt) + 1 ≤ ((nn + 1 : Nat) : Int)) : Mt l yX8_calls_ cX8_calls_ 6 (some .int) (d + 2) [.ref 70, .int a2, .int a3, .int a4, .int a5] h 0 0 (fun r h' => ∃ v : Int32, r = some (.int v) ∧ 0 ≤ v.toInt ∧ v.toInt ≤ 3 ∧ Iv P h' ∧ ((h.2.1 70 53).toInt ≤ (h'.2.1 70 53).toInt)) := by
  refine Mt_iv hv (by decide) (Nat.le_of_ble_eq_true rfl) ?_
  show Go l RX8 cX8_calls_ 6 (g_rm (d + 2) 0 0) "calls" (some .int) 117 0 0 (fun _ _ => True) (fun r h' => ∃ v : Int32, r = some (.int v) ∧ 0 ≤ v.toInt ∧ v.toInt ≤ 3 ∧ Iv P h' ∧ ((h.2.1 70 53).toInt ≤ (h'.2.1 70 53).toInt)) 0 0 [(0, .ref 70), (1, .int a2), (2, .int a3), (3, .int a4), (4, .int a5)] [] h
  obtain ⟨S, hS⟩ : ∃ S : Int, S = (h.2.1 70 6).toInt := ⟨_, rfl⟩
  have S0 : 0 ≤ S := by rw [hS]; exact (hv.2.1 70 6).1
  have S1 : S ≤ 1 := by rw [hS]; exact (hv.2.1 70 6).2
  rw [← hS] at hr
  rw [← hS] at hl
  rw [← hS] at hi
  have cc := (hr.1.2.1 a2.toInt hi.1 hi.2).2
  have cd := (hr.1.2.1 a2.toInt hi.1 hi.2).1
  have t3 := hr.1.1.2.2.2.1 a2.toInt hi
  have r8 : V h.2.1 80 a2.toInt ≤ 6 := (hv.2.1 80 _).2
  refine go_iload_n (pc := 0) rfl dX8_calls__0 ?_
  refine go_bipush (pc := 1) (v := 30) (by decide) dX8_calls__1 ?_
  refine gf_icmp_ne (pc := 3) (tgt := 8) (ti_rfl a3) (ti_c (v := 30) (a := 30) (by decide)) (by decide) dX8_calls__3 (fun q1 => ?_) (fun q1 => ?_)
  ·
    refine go_aload_n (pc := 8) rfl dX8_calls__8 ?_
    refine go_aload_n (pc := 9) rfl dX8_calls__9 ?_
    refine gi_getF (pc := 10) (q := 84) hv fL_X8_50 rfl (Nat.le_of_ble_eq_true rfl) rfl (hv.rf (by decide)) dX8_calls__10 ?_
    refine go_iload_n (pc := 13) rfl dX8_calls__13 ?_
    refine gi_iald (pc := 14) (lo := -2) (hi := 4) (len := 260) hv (ti_rfl a2) rfl (by omega) (by omega) (fun _ => rfl) dX8_calls__14 (fun v2 v2l v2u v2w => ?_)
    have v2V : v2.toInt = V h.2.1 84 a2.toInt := by rw [v2w]; rfl
    have kk : 0 ≤ v2.toInt := by rw [v2w]; exact ckf _ (show V h.2.1 77 a2.toInt = 1 from hk)
    refine go_iload_n (pc := 15) rfl dX8_calls__15 ?_
    refine go_iconst (pc := 16) (v := 1) (by decide) dX8_calls__16 ?_
    refine gf_iadd (pc := 17) (ti_rfl a3) (ti_c (v := 1) (a := 1) (by decide)) (by omega) (by omega) dX8_calls__17 (fun v3 e4 => ?_)
    refine go_iload_n (pc := 18) rfl dX8_calls__18 ?_
    refine go_iload (pc := 19) rfl dX8_calls__19 ?_
    have n7 := t3.1 (by omega)
    have td := hr.2 (V h.2.1 78 a2.toInt) n7.1 n7.2.1
    rw [n7.2.2] at td
    have z5 : (v3 : Int32).toInt = (a3.toInt + 1) := e4
    have sM6 : (h.2.1 70 6).toInt = S := by rw [hv.fy (j := 6) (by omega), ← hv.fy (j := 6) (by omega)]; exact hS.symm
    have g7 : (0 : Int) ≤ (h.2.1 70 53).toInt := (hv.2.1 70 53).1
    have g8 : (h.2.1 70 53).toInt ≤ 3000 := (hv.2.1 70 53).2
    refine go_invV (pc := 21) (sl := 0) (ihP hv v2 (by rw [show (v2 : Int32).toInt = v2.toInt from (ti_rfl v2)]; omega) (by rw [show (v2 : Int32).toInt = v2.toInt from (ti_rfl v2)]; omega) v3 (by rw [show (v3 : Int32).toInt = (a3.toInt + 1) from e4]; omega) (by rw [show (v3 : Int32).toInt = (a3.toInt + 1) from e4]; omega) a4 a5 (by rw [sM6]; exact (RT2.ve (VE.of hv hv) hr)) (by rw [sM6]; exact (by rw [hv.fy (j := 29) (by omega), ← hv.fy (j := 29) (by omega)]; exact hl)) (CKF.ve (VE.of hv hv) ckf) (by rw [sM6]; exact (by rw [VE.v (VE.of hv hv) (c := 76) (by omega) (by omega)]; omega)) (by omega)) mL_X8_457 iM_X8_procedure sM_X8_procedure (hv.sh rfl) rfl rfl rfl (Nat.le_of_ble_eq_true rfl) (show d + 1 + 1 ≤ d + 2 by omega) (show 8 + (6 + 11) + 40 * (d + 1) ≤ 40 * (d + 2) by omega) (g_c0 hv.ln) (Nat.le_of_ble_eq_true rfl) dX8_calls__21 ?_
    intro r h9 hq _
    obtain ⟨v11, rfl, v11l, v11u, hv9, f10⟩ := hq
    try rw [show (v3 : Int32).toInt = (a3.toInt + 1) from e4] at f10
    obtain ⟨u12, u12w⟩ : ∃ v : Int32, v = h9.2.1 70 53 := ⟨_, rfl⟩
    have u12e : (h9.2.1 70 53).toInt = u12.toInt := by rw [u12w]
    have u12l : 0 ≤ u12.toInt := by rw [u12w]; exact (hv9.2.1 70 53).1
    have u12u : u12.toInt ≤ 3000 := by rw [u12w]; exact (hv9.2.1 70 53).2
    refine go_istore (pc := 24) (Nat.le_of_ble_eq_true rfl) dX8_calls__24 (go_lv (lv2 := [(0, .ref 70), (1, .int a2), (2, .int a3), (3, .int a4), (4, .int a5), (5, .int v11)]) rfl ?_)
    refine go_iload (pc := 26) rfl dX8_calls__26 ?_
    refine go_iconst (pc := 28) (v := 3) (by decide) dX8_calls__28 ?_
    refine gf_icmp_ne (pc := 29) (tgt := 34) (ti_rfl v11) (ti_c (v := 3) (a := 3) (by decide)) (by decide) dX8_calls__29 (fun q13 => ?_) (fun q13 => ?_)
    ·
      refine go_aload_n (pc := 34) rfl dX8_calls__34 ?_
      refine go_iload_n (pc := 35) rfl dX8_calls__35 ?_
      refine go_aload_n (pc := 36) rfl dX8_calls__36 ?_
      refine gi_get (pc := 37) (lo := -2147483648) (hi := 2147483647) hv9 fL_X8_434 rfl (Nat.le_of_ble_eq_true rfl) rfl rfl dX8_calls__37 (fun v14 v14l v14u v14w => ?_)
      have g15 : (0 : Int) ≤ (h9.2.1 70 53).toInt := (hv9.2.1 70 53).1
      have g16 : (h9.2.1 70 53).toInt ≤ 3000 := (hv9.2.1 70 53).2
      have g17 : (h9.2.1 70 53).toInt = u12.toInt := by rw [← (show u12 = h9.2.1 70 53 from u12w)] <;> exact (ti_rfl u12)
      refine go_invV (pc := 40) (sl := 0) (s_X8_sees_x l (d + 0) hv9 a2 (by rw [show (a2 : Int32).toInt = a2.toInt from (ti_rfl a2)]; omega) (by rw [show (a2 : Int32).toInt = a2.toInt from (ti_rfl a2)]; omega) v14) mL_X8_448 iM_X8_sees sM_X8_sees (hv9.sh rfl) rfl rfl rfl (Nat.le_of_ble_eq_true rfl) (show d + 0 + 1 + 1 ≤ d + 2 by omega) (show 8 + (3 + 11) + 40 * (d + 0 + 1) ≤ 40 * (d + 2) by omega) (g_c0 hv9.ln) (Nat.le_of_ble_eq_true rfl) dX8_calls__40 ?_
      intro r h18 hq _
      obtain ⟨rfl, hv18, f19⟩ := hq
      obtain ⟨u20, u20w⟩ : ∃ v : Int32, v = h18.2.1 70 53 := ⟨_, rfl⟩
      have u20e : (h18.2.1 70 53).toInt = u20.toInt := by rw [u20w]
      have u20l : 0 ≤ u20.toInt := by rw [u20w]; exact (hv18.2.1 70 53).1
      have u20u : u20.toInt ≤ 3000 := by rw [u20w]; exact (hv18.2.1 70 53).2
      refine go_iload (pc := 43) rfl dX8_calls__43 ?_
      refine go_iconst (pc := 45) (v := 2) (by decide) dX8_calls__45 ?_
      refine gf_icmp_ne (pc := 46) (tgt := 51) (ti_rfl v11) (ti_c (v := 2) (a := 2) (by decide)) (by decide) dX8_calls__46 (fun q21 => ?_) (fun q21 => ?_)
      ·
        refine go_aload_n (pc := 51) rfl dX8_calls__51 ?_
        refine go_iload_n (pc := 52) rfl dX8_calls__52 ?_
        refine go_aload_n (pc := 53) rfl dX8_calls__53 ?_
        refine gi_getF (pc := 54) (q := 82) hv18 fL_X8_44 rfl (Nat.le_of_ble_eq_true rfl) rfl (hv18.rf (by decide)) dX8_calls__54 ?_
        refine go_iload_n (pc := 57) rfl dX8_calls__57 ?_
        refine gi_iald (pc := 58) (lo := -1) (hi := 9) (len := 260) hv18 (ti_rfl a2) rfl (by omega) (by omega) (fun _ => rfl) dX8_calls__58 (fun v22 v22l v22u v22w => ?_)
        have v22V : v22.toInt = V h.2.1 82 a2.toInt := by rw [v22w, hv18.fz (c := 82) (by omega) (by omega), ← hv.fz (c := 82) (by omega) (by omega)]; rfl
        refine go_aload_n (pc := 59) rfl dX8_calls__59 ?_
        refine gi_get (pc := 60) (lo := -2147483648) (hi := 2147483647) hv18 fL_X8_434 rfl (Nat.le_of_ble_eq_true rfl) rfl rfl dX8_calls__60 (fun v23 v23l v23u v23w => ?_)
        have k9 : 0 ≤ v22.toInt := by have q := t3.2.1 (by omega); omega
        have g24 : (0 : Int) ≤ (h18.2.1 70 53).toInt := (hv18.2.1 70 53).1
        have g25 : (h18.2.1 70 53).toInt ≤ 3000 := (hv18.2.1 70 53).2
        have g26 : (h18.2.1 70 53).toInt = u20.toInt := by rw [← (show u20 = h18.2.1 70 53 from u20w)] <;> exact (ti_rfl u20)
        refine go_invV (pc := 63) (sl := 0) (s_X8_tellsName_x l (d + 0) hv18 a3 (by rw [show (a3 : Int32).toInt = a3.toInt from (ti_rfl a3)]; omega) (by rw [show (a3 : Int32).toInt = a3.toInt from (ti_rfl a3)]; omega) v22 (by rw [show (v22 : Int32).toInt = v22.toInt from (ti_rfl v22)]; omega) (by rw [show (v22 : Int32).toInt = v22.toInt from (ti_rfl v22)]; omega) v23) mL_X8_445 iM_X8_tellsName sM_X8_tellsName (hv18.sh rfl) rfl rfl rfl (Nat.le_of_ble_eq_true rfl) (show d + 0 + 1 + 1 ≤ d + 2 by omega) (show 8 + (4 + 11) + 40 * (d + 0 + 1) ≤ 40 * (d + 2) by omega) (g_c0 hv18.ln) (Nat.le_of_ble_eq_true rfl) dX8_calls__63 ?_
        intro r h27 hq _
        obtain ⟨rfl, hv27, f28⟩ := hq
        obtain ⟨u29, u29w⟩ : ∃ v : Int32, v = h27.2.1 70 53 := ⟨_, rfl⟩
        have u29e : (h27.2.1 70 53).toInt = u29.toInt := by rw [u29w]
        have u29l : 0 ≤ u29.toInt := by rw [u29w]; exact (hv27.2.1 70 53).1
        have u29u : u29.toInt ≤ 3000 := by rw [u29w]; exact (hv27.2.1 70 53).2
        refine go_iconst (pc := 66) (v := 0) (by decide) dX8_calls__66 ?_
        have g30 : (0 : Int) ≤ (h27.2.1 70 53).toInt := (hv27.2.1 70 53).1
        have g31 : (h27.2.1 70 53).toInt ≤ 3000 := (hv27.2.1 70 53).2
        have g32 : (h27.2.1 70 53).toInt = u29.toInt := by rw [← (show u29 = h27.2.1 70 53 from u29w)] <;> exact (ti_rfl u29)
        exact gi_iret (pc := 67) (ti_c (v := 0) (a := 0) (by decide)) ⟨_, rfl, (by rw [show (0 : Int32).toInt = 0 from (ti_c (v := 0) (a := 0) (by decide))]; omega), (by rw [show (0 : Int32).toInt = 0 from (ti_c (v := 0) (a := 0) (by decide))]; omega), hv27, (by omega)⟩ hv27 dX8_calls__67
      ·
        refine go_iconst (pc := 49) (v := 2) (by decide) dX8_calls__49 ?_
        have g33 : (0 : Int) ≤ (h18.2.1 70 53).toInt := (hv18.2.1 70 53).1
        have g34 : (h18.2.1 70 53).toInt ≤ 3000 := (hv18.2.1 70 53).2
        have g35 : (h18.2.1 70 53).toInt = u20.toInt := by rw [← (show u20 = h18.2.1 70 53 from u20w)] <;> exact (ti_rfl u20)
        exact gi_iret (pc := 50) (ti_c (v := 2) (a := 2) (by decide)) ⟨_, rfl, (by rw [show (2 : Int32).toInt = 2 from (ti_c (v := 2) (a := 2) (by decide))]; omega), (by rw [show (2 : Int32).toInt = 2 from (ti_c (v := 2) (a := 2) (by decide))]; omega), hv18, (by omega)⟩ hv18 dX8_calls__50
    ·
      refine go_iconst (pc := 32) (v := 3) (by decide) dX8_calls__32 ?_
      have g36 : (0 : Int) ≤ (h9.2.1 70 53).toInt := (hv9.2.1 70 53).1
      have g37 : (h9.2.1 70 53).toInt ≤ 3000 := (hv9.2.1 70 53).2
      have g38 : (h9.2.1 70 53).toInt = u12.toInt := by rw [← (show u12 = h9.2.1 70 53 from u12w)] <;> exact (ti_rfl u12)
      exact gi_iret (pc := 33) (ti_c (v := 3) (a := 3) (by decide)) ⟨_, rfl, (by rw [show (3 : Int32).toInt = 3 from (ti_c (v := 3) (a := 3) (by decide))]; omega), (by rw [show (3 : Int32).toInt = 3 from (ti_c (v := 3) (a := 3) (by decide))]; omega), hv9, (by omega)⟩ hv9 dX8_calls__33
  ·
    refine go_iconst (pc := 6) (v := 3) (by decide) dX8_calls__6 ?_
    have g39 : (0 : Int) ≤ (h.2.1 70 53).toInt := (hv.2.1 70 53).1
    have g40 : (h.2.1 70 53).toInt ≤ 3000 := (hv.2.1 70 53).2
    exact gi_iret (pc := 7) (ti_c (v := 3) (a := 3) (by decide)) ⟨_, rfl, (by rw [show (3 : Int32).toInt = 3 from (ti_c (v := 3) (a := 3) (by decide))]; omega), (by rw [show (3 : Int32).toInt = 3 from (ti_c (v := 3) (a := 3) (by decide))]; omega), hv, (by omega)⟩ hv dX8_calls__7
set_option maxHeartbeats 4000000 in
set_option maxRecDepth 100000 in
theorem s_X8_procedure_b (l : Launch) (d : Nat) {nn : Nat} (ihG : ∀ {P : PP} {h : HP} (_ : Iv P h) (a2 : Int32) (a2l : 0 ≤ a2.toInt) (a2u : a2.toInt ≤ 559) (a3 : Int32) (a3l : 0 ≤ a3.toInt) (a3u : a3.toInt ≤ 30) (hr : RD h.2.1 (h.2.1 70 6).toInt ∧ TD h.2.1 (h.2.1 70 6).toInt) (hl : (h.2.1 70 29).toInt = (h.2.1 70 6).toInt) (ckf : CKF h.2.1) (hb : BB h.2.1 (h.2.1 70 6).toInt a2.toInt) (hg : (V h.2.1 92 a2.toInt = -1 → 30 * (30 - a3.toInt) + 24 ≤ (nn : Int)) ∧ (0 ≤ V h.2.1 92 a2.toInt → 30 * (30 - a3.toInt) + 3 * (6 - V h.2.1 80 (V h.2.1 92 a2.toInt)) + 3 ≤ (nn : Int))), Mt l yX8_goesBlock cX8_goesBlock 5 (some .int) (d + 0) [.ref 70, .int a2, .int a3] h 0 0 (fun r h' => ∃ v : Int32, r = some (.int v) ∧ 0 ≤ v.toInt ∧ v.toInt ≤ 3 ∧ Iv P h' ∧ ((h.2.1 70 53).toInt ≤ (h'.2.1 70 53).toInt))) {P : PP} {h : HP} (hv : Iv P h) (a2 : Int32) (a2l : 0 ≤ a2.toInt) (a2u : a2.toInt ≤ 4) (a3 : Int32) (a3l : 0 ≤ a3.toInt) (a3u : a3.toInt ≤ 30) (a4 : Int32) (a5 : Int32) (hr : RD h.2.1 (h.2.1 70 6).toInt ∧ TD h.2.1 (h.2.1 70 6).toInt) (hl : (h.2.1 70 29).toInt = (h.2.1 70 6).toInt) (ckf : CKF h.2.1) (hp : a2.toInt < V h.2.1 76 (h.2.1 70 6).toInt) (hg : 30 * (30 - a3.toInt) + 27 ≤ ((nn + 1 : Nat) : Int)) : Mt l yX8_procedure cX8_procedure 6 (some .int) (d + 1) [.ref 70, .int a2, .int a3, .int a4, .int a5] h 0 0 (fun r h' => ∃ v : Int32, r = some (.int v) ∧ 0 ≤ v.toInt ∧ v.toInt ≤ 3 ∧ Iv P h' ∧ ((h.2.1 70 53).toInt ≤ (h'.2.1 70 53).toInt)) := by
  refine Mt_iv hv (by decide) (Nat.le_of_ble_eq_true rfl) ?_
  show Go l RX8 cX8_procedure 6 (g_rm (d + 1) 0 0) "procedure" (some .int) 117 0 0 (fun _ _ => True) (fun r h' => ∃ v : Int32, r = some (.int v) ∧ 0 ≤ v.toInt ∧ v.toInt ≤ 3 ∧ Iv P h' ∧ ((h.2.1 70 53).toInt ≤ (h'.2.1 70 53).toInt)) 0 0 [(0, .ref 70), (1, .int a2), (2, .int a3), (3, .int a4), (4, .int a5)] [] h
  obtain ⟨S, hS⟩ : ∃ S : Int, S = (h.2.1 70 6).toInt := ⟨_, rfl⟩
  have S0 : 0 ≤ S := by rw [hS]; exact (hv.2.1 70 6).1
  have S1 : S ≤ 1 := by rw [hS]; exact (hv.2.1 70 6).2
  rw [← hS] at hr
  rw [← hS] at hl
  rw [← hS] at hp
  have key : ∀ n : Nat, (∀ (l1 : Int32) (l2 : Int32) (l3 : Int32) (l4 : Int32) (l5 : Int32) (hx : HP), Iv P hx → 0 ≤ l1.toInt → l1.toInt ≤ 4 → 0 ≤ l2.toInt → l2.toInt ≤ 30 → 0 ≤ l5.toInt → l5.toInt ≤ 6 → (l1.toInt = a2.toInt) → (l2.toInt = a3.toInt) → ((h.2.1 70 53).toInt ≤ (hx.2.1 70 53).toInt) → (0 : Int) ≤ (hx.2.1 70 53).toInt → (hx.2.1 70 53).toInt ≤ 3000 → (3 * (6 - l5.toInt) + 2 : Int) < n → Go l RX8 cX8_procedure 6 (g_rm (d + 1) 0 0) "procedure" (some .int) 117 0 0 (fun _ _ => True) (fun r h' => ∃ v : Int32, r = some (.int v) ∧ 0 ≤ v.toInt ∧ v.toInt ≤ 3 ∧ Iv P h' ∧ ((h.2.1 70 53).toInt ≤ (h'.2.1 70 53).toInt)) 0 3 [(0, .ref 70), (1, .int l1), (2, .int l2), (3, .int l3), (4, .int l4), (5, .int l5)] [] hx) := by
    intro n
    induction n with
    | zero => exact (by intros; omega)
    | succ n ih =>
      refine ?_
      ·
        intro l1 l2 l3 l4 l5 hx hvx l1l l1u l2l l2u l5l l5u x0 x1 x2 y0l y0u hm
        obtain ⟨u70_53, u70_53w⟩ : ∃ v : Int32, v = hx.2.1 70 53 := ⟨_, rfl⟩
        have u70_53e : (hx.2.1 70 53).toInt = u70_53.toInt := by rw [u70_53w]
        have u70_53l : 0 ≤ u70_53.toInt := by rw [u70_53w]; exact (hvx.2.1 70 53).1
        have u70_53u : u70_53.toInt ≤ 3000 := by rw [u70_53w]; exact (hvx.2.1 70 53).2
        refine go_iload (pc := 3) rfl dX8_procedure_3 ?_
        refine go_bipush (pc := 5) (v := 6) (by decide) dX8_procedure_5 ?_
        refine gf_icmp_ge (pc := 7) (tgt := 49) (ti_rfl l5) (ti_c (v := 6) (a := 6) (by decide)) (by decide) dX8_procedure_7 (fun q1 => ?_) (fun q1 => ?_)
        ·
          refine go_aload_n (pc := 49) rfl dX8_procedure_49 ?_
          refine go_aload_n (pc := 50) rfl dX8_procedure_50 ?_
          refine gi_getF (pc := 51) (q := 94) hvx fL_X8_80 rfl (Nat.le_of_ble_eq_true rfl) rfl (hvx.rf (by decide)) dX8_procedure_51 ?_
          refine go_iconst (pc := 54) (v := 5) (by decide) dX8_procedure_54 ?_
          refine go_aload_n (pc := 55) rfl dX8_procedure_55 ?_
          refine gi_get (pc := 56) (lo := 0) (hi := 1) hvx fL_X8_228 rfl (Nat.le_of_ble_eq_true rfl) rfl rfl dX8_procedure_56 (fun v2 v2l v2u v2w => ?_)
          have w29 : v2.toInt = S := by rw [v2w, hvx.fy (j := 29) (by omega), ← hv.fy (j := 29) (by omega)]; exact hl
          refine gf_imul (pc := 59) (ti_c (v := 5) (a := 5) (by decide)) (ti_rfl v2) (by omega) (by omega) dX8_procedure_59 (fun v3 e4 => ?_)
          refine go_iload_n (pc := 60) rfl dX8_procedure_60 ?_
          refine gf_iadd (pc := 61) e4 (ti_rfl l1) (by omega) (by omega) dX8_procedure_61 (fun v5 e6 => ?_)
          refine gi_iald (pc := 62) (lo := 0) (hi := 559) (len := 10) hvx e6 rfl (by omega) (by omega) (fun _ => rfl) dX8_procedure_62 (fun v7 v7l v7u v7w => ?_)
          have v7V : v7.toInt = V h.2.1 94 (((5 * v2.toInt) + l1.toInt)) := by rw [v7w, hvx.fz (c := 94) (by omega) (by omega), ← hv.fz (c := 94) (by omega) (by omega)]; rfl
          refine go_iload_n (pc := 63) rfl dX8_procedure_63 ?_
          have bE : v7.toInt = V h.2.1 94 (5 * S + a2.toInt) := by rw [v7V, w29, x0]
          have wh := hr.1.2.2 a2.toInt (by omega) hp
          have sM8 : (hx.2.1 70 6).toInt = S := by rw [hvx.fy (j := 6) (by omega), ← hv.fy (j := 6) (by omega)]; exact hS.symm
          have g9 : (0 : Int) ≤ (hx.2.1 70 53).toInt := (hvx.2.1 70 53).1
          have g10 : (hx.2.1 70 53).toInt ≤ 3000 := (hvx.2.1 70 53).2
          have g11 : (hx.2.1 70 53).toInt = u70_53.toInt := by rw [← (show u70_53 = hx.2.1 70 53 from u70_53w)] <;> exact (ti_rfl u70_53)
          refine go_invV (pc := 64) (sl := 0) (ihG hvx v7 (by rw [show (v7 : Int32).toInt = v7.toInt from (ti_rfl v7)]; omega) (by rw [show (v7 : Int32).toInt = v7.toInt from (ti_rfl v7)]; omega) l2 (by rw [show (l2 : Int32).toInt = l2.toInt from (ti_rfl l2)]; omega) (by rw [show (l2 : Int32).toInt = l2.toInt from (ti_rfl l2)]; omega) (by rw [sM8]; exact (RT2.ve (VE.of hv hvx) hr)) (by rw [sM8]; exact (by rw [hvx.fy (j := 29) (by omega), ← hv.fy (j := 29) (by omega)]; exact hl)) (CKF.ve (VE.of hv hvx) ckf) (by rw [sM8]; exact (by rw [bE]; exact (BB.ve (VE.of hv hvx)).mpr wh.1)) (by rw [bE, VE.v (VE.of hv hvx) (c := 92) (by omega) (by omega), wh.2]; exact ⟨fun q => by omega, fun q => by omega⟩)) mL_X8_431 iM_X8_goesBlock sM_X8_goesBlock (hvx.sh rfl) rfl rfl rfl (Nat.le_of_ble_eq_true rfl) (show d + 0 + 1 ≤ d + 1 by omega) (show 8 + (5 + 11) + 40 * (d + 0) ≤ 40 * (d + 1) by omega) (g_c0 hvx.ln) (Nat.le_of_ble_eq_true rfl) dX8_procedure_64 ?_
          intro r h12 hq _
          obtain ⟨v14, rfl, v14l, v14u, hv12, f13⟩ := hq
          obtain ⟨u15, u15w⟩ : ∃ v : Int32, v = h12.2.1 70 53 := ⟨_, rfl⟩
          have u15e : (h12.2.1 70 53).toInt = u15.toInt := by rw [u15w]
          have u15l : 0 ≤ u15.toInt := by rw [u15w]; exact (hv12.2.1 70 53).1
          have u15u : u15.toInt ≤ 3000 := by rw [u15w]; exact (hv12.2.1 70 53).2
          refine go_istore (pc := 67) (Nat.le_of_ble_eq_true rfl) dX8_procedure_67 (go_lv (lv2 := [(0, .ref 70), (1, .int l1), (2, .int l2), (3, .int l3), (4, .int l4), (5, .int v14)]) rfl ?_)
          refine go_iload (pc := 69) rfl dX8_procedure_69 ?_
          refine gf_if_ne (pc := 71) (tgt := 79) (ti_rfl v14) (by decide) dX8_procedure_71 (fun q16 => ?_) (fun q16 => ?_)
          ·
            refine go_iload (pc := 79) rfl dX8_procedure_79 ?_
            refine gf_if_ne (pc := 81) (tgt := 88) (ti_rfl v14) (by decide) dX8_procedure_81 (fun q17 => ?_) (fun q17 => False.elim (by omega))
            refine go_iload (pc := 88) rfl dX8_procedure_88 ?_
            have g18 : (0 : Int) ≤ (h12.2.1 70 53).toInt := (hv12.2.1 70 53).1
            have g19 : (h12.2.1 70 53).toInt ≤ 3000 := (hv12.2.1 70 53).2
            have g20 : (h12.2.1 70 53).toInt = u15.toInt := by rw [← (show u15 = h12.2.1 70 53 from u15w)] <;> exact (ti_rfl u15)
            exact gi_iret (pc := 90) (ti_rfl v14) ⟨_, rfl, (by rw [show (v14 : Int32).toInt = v14.toInt from (ti_rfl v14)]; omega), (by rw [show (v14 : Int32).toInt = v14.toInt from (ti_rfl v14)]; omega), hv12, (by omega)⟩ hv12 dX8_procedure_90
          ·
            refine go_aload_n (pc := 74) rfl dX8_procedure_74 ?_
            refine go_iconst (pc := 75) (v := 0) (by decide) dX8_procedure_75 ?_
            refine gi_put (pc := 76) (lo := -2147483648) (hi := 2147483647) hv12 (ti_c (v := 0) (a := 0) (by decide)) (fP_X8_434 _) rfl (Nat.le_of_ble_eq_true rfl) rfl rfl (ti_ge (ti_c (v := 0) (a := 0) (by decide))) (ti_le2 (ti_c (v := 0) (a := 0) (by decide))) rfl rfl (by decide) (by decide) (by decide) (by decide) dX8_procedure_76 (fun h21 hv21 hv21e => ?_)
            refine go_iload (pc := 79) rfl dX8_procedure_79 ?_
            refine gf_if_ne (pc := 81) (tgt := 88) (ti_rfl v14) (by decide) dX8_procedure_81 (fun q22 => False.elim (by omega)) (fun q22 => ?_)
            refine go_iconst (pc := 84) (v := 1) (by decide) dX8_procedure_84 ?_
            refine go_goto (pc := 85) (tgt := 90) (by decide) dX8_procedure_85 ?_
            have g23 : (0 : Int) ≤ (h21.2.1 70 53).toInt := (hv21.2.1 70 53).1
            have g24 : (h21.2.1 70 53).toInt ≤ 3000 := (hv21.2.1 70 53).2
            have g25 : (h21.2.1 70 53).toInt = u15.toInt := by rw [← (show u15 = h21.2.1 70 53 from (show u15 = h21.2.1 70 53 from by rw [hv21e]; exact (g_iI rfl u15w.symm).symm))] <;> exact (ti_rfl u15)
            exact gi_iret (pc := 90) (ti_c (v := 1) (a := 1) (by decide)) ⟨_, rfl, (by rw [show (1 : Int32).toInt = 1 from (ti_c (v := 1) (a := 1) (by decide))]; omega), (by rw [show (1 : Int32).toInt = 1 from (ti_c (v := 1) (a := 1) (by decide))]; omega), hv21, (by omega)⟩ hv21 dX8_procedure_90
        ·
          refine go_aload_n (pc := 10) rfl dX8_procedure_10 ?_
          refine gi_getF (pc := 11) (q := 114) hvx fL_X8_142 rfl (Nat.le_of_ble_eq_true rfl) rfl (hvx.rf (by decide)) dX8_procedure_11 ?_
          refine go_bipush (pc := 14) (v := 6) (by decide) dX8_procedure_14 ?_
          refine go_iload_n (pc := 16) rfl dX8_procedure_16 ?_
          refine gf_imul (pc := 17) (ti_c (v := 6) (a := 6) (by decide)) (ti_rfl l2) (by omega) (by omega) dX8_procedure_17 (fun v26 e27 => ?_)
          refine go_iload (pc := 18) rfl dX8_procedure_18 ?_
          refine gf_iadd (pc := 20) e27 (ti_rfl l5) (by omega) (by omega) dX8_procedure_20 (fun v28 e29 => ?_)
          refine go_iload (pc := 21) rfl dX8_procedure_21 ?_
          refine gf_if_ne (pc := 23) (tgt := 30) (ti_rfl l5) (by decide) dX8_procedure_23 (fun q30 => ?_) (fun q30 => ?_)
          ·
            refine go_iload (pc := 30) rfl dX8_procedure_30 ?_
            refine go_iconst (pc := 32) (v := 1) (by decide) dX8_procedure_32 ?_
            refine gf_icmp_ne (pc := 33) (tgt := 41) (ti_rfl l5) (ti_c (v := 1) (a := 1) (by decide)) (by decide) dX8_procedure_33 (fun q31 => ?_) (fun q31 => ?_)
            ·
              refine go_iconst (pc := 41) (v := 0) (by decide) dX8_procedure_41 ?_
              refine gi_iast (pc := 42) (lo := -2147483648) (hi := 2147483647) (len := 192) hvx e29 (ti_c (v := 0) (a := 0) (by decide)) rfl (by omega) (by omega) (fun _ => rfl) (ti_ge (ti_c (v := 0) (a := 0) (by decide))) (ti_le2 (ti_c (v := 0) (a := 0) (by decide))) (by decide) dX8_procedure_42 (fun h32 hv32 hv32e => ?_)
              refine gf_iinc (pc := 43) (Nat.le_of_ble_eq_true rfl) rfl (ti_rfl l5) (ti_c (by decide)) (by omega) (by omega) dX8_procedure_43 (fun v33 e34 => ?_)
              refine go_lv (lv2 := [(0, .ref 70), (1, .int l1), (2, .int l2), (3, .int l3), (4, .int l4), (5, .int v33)]) rfl ?_
              refine go_goto (pc := 46) (tgt := 3) (by decide) dX8_procedure_46 ?_
              have z35 : (v33 : Int32).toInt = (l5.toInt + 1) := e34
              have g36 : (0 : Int) ≤ (h32.2.1 70 53).toInt := (hv32.2.1 70 53).1
              have g37 : (h32.2.1 70 53).toInt ≤ 3000 := (hv32.2.1 70 53).2
              have g38 : (h32.2.1 70 53).toInt = u70_53.toInt := by rw [← (show u70_53 = h32.2.1 70 53 from (show u70_53 = h32.2.1 70 53 from by rw [hv32e]; exact (g_iI rfl u70_53w.symm).symm))] <;> exact (ti_rfl u70_53)
              exact go_lv rfl (ih l1 l2 l3 l4 v33 h32 hv32 (by omega) (by omega) (by omega) (by omega) (by omega) (by omega) (by omega) (by omega) (by omega) (by omega) (by omega) (by omega))
            ·
              refine go_iload (pc := 36) rfl dX8_procedure_36 ?_
              refine go_goto (pc := 38) (tgt := 42) (by decide) dX8_procedure_38 ?_
              refine gi_iast (pc := 42) (lo := -2147483648) (hi := 2147483647) (len := 192) hvx e29 (ti_rfl l4) rfl (by omega) (by omega) (fun _ => rfl) (ti_ge (ti_rfl l4)) (ti_le2 (ti_rfl l4)) (by decide) dX8_procedure_42 (fun h39 hv39 hv39e => ?_)
              refine gf_iinc (pc := 43) (Nat.le_of_ble_eq_true rfl) rfl (ti_rfl l5) (ti_c (by decide)) (by omega) (by omega) dX8_procedure_43 (fun v40 e41 => ?_)
              refine go_lv (lv2 := [(0, .ref 70), (1, .int l1), (2, .int l2), (3, .int l3), (4, .int l4), (5, .int v40)]) rfl ?_
              refine go_goto (pc := 46) (tgt := 3) (by decide) dX8_procedure_46 ?_
              have z42 : (v40 : Int32).toInt = (l5.toInt + 1) := e41
              have g43 : (0 : Int) ≤ (h39.2.1 70 53).toInt := (hv39.2.1 70 53).1
              have g44 : (h39.2.1 70 53).toInt ≤ 3000 := (hv39.2.1 70 53).2
              have g45 : (h39.2.1 70 53).toInt = u70_53.toInt := by rw [← (show u70_53 = h39.2.1 70 53 from (show u70_53 = h39.2.1 70 53 from by rw [hv39e]; exact (g_iI rfl u70_53w.symm).symm))] <;> exact (ti_rfl u70_53)
              exact go_lv rfl (ih l1 l2 l3 l4 v40 h39 hv39 (by omega) (by omega) (by omega) (by omega) (by omega) (by omega) (by omega) (by omega) (by omega) (by omega) (by omega) (by omega))
          ·
            refine go_iload_n (pc := 26) rfl dX8_procedure_26 ?_
            refine go_goto (pc := 27) (tgt := 42) (by decide) dX8_procedure_27 ?_
            refine gi_iast (pc := 42) (lo := -2147483648) (hi := 2147483647) (len := 192) hvx e29 (ti_rfl l3) rfl (by omega) (by omega) (fun _ => rfl) (ti_ge (ti_rfl l3)) (ti_le2 (ti_rfl l3)) (by decide) dX8_procedure_42 (fun h46 hv46 hv46e => ?_)
            refine gf_iinc (pc := 43) (Nat.le_of_ble_eq_true rfl) rfl (ti_rfl l5) (ti_c (by decide)) (by omega) (by omega) dX8_procedure_43 (fun v47 e48 => ?_)
            refine go_lv (lv2 := [(0, .ref 70), (1, .int l1), (2, .int l2), (3, .int l3), (4, .int l4), (5, .int v47)]) rfl ?_
            refine go_goto (pc := 46) (tgt := 3) (by decide) dX8_procedure_46 ?_
            have z49 : (v47 : Int32).toInt = (l5.toInt + 1) := e48
            have g50 : (0 : Int) ≤ (h46.2.1 70 53).toInt := (hv46.2.1 70 53).1
            have g51 : (h46.2.1 70 53).toInt ≤ 3000 := (hv46.2.1 70 53).2
            have g52 : (h46.2.1 70 53).toInt = u70_53.toInt := by rw [← (show u70_53 = h46.2.1 70 53 from (show u70_53 = h46.2.1 70 53 from by rw [hv46e]; exact (g_iI rfl u70_53w.symm).symm))] <;> exact (ti_rfl u70_53)
            exact go_lv rfl (ih l1 l2 l3 l4 v47 h46 hv46 (by omega) (by omega) (by omega) (by omega) (by omega) (by omega) (by omega) (by omega) (by omega) (by omega) (by omega) (by omega))
  refine go_iconst (pc := 0) (v := 0) (by decide) dX8_procedure_0 ?_
  refine go_istore (pc := 1) (Nat.le_of_ble_eq_true rfl) dX8_procedure_1 (go_lv (lv2 := [(0, .ref 70), (1, .int a2), (2, .int a3), (3, .int a4), (4, .int a5), (5, .int 0)]) rfl ?_)
  have z53 : (0 : Int32).toInt = 0 := (ti_c (v := 0) (a := 0) (by decide))
  have g54 : (0 : Int) ≤ (h.2.1 70 53).toInt := (hv.2.1 70 53).1
  have g55 : (h.2.1 70 53).toInt ≤ 3000 := (hv.2.1 70 53).2
  exact go_lv rfl ((key 37) a2 a3 a4 a5 0 h hv (by omega) (by omega) (by omega) (by omega) (by omega) (by omega) (by omega) (by omega) (by omega) (by omega) (by omega) (by omega))
