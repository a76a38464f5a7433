theorem zf_step {F G : FN} {S p : Int} {x y : Int32} (hS : 0 ≤ S) (h0 : 0 ≤ p) (h : ∀ k : Int, 0 ≤ k → k < p → V F 101 (5 * S + k) = 0 ∧ V F 102 (5 * S + k) = 0) (hG : G = w1 (w1 F 101 (5 * S + p) x) 102 (5 * S + p) y) (hx : x.toInt = 0) (hy : y.toInt = 0) : ∀ k : Int, 0 ≤ k → k < p + 1 → V G 101 (5 * S + k) = 0 ∧ V G 102 (5 * S + k) = 0 := by
  intro k h1 h2
  rw [hG]
  by_cases q : k = p
  · rw [q, V_eq, V_ne (by omega), V_eq]; exact ⟨hx, hy⟩
  · rw [V_ne (c := 102) (c' := 101) (by omega), V_nj (c := 101) (c' := 101) (by omega) (by omega) (by omega), V_nj (c := 102) (c' := 102) (by omega) (by omega) (by omega), V_ne (c := 101) (c' := 102) (by omega)]
    exact h k h1 (by omega)
theorem FI.zero {F : FN} {S p : Int} (hp : 5 ≤ p) (h : ∀ k : Int, 0 ≤ k → k < p → V F 101 (5 * S + k) = 0 ∧ V F 102 (5 * S + k) = 0) : FI F S := by
  intro k h1 h2
  have := h k h1 (by omega)
  exact ⟨fun q => by omega, fun q => by omega⟩
theorem dX8_comesTo_0 : decode cX8_comesTo 0 = .ok (.aload_n 0, 1) := by decide +kernel
theorem dX8_comesTo_1 : decode cX8_comesTo 1 = .ok (.getfield 98, 3) := by decide +kernel
theorem dX8_comesTo_4 : decode cX8_comesTo 4 = .ok (.iconst 5, 1) := by decide +kernel
theorem dX8_comesTo_5 : decode cX8_comesTo 5 = .ok (.aload_n 0, 1) := by decide +kernel
theorem dX8_comesTo_6 : decode cX8_comesTo 6 = .ok (.getfield 187, 3) := by decide +kernel
theorem dX8_comesTo_9 : decode cX8_comesTo 9 = .ok (.imul, 1) := by decide +kernel
theorem dX8_comesTo_10 : decode cX8_comesTo 10 = .ok (.iload_n 1, 1) := by decide +kernel
theorem dX8_comesTo_11 : decode cX8_comesTo 11 = .ok (.iadd, 1) := by decide +kernel
theorem dX8_comesTo_12 : decode cX8_comesTo 12 = .ok (.iaload, 1) := by decide +kernel
theorem dX8_comesTo_13 : decode cX8_comesTo 13 = .ok (.istore_n 3, 1) := by decide +kernel
theorem dX8_comesTo_14 : decode cX8_comesTo 14 = .ok (.iload_n 3, 1) := by decide +kernel
theorem dX8_comesTo_15 : decode cX8_comesTo 15 = .ok (.iconst (-1), 1) := by decide +kernel
theorem dX8_comesTo_16 : decode cX8_comesTo 16 = .ok (.if_icmp .ne 13, 3) := by decide +kernel
theorem dX8_comesTo_19 : decode cX8_comesTo 19 = .ok (.iload_n 2, 1) := by decide +kernel
theorem dX8_comesTo_20 : decode cX8_comesTo 20 = .ok (.ifCond .ne 7, 3) := by decide +kernel
theorem dX8_comesTo_23 : decode cX8_comesTo 23 = .ok (.iconst 1, 1) := by decide +kernel
theorem dX8_comesTo_24 : decode cX8_comesTo 24 = .ok (.goto 4, 3) := by decide +kernel
theorem dX8_comesTo_27 : decode cX8_comesTo 27 = .ok (.iconst 0, 1) := by decide +kernel
theorem dX8_comesTo_28 : decode cX8_comesTo 28 = .ok (.ireturn, 1) := by decide +kernel
theorem dX8_comesTo_29 : decode cX8_comesTo 29 = .ok (.lconst 1, 1) := by decide +kernel
theorem dX8_comesTo_30 : decode cX8_comesTo 30 = .ok (.iload_n 3, 1) := by decide +kernel
theorem dX8_comesTo_31 : decode cX8_comesTo 31 = .ok (.lshl, 1) := by decide +kernel
theorem dX8_comesTo_32 : decode cX8_comesTo 32 = .ok (.lstore 4, 2) := by decide +kernel
theorem dX8_comesTo_34 : decode cX8_comesTo 34 = .ok (.lconst 0, 1) := by decide +kernel
theorem dX8_comesTo_35 : decode cX8_comesTo 35 = .ok (.lstore 6, 2) := by decide +kernel
theorem dX8_comesTo_37 : decode cX8_comesTo 37 = .ok (.iconst 0, 1) := by decide +kernel
theorem dX8_comesTo_38 : decode cX8_comesTo 38 = .ok (.istore 8, 2) := by decide +kernel
theorem dX8_comesTo_40 : decode cX8_comesTo 40 = .ok (.lload 6, 2) := by decide +kernel
theorem dX8_comesTo_42 : decode cX8_comesTo 42 = .ok (.lload 4, 2) := by decide +kernel
theorem dX8_comesTo_44 : decode cX8_comesTo 44 = .ok (.lcmp, 1) := by decide +kernel
theorem dX8_comesTo_45 : decode cX8_comesTo 45 = .ok (.ifCond .eq 158, 3) := by decide +kernel
theorem dX8_comesTo_48 : decode cX8_comesTo 48 = .ok (.lload 4, 2) := by decide +kernel
theorem dX8_comesTo_50 : decode cX8_comesTo 50 = .ok (.lstore 6, 2) := by decide +kernel
theorem dX8_comesTo_52 : decode cX8_comesTo 52 = .ok (.iconst 0, 1) := by decide +kernel
theorem dX8_comesTo_53 : decode cX8_comesTo 53 = .ok (.istore 9, 2) := by decide +kernel
theorem dX8_comesTo_55 : decode cX8_comesTo 55 = .ok (.iload 9, 2) := by decide +kernel
theorem dX8_comesTo_57 : decode cX8_comesTo 57 = .ok (.aload_n 0, 1) := by decide +kernel
theorem dX8_comesTo_58 : decode cX8_comesTo 58 = .ok (.getfield 23, 3) := by decide +kernel
theorem dX8_comesTo_61 : decode cX8_comesTo 61 = .ok (.aload_n 0, 1) := by decide +kernel
theorem dX8_comesTo_62 : decode cX8_comesTo 62 = .ok (.getfield 187, 3) := by decide +kernel
theorem dX8_comesTo_65 : decode cX8_comesTo 65 = .ok (.iaload, 1) := by decide +kernel
theorem dX8_comesTo_66 : decode cX8_comesTo 66 = .ok (.if_icmp .ge 134, 3) := by decide +kernel
theorem dX8_comesTo_69 : decode cX8_comesTo 69 = .ok (.iconst 0, 1) := by decide +kernel
theorem dX8_comesTo_70 : decode cX8_comesTo 70 = .ok (.istore 10, 2) := by decide +kernel
theorem dX8_comesTo_72 : decode cX8_comesTo 72 = .ok (.iload 10, 2) := by decide +kernel
theorem dX8_comesTo_74 : decode cX8_comesTo 74 = .ok (.iconst 2, 1) := by decide +kernel
theorem dX8_comesTo_75 : decode cX8_comesTo 75 = .ok (.if_icmp .ge 119, 3) := by decide +kernel
theorem dX8_comesTo_78 : decode cX8_comesTo 78 = .ok (.lload 4, 2) := by decide +kernel
theorem dX8_comesTo_80 : decode cX8_comesTo 80 = .ok (.iload 9, 2) := by decide +kernel
theorem dX8_comesTo_82 : decode cX8_comesTo 82 = .ok (.invokestatic 280, 3) := by decide +kernel
theorem dX8_comesTo_85 : decode cX8_comesTo 85 = .ok (.ifCond .eq 109, 3) := by decide +kernel
theorem dX8_comesTo_88 : decode cX8_comesTo 88 = .ok (.aload_n 0, 1) := by decide +kernel
theorem dX8_comesTo_89 : decode cX8_comesTo 89 = .ok (.iload 9, 2) := by decide +kernel
theorem dX8_comesTo_91 : decode cX8_comesTo 91 = .ok (.iload 10, 2) := by decide +kernel
theorem dX8_comesTo_93 : decode cX8_comesTo 93 = .ok (.invokevirtual 284, 3) := by decide +kernel
theorem dX8_comesTo_96 : decode cX8_comesTo 96 = .ok (.istore 11, 2) := by decide +kernel
theorem dX8_comesTo_98 : decode cX8_comesTo 98 = .ok (.iload 10, 2) := by decide +kernel
theorem dX8_comesTo_100 : decode cX8_comesTo 100 = .ok (.iconst 1, 1) := by decide +kernel
theorem dX8_comesTo_101 : decode cX8_comesTo 101 = .ok (.if_icmp .ne 46, 3) := by decide +kernel
theorem dX8_comesTo_104 : decode cX8_comesTo 104 = .ok (.aload_n 0, 1) := by decide +kernel
theorem dX8_comesTo_105 : decode cX8_comesTo 105 = .ok (.iload 9, 2) := by decide +kernel
theorem dX8_comesTo_107 : decode cX8_comesTo 107 = .ok (.invokevirtual 271, 3) := by decide +kernel
theorem dX8_comesTo_110 : decode cX8_comesTo 110 = .ok (.iconst 4, 1) := by decide +kernel
theorem dX8_comesTo_111 : decode cX8_comesTo 111 = .ok (.if_icmp .eq 13, 3) := by decide +kernel
theorem dX8_comesTo_114 : decode cX8_comesTo 114 = .ok (.aload_n 0, 1) := by decide +kernel
theorem dX8_comesTo_115 : decode cX8_comesTo 115 = .ok (.iload 9, 2) := by decide +kernel
theorem dX8_comesTo_117 : decode cX8_comesTo 117 = .ok (.invokevirtual 271, 3) := by decide +kernel
theorem dX8_comesTo_120 : decode cX8_comesTo 120 = .ok (.iconst 1, 1) := by decide +kernel
theorem dX8_comesTo_121 : decode cX8_comesTo 121 = .ok (.if_icmp .ne 26, 3) := by decide +kernel
theorem dX8_comesTo_124 : decode cX8_comesTo 124 = .ok (.aload_n 0, 1) := by decide +kernel
theorem dX8_comesTo_125 : decode cX8_comesTo 125 = .ok (.getfield 95, 3) := by decide +kernel
theorem dX8_comesTo_128 : decode cX8_comesTo 128 = .ok (.bipush 40, 2) := by decide +kernel
theorem dX8_comesTo_130 : decode cX8_comesTo 130 = .ok (.aload_n 0, 1) := by decide +kernel
theorem dX8_comesTo_131 : decode cX8_comesTo 131 = .ok (.getfield 187, 3) := by decide +kernel
theorem dX8_comesTo_134 : decode cX8_comesTo 134 = .ok (.imul, 1) := by decide +kernel
theorem dX8_comesTo_135 : decode cX8_comesTo 135 = .ok (.iload 9, 2) := by decide +kernel
theorem dX8_comesTo_137 : decode cX8_comesTo 137 = .ok (.iadd, 1) := by decide +kernel
theorem dX8_comesTo_138 : decode cX8_comesTo 138 = .ok (.iaload, 1) := by decide +kernel
theorem dX8_comesTo_139 : decode cX8_comesTo 139 = .ok (.iconst (-1), 1) := by decide +kernel
theorem dX8_comesTo_140 : decode cX8_comesTo 140 = .ok (.if_icmp .ne 7, 3) := by decide +kernel
theorem dX8_comesTo_143 : decode cX8_comesTo 143 = .ok (.iconst 1, 1) := by decide +kernel
theorem dX8_comesTo_144 : decode cX8_comesTo 144 = .ok (.goto 4, 3) := by decide +kernel
theorem dX8_comesTo_147 : decode cX8_comesTo 147 = .ok (.iconst 0, 1) := by decide +kernel
theorem dX8_comesTo_148 : decode cX8_comesTo 148 = .ok (.istore 12, 2) := by decide +kernel
theorem dX8_comesTo_150 : decode cX8_comesTo 150 = .ok (.iload 11, 2) := by decide +kernel
theorem dX8_comesTo_152 : decode cX8_comesTo 152 = .ok (.ifCond .lt 12, 3) := by decide +kernel
theorem dX8_comesTo_155 : decode cX8_comesTo 155 = .ok (.lload 4, 2) := by decide +kernel
theorem dX8_comesTo_157 : decode cX8_comesTo 157 = .ok (.lconst 1, 1) := by decide +kernel
theorem dX8_comesTo_158 : decode cX8_comesTo 158 = .ok (.iload 11, 2) := by decide +kernel
theorem dX8_comesTo_160 : decode cX8_comesTo 160 = .ok (.lshl, 1) := by decide +kernel
theorem dX8_comesTo_161 : decode cX8_comesTo 161 = .ok (.lor, 1) := by decide +kernel
theorem dX8_comesTo_162 : decode cX8_comesTo 162 = .ok (.lstore 4, 2) := by decide +kernel
theorem dX8_comesTo_164 : decode cX8_comesTo 164 = .ok (.iload 8, 2) := by decide +kernel
theorem dX8_comesTo_166 : decode cX8_comesTo 166 = .ok (.ifCond .ne 15, 3) := by decide +kernel
theorem dX8_comesTo_169 : decode cX8_comesTo 169 = .ok (.iload 11, 2) := by decide +kernel
theorem dX8_comesTo_171 : decode cX8_comesTo 171 = .ok (.iconst (-1), 1) := by decide +kernel
theorem dX8_comesTo_172 : decode cX8_comesTo 172 = .ok (.if_icmp .ne 13, 3) := by decide +kernel
theorem dX8_comesTo_175 : decode cX8_comesTo 175 = .ok (.iload 12, 2) := by decide +kernel
theorem dX8_comesTo_177 : decode cX8_comesTo 177 = .ok (.iload_n 2, 1) := by decide +kernel
theorem dX8_comesTo_178 : decode cX8_comesTo 178 = .ok (.if_icmp .ne 7, 3) := by decide +kernel
theorem dX8_comesTo_181 : decode cX8_comesTo 181 = .ok (.iconst 1, 1) := by decide +kernel
theorem dX8_comesTo_182 : decode cX8_comesTo 182 = .ok (.goto 4, 3) := by decide +kernel
theorem dX8_comesTo_185 : decode cX8_comesTo 185 = .ok (.iconst 0, 1) := by decide +kernel
theorem dX8_comesTo_186 : decode cX8_comesTo 186 = .ok (.istore 8, 2) := by decide +kernel
theorem dX8_comesTo_188 : decode cX8_comesTo 188 = .ok (.iinc 10 1, 3) := by decide +kernel
theorem dX8_comesTo_191 : decode cX8_comesTo 191 = .ok (.goto (-119), 3) := by decide +kernel
theorem dX8_comesTo_194 : decode cX8_comesTo 194 = .ok (.iinc 9 1, 3) := by decide +kernel
theorem dX8_comesTo_197 : decode cX8_comesTo 197 = .ok (.goto (-142), 3) := by decide +kernel
theorem dX8_comesTo_200 : decode cX8_comesTo 200 = .ok (.goto (-160), 3) := by decide +kernel
theorem dX8_comesTo_203 : decode cX8_comesTo 203 = .ok (.iload 8, 2) := by decide +kernel
theorem dX8_comesTo_205 : decode cX8_comesTo 205 = .ok (.ireturn, 1) := by decide +kernel
theorem dX8_laysMay_0 : decode cX8_laysMay 0 = .ok (.iconst 0, 1) := by decide +kernel
theorem dX8_laysMay_1 : decode cX8_laysMay 1 = .ok (.istore_n 1, 1) := by decide +kernel
theorem dX8_laysMay_2 : decode cX8_laysMay 2 = .ok (.iload_n 1, 1) := by decide +kernel
theorem dX8_laysMay_3 : decode cX8_laysMay 3 = .ok (.iconst 5, 1) := by decide +kernel
theorem dX8_laysMay_4 : decode cX8_laysMay 4 = .ok (.if_icmp .ge 37, 3) := by decide +kernel
theorem dX8_laysMay_7 : decode cX8_laysMay 7 = .ok (.aload_n 0, 1) := by decide +kernel
theorem dX8_laysMay_8 : decode cX8_laysMay 8 = .ok (.getfield 101, 3) := by decide +kernel
theorem dX8_laysMay_11 : decode cX8_laysMay 11 = .ok (.iconst 5, 1) := by decide +kernel
theorem dX8_laysMay_12 : decode cX8_laysMay 12 = .ok (.aload_n 0, 1) := by decide +kernel
theorem dX8_laysMay_13 : decode cX8_laysMay 13 = .ok (.getfield 187, 3) := by decide +kernel
theorem dX8_laysMay_16 : decode cX8_laysMay 16 = .ok (.imul, 1) := by decide +kernel
theorem dX8_laysMay_17 : decode cX8_laysMay 17 = .ok (.iload_n 1, 1) := by decide +kernel
theorem dX8_laysMay_18 : decode cX8_laysMay 18 = .ok (.iadd, 1) := by decide +kernel
theorem dX8_laysMay_19 : decode cX8_laysMay 19 = .ok (.iconst 0, 1) := by decide +kernel
theorem dX8_laysMay_20 : decode cX8_laysMay 20 = .ok (.bastore, 1) := by decide +kernel
theorem dX8_laysMay_21 : decode cX8_laysMay 21 = .ok (.aload_n 0, 1) := by decide +kernel
theorem dX8_laysMay_22 : decode cX8_laysMay 22 = .ok (.getfield 105, 3) := by decide +kernel
theorem dX8_laysMay_25 : decode cX8_laysMay 25 = .ok (.iconst 5, 1) := by decide +kernel
theorem dX8_laysMay_26 : decode cX8_laysMay 26 = .ok (.aload_n 0, 1) := by decide +kernel
theorem dX8_laysMay_27 : decode cX8_laysMay 27 = .ok (.getfield 187, 3) := by decide +kernel
theorem dX8_laysMay_30 : decode cX8_laysMay 30 = .ok (.imul, 1) := by decide +kernel
theorem dX8_laysMay_31 : decode cX8_laysMay 31 = .ok (.iload_n 1, 1) := by decide +kernel
theorem dX8_laysMay_32 : decode cX8_laysMay 32 = .ok (.iadd, 1) := by decide +kernel
theorem dX8_laysMay_33 : decode cX8_laysMay 33 = .ok (.iconst 0, 1) := by decide +kernel
theorem dX8_laysMay_34 : decode cX8_laysMay 34 = .ok (.bastore, 1) := by decide +kernel
theorem dX8_laysMay_35 : decode cX8_laysMay 35 = .ok (.iinc 1 1, 3) := by decide +kernel
theorem dX8_laysMay_38 : decode cX8_laysMay 38 = .ok (.goto (-36), 3) := by decide +kernel
theorem dX8_laysMay_41 : decode cX8_laysMay 41 = .ok (.iconst 1, 1) := by decide +kernel
theorem dX8_laysMay_42 : decode cX8_laysMay 42 = .ok (.istore_n 1, 1) := by decide +kernel
theorem dX8_laysMay_43 : decode cX8_laysMay 43 = .ok (.iload_n 1, 1) := by decide +kernel
theorem dX8_laysMay_44 : decode cX8_laysMay 44 = .ok (.ifCond .eq 102, 3) := by decide +kernel
theorem dX8_laysMay_47 : decode cX8_laysMay 47 = .ok (.iconst 0, 1) := by decide +kernel
theorem dX8_laysMay_48 : decode cX8_laysMay 48 = .ok (.istore_n 1, 1) := by decide +kernel
theorem dX8_laysMay_49 : decode cX8_laysMay 49 = .ok (.iconst 0, 1) := by decide +kernel
theorem dX8_laysMay_50 : decode cX8_laysMay 50 = .ok (.istore_n 2, 1) := by decide +kernel
theorem dX8_laysMay_51 : decode cX8_laysMay 51 = .ok (.iload_n 2, 1) := by decide +kernel
theorem dX8_laysMay_52 : decode cX8_laysMay 52 = .ok (.aload_n 0, 1) := by decide +kernel
theorem dX8_laysMay_53 : decode cX8_laysMay 53 = .ok (.getfield 26, 3) := by decide +kernel
theorem dX8_laysMay_56 : decode cX8_laysMay 56 = .ok (.aload_n 0, 1) := by decide +kernel
theorem dX8_laysMay_57 : decode cX8_laysMay 57 = .ok (.getfield 187, 3) := by decide +kernel
theorem dX8_laysMay_60 : decode cX8_laysMay 60 = .ok (.iaload, 1) := by decide +kernel
theorem dX8_laysMay_61 : decode cX8_laysMay 61 = .ok (.if_icmp .ge 82, 3) := by decide +kernel
theorem dX8_laysMay_64 : decode cX8_laysMay 64 = .ok (.iconst 5, 1) := by decide +kernel
theorem dX8_laysMay_65 : decode cX8_laysMay 65 = .ok (.aload_n 0, 1) := by decide +kernel
theorem dX8_laysMay_66 : decode cX8_laysMay 66 = .ok (.getfield 187, 3) := by decide +kernel
theorem dX8_laysMay_69 : decode cX8_laysMay 69 = .ok (.imul, 1) := by decide +kernel
theorem dX8_laysMay_70 : decode cX8_laysMay 70 = .ok (.iload_n 2, 1) := by decide +kernel
theorem dX8_laysMay_71 : decode cX8_laysMay 71 = .ok (.iadd, 1) := by decide +kernel
theorem dX8_laysMay_72 : decode cX8_laysMay 72 = .ok (.istore_n 3, 1) := by decide +kernel
theorem dX8_laysMay_73 : decode cX8_laysMay 73 = .ok (.aload_n 0, 1) := by decide +kernel
theorem dX8_laysMay_74 : decode cX8_laysMay 74 = .ok (.iload_n 2, 1) := by decide +kernel
theorem dX8_laysMay_75 : decode cX8_laysMay 75 = .ok (.iconst 0, 1) := by decide +kernel
theorem dX8_laysMay_76 : decode cX8_laysMay 76 = .ok (.invokevirtual 287, 3) := by decide +kernel
theorem dX8_laysMay_79 : decode cX8_laysMay 79 = .ok (.istore 4, 2) := by decide +kernel
theorem dX8_laysMay_81 : decode cX8_laysMay 81 = .ok (.aload_n 0, 1) := by decide +kernel
theorem dX8_laysMay_82 : decode cX8_laysMay 82 = .ok (.iload_n 2, 1) := by decide +kernel
theorem dX8_laysMay_83 : decode cX8_laysMay 83 = .ok (.iconst 1, 1) := by decide +kernel
theorem dX8_laysMay_84 : decode cX8_laysMay 84 = .ok (.invokevirtual 287, 3) := by decide +kernel
theorem dX8_laysMay_87 : decode cX8_laysMay 87 = .ok (.istore 5, 2) := by decide +kernel
theorem dX8_laysMay_89 : decode cX8_laysMay 89 = .ok (.iload_n 1, 1) := by decide +kernel
theorem dX8_laysMay_90 : decode cX8_laysMay 90 = .ok (.ifCond .ne 25, 3) := by decide +kernel
theorem dX8_laysMay_93 : decode cX8_laysMay 93 = .ok (.iload 4, 2) := by decide +kernel
theorem dX8_laysMay_95 : decode cX8_laysMay 95 = .ok (.aload_n 0, 1) := by decide +kernel
theorem dX8_laysMay_96 : decode cX8_laysMay 96 = .ok (.getfield 101, 3) := by decide +kernel
theorem dX8_laysMay_99 : decode cX8_laysMay 99 = .ok (.iload_n 3, 1) := by decide +kernel
theorem dX8_laysMay_100 : decode cX8_laysMay 100 = .ok (.baload, 1) := by decide +kernel
theorem dX8_laysMay_101 : decode cX8_laysMay 101 = .ok (.if_icmp .ne 14, 3) := by decide +kernel
theorem dX8_laysMay_104 : decode cX8_laysMay 104 = .ok (.iload 5, 2) := by decide +kernel
theorem dX8_laysMay_106 : decode cX8_laysMay 106 = .ok (.aload_n 0, 1) := by decide +kernel
theorem dX8_laysMay_107 : decode cX8_laysMay 107 = .ok (.getfield 105, 3) := by decide +kernel
theorem dX8_laysMay_110 : decode cX8_laysMay 110 = .ok (.iload_n 3, 1) := by decide +kernel
theorem dX8_laysMay_111 : decode cX8_laysMay 111 = .ok (.baload, 1) := by decide +kernel
theorem dX8_laysMay_112 : decode cX8_laysMay 112 = .ok (.if_icmp .eq 7, 3) := by decide +kernel
theorem dX8_laysMay_115 : decode cX8_laysMay 115 = .ok (.iconst 1, 1) := by decide +kernel
theorem dX8_laysMay_116 : decode cX8_laysMay 116 = .ok (.goto 4, 3) := by decide +kernel
theorem dX8_laysMay_119 : decode cX8_laysMay 119 = .ok (.iconst 0, 1) := by decide +kernel
theorem dX8_laysMay_120 : decode cX8_laysMay 120 = .ok (.istore_n 1, 1) := by decide +kernel
theorem dX8_laysMay_121 : decode cX8_laysMay 121 = .ok (.aload_n 0, 1) := by decide +kernel
theorem dX8_laysMay_122 : decode cX8_laysMay 122 = .ok (.getfield 101, 3) := by decide +kernel
theorem dX8_laysMay_125 : decode cX8_laysMay 125 = .ok (.iload_n 3, 1) := by decide +kernel
theorem dX8_laysMay_126 : decode cX8_laysMay 126 = .ok (.iload 4, 2) := by decide +kernel
theorem dX8_laysMay_128 : decode cX8_laysMay 128 = .ok (.bastore, 1) := by decide +kernel
theorem dX8_laysMay_129 : decode cX8_laysMay 129 = .ok (.aload_n 0, 1) := by decide +kernel
theorem dX8_laysMay_130 : decode cX8_laysMay 130 = .ok (.getfield 105, 3) := by decide +kernel
theorem dX8_laysMay_133 : decode cX8_laysMay 133 = .ok (.iload_n 3, 1) := by decide +kernel
theorem dX8_laysMay_134 : decode cX8_laysMay 134 = .ok (.iload 5, 2) := by decide +kernel
theorem dX8_laysMay_136 : decode cX8_laysMay 136 = .ok (.bastore, 1) := by decide +kernel
theorem dX8_laysMay_137 : decode cX8_laysMay 137 = .ok (.iinc 2 1, 3) := by decide +kernel
theorem dX8_laysMay_140 : decode cX8_laysMay 140 = .ok (.goto (-89), 3) := by decide +kernel
theorem dX8_laysMay_143 : decode cX8_laysMay 143 = .ok (.goto (-100), 3) := by decide +kernel
theorem dX8_laysMay_146 : decode cX8_laysMay 146 = .ok (.return_, 1) := by decide +kernel
set_option maxHeartbeats 4000000 in
set_option maxRecDepth 100000 in
theorem s_X8_comesTo (l : Launch) (d : Nat) {P : PP} {h : HP} (hv : Iv P h) (a2 : Int32) (a2l : 0 ≤ a2.toInt) (a2u : a2.toInt ≤ 4) (a3 : Int32) (a3l : 0 ≤ a3.toInt) (a3u : a3.toInt ≤ 1) (ckf : CKF h.2.1) : Mt l yX8_comesTo cX8_comesTo 13 (some .boolean) (d + 5) [.ref 70, .int a2, .int a3] h 0 0 (fun r h' => ∃ v : Int32, r = some (.int v) ∧ 0 ≤ v.toInt ∧ v.toInt ≤ 1 ∧ h = h' ∧ ((v.toInt = 1 → CT h.2.1 (h.2.1 70 6).toInt a2.toInt a3.toInt) ∧ (v.toInt = 0 → ¬ CT h.2.1 (h.2.1 70 6).toInt a2.toInt a3.toInt))) := by
  refine Mt_iv hv (by decide) (Nat.le_of_ble_eq_true rfl) ?_
  show Go l RX8 cX8_comesTo 13 (g_rm (d + 5) 0 0) "comesTo" (some .boolean) 117 0 0 (fun _ _ => True) (fun r h' => ∃ v : Int32, r = some (.int v) ∧ 0 ≤ v.toInt ∧ v.toInt ≤ 1 ∧ h = h' ∧ ((v.toInt = 1 → CT h.2.1 (h.2.1 70 6).toInt a2.toInt a3.toInt) ∧ (v.toInt = 0 → ¬ CT h.2.1 (h.2.1 70 6).toInt a2.toInt a3.toInt))) 0 0 [(0, .ref 70), (1, .int a2), (2, .int a3)] [] h
  obtain ⟨S, hS⟩ : ∃ S : Int, S = (h.2.1 70 6).toInt := ⟨_, rfl⟩
  have S0 : 0 ≤ S := by rw [hS]; exact (hv.2.1 70 6).1
  have S1 : S ≤ 1 := by rw [hS]; exact (hv.2.1 70 6).2
  have key : ∀ n : Nat, (∀ (l2 : Int32) (l4 : Int64) (l6 : Int64) (l8 : Int32), 0 ≤ l2.toInt → l2.toInt ≤ 1 → 0 ≤ l8.toInt → l8.toInt ≤ 1 → (l2.toInt = a3.toInt) → (CI h.2.1 S a2.toInt a3.toInt l4 l6 l8.toInt (V h.2.1 75 S) 0) → (0 ≤ un l6 ∧ un l6 < 18446744073709551616) → (1000 * (18446744073709551616 - un l6) + 0 : Int) < n → Go l RX8 cX8_comesTo 13 (g_rm (d + 5) 0 0) "comesTo" (some .boolean) 117 0 0 (fun _ _ => True) (fun r h' => ∃ v : Int32, r = some (.int v) ∧ 0 ≤ v.toInt ∧ v.toInt ≤ 1 ∧ h = h' ∧ ((v.toInt = 1 → CT h.2.1 (h.2.1 70 6).toInt a2.toInt a3.toInt) ∧ (v.toInt = 0 → ¬ CT h.2.1 (h.2.1 70 6).toInt a2.toInt a3.toInt))) 0 40 [(0, .ref 70), (2, .int l2), (4, .long l4), (6, .long l6), (8, .int l8)] [] h) ∧ (∀ (l2 : Int32) (l4 : Int64) (l6 : Int64) (l8 : Int32) (l9 : Int32), 0 ≤ l2.toInt → l2.toInt ≤ 1 → 0 ≤ l8.toInt → l8.toInt ≤ 1 → 0 ≤ l9.toInt → l9.toInt ≤ 40 → (l2.toInt = a3.toInt) → (CI h.2.1 S a2.toInt a3.toInt l4 l6 l8.toInt l9.toInt 0) → (0 ≤ un l6 ∧ un l6 < 18446744073709551616) → (1000 * (18446744073709551616 - un l6) + 10 * (40 - l9.toInt) + 9 : Int) < n → Go l RX8 cX8_comesTo 13 (g_rm (d + 5) 0 0) "comesTo" (some .boolean) 117 0 0 (fun _ _ => True) (fun r h' => ∃ v : Int32, r = some (.int v) ∧ 0 ≤ v.toInt ∧ v.toInt ≤ 1 ∧ h = h' ∧ ((v.toInt = 1 → CT h.2.1 (h.2.1 70 6).toInt a2.toInt a3.toInt) ∧ (v.toInt = 0 → ¬ CT h.2.1 (h.2.1 70 6).toInt a2.toInt a3.toInt))) 0 55 [(0, .ref 70), (2, .int l2), (4, .long l4), (6, .long l6), (8, .int l8), (9, .int l9)] [] h) ∧ (∀ (l2 : Int32) (l4 : Int64) (l6 : Int64) (l8 : Int32) (l9 : Int32) (l10 : Int32), 0 ≤ l2.toInt → l2.toInt ≤ 1 → 0 ≤ l8.toInt → l8.toInt ≤ 1 → 0 ≤ l9.toInt → l9.toInt ≤ 39 → 0 ≤ l10.toInt → l10.toInt ≤ 2 → (l2.toInt = a3.toInt) → (CI h.2.1 S a2.toInt a3.toInt l4 l6 l8.toInt l9.toInt l10.toInt) → (0 ≤ un l6 ∧ un l6 < 18446744073709551616) → (l9.toInt < V h.2.1 75 S) → (1000 * (18446744073709551616 - un l6) + 10 * (40 - l9.toInt) + 2 * (2 - l10.toInt) + 2 : Int) < n → Go l RX8 cX8_comesTo 13 (g_rm (d + 5) 0 0) "comesTo" (some .boolean) 117 0 0 (fun _ _ => True) (fun r h' => ∃ v : Int32, r = some (.int v) ∧ 0 ≤ v.toInt ∧ v.toInt ≤ 1 ∧ h = h' ∧ ((v.toInt = 1 → CT h.2.1 (h.2.1 70 6).toInt a2.toInt a3.toInt) ∧ (v.toInt = 0 → ¬ CT h.2.1 (h.2.1 70 6).toInt a2.toInt a3.toInt))) 0 72 [(0, .ref 70), (2, .int l2), (4, .long l4), (6, .long l6), (8, .int l8), (9, .int l9), (10, .int l10)] [] h) ∧ (∀ (l2 : Int32) (l4 : Int64) (l6 : Int64) (l8 : Int32) (l9 : Int32) (l10 : Int32) (l11 : Int32) (s0 : Int32), 0 ≤ l2.toInt → l2.toInt ≤ 1 → 0 ≤ l8.toInt → l8.toInt ≤ 1 → 0 ≤ l9.toInt → l9.toInt ≤ 39 → 0 ≤ l10.toInt → l10.toInt ≤ 1 → -2 ≤ l11.toInt → l11.toInt ≤ 39 → 0 ≤ s0.toInt → s0.toInt ≤ 1 → (l2.toInt = a3.toInt) → (CI h.2.1 S a2.toInt a3.toInt l4 l6 l8.toInt l9.toInt l10.toInt) → (0 ≤ un l6 ∧ un l6 < 18446744073709551616) → (l9.toInt < V h.2.1 75 S) → (l11.toInt = wy h.2.1 S l9.toInt l10.toInt) → (s0.toInt = th h.2.1 S l9.toInt l10.toInt) → (bt l4 l9.toInt) → (1000 * (18446744073709551616 - un l6) + 10 * (40 - l9.toInt) + 2 * (2 - l10.toInt) + 1 : Int) < n → Go l RX8 cX8_comesTo 13 (g_rm (d + 5) 0 0) "comesTo" (some .boolean) 117 0 0 (fun _ _ => True) (fun r h' => ∃ v : Int32, r = some (.int v) ∧ 0 ≤ v.toInt ∧ v.toInt ≤ 1 ∧ h = h' ∧ ((v.toInt = 1 → CT h.2.1 (h.2.1 70 6).toInt a2.toInt a3.toInt) ∧ (v.toInt = 0 → ¬ CT h.2.1 (h.2.1 70 6).toInt a2.toInt a3.toInt))) 0 148 [(0, .ref 70), (2, .int l2), (4, .long l4), (6, .long l6), (8, .int l8), (9, .int l9), (10, .int l10), (11, .int l11)] [.int s0] h) := by
    intro n
    induction n with
    | zero => exact ⟨(by intros; omega), (by intros; omega), (by intros; omega), (by intros; omega)⟩
    | succ n ih =>
      refine ⟨?_, ?_, ?_, ?_⟩
      ·
        intro l2 l4 l6 l8 l2l l2u l8l l8u x0 x1 x2 hm
        refine go_lload (pc := 40) rfl dX8_comesTo_40 ?_
        refine go_lload (pc := 42) rfl dX8_comesTo_42 ?_
        refine gx_lcmp (pc := 44) dX8_comesTo_44 (fun v1 v1x => ?_)
        refine gf_if_eq (pc := 45) (tgt := 203) (ti_rfl v1) (by decide) dX8_comesTo_45 (fun q2 => ?_) (fun q2 => ?_)
        ·
          have ue : l6 = l4 := (cmp_eq _ _).mp (by rw [← v1x]; omega)
          refine go_iload (pc := 203) rfl dX8_comesTo_203 ?_
          exact gi_zret (pc := 205) (ti_rfl l8) (by omega) (by omega) ⟨_, rfl, (by rw [show (l8 : Int32).toInt = l8.toInt from (ti_rfl l8)]; omega), (by rw [show (l8 : Int32).toInt = l8.toInt from (ti_rfl l8)]; omega), rfl, (by rw [← hS]; have z := x1; rw [ue] at z; exact CI.fin z (Int.le_refl _))⟩ hv dX8_comesTo_205
        ·
          have ub : ¬ un l6 = un l4 := fun z => absurd (show (v1 : Int32).toInt = 0 from by rw [v1x]; exact (cmp_eq _ _).mpr (un_inj z)) (by omega)
          have ua := x1.2.2.2.2.1
          refine go_lload (pc := 48) rfl dX8_comesTo_48 ?_
          refine go_lstore (pc := 50) (Nat.le_of_ble_eq_true rfl) dX8_comesTo_50 (go_lv (lv2 := [(0, .ref 70), (2, .int l2), (4, .long l4), (6, .long l4), (8, .int l8)]) rfl ?_)
          refine go_iconst (pc := 52) (v := 0) (by decide) dX8_comesTo_52 ?_
          refine go_istore (pc := 53) (Nat.le_of_ble_eq_true rfl) dX8_comesTo_53 (go_lv (lv2 := [(0, .ref 70), (2, .int l2), (4, .long l4), (6, .long l4), (8, .int l8), (9, .int 0)]) rfl ?_)
          have z3 : (0 : Int32).toInt = 0 := (ti_c (v := 0) (a := 0) (by decide))
          exact go_lv rfl (ih.2.1 l2 l4 l4 l8 0  (by omega) (by omega) (by omega) (by omega) (by omega) (by omega) (by omega) (by have e0 : (0 : Int32).toInt = 0 := (by decide); rw [e0]; exact CI.start x1) ⟨un_lo _, un_hi _⟩ (by omega))
      ·
        intro l2 l4 l6 l8 l9 l2l l2u l8l l8u l9l l9u x0 x1 x2 hm
        refine go_iload (pc := 55) rfl dX8_comesTo_55 ?_
        refine go_aload_n (pc := 57) rfl dX8_comesTo_57 ?_
        refine gi_getF (pc := 58) (q := 75) hv fL_X8_23 rfl (Nat.le_of_ble_eq_true rfl) rfl (hv.rf (by decide)) dX8_comesTo_58 ?_
        refine go_aload_n (pc := 61) rfl dX8_comesTo_61 ?_
        refine gi_get (pc := 62) (lo := 0) (hi := 1) hv fL_X8_187 rfl (Nat.le_of_ble_eq_true rfl) rfl rfl dX8_comesTo_62 (fun v4 v4l v4u v4w => ?_)
        have v4S : v4.toInt = S := by rw [v4w, hv.fy (j := 6) (by omega), ← hv.fy (j := 6) (by omega)]; exact hS.symm
        refine gi_iald (pc := 65) (lo := 0) (hi := 40) (len := 2) hv (ti_rfl v4) rfl (by omega) (by omega) (fun _ => rfl) dX8_comesTo_65 (fun v5 v5l v5u v5w => ?_)
        have v5V : v5.toInt = V h.2.1 75 S := by rw [v5w, v4S]; rfl
        refine gf_icmp_ge (pc := 66) (tgt := 200) (ti_rfl l9) (ti_rfl v5) (by decide) dX8_comesTo_66 (fun q6 => ?_) (fun q6 => ?_)
        ·
          refine go_goto (pc := 200) (tgt := 40) (by decide) dX8_comesTo_200 ?_
          exact go_lv rfl (ih.1 l2 l4 l6 l8  (by omega) (by omega) (by omega) (by omega) (by omega) (CI.all x1 (by omega)) ⟨un_lo _, un_hi _⟩ (by omega))
        ·
          refine go_iconst (pc := 69) (v := 0) (by decide) dX8_comesTo_69 ?_
          refine go_istore (pc := 70) (Nat.le_of_ble_eq_true rfl) dX8_comesTo_70 (go_lv (lv2 := [(0, .ref 70), (2, .int l2), (4, .long l4), (6, .long l6), (8, .int l8), (9, .int l9), (10, .int 0)]) rfl ?_)
          have z7 : (0 : Int32).toInt = 0 := (ti_c (v := 0) (a := 0) (by decide))
          exact go_lv rfl (ih.2.2.1 l2 l4 l6 l8 l9 0  (by omega) (by omega) (by omega) (by omega) (by omega) (by omega) (by omega) (by omega) (by omega) (by have e0 : (0 : Int32).toInt = 0 := (by decide); rw [e0]; exact x1) ⟨un_lo _, un_hi _⟩ (by omega) (by omega))
      ·
        intro l2 l4 l6 l8 l9 l10 l2l l2u l8l l8u l9l l9u l10l l10u x0 x1 x2 x3 hm
        refine go_iload (pc := 72) rfl dX8_comesTo_72 ?_
        refine go_iconst (pc := 74) (v := 2) (by decide) dX8_comesTo_74 ?_
        refine gf_icmp_ge (pc := 75) (tgt := 194) (ti_rfl l10) (ti_c (v := 2) (a := 2) (by decide)) (by decide) dX8_comesTo_75 (fun q8 => ?_) (fun q8 => ?_)
        ·
          refine gf_iinc (pc := 194) (Nat.le_of_ble_eq_true rfl) rfl (ti_rfl l9) (ti_c (by decide)) (by omega) (by omega) dX8_comesTo_194 (fun v9 e10 => ?_)
          refine go_lv (lv2 := [(0, .ref 70), (2, .int l2), (4, .long l4), (6, .long l6), (8, .int l8), (9, .int v9), (10, .int l10)]) rfl ?_
          refine go_goto (pc := 197) (tgt := 55) (by decide) dX8_comesTo_197 ?_
          have z11 : (v9 : Int32).toInt = (l9.toInt + 1) := e10
          exact go_lv rfl (ih.2.1 l2 l4 l6 l8 v9  (by omega) (by omega) (by omega) (by omega) (by omega) (by omega) (by omega) (by rw [show (v9 : Int32).toInt = l9.toInt + 1 from e10]; exact CI.next x1 (by omega) (Or.inl (by omega))) ⟨un_lo _, un_hi _⟩ (by omega))
        ·
          refine go_lload (pc := 78) rfl dX8_comesTo_78 ?_
          refine go_iload (pc := 80) rfl dX8_comesTo_80 ?_
          refine go_invS (pc := 82) (sl := 0) (s_X8_has_x l (d + 3) hv l4 l9 (by rw [show (l9 : Int32).toInt = l9.toInt from (ti_rfl l9)]; omega) (by rw [show (l9 : Int32).toInt = l9.toInt from (ti_rfl l9)]; omega)) mL_X8_280 iM_X8_has rfl rfl (Nat.le_of_ble_eq_true rfl) (show d + 3 + 1 + 1 ≤ d + 5 by omega) (show 8 + (3 + 11) + 40 * (d + 3 + 1) ≤ 40 * (d + 5) by omega) (g_c0 hv.ln) (Nat.le_of_ble_eq_true rfl) dX8_comesTo_82 ?_
          intro r h12 hq _
          obtain ⟨v14, rfl, v14l, v14u, rfl, f13⟩ := hq
          refine gf_if_eq (pc := 85) (tgt := 194) (ti_rfl v14) (by decide) dX8_comesTo_85 (fun q15 => ?_) (fun q15 => ?_)
          ·
            refine gf_iinc (pc := 194) (Nat.le_of_ble_eq_true rfl) rfl (ti_rfl l9) (ti_c (by decide)) (by omega) (by omega) dX8_comesTo_194 (fun v16 e17 => ?_)
            refine go_lv (lv2 := [(0, .ref 70), (2, .int l2), (4, .long l4), (6, .long l6), (8, .int l8), (9, .int v16), (10, .int l10)]) rfl ?_
            refine go_goto (pc := 197) (tgt := 55) (by decide) dX8_comesTo_197 ?_
            have z18 : (v16 : Int32).toInt = (l9.toInt + 1) := e17
            exact go_lv rfl (ih.2.1 l2 l4 l6 l8 v16  (by omega) (by omega) (by omega) (by omega) (by omega) (by omega) (by omega) (by rw [show (v16 : Int32).toInt = l9.toInt + 1 from e17]; exact CI.next x1 (by omega) (Or.inr (f13.2 (by omega)))) ⟨un_lo _, un_hi _⟩ (by omega))
          ·
            refine go_aload_n (pc := 88) rfl dX8_comesTo_88 ?_
            refine go_iload (pc := 89) rfl dX8_comesTo_89 ?_
            refine go_iload (pc := 91) rfl dX8_comesTo_91 ?_
            have sM19 : (h.2.1 70 6).toInt = S := by rw [hv.fy (j := 6) (by omega), ← hv.fy (j := 6) (by omega)]; exact hS.symm
            refine go_invV (pc := 93) (sl := 0) (s_X8_way_x l (d + 0) hv l9 (by rw [show (l9 : Int32).toInt = l9.toInt from (ti_rfl l9)]; omega) (by rw [show (l9 : Int32).toInt = l9.toInt from (ti_rfl l9)]; omega) l10 (by rw [show (l10 : Int32).toInt = l10.toInt from (ti_rfl l10)]; omega) (by rw [show (l10 : Int32).toInt = l10.toInt from (ti_rfl l10)]; omega) ckf) mL_X8_284 iM_X8_way sM_X8_way (hv.sh rfl) rfl rfl rfl (Nat.le_of_ble_eq_true rfl) (show d + 0 + 4 + 1 ≤ d + 5 by omega) (show 8 + (4 + 11) + 40 * (d + 0 + 4) ≤ 40 * (d + 5) by omega) (g_c0 hv.ln) (Nat.le_of_ble_eq_true rfl) dX8_comesTo_93 ?_
            intro r h20 hq _
            obtain ⟨v22, rfl, v22l, v22u, rfl, f21⟩ := hq
            rw [sM19] at f21
            refine go_istore (pc := 96) (Nat.le_of_ble_eq_true rfl) dX8_comesTo_96 (go_lv (lv2 := [(0, .ref 70), (2, .int l2), (4, .long l4), (6, .long l6), (8, .int l8), (9, .int l9), (10, .int l10), (11, .int v22)]) rfl ?_)
            refine go_iload (pc := 98) rfl dX8_comesTo_98 ?_
            refine go_iconst (pc := 100) (v := 1) (by decide) dX8_comesTo_100 ?_
            refine gf_icmp_ne (pc := 101) (tgt := 147) (ti_rfl l10) (ti_c (v := 1) (a := 1) (by decide)) (by decide) dX8_comesTo_101 (fun q23 => ?_) (fun q23 => ?_)
            ·
              refine go_iconst (pc := 147) (v := 0) (by decide) dX8_comesTo_147 ?_
              have z24 : (0 : Int32).toInt = 0 := (ti_c (v := 0) (a := 0) (by decide))
              exact go_lv rfl (ih.2.2.2 l2 l4 l6 l8 l9 l10 v22 0  (by omega) (by omega) (by omega) (by omega) (by omega) (by omega) (by omega) (by omega) (by omega) (by omega) (by omega) (by omega) (by omega) x1 ⟨un_lo _, un_hi _⟩ (by omega) f21 (by unfold th; (first | rw [if_neg (by omega)] | rw [if_pos (by omega)]); decide) (f13.1 (by omega)) (by omega))
            ·
              refine go_aload_n (pc := 104) rfl dX8_comesTo_104 ?_
              refine go_iload (pc := 105) rfl dX8_comesTo_105 ?_
              refine go_invV (pc := 107) (sl := 0) (s_X8_kindAt l (d + 2) hv l9 (by rw [show (l9 : Int32).toInt = l9.toInt from (ti_rfl l9)]; omega) (by rw [show (l9 : Int32).toInt = l9.toInt from (ti_rfl l9)]; omega)) mL_X8_271 iM_X8_kindAt sM_X8_kindAt (hv.sh rfl) rfl rfl rfl (Nat.le_of_ble_eq_true rfl) (show d + 2 + 2 + 1 ≤ d + 5 by omega) (show 8 + (2 + 11) + 40 * (d + 2 + 2) ≤ 40 * (d + 5) by omega) (g_c0 hv.ln) (Nat.le_of_ble_eq_true rfl) dX8_comesTo_107 ?_
              intro r h25 hq _
              obtain ⟨v27, rfl, v27l, v27u, rfl, f26⟩ := hq
              have v27K : v27.toInt = V h.2.1 77 (V h.2.1 93 (40 * S + l9.toInt)) := by rw [f26]; unfold g_kd g_it; rw [← hS]; rfl
              refine go_iconst (pc := 110) (v := 4) (by decide) dX8_comesTo_110 ?_
              refine gf_icmp_eq (pc := 111) (tgt := 124) (ti_rfl v27) (ti_c (v := 4) (a := 4) (by decide)) (by decide) dX8_comesTo_111 (fun q28 => ?_) (fun q28 => ?_)
              ·
                refine go_aload_n (pc := 124) rfl dX8_comesTo_124 ?_
                refine gi_getF (pc := 125) (q := 99) hv fL_X8_95 rfl (Nat.le_of_ble_eq_true rfl) rfl (hv.rf (by decide)) dX8_comesTo_125 ?_
                refine go_bipush (pc := 128) (v := 40) (by decide) dX8_comesTo_128 ?_
                refine go_aload_n (pc := 130) rfl dX8_comesTo_130 ?_
                refine gi_get (pc := 131) (lo := 0) (hi := 1) hv fL_X8_187 rfl (Nat.le_of_ble_eq_true rfl) rfl rfl dX8_comesTo_131 (fun v29 v29l v29u v29w => ?_)
                have v29S : v29.toInt = S := by rw [v29w, hv.fy (j := 6) (by omega), ← hv.fy (j := 6) (by omega)]; exact hS.symm
                refine gf_imul (pc := 134) (ti_c (v := 40) (a := 40) (by decide)) (ti_rfl v29) (by omega) (by omega) dX8_comesTo_134 (fun v30 e31 => ?_)
                refine go_iload (pc := 135) rfl dX8_comesTo_135 ?_
                refine gf_iadd (pc := 137) e31 (ti_rfl l9) (by omega) (by omega) dX8_comesTo_137 (fun v32 e33 => ?_)
                refine gi_iald (pc := 138) (lo := -1) (hi := 5) (len := 80) hv e33 rfl (by omega) (by omega) (fun _ => rfl) dX8_comesTo_138 (fun v34 v34l v34u v34w => ?_)
                have v34V : v34.toInt = V h.2.1 99 (((40 * S) + l9.toInt)) := by rw [v34w, v29S]; rfl
                refine go_iconst (pc := 139) (v := (-1)) (by decide) dX8_comesTo_139 ?_
                refine gf_icmp_ne (pc := 140) (tgt := 147) (ti_rfl v34) (ti_c (v := (-1)) (a := (-1)) (by decide)) (by decide) dX8_comesTo_140 (fun q35 => ?_) (fun q35 => ?_)
                ·
                  refine go_iconst (pc := 147) (v := 0) (by decide) dX8_comesTo_147 ?_
                  have z36 : (0 : Int32).toInt = 0 := (ti_c (v := 0) (a := 0) (by decide))
                  exact go_lv rfl (ih.2.2.2 l2 l4 l6 l8 l9 l10 v22 0  (by omega) (by omega) (by omega) (by omega) (by omega) (by omega) (by omega) (by omega) (by omega) (by omega) (by omega) (by omega) (by omega) x1 ⟨un_lo _, un_hi _⟩ (by omega) f21 (by unfold th; (first | rw [if_neg (by omega)] | rw [if_pos (by omega)]); decide) (f13.1 (by omega)) (by omega))
                ·
                  refine go_iconst (pc := 143) (v := 1) (by decide) dX8_comesTo_143 ?_
                  refine go_goto (pc := 144) (tgt := 148) (by decide) dX8_comesTo_144 ?_
                  have z37 : (1 : Int32).toInt = 1 := (ti_c (v := 1) (a := 1) (by decide))
                  exact go_lv rfl (ih.2.2.2 l2 l4 l6 l8 l9 l10 v22 1  (by omega) (by omega) (by omega) (by omega) (by omega) (by omega) (by omega) (by omega) (by omega) (by omega) (by omega) (by omega) (by omega) x1 ⟨un_lo _, un_hi _⟩ (by omega) f21 (by unfold th; (first | rw [if_neg (by omega)] | rw [if_pos (by omega)]); decide) (f13.1 (by omega)) (by omega))
              ·
                refine go_aload_n (pc := 114) rfl dX8_comesTo_114 ?_
                refine go_iload (pc := 115) rfl dX8_comesTo_115 ?_
                refine go_invV (pc := 117) (sl := 0) (s_X8_kindAt l (d + 2) hv l9 (by rw [show (l9 : Int32).toInt = l9.toInt from (ti_rfl l9)]; omega) (by rw [show (l9 : Int32).toInt = l9.toInt from (ti_rfl l9)]; omega)) mL_X8_271 iM_X8_kindAt sM_X8_kindAt (hv.sh rfl) rfl rfl rfl (Nat.le_of_ble_eq_true rfl) (show d + 2 + 2 + 1 ≤ d + 5 by omega) (show 8 + (2 + 11) + 40 * (d + 2 + 2) ≤ 40 * (d + 5) by omega) (g_c0 hv.ln) (Nat.le_of_ble_eq_true rfl) dX8_comesTo_117 ?_
                intro r h38 hq _
                obtain ⟨v40, rfl, v40l, v40u, rfl, f39⟩ := hq
                have v40K : v40.toInt = V h.2.1 77 (V h.2.1 93 (40 * S + l9.toInt)) := by rw [f39]; unfold g_kd g_it; rw [← hS]; rfl
                refine go_iconst (pc := 120) (v := 1) (by decide) dX8_comesTo_120 ?_
                refine gf_icmp_ne (pc := 121) (tgt := 147) (ti_rfl v40) (ti_c (v := 1) (a := 1) (by decide)) (by decide) dX8_comesTo_121 (fun q41 => ?_) (fun q41 => ?_)
                ·
                  refine go_iconst (pc := 147) (v := 0) (by decide) dX8_comesTo_147 ?_
                  have z42 : (0 : Int32).toInt = 0 := (ti_c (v := 0) (a := 0) (by decide))
                  exact go_lv rfl (ih.2.2.2 l2 l4 l6 l8 l9 l10 v22 0  (by omega) (by omega) (by omega) (by omega) (by omega) (by omega) (by omega) (by omega) (by omega) (by omega) (by omega) (by omega) (by omega) x1 ⟨un_lo _, un_hi _⟩ (by omega) f21 (by unfold th; (first | rw [if_neg (by omega)] | rw [if_pos (by omega)]); decide) (f13.1 (by omega)) (by omega))
                ·
                  refine go_aload_n (pc := 124) rfl dX8_comesTo_124 ?_
                  refine gi_getF (pc := 125) (q := 99) hv fL_X8_95 rfl (Nat.le_of_ble_eq_true rfl) rfl (hv.rf (by decide)) dX8_comesTo_125 ?_
                  refine go_bipush (pc := 128) (v := 40) (by decide) dX8_comesTo_128 ?_
                  refine go_aload_n (pc := 130) rfl dX8_comesTo_130 ?_
                  refine gi_get (pc := 131) (lo := 0) (hi := 1) hv fL_X8_187 rfl (Nat.le_of_ble_eq_true rfl) rfl rfl dX8_comesTo_131 (fun v43 v43l v43u v43w => ?_)
                  have v43S : v43.toInt = S := by rw [v43w, hv.fy (j := 6) (by omega), ← hv.fy (j := 6) (by omega)]; exact hS.symm
                  refine gf_imul (pc := 134) (ti_c (v := 40) (a := 40) (by decide)) (ti_rfl v43) (by omega) (by omega) dX8_comesTo_134 (fun v44 e45 => ?_)
                  refine go_iload (pc := 135) rfl dX8_comesTo_135 ?_
                  refine gf_iadd (pc := 137) e45 (ti_rfl l9) (by omega) (by omega) dX8_comesTo_137 (fun v46 e47 => ?_)
                  refine gi_iald (pc := 138) (lo := -1) (hi := 5) (len := 80) hv e47 rfl (by omega) (by omega) (fun _ => rfl) dX8_comesTo_138 (fun v48 v48l v48u v48w => ?_)
                  have v48V : v48.toInt = V h.2.1 99 (((40 * S) + l9.toInt)) := by rw [v48w, v43S]; rfl
                  refine go_iconst (pc := 139) (v := (-1)) (by decide) dX8_comesTo_139 ?_
                  refine gf_icmp_ne (pc := 140) (tgt := 147) (ti_rfl v48) (ti_c (v := (-1)) (a := (-1)) (by decide)) (by decide) dX8_comesTo_140 (fun q49 => ?_) (fun q49 => ?_)
                  ·
                    refine go_iconst (pc := 147) (v := 0) (by decide) dX8_comesTo_147 ?_
                    have z50 : (0 : Int32).toInt = 0 := (ti_c (v := 0) (a := 0) (by decide))
                    exact go_lv rfl (ih.2.2.2 l2 l4 l6 l8 l9 l10 v22 0  (by omega) (by omega) (by omega) (by omega) (by omega) (by omega) (by omega) (by omega) (by omega) (by omega) (by omega) (by omega) (by omega) x1 ⟨un_lo _, un_hi _⟩ (by omega) f21 (by unfold th; (first | rw [if_neg (by omega)] | rw [if_pos (by omega)]); decide) (f13.1 (by omega)) (by omega))
                  ·
                    refine go_iconst (pc := 143) (v := 1) (by decide) dX8_comesTo_143 ?_
                    refine go_goto (pc := 144) (tgt := 148) (by decide) dX8_comesTo_144 ?_
                    have z51 : (1 : Int32).toInt = 1 := (ti_c (v := 1) (a := 1) (by decide))
                    exact go_lv rfl (ih.2.2.2 l2 l4 l6 l8 l9 l10 v22 1  (by omega) (by omega) (by omega) (by omega) (by omega) (by omega) (by omega) (by omega) (by omega) (by omega) (by omega) (by omega) (by omega) x1 ⟨un_lo _, un_hi _⟩ (by omega) f21 (by unfold th; (first | rw [if_neg (by omega)] | rw [if_pos (by omega)]); decide) (f13.1 (by omega)) (by omega))
      ·
        intro l2 l4 l6 l8 l9 l10 l11 s0 l2l l2u l8l l8u l9l l9u l10l l10u l11l l11u s0l s0u x0 x1 x2 x3 x4 x5 x6 hm
        refine go_istore (pc := 148) (Nat.le_of_ble_eq_true rfl) dX8_comesTo_148 (go_lv (lv2 := [(0, .ref 70), (2, .int l2), (4, .long l4), (6, .long l6), (8, .int l8), (9, .int l9), (10, .int l10), (11, .int l11), (12, .int s0)]) rfl ?_)
        refine go_iload (pc := 150) rfl dX8_comesTo_150 ?_
        refine gf_if_lt (pc := 152) (tgt := 164) (ti_rfl l11) (by decide) dX8_comesTo_152 (fun q52 => ?_) (fun q52 => ?_)
        ·
          refine go_iload (pc := 164) rfl dX8_comesTo_164 ?_
          refine gf_if_ne (pc := 166) (tgt := 181) (ti_rfl l8) (by decide) dX8_comesTo_166 (fun q53 => ?_) (fun q53 => ?_)
          ·
            refine go_iconst (pc := 181) (v := 1) (by decide) dX8_comesTo_181 ?_
            refine go_goto (pc := 182) (tgt := 186) (by decide) dX8_comesTo_182 ?_
            refine go_istore (pc := 186) (Nat.le_of_ble_eq_true rfl) dX8_comesTo_186 (go_lv (lv2 := [(0, .ref 70), (2, .int l2), (4, .long l4), (6, .long l6), (8, .int 1), (9, .int l9), (10, .int l10), (11, .int l11), (12, .int s0)]) rfl ?_)
            refine gf_iinc (pc := 188) (Nat.le_of_ble_eq_true rfl) rfl (ti_rfl l10) (ti_c (by decide)) (by omega) (by omega) dX8_comesTo_188 (fun v54 e55 => ?_)
            refine go_lv (lv2 := [(0, .ref 70), (2, .int l2), (4, .long l4), (6, .long l6), (8, .int 1), (9, .int l9), (10, .int v54), (11, .int l11), (12, .int s0)]) rfl ?_
            refine go_goto (pc := 191) (tgt := 72) (by decide) dX8_comesTo_191 ?_
            have z56 : (1 : Int32).toInt = 1 := (ti_c (v := 1) (a := 1) (by decide))
            have z57 : (v54 : Int32).toInt = (l10.toInt + 1) := e55
            exact go_lv rfl (ih.2.2.1 l2 l4 l6 1 l9 v54  (by omega) (by omega) (by omega) (by omega) (by omega) (by omega) (by omega) (by omega) (by omega) (by rw [show (v54 : Int32).toInt = l10.toInt + 1 from e55]; exact CI.step x1 (by omega) (by omega) (by omega) x6 (Or.inl ⟨by omega, rfl⟩) ⟨fun _ => (by first | exact Or.inl (by omega) | exact Or.inr ⟨by omega, by omega⟩), fun _ => by decide⟩) ⟨un_lo _, un_hi _⟩ (by omega) (by omega))
          ·
            refine go_iload (pc := 169) rfl dX8_comesTo_169 ?_
            refine go_iconst (pc := 171) (v := (-1)) (by decide) dX8_comesTo_171 ?_
            refine gf_icmp_ne (pc := 172) (tgt := 185) (ti_rfl l11) (ti_c (v := (-1)) (a := (-1)) (by decide)) (by decide) dX8_comesTo_172 (fun q58 => ?_) (fun q58 => ?_)
            ·
              refine go_iconst (pc := 185) (v := 0) (by decide) dX8_comesTo_185 ?_
              refine go_istore (pc := 186) (Nat.le_of_ble_eq_true rfl) dX8_comesTo_186 (go_lv (lv2 := [(0, .ref 70), (2, .int l2), (4, .long l4), (6, .long l6), (8, .int 0), (9, .int l9), (10, .int l10), (11, .int l11), (12, .int s0)]) rfl ?_)
              refine gf_iinc (pc := 188) (Nat.le_of_ble_eq_true rfl) rfl (ti_rfl l10) (ti_c (by decide)) (by omega) (by omega) dX8_comesTo_188 (fun v59 e60 => ?_)
              refine go_lv (lv2 := [(0, .ref 70), (2, .int l2), (4, .long l4), (6, .long l6), (8, .int 0), (9, .int l9), (10, .int v59), (11, .int l11), (12, .int s0)]) rfl ?_
              refine go_goto (pc := 191) (tgt := 72) (by decide) dX8_comesTo_191 ?_
              have z61 : (0 : Int32).toInt = 0 := (ti_c (v := 0) (a := 0) (by decide))
              have z62 : (v59 : Int32).toInt = (l10.toInt + 1) := e60
              exact go_lv rfl (ih.2.2.1 l2 l4 l6 0 l9 v59  (by omega) (by omega) (by omega) (by omega) (by omega) (by omega) (by omega) (by omega) (by omega) (by rw [show (v59 : Int32).toInt = l10.toInt + 1 from e60]; exact CI.step x1 (by omega) (by omega) (by omega) x6 (Or.inl ⟨by omega, rfl⟩) ⟨fun q => absurd q (by decide), fun q => by rcases q with q | q; (omega); (have q1 := q.1; have q2 := q.2; omega)⟩) ⟨un_lo _, un_hi _⟩ (by omega) (by omega))
            ·
              refine go_iload (pc := 175) rfl dX8_comesTo_175 ?_
              refine go_iload_n (pc := 177) rfl dX8_comesTo_177 ?_
              refine gf_icmp_ne (pc := 178) (tgt := 185) (ti_rfl s0) (ti_rfl l2) (by decide) dX8_comesTo_178 (fun q63 => ?_) (fun q63 => ?_)
              ·
                refine go_iconst (pc := 185) (v := 0) (by decide) dX8_comesTo_185 ?_
                refine go_istore (pc := 186) (Nat.le_of_ble_eq_true rfl) dX8_comesTo_186 (go_lv (lv2 := [(0, .ref 70), (2, .int l2), (4, .long l4), (6, .long l6), (8, .int 0), (9, .int l9), (10, .int l10), (11, .int l11), (12, .int s0)]) rfl ?_)
                refine gf_iinc (pc := 188) (Nat.le_of_ble_eq_true rfl) rfl (ti_rfl l10) (ti_c (by decide)) (by omega) (by omega) dX8_comesTo_188 (fun v64 e65 => ?_)
                refine go_lv (lv2 := [(0, .ref 70), (2, .int l2), (4, .long l4), (6, .long l6), (8, .int 0), (9, .int l9), (10, .int v64), (11, .int l11), (12, .int s0)]) rfl ?_
                refine go_goto (pc := 191) (tgt := 72) (by decide) dX8_comesTo_191 ?_
                have z66 : (0 : Int32).toInt = 0 := (ti_c (v := 0) (a := 0) (by decide))
                have z67 : (v64 : Int32).toInt = (l10.toInt + 1) := e65
                exact go_lv rfl (ih.2.2.1 l2 l4 l6 0 l9 v64  (by omega) (by omega) (by omega) (by omega) (by omega) (by omega) (by omega) (by omega) (by omega) (by rw [show (v64 : Int32).toInt = l10.toInt + 1 from e65]; exact CI.step x1 (by omega) (by omega) (by omega) x6 (Or.inl ⟨by omega, rfl⟩) ⟨fun q => absurd q (by decide), fun q => by rcases q with q | q; (omega); (have q1 := q.1; have q2 := q.2; omega)⟩) ⟨un_lo _, un_hi _⟩ (by omega) (by omega))
              ·
                refine go_iconst (pc := 181) (v := 1) (by decide) dX8_comesTo_181 ?_
                refine go_goto (pc := 182) (tgt := 186) (by decide) dX8_comesTo_182 ?_
                refine go_istore (pc := 186) (Nat.le_of_ble_eq_true rfl) dX8_comesTo_186 (go_lv (lv2 := [(0, .ref 70), (2, .int l2), (4, .long l4), (6, .long l6), (8, .int 1), (9, .int l9), (10, .int l10), (11, .int l11), (12, .int s0)]) rfl ?_)
                refine gf_iinc (pc := 188) (Nat.le_of_ble_eq_true rfl) rfl (ti_rfl l10) (ti_c (by decide)) (by omega) (by omega) dX8_comesTo_188 (fun v68 e69 => ?_)
                refine go_lv (lv2 := [(0, .ref 70), (2, .int l2), (4, .long l4), (6, .long l6), (8, .int 1), (9, .int l9), (10, .int v68), (11, .int l11), (12, .int s0)]) rfl ?_
                refine go_goto (pc := 191) (tgt := 72) (by decide) dX8_comesTo_191 ?_
                have z70 : (1 : Int32).toInt = 1 := (ti_c (v := 1) (a := 1) (by decide))
                have z71 : (v68 : Int32).toInt = (l10.toInt + 1) := e69
                exact go_lv rfl (ih.2.2.1 l2 l4 l6 1 l9 v68  (by omega) (by omega) (by omega) (by omega) (by omega) (by omega) (by omega) (by omega) (by omega) (by rw [show (v68 : Int32).toInt = l10.toInt + 1 from e69]; exact CI.step x1 (by omega) (by omega) (by omega) x6 (Or.inl ⟨by omega, rfl⟩) ⟨fun _ => (by first | exact Or.inl (by omega) | exact Or.inr ⟨by omega, by omega⟩), fun _ => by decide⟩) ⟨un_lo _, un_hi _⟩ (by omega) (by omega))
        ·
          refine go_lload (pc := 155) rfl dX8_comesTo_155 ?_
          refine go_lconst (pc := 157) (v := 1) (by decide) dX8_comesTo_157 ?_
          refine go_iload (pc := 158) rfl dX8_comesTo_158 ?_
          refine gx_lshl (pc := 160) dX8_comesTo_160 (fun v72 v72x => ?_)
          refine gx_lor (pc := 161) dX8_comesTo_161 (fun v73 v73x => ?_)
          refine go_lstore (pc := 162) (Nat.le_of_ble_eq_true rfl) dX8_comesTo_162 (go_lv (lv2 := [(0, .ref 70), (2, .int l2), (4, .long v73), (6, .long l6), (8, .int l8), (9, .int l9), (10, .int l10), (11, .int l11), (12, .int s0)]) rfl ?_)
          refine go_iload (pc := 164) rfl dX8_comesTo_164 ?_
          refine gf_if_ne (pc := 166) (tgt := 181) (ti_rfl l8) (by decide) dX8_comesTo_166 (fun q74 => ?_) (fun q74 => ?_)
          ·
            refine go_iconst (pc := 181) (v := 1) (by decide) dX8_comesTo_181 ?_
            refine go_goto (pc := 182) (tgt := 186) (by decide) dX8_comesTo_182 ?_
            refine go_istore (pc := 186) (Nat.le_of_ble_eq_true rfl) dX8_comesTo_186 (go_lv (lv2 := [(0, .ref 70), (2, .int l2), (4, .long v73), (6, .long l6), (8, .int 1), (9, .int l9), (10, .int l10), (11, .int l11), (12, .int s0)]) rfl ?_)
            refine gf_iinc (pc := 188) (Nat.le_of_ble_eq_true rfl) rfl (ti_rfl l10) (ti_c (by decide)) (by omega) (by omega) dX8_comesTo_188 (fun v75 e76 => ?_)
            refine go_lv (lv2 := [(0, .ref 70), (2, .int l2), (4, .long v73), (6, .long l6), (8, .int 1), (9, .int l9), (10, .int v75), (11, .int l11), (12, .int s0)]) rfl ?_
            refine go_goto (pc := 191) (tgt := 72) (by decide) dX8_comesTo_191 ?_
            have z77 : (1 : Int32).toInt = 1 := (ti_c (v := 1) (a := 1) (by decide))
            have z78 : (v75 : Int32).toInt = (l10.toInt + 1) := e76
            exact go_lv rfl (ih.2.2.1 l2 v73 l6 1 l9 v75  (by omega) (by omega) (by omega) (by omega) (by omega) (by omega) (by omega) (by omega) (by omega) (by rw [show (v75 : Int32).toInt = l10.toInt + 1 from e76]; exact CI.step x1 (by omega) (by omega) (by omega) x6 (Or.inr ⟨by omega, by rw [v73x]; exact un_or _ _, fun j hj => by rw [v73x, bt_or, v72x, bt_shl (by omega) (by omega) hj, x4]⟩) ⟨fun _ => (by first | exact Or.inl (by omega) | exact Or.inr ⟨by omega, by omega⟩), fun _ => by decide⟩) ⟨un_lo _, un_hi _⟩ (by omega) (by omega))
          ·
            refine go_iload (pc := 169) rfl dX8_comesTo_169 ?_
            refine go_iconst (pc := 171) (v := (-1)) (by decide) dX8_comesTo_171 ?_
            refine gf_icmp_ne (pc := 172) (tgt := 185) (ti_rfl l11) (ti_c (v := (-1)) (a := (-1)) (by decide)) (by decide) dX8_comesTo_172 (fun q79 => ?_) (fun q79 => False.elim (by omega))
            refine go_iconst (pc := 185) (v := 0) (by decide) dX8_comesTo_185 ?_
            refine go_istore (pc := 186) (Nat.le_of_ble_eq_true rfl) dX8_comesTo_186 (go_lv (lv2 := [(0, .ref 70), (2, .int l2), (4, .long v73), (6, .long l6), (8, .int 0), (9, .int l9), (10, .int l10), (11, .int l11), (12, .int s0)]) rfl ?_)
            refine gf_iinc (pc := 188) (Nat.le_of_ble_eq_true rfl) rfl (ti_rfl l10) (ti_c (by decide)) (by omega) (by omega) dX8_comesTo_188 (fun v80 e81 => ?_)
            refine go_lv (lv2 := [(0, .ref 70), (2, .int l2), (4, .long v73), (6, .long l6), (8, .int 0), (9, .int l9), (10, .int v80), (11, .int l11), (12, .int s0)]) rfl ?_
            refine go_goto (pc := 191) (tgt := 72) (by decide) dX8_comesTo_191 ?_
            have z82 : (0 : Int32).toInt = 0 := (ti_c (v := 0) (a := 0) (by decide))
            have z83 : (v80 : Int32).toInt = (l10.toInt + 1) := e81
            exact go_lv rfl (ih.2.2.1 l2 v73 l6 0 l9 v80  (by omega) (by omega) (by omega) (by omega) (by omega) (by omega) (by omega) (by omega) (by omega) (by rw [show (v80 : Int32).toInt = l10.toInt + 1 from e81]; exact CI.step x1 (by omega) (by omega) (by omega) x6 (Or.inr ⟨by omega, by rw [v73x]; exact un_or _ _, fun j hj => by rw [v73x, bt_or, v72x, bt_shl (by omega) (by omega) hj, x4]⟩) ⟨fun q => absurd q (by decide), fun q => by rcases q with q | q; (omega); (have q1 := q.1; have q2 := q.2; omega)⟩) ⟨un_lo _, un_hi _⟩ (by omega) (by omega))
  refine go_aload_n (pc := 0) rfl dX8_comesTo_0 ?_
  refine gi_getF (pc := 1) (q := 100) hv fL_X8_98 rfl (Nat.le_of_ble_eq_true rfl) rfl (hv.rf (by decide)) dX8_comesTo_1 ?_
  refine go_iconst (pc := 4) (v := 5) (by decide) dX8_comesTo_4 ?_
  refine go_aload_n (pc := 5) rfl dX8_comesTo_5 ?_
  refine gi_get (pc := 6) (lo := 0) (hi := 1) hv fL_X8_187 rfl (Nat.le_of_ble_eq_true rfl) rfl rfl dX8_comesTo_6 (fun v84 v84l v84u v84w => ?_)
  have v84S : v84.toInt = S := by rw [v84w, hv.fy (j := 6) (by omega), ← hv.fy (j := 6) (by omega)]; exact hS.symm
  refine gf_imul (pc := 9) (ti_c (v := 5) (a := 5) (by decide)) (ti_rfl v84) (by omega) (by omega) dX8_comesTo_9 (fun v85 e86 => ?_)
  refine go_iload_n (pc := 10) rfl dX8_comesTo_10 ?_
  refine gf_iadd (pc := 11) e86 (ti_rfl a2) (by omega) (by omega) dX8_comesTo_11 (fun v87 e88 => ?_)
  refine gi_iald (pc := 12) (lo := -1) (hi := 39) (len := 10) hv e88 rfl (by omega) (by omega) (fun _ => rfl) dX8_comesTo_12 (fun v89 v89l v89u v89w => ?_)
  have v89V : v89.toInt = V h.2.1 100 (((5 * S) + a2.toInt)) := by rw [v89w, v84S]; rfl
  refine go_istore_n (pc := 13) (Nat.le_of_ble_eq_true rfl) dX8_comesTo_13 (go_lv (lv2 := [(0, .ref 70), (1, .int a2), (2, .int a3), (3, .int v89)]) rfl ?_)
  refine go_iload_n (pc := 14) rfl dX8_comesTo_14 ?_
  refine go_iconst (pc := 15) (v := (-1)) (by decide) dX8_comesTo_15 ?_
  refine gf_icmp_ne (pc := 16) (tgt := 29) (ti_rfl v89) (ti_c (v := (-1)) (a := (-1)) (by decide)) (by decide) dX8_comesTo_16 (fun q90 => ?_) (fun q90 => ?_)
  ·
    refine go_lconst (pc := 29) (v := 1) (by decide) dX8_comesTo_29 ?_
    refine go_iload_n (pc := 30) rfl dX8_comesTo_30 ?_
    refine gx_lshl (pc := 31) dX8_comesTo_31 (fun v91 v91x => ?_)
    refine go_lstore (pc := 32) (Nat.le_of_ble_eq_true rfl) dX8_comesTo_32 (go_lv (lv2 := [(0, .ref 70), (1, .int a2), (2, .int a3), (3, .int v89), (4, .long v91)]) rfl ?_)
    refine go_lconst (pc := 34) (v := 0) (by decide) dX8_comesTo_34 ?_
    refine go_lstore (pc := 35) (Nat.le_of_ble_eq_true rfl) dX8_comesTo_35 (go_lv (lv2 := [(0, .ref 70), (1, .int a2), (2, .int a3), (3, .int v89), (4, .long v91), (6, .long 0)]) rfl ?_)
    have uz := un_lo 0
    refine go_iconst (pc := 37) (v := 0) (by decide) dX8_comesTo_37 ?_
    refine go_istore (pc := 38) (Nat.le_of_ble_eq_true rfl) dX8_comesTo_38 (go_lv (lv2 := [(0, .ref 70), (1, .int a2), (2, .int a3), (3, .int v89), (4, .long v91), (6, .long 0), (8, .int 0)]) rfl ?_)
    have z92 : (0 : Int32).toInt = 0 := (ti_c (v := 0) (a := 0) (by decide))
    exact go_lv rfl ((key 18446744073709551617001).1 a3 v91 0 0  (by omega) (by omega) (by omega) (by omega) (by omega) (by have e0 : (0 : Int32).toInt = 0 := (by decide); rw [e0, v91x]; exact CI.init (by omega) (by omega) v89V) ⟨un_lo _, un_hi _⟩ (by omega))
  ·
    refine go_iload_n (pc := 19) rfl dX8_comesTo_19 ?_
    refine gf_if_ne (pc := 20) (tgt := 27) (ti_rfl a3) (by decide) dX8_comesTo_20 (fun q93 => ?_) (fun q93 => ?_)
    ·
      refine go_iconst (pc := 27) (v := 0) (by decide) dX8_comesTo_27 ?_
      exact gi_zret (pc := 28) (ti_c (v := 0) (a := 0) (by decide)) (by omega) (by omega) ⟨_, rfl, (by rw [show (0 : Int32).toInt = 0 from (ti_c (v := 0) (a := 0) (by decide))]; omega), (by rw [show (0 : Int32).toInt = 0 from (ti_c (v := 0) (a := 0) (by decide))]; omega), rfl, (by rw [← hS]; exact ⟨fun q => absurd q (by decide), fun _ z => by rcases z with z | z; (have := z.2; omega); (have := z.1; omega)⟩)⟩ hv dX8_comesTo_28
    ·
      refine go_iconst (pc := 23) (v := 1) (by decide) dX8_comesTo_23 ?_
      refine go_goto (pc := 24) (tgt := 28) (by decide) dX8_comesTo_24 ?_
      exact gi_zret (pc := 28) (ti_c (v := 1) (a := 1) (by decide)) (by omega) (by omega) ⟨_, rfl, (by rw [show (1 : Int32).toInt = 1 from (ti_c (v := 1) (a := 1) (by decide))]; omega), (by rw [show (1 : Int32).toInt = 1 from (ti_c (v := 1) (a := 1) (by decide))]; omega), rfl, (by rw [← hS]; exact ⟨fun _ => Or.inl ⟨by omega, by omega⟩, fun q => absurd q (by decide)⟩)⟩ hv dX8_comesTo_28
