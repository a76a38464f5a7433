theorem zf_step {F G : FN} {S p : Int} {x y : Int32} (hS : 0 ≤ S) (h0 : 0 ≤ p) (h : ∀ k : Int, 0 ≤ k → k < p → V F 101 (5 * S + k) = 0 ∧ V F 102 (5 * S + k) = 0) (hG : G = w1 (w1 F 101 (5 * S + p) x) 102 (5 * S + p) y) (hx : x.toInt = 0) (hy : y.toInt = 0) : ∀ k : Int, 0 ≤ k → k < p + 1 → V G 101 (5 * S + k) = 0 ∧ V G 102 (5 * S + k) = 0 := by
  intro k h1 h2
  rw [hG]
  by_cases q : k = p
  · rw [q, V_eq, V_ne (by omega), V_eq]; exact ⟨hx, hy⟩
  · rw [V_ne (c := 102) (c' := 101) (by omega), V_nj (c := 101) (c' := 101) (by omega) (by omega) (by omega), V_nj (c := 102) (c' := 102) (by omega) (by omega) (by omega), V_ne (c := 101) (c' := 102) (by omega)]
    exact h k h1 (by omega)
theorem FI.zero {F : FN} {S p : Int} (hp : 5 ≤ p) (h : ∀ k : Int, 0 ≤ k → k < p → V F 101 (5 * S + k) = 0 ∧ V F 102 (5 * S + k) = 0) : FI F S := by
  intro k h1 h2
  have := h k h1 (by omega)
  exact ⟨fun q => by omega, fun q => by omega⟩
theorem dX8_comesTo_0 : decode cX8_comesTo 0 = .ok (.aload_n 0, 1) := by decide +kernel
theorem dX8_comesTo_1 : decode cX8_comesTo 1 = .ok (.getfield 98, 3) := by decide +kernel
theorem dX8_comesTo_4 : decode cX8_comesTo 4 = .ok (.iconst 5, 1) := by decide +kernel
theorem dX8_comesTo_5 : decode cX8_comesTo 5 = .ok (.aload_n 0, 1) := by decide +kernel
theorem dX8_comesTo_6 : decode cX8_comesTo 6 = .ok (.getfield 187, 3) := by decide +kernel
theorem dX8_comesTo_9 : decode cX8_comesTo 9 = .ok (.imul, 1) := by decide +kernel
theorem dX8_comesTo_10 : decode cX8_comesTo 10 = .ok (.iload_n 1, 1) := by decide +kernel
theorem dX8_comesTo_11 : decode cX8_comesTo 11 = .ok (.iadd, 1) := by decide +kernel
theorem dX8_comesTo_12 : decode cX8_comesTo 12 = .ok (.iaload, 1) := by decide +kernel
theorem dX8_comesTo_13 : decode cX8_comesTo 13 = .ok (.istore_n 3, 1) := by decide +kernel
theorem dX8_comesTo_14 : decode cX8_comesTo 14 = .ok (.iload_n 3, 1) := by decide +kernel
theorem dX8_comesTo_15 : decode cX8_comesTo 15 = .ok (.iconst (-1), 1) := by decide +kernel
theorem dX8_comesTo_16 : decode cX8_comesTo 16 = .ok (.if_icmp .ne 13, 3) := by decide +kernel
theorem dX8_comesTo_19 : decode cX8_comesTo 19 = .ok (.iload_n 2, 1) := by decide +kernel
theorem dX8_comesTo_20 : decode cX8_comesTo 20 = .ok (.ifCond .ne 7, 3) := by decide +kernel
theorem dX8_comesTo_23 : decode cX8_comesTo 23 = .ok (.iconst 1, 1) := by decide +kernel
theorem dX8_comesTo_24 : decode cX8_comesTo 24 = .ok (.goto 4, 3) := by decide +kernel
theorem dX8_comesTo_27 : decode cX8_comesTo 27 = .ok (.iconst 0, 1) := by decide +kernel
theorem dX8_comesTo_28 : decode cX8_comesTo 28 = .ok (.ireturn, 1) := by decide +kernel
theorem dX8_comesTo_29 : decode cX8_comesTo 29 = .ok (.lconst 1, 1) := by decide +kernel
theorem dX8_comesTo_30 : decode cX8_comesTo 30 = .ok (.iload_n 3, 1) := by decide +kernel
theorem dX8_comesTo_31 : decode cX8_comesTo 31 = .ok (.lshl, 1) := by decide +kernel
theorem dX8_comesTo_32 : decode cX8_comesTo 32 = .ok (.lstore 4, 2) := by decide +kernel
theorem dX8_comesTo_34 : decode cX8_comesTo 34 = .ok (.lconst 0, 1) := by decide +kernel
theorem dX8_comesTo_35 : decode cX8_comesTo 35 = .ok (.lstore 6, 2) := by decide +kernel
theorem dX8_comesTo_37 : decode cX8_comesTo 37 = .ok (.iconst 0, 1) := by decide +kernel
theorem dX8_comesTo_38 : decode cX8_comesTo 38 = .ok (.istore 8, 2) := by decide +kernel
theorem dX8_comesTo_40 : decode cX8_comesTo 40 = .ok (.lload 6, 2) := by decide +kernel
theorem dX8_comesTo_42 : decode cX8_comesTo 42 = .ok (.lload 4, 2) := by decide +kernel
theorem dX8_comesTo_44 : decode cX8_comesTo 44 = .ok (.lcmp, 1) := by decide +kernel
theorem dX8_comesTo_45 : decode cX8_comesTo 45 = .ok (.ifCond .eq 158, 3) := by decide +kernel
theorem dX8_comesTo_48 : decode cX8_comesTo 48 = .ok (.lload 4, 2) := by decide +kernel
theorem dX8_comesTo_50 : decode cX8_comesTo 50 = .ok (.lstore 6, 2) := by decide +kernel
theorem dX8_comesTo_52 : decode cX8_comesTo 52 = .ok (.iconst 0, 1) := by decide +kernel
theorem dX8_comesTo_53 : decode cX8_comesTo 53 = .ok (.istore 9, 2) := by decide +kernel
theorem dX8_comesTo_55 : decode cX8_comesTo 55 = .ok (.iload 9, 2) := by decide +kernel
theorem dX8_comesTo_57 : decode cX8_comesTo 57 = .ok (.aload_n 0, 1) := by decide +kernel
theorem dX8_comesTo_58 : decode cX8_comesTo 58 = .ok (.getfield 23, 3) := by decide +kernel
theorem dX8_comesTo_61 : decode cX8_comesTo 61 = .ok (.aload_n 0, 1) := by decide +kernel
theorem dX8_comesTo_62 : decode cX8_comesTo 62 = .ok (.getfield 187, 3) := by decide +kernel
theorem dX8_comesTo_65 : decode cX8_comesTo 65 = .ok (.iaload, 1) := by decide +kernel
theorem dX8_comesTo_66 : decode cX8_comesTo 66 = .ok (.if_icmp .ge 134, 3) := by decide +kernel
theorem dX8_comesTo_69 : decode cX8_comesTo 69 = .ok (.iconst 0, 1) := by decide +kernel
theorem dX8_comesTo_70 : decode cX8_comesTo 70 = .ok (.istore 10, 2) := by decide +kernel
theorem dX8_comesTo_72 : decode cX8_comesTo 72 = .ok (.iload 10, 2) := by decide +kernel
theorem dX8_comesTo_74 : decode cX8_comesTo 74 = .ok (.iconst 2, 1) := by decide +kernel
theorem dX8_comesTo_75 : decode cX8_comesTo 75 = .ok (.if_icmp .ge 119, 3) := by decide +kernel
theorem dX8_comesTo_78 : decode cX8_comesTo 78 = .ok (.lload 4, 2) := by decide +kernel
theorem dX8_comesTo_80 : decode cX8_comesTo 80 = .ok (.iload 9, 2) := by decide +kernel
theorem dX8_comesTo_82 : decode cX8_comesTo 82 = .ok (.invokestatic 280, 3) := by decide +kernel
theorem dX8_comesTo_85 : decode cX8_comesTo 85 = .ok (.ifCond .eq 109, 3) := by decide +kernel
theorem dX8_comesTo_88 : decode cX8_comesTo 88 = .ok (.aload_n 0, 1) := by decide +kernel
theorem dX8_comesTo_89 : decode cX8_comesTo 89 = .ok (.iload 9, 2) := by decide +kernel
theorem dX8_comesTo_91 : decode cX8_comesTo 91 = .ok (.iload 10, 2) := by decide +kernel
theorem dX8_comesTo_93 : decode cX8_comesTo 93 = .ok (.invokevirtual 284, 3) := by decide +kernel
theorem dX8_comesTo_96 : decode cX8_comesTo 96 = .ok (.istore 11, 2) := by decide +kernel
theorem dX8_comesTo_98 : decode cX8_comesTo 98 = .ok (.iload 10, 2) := by decide +kernel
theorem dX8_comesTo_100 : decode cX8_comesTo 100 = .ok (.iconst 1, 1) := by decide +kernel
theorem dX8_comesTo_101 : decode cX8_comesTo 101 = .ok (.if_icmp .ne 46, 3) := by decide +kernel
theorem dX8_comesTo_104 : decode cX8_comesTo 104 = .ok (.aload_n 0, 1) := by decide +kernel
theorem dX8_comesTo_105 : decode cX8_comesTo 105 = .ok (.iload 9, 2) := by decide +kernel
theorem dX8_comesTo_107 : decode cX8_comesTo 107 = .ok (.invokevirtual 271, 3) := by decide +kernel
theorem dX8_comesTo_110 : decode cX8_comesTo 110 = .ok (.iconst 4, 1) := by decide +kernel
theorem dX8_comesTo_111 : decode cX8_comesTo 111 = .ok (.if_icmp .eq 13, 3) := by decide +kernel
theorem dX8_comesTo_114 : decode cX8_comesTo 114 = .ok (.aload_n 0, 1) := by decide +kernel
theorem dX8_comesTo_115 : decode cX8_comesTo 115 = .ok (.iload 9, 2) := by decide +kernel
theorem dX8_comesTo_117 : decode cX8_comesTo 117 = .ok (.invokevirtual 271, 3) := by decide +kernel
theorem dX8_comesTo_120 : decode cX8_comesTo 120 = .ok (.iconst 1, 1) := by decide +kernel
theorem dX8_comesTo_121 : decode cX8_comesTo 121 = .ok (.if_icmp .ne 26, 3) := by decide +kernel
theorem dX8_comesTo_124 : decode cX8_comesTo 124 = .ok (.aload_n 0, 1) := by decide +kernel
theorem dX8_comesTo_125 : decode cX8_comesTo 125 = .ok (.getfield 95, 3) := by decide +kernel
theorem dX8_comesTo_128 : decode cX8_comesTo 128 = .ok (.bipush 40, 2) := by decide +kernel
theorem dX8_comesTo_130 : decode cX8_comesTo 130 = .ok (.aload_n 0, 1) := by decide +kernel
theorem dX8_comesTo_131 : decode cX8_comesTo 131 = .ok (.getfield 187, 3) := by decide +kernel
theorem dX8_comesTo_134 : decode cX8_comesTo 134 = .ok (.imul, 1) := by decide +kernel
theorem dX8_comesTo_135 : decode cX8_comesTo 135 = .ok (.iload 9, 2) := by decide +kernel
theorem dX8_comesTo_137 : decode cX8_comesTo 137 = .ok (.iadd, 1) := by decide +kernel
theorem dX8_comesTo_138 : decode cX8_comesTo 138 = .ok (.iaload, 1) := by decide +kernel
theorem dX8_comesTo_139 : decode cX8_comesTo 139 = .ok (.iconst (-1), 1) := by decide +kernel
theorem dX8_comesTo_140 : decode cX8_comesTo 140 = .ok (.if_icmp .ne 7, 3) := by decide +kernel
theorem dX8_comesTo_143 : decode cX8_comesTo 143 = .ok (.iconst 1, 1) := by decide +kernel
theorem dX8_comesTo_144 : decode cX8_comesTo 144 = .ok (.goto 4, 3) := by decide +kernel
theorem dX8_comesTo_147 : decode cX8_comesTo 147 = .ok (.iconst 0, 1) := by decide +kernel
theorem dX8_comesTo_148 : decode cX8_comesTo 148 = .ok (.istore 12, 2) := by decide +kernel
theorem dX8_comesTo_150 : decode cX8_comesTo 150 = .ok (.iload 11, 2) := by decide +kernel
theorem dX8_comesTo_152 : decode cX8_comesTo 152 = .ok (.ifCond .lt 12, 3) := by decide +kernel
theorem dX8_comesTo_155 : decode cX8_comesTo 155 = .ok (.lload 4, 2) := by decide +kernel
theorem dX8_comesTo_157 : decode cX8_comesTo 157 = .ok (.lconst 1, 1) := by decide +kernel
theorem dX8_comesTo_158 : decode cX8_comesTo 158 = .ok (.iload 11, 2) := by decide +kernel
theorem dX8_comesTo_160 : decode cX8_comesTo 160 = .ok (.lshl, 1) := by decide +kernel
theorem dX8_comesTo_161 : decode cX8_comesTo 161 = .ok (.lor, 1) := by decide +kernel
theorem dX8_comesTo_162 : decode cX8_comesTo 162 = .ok (.lstore 4, 2) := by decide +kernel
theorem dX8_comesTo_164 : decode cX8_comesTo 164 = .ok (.iload 8, 2) := by decide +kernel
theorem dX8_comesTo_166 : decode cX8_comesTo 166 = .ok (.ifCond .ne 15, 3) := by decide +kernel
theorem dX8_comesTo_169 : decode cX8_comesTo 169 = .ok (.iload 11, 2) := by decide +kernel
theorem dX8_comesTo_171 : decode cX8_comesTo 171 = .ok (.iconst (-1), 1) := by decide +kernel
theorem dX8_comesTo_172 : decode cX8_comesTo 172 = .ok (.if_icmp .ne 13, 3) := by decide +kernel
theorem dX8_comesTo_175 : decode cX8_comesTo 175 = .ok (.iload 12, 2) := by decide +kernel
theorem dX8_comesTo_177 : decode cX8_comesTo 177 = .ok (.iload_n 2, 1) := by decide +kernel
theorem dX8_comesTo_178 : decode cX8_comesTo 178 = .ok (.if_icmp .ne 7, 3) := by decide +kernel
theorem dX8_comesTo_181 : decode cX8_comesTo 181 = .ok (.iconst 1, 1) := by decide +kernel
theorem dX8_comesTo_182 : decode cX8_comesTo 182 = .ok (.goto 4, 3) := by decide +kernel
theorem dX8_comesTo_185 : decode cX8_comesTo 185 = .ok (.iconst 0, 1) := by decide +kernel
theorem dX8_comesTo_186 : decode cX8_comesTo 186 = .ok (.istore 8, 2) := by decide +kernel
theorem dX8_comesTo_188 : decode cX8_comesTo 188 = .ok (.iinc 10 1, 3) := by decide +kernel
theorem dX8_comesTo_191 : decode cX8_comesTo 191 = .ok (.goto (-119), 3) := by decide +kernel
theorem dX8_comesTo_194 : decode cX8_comesTo 194 = .ok (.iinc 9 1, 3) := by decide +kernel
theorem dX8_comesTo_197 : decode cX8_comesTo 197 = .ok (.goto (-142), 3) := by decide +kernel
theorem dX8_comesTo_200 : decode cX8_comesTo 200 = .ok (.goto (-160), 3) := by decide +kernel
theorem dX8_comesTo_203 : decode cX8_comesTo 203 = .ok (.iload 8, 2) := by decide +kernel
theorem dX8_comesTo_205 : decode cX8_comesTo 205 = .ok (.ireturn, 1) := by decide +kernel
theorem dX8_laysMay_0 : decode cX8_laysMay 0 = .ok (.iconst 0, 1) := by decide +kernel
theorem dX8_laysMay_1 : decode cX8_laysMay 1 = .ok (.istore_n 1, 1) := by decide +kernel
theorem dX8_laysMay_2 : decode cX8_laysMay 2 = .ok (.iload_n 1, 1) := by decide +kernel
theorem dX8_laysMay_3 : decode cX8_laysMay 3 = .ok (.iconst 5, 1) := by decide +kernel
theorem dX8_laysMay_4 : decode cX8_laysMay 4 = .ok (.if_icmp .ge 37, 3) := by decide +kernel
theorem dX8_laysMay_7 : decode cX8_laysMay 7 = .ok (.aload_n 0, 1) := by decide +kernel
theorem dX8_laysMay_8 : decode cX8_laysMay 8 = .ok (.getfield 101, 3) := by decide +kernel
theorem dX8_laysMay_11 : decode cX8_laysMay 11 = .ok (.iconst 5, 1) := by decide +kernel
theorem dX8_laysMay_12 : decode cX8_laysMay 12 = .ok (.aload_n 0, 1) := by decide +kernel
theorem dX8_laysMay_13 : decode cX8_laysMay 13 = .ok (.getfield 187, 3) := by decide +kernel
theorem dX8_laysMay_16 : decode cX8_laysMay 16 = .ok (.imul, 1) := by decide +kernel
theorem dX8_laysMay_17 : decode cX8_laysMay 17 = .ok (.iload_n 1, 1) := by decide +kernel
theorem dX8_laysMay_18 : decode cX8_laysMay 18 = .ok (.iadd, 1) := by decide +kernel
theorem dX8_laysMay_19 : decode cX8_laysMay 19 = .ok (.iconst 0, 1) := by decide +kernel
theorem dX8_laysMay_20 : decode cX8_laysMay 20 = .ok (.bastore, 1) := by decide +kernel
theorem dX8_laysMay_21 : decode cX8_laysMay 21 = .ok (.aload_n 0, 1) := by decide +kernel
theorem dX8_laysMay_22 : decode cX8_laysMay 22 = .ok (.getfield 105, 3) := by decide +kernel
theorem dX8_laysMay_25 : decode cX8_laysMay 25 = .ok (.iconst 5, 1) := by decide +kernel
theorem dX8_laysMay_26 : decode cX8_laysMay 26 = .ok (.aload_n 0, 1) := by decide +kernel
theorem dX8_laysMay_27 : decode cX8_laysMay 27 = .ok (.getfield 187, 3) := by decide +kernel
theorem dX8_laysMay_30 : decode cX8_laysMay 30 = .ok (.imul, 1) := by decide +kernel
theorem dX8_laysMay_31 : decode cX8_laysMay 31 = .ok (.iload_n 1, 1) := by decide +kernel
theorem dX8_laysMay_32 : decode cX8_laysMay 32 = .ok (.iadd, 1) := by decide +kernel
theorem dX8_laysMay_33 : decode cX8_laysMay 33 = .ok (.iconst 0, 1) := by decide +kernel
theorem dX8_laysMay_34 : decode cX8_laysMay 34 = .ok (.bastore, 1) := by decide +kernel
theorem dX8_laysMay_35 : decode cX8_laysMay 35 = .ok (.iinc 1 1, 3) := by decide +kernel
theorem dX8_laysMay_38 : decode cX8_laysMay 38 = .ok (.goto (-36), 3) := by decide +kernel
theorem dX8_laysMay_41 : decode cX8_laysMay 41 = .ok (.iconst 1, 1) := by decide +kernel
theorem dX8_laysMay_42 : decode cX8_laysMay 42 = .ok (.istore_n 1, 1) := by decide +kernel
theorem dX8_laysMay_43 : decode cX8_laysMay 43 = .ok (.iload_n 1, 1) := by decide +kernel
theorem dX8_laysMay_44 : decode cX8_laysMay 44 = .ok (.ifCond .eq 102, 3) := by decide +kernel
theorem dX8_laysMay_47 : decode cX8_laysMay 47 = .ok (.iconst 0, 1) := by decide +kernel
theorem dX8_laysMay_48 : decode cX8_laysMay 48 = .ok (.istore_n 1, 1) := by decide +kernel
theorem dX8_laysMay_49 : decode cX8_laysMay 49 = .ok (.iconst 0, 1) := by decide +kernel
theorem dX8_laysMay_50 : decode cX8_laysMay 50 = .ok (.istore_n 2, 1) := by decide +kernel
theorem dX8_laysMay_51 : decode cX8_laysMay 51 = .ok (.iload_n 2, 1) := by decide +kernel
theorem dX8_laysMay_52 : decode cX8_laysMay 52 = .ok (.aload_n 0, 1) := by decide +kernel
theorem dX8_laysMay_53 : decode cX8_laysMay 53 = .ok (.getfield 26, 3) := by decide +kernel
theorem dX8_laysMay_56 : decode cX8_laysMay 56 = .ok (.aload_n 0, 1) := by decide +kernel
theorem dX8_laysMay_57 : decode cX8_laysMay 57 = .ok (.getfield 187, 3) := by decide +kernel
theorem dX8_laysMay_60 : decode cX8_laysMay 60 = .ok (.iaload, 1) := by decide +kernel
theorem dX8_laysMay_61 : decode cX8_laysMay 61 = .ok (.if_icmp .ge 82, 3) := by decide +kernel
theorem dX8_laysMay_64 : decode cX8_laysMay 64 = .ok (.iconst 5, 1) := by decide +kernel
theorem dX8_laysMay_65 : decode cX8_laysMay 65 = .ok (.aload_n 0, 1) := by decide +kernel
theorem dX8_laysMay_66 : decode cX8_laysMay 66 = .ok (.getfield 187, 3) := by decide +kernel
theorem dX8_laysMay_69 : decode cX8_laysMay 69 = .ok (.imul, 1) := by decide +kernel
theorem dX8_laysMay_70 : decode cX8_laysMay 70 = .ok (.iload_n 2, 1) := by decide +kernel
theorem dX8_laysMay_71 : decode cX8_laysMay 71 = .ok (.iadd, 1) := by decide +kernel
theorem dX8_laysMay_72 : decode cX8_laysMay 72 = .ok (.istore_n 3, 1) := by decide +kernel
theorem dX8_laysMay_73 : decode cX8_laysMay 73 = .ok (.aload_n 0, 1) := by decide +kernel
theorem dX8_laysMay_74 : decode cX8_laysMay 74 = .ok (.iload_n 2, 1) := by decide +kernel
theorem dX8_laysMay_75 : decode cX8_laysMay 75 = .ok (.iconst 0, 1) := by decide +kernel
theorem dX8_laysMay_76 : decode cX8_laysMay 76 = .ok (.invokevirtual 287, 3) := by decide +kernel
theorem dX8_laysMay_79 : decode cX8_laysMay 79 = .ok (.istore 4, 2) := by decide +kernel
theorem dX8_laysMay_81 : decode cX8_laysMay 81 = .ok (.aload_n 0, 1) := by decide +kernel
theorem dX8_laysMay_82 : decode cX8_laysMay 82 = .ok (.iload_n 2, 1) := by decide +kernel
theorem dX8_laysMay_83 : decode cX8_laysMay 83 = .ok (.iconst 1, 1) := by decide +kernel
theorem dX8_laysMay_84 : decode cX8_laysMay 84 = .ok (.invokevirtual 287, 3) := by decide +kernel
theorem dX8_laysMay_87 : decode cX8_laysMay 87 = .ok (.istore 5, 2) := by decide +kernel
theorem dX8_laysMay_89 : decode cX8_laysMay 89 = .ok (.iload_n 1, 1) := by decide +kernel
theorem dX8_laysMay_90 : decode cX8_laysMay 90 = .ok (.ifCond .ne 25, 3) := by decide +kernel
theorem dX8_laysMay_93 : decode cX8_laysMay 93 = .ok (.iload 4, 2) := by decide +kernel
theorem dX8_laysMay_95 : decode cX8_laysMay 95 = .ok (.aload_n 0, 1) := by decide +kernel
theorem dX8_laysMay_96 : decode cX8_laysMay 96 = .ok (.getfield 101, 3) := by decide +kernel
theorem dX8_laysMay_99 : decode cX8_laysMay 99 = .ok (.iload_n 3, 1) := by decide +kernel
theorem dX8_laysMay_100 : decode cX8_laysMay 100 = .ok (.baload, 1) := by decide +kernel
theorem dX8_laysMay_101 : decode cX8_laysMay 101 = .ok (.if_icmp .ne 14, 3) := by decide +kernel
theorem dX8_laysMay_104 : decode cX8_laysMay 104 = .ok (.iload 5, 2) := by decide +kernel
theorem dX8_laysMay_106 : decode cX8_laysMay 106 = .ok (.aload_n 0, 1) := by decide +kernel
theorem dX8_laysMay_107 : decode cX8_laysMay 107 = .ok (.getfield 105, 3) := by decide +kernel
theorem dX8_laysMay_110 : decode cX8_laysMay 110 = .ok (.iload_n 3, 1) := by decide +kernel
theorem dX8_laysMay_111 : decode cX8_laysMay 111 = .ok (.baload, 1) := by decide +kernel
theorem dX8_laysMay_112 : decode cX8_laysMay 112 = .ok (.if_icmp .eq 7, 3) := by decide +kernel
theorem dX8_laysMay_115 : decode cX8_laysMay 115 = .ok (.iconst 1, 1) := by decide +kernel
theorem dX8_laysMay_116 : decode cX8_laysMay 116 = .ok (.goto 4, 3) := by decide +kernel
theorem dX8_laysMay_119 : decode cX8_laysMay 119 = .ok (.iconst 0, 1) := by decide +kernel
theorem dX8_laysMay_120 : decode cX8_laysMay 120 = .ok (.istore_n 1, 1) := by decide +kernel
theorem dX8_laysMay_121 : decode cX8_laysMay 121 = .ok (.aload_n 0, 1) := by decide +kernel
theorem dX8_laysMay_122 : decode cX8_laysMay 122 = .ok (.getfield 101, 3) := by decide +kernel
theorem dX8_laysMay_125 : decode cX8_laysMay 125 = .ok (.iload_n 3, 1) := by decide +kernel
theorem dX8_laysMay_126 : decode cX8_laysMay 126 = .ok (.iload 4, 2) := by decide +kernel
theorem dX8_laysMay_128 : decode cX8_laysMay 128 = .ok (.bastore, 1) := by decide +kernel
theorem dX8_laysMay_129 : decode cX8_laysMay 129 = .ok (.aload_n 0, 1) := by decide +kernel
theorem dX8_laysMay_130 : decode cX8_laysMay 130 = .ok (.getfield 105, 3) := by decide +kernel
theorem dX8_laysMay_133 : decode cX8_laysMay 133 = .ok (.iload_n 3, 1) := by decide +kernel
theorem dX8_laysMay_134 : decode cX8_laysMay 134 = .ok (.iload 5, 2) := by decide +kernel
theorem dX8_laysMay_136 : decode cX8_laysMay 136 = .ok (.bastore, 1) := by decide +kernel
theorem dX8_laysMay_137 : decode cX8_laysMay 137 = .ok (.iinc 2 1, 3) := by decide +kernel
theorem dX8_laysMay_140 : decode cX8_laysMay 140 = .ok (.goto (-89), 3) := by decide +kernel
theorem dX8_laysMay_143 : decode cX8_laysMay 143 = .ok (.goto (-100), 3) := by decide +kernel
theorem dX8_laysMay_146 : decode cX8_laysMay 146 = .ok (.return_, 1) := by decide +kernel
set_option maxHeartbeats 4000000 in
set_option maxRecDepth 100000 in
theorem s_X8_comesTo (l : Launch) (d : Nat) {P : PP} {h : HP} (hv : Iv P h) (a2 : Int32) (a2l : 0 ≤ a2.toInt) (a2u : a2.toInt ≤ 4) (a3 : Int32) (a3l : 0 ≤ a3.toInt) (a3u : a3.toInt ≤ 1) (ckf : CKF h.2.1) : Mt l yX8_comesTo cX8_comesTo 13 (some .boolean) (d + 5) [.ref 70, .int a2, .int a3] h 0 0 (fun r h' => ∃ v : Int32, r = some (.int v) ∧ 0 ≤ v.toInt ∧ v.toInt ≤ 1 ∧ h = h' ∧ ((v.toInt = 1 → CT h.2.1 (h.2.1 70 6).toInt a2.toInt a3.toInt) ∧ (v.toInt = 0 → ¬ CT h.2.1 (h.2.1 70 6).toInt a2.toInt a3.toInt))) := by
  refine Mt_iv hv (by decide) (Nat.le_of_ble_eq_true rfl) ?_
  show Go l RX8 cX8_comesTo 13 (g_rm (d + 5) 0 0) "comesTo" (some .boolean) 117 0 0 (fun _ _ => True) (fun r h' => ∃ v : Int32, r = some (.int v) ∧ 0 ≤ v.toInt ∧ v.toInt ≤ 1 ∧ h = h' ∧ ((v.toInt = 1 → CT h.2.1 (h.2.1 70 6).toInt a2.toInt a3.toInt) ∧ (v.toInt = 0 → ¬ CT h.2.1 (h.2.1 70 6).toInt a2.toInt a3.toInt))) 0 0 [(0, .ref 70), (1, .int a2), (2, .int a3)] [] h
  obtain ⟨S, hS⟩ : ∃ S : Int, S = (h.2.1 70 6).toInt := ⟨_, rfl⟩
  have S0 : 0 ≤ S := by rw [hS]; exact (hv.2.1 70 6).1
  have S1 : S ≤ 1 := by rw [hS]; exact (hv.2.1 70 6).2
  have key : ∀ n : Nat, (∀ (l2 : Int32) (l4 : Int64) (l6 : Int64) (l8 : Int32), 0 ≤ l2.toInt → l2.toInt ≤ 1 → 0 ≤ l8.toInt → l8.toInt ≤ 1 → (l2.toInt = a3.toInt) → (CI h.2.1 S a2.toInt a3.toInt l4 l6 l8.toInt (V h.2.1 75 S) 0) → (0 ≤ un l6 ∧ un l6 < 18446744073709551616) → (1000 * (18446744073709551616 - un l6) + 0 : Int) < n → Go l RX8 cX8_comesTo 13 (g_rm (d + 5) 0 0) "comesTo" (some .boolean) 117 0 0 (fun _ _ => True) (fun r h' => ∃ v : Int32, r = some (.int v) ∧ 0 ≤ v.toInt ∧ v.toInt ≤ 1 ∧ h = h' ∧ ((v.toInt = 1 → CT h.2.1 (h.2.1 70 6).toInt a2.toInt a3.toInt) ∧ (v.toInt = 0 → ¬ CT h.2.1 (h.2.1 70 6).toInt a2.toInt a3.toInt))) 0 40 [(0, .ref 70), (2, .int l2), (4, .long l4), (6, .long l6), (8, .int l8)] [] h) ∧ (∀ (l2 : Int32) (l4 : Int64) (l6 : Int64) (l8 : Int32) (l9 : Int32), 0 ≤ l2.toInt → l2.toInt ≤ 1 → 0 ≤ l8.toInt → l8.toInt ≤ 1 → 0 ≤ l9.toInt → l9.toInt ≤ 40 → (l2.toInt = a3.toInt) → (CI h.2.1 S a2.toInt a3.toInt l4 l6 l8.toInt l9.toInt 0) → (0 ≤ un l6 ∧ un l6 < 18446744073709551616) → (1000 * (18446744073709551616 - un l6) + 10 * (40 - l9.toInt) + 9 : Int) < n → Go l RX8 cX8_comesTo 13 (g_rm (d + 5) 0 0) "comesTo" (some .boolean) 117 0 0 (fun _ _ => True) (fun r h' => ∃ v : Int32, r = some (.int v) ∧ 0 ≤ v.toInt ∧ v.toInt ≤ 1 ∧ h = h' ∧ ((v.toInt = 1 → CT h.2.1 (h.2.1 70 6).toInt a2.toInt a3.toInt) ∧ (v.toInt = 0 → ¬ CT h.2.1 (h.2.1 70 6).toInt a2.toInt a3.toInt))) 0 55 [(0, .ref 70), (2, .int l2), (4, .long l4), (6, .long l6), (8, .int l8), (9, .int l9)] [] h) ∧ (∀ (l2 : Int32) (l4 : Int64) (l6 : Int64) (l8 : Int32) (l9 : Int32) (l10 : Int32), 0 ≤ l2.toInt → l2.toInt ≤ 1 → 0 ≤ l8.toInt → l8.toInt ≤ 1 → 0 ≤ l9.toInt → l9.toInt ≤ 39 → 0 ≤ l10.toInt → l10.toInt ≤ 2 → (l2.toInt = a3.toInt) → (CI h.2.1 S a2.toInt a3.toInt l4 l6 l8.toInt l9.toInt l10.toInt) → (0 ≤ un l6 ∧ un l6 < 18446744073709551616) → (l9.toInt < V h.2.1 75 S) → (1000 * (18446744073709551616 - un l6) + 10 * (40 - l9.toInt) + 2 * (2 - l10.toInt) + 2 : Int) < n → Go l RX8 cX8_comesTo 13 (g_rm (d + 5) 0 0) "comesTo" (some .boolean) 117 0 0 (fun _ _ => True) (fun r h' => ∃ v : Int32, r = some (.int v) ∧ 0 ≤ v.toInt ∧ v.toInt ≤ 1 ∧ h = h' ∧ ((v.toInt = 1 → CT h.2.1 (h.2.1 70 6).toInt a2.toInt a3.toInt) ∧ (v.toInt = 0 → ¬ CT h.2.1 (h.2.1 70 6).toInt a2.toInt a3.toInt))) 0 72 [(0, .ref 70), (2, .int l2), (4, .long l4), (6, .long l6), (8, .int l8), (9, .int l9), (10, .int l10)] [] h) ∧ (∀ (l2 : Int32) (l4 : Int64) (l6 : Int64) (l8 : Int32) (l9 : Int32) (l10 : Int32) (l11 : Int32) (s0 : Int32), 0 ≤ l2.toInt → l2.toInt ≤ 1 → 0 ≤ l8.toInt → l8.toInt ≤ 1 → 0 ≤ l9.toInt → l9.toInt ≤ 39 → 0 ≤ l10.toInt → l10.toInt ≤ 1 → -2 ≤ l11.toInt → l11.toInt ≤ 39 → 0 ≤ s0.toInt → s0.toInt ≤ 1 → (l2.toInt = a3.toInt) → (CI h.2.1 S a2.toInt a3.toInt l4 l6 l8.toInt l9.toInt l10.toInt) → (0 ≤ un l6 ∧ un l6 < 18446744073709551616) → (l9.toInt < V h.2.1 75 S) → (l11.toInt = wy h.2.1 S l9.toInt l10.toInt) → (s0.toInt = th h.2.1 S l9.toInt l10.toInt) → (bt l4 l9.toInt) → (1000 * (18446744073709551616 - un l6) + 10 * (40 - l9.toInt) + 2 * (2 - l10.toInt) + 1 : Int) < n → Go l RX8 cX8_comesTo 13 (g_rm (d + 5) 0 0) "comesTo" (some .boolean) 117 0 0 (fun _ _ => True) (fun r h' => ∃ v : Int32, r = some (.int v) ∧ 0 ≤ v.toInt ∧ v.toInt ≤ 1 ∧ h = h' ∧ ((v.toInt = 1 → CT h.2.1 (h.2.1 70 6).toInt a2.toInt a3.toInt) ∧ (v.toInt = 0 → ¬ CT h.2.1 (h.2.1 70 6).toInt a2.toInt a3.toInt))) 0 148 [(0, .ref 70), (2, .int l2), (4, .long l4), (6, .long l6), (8, .int l8), (9, .int l9), (10, .int l10), (11, .int l11)] [.int s0] h) := by
    intro n
    induction n with
    | zero => exact ⟨(by intros; omega), (by intros; omega), (by intros; omega), (by intros; omega)⟩
    | succ n ih =>
      refine ⟨?_, ?_, ?_, ?_⟩
      ·
        intro l2 l4 l6 l8 l2l l2u l8l l8u x0 x1 x2 hm
        refine go_lload (pc := 40) rfl dX8_comesTo_40 ?_
        refine go_lload (pc := 42) rfl dX8_comesTo_42 ?_
        refine gx_lcmp (pc := 44) dX8_comesTo_44 (fun v1 v1x => ?_)
        refine gf_if_eq (pc := 45) (tgt := 203) (ti_rfl v1) (by decide) dX8_comesTo_45 (fun q2 => ?_) (fun q2 => ?_)
        ·
          have ue : l6 = l4 := (cmp_eq _ _).mp (by rw [← v1x]; omega)
          refine go_iload (pc := 203) rfl dX8_comesTo_203 ?_
          exact gi_zret (pc := 205) (ti_rfl l8) (by omega) (by omega) ⟨_, rfl, (by rw [show (l8 : Int32).toInt = l8.toInt from (ti_rfl l8)]; omega), (by rw [show (l8 : Int32).toInt = l8.toInt from (ti_rfl l8)]; omega), rfl, (by rw [← hS]; have z := x1; rw [ue] at z; exact CI.fin z (Int.le_refl _))⟩ hv dX8_comesTo_205
        ·
          have ub : ¬ un l6 = un l4 := fun z => absurd (show (v1 : Int32).toInt = 0 from by rw [v1x]; exact (cmp_eq _ _).mpr (un_inj z)) (by omega)
          have ua := x1.2.2.2.2.1
          refine go_lload (pc := 48) rfl dX8_comesTo_48 ?_
          refine go_lstore (pc := 50) (Nat.le_of_ble_eq_true rfl) dX8_comesTo_50 (go_lv (lv2 := [(0, .ref 70), (2, .int l2), (4, .long l4), (6, .long l4), (8, .int l8)]) rfl ?_)
          refine go_iconst (pc := 52) (v := 0) (by decide) dX8_comesTo_52 ?_
          refine go_istore (pc := 53) (Nat.le_of_ble_eq_true rfl) dX8_comesTo_53 (go_lv (lv2 := [(0, .ref 70), (2, .int l2), (4, .long l4), (6, .long l4), (8, .int l8), (9, .int 0)]) rfl ?_)
          have z3 : (0 : Int32).toInt = 0 := (ti_c (v := 0) (a := 0) (by decide))
          exact go_lv rfl (ih.2.1 l2 l4 l4 l8 0  (by omega) (by omega) (by omega) (by omega) (by omega) (by omega) (by omega) (by have e0 : (0 : Int32).toInt = 0 := (by decide); rw [e0]; exact CI.start x1) ⟨un_lo _, un_hi _⟩ (by omega))
      ·
        intro l2 l4 l6 l8 l9 l2l l2u l8l l8u l9l l9u x0 x1 x2 hm
        refine go_iload (pc := 55) rfl dX8_comesTo_55 ?_
        refine go_aload_n (pc := 57) rfl dX8_comesTo_57 ?_
        refine gi_getF (pc := 58) (q := 75) hv fL_X8_23 rfl (Nat.le_of_ble_eq_true rfl) rfl (hv.rf (by decide)) dX8_comesTo_58 ?_
        refine go_aload_n (pc := 61) rfl dX8_comesTo_61 ?_
        refine gi_get (pc := 62) (lo := 0) (hi := 1) hv fL_X8_187 rfl (Nat.le_of_ble_eq_true rfl) rfl rfl dX8_comesTo_62 (fun v4 v4l v4u v4w => ?_)
        have v4S : v4.toInt = S := by rw [v4w, hv.fy (j := 6) (by omega), ← hv.fy (j := 6) (by omega)]; exact hS.symm
        refine gi_iald (pc := 65) (lo := 0) (hi := 40) (len := 2) hv (ti_rfl v4) rfl (by omega) (by omega) (fun _ => rfl) dX8_comesTo_65 (fun v5 v5l v5u v5w => ?_)
        have v5V : v5.toInt = V h.2.1 75 S := by rw [v5w, v4S]; rfl
        refine gf_icmp_ge (pc := 66) (tgt := 200) (ti_rfl l9) (ti_rfl v5) (by decide) dX8_comesTo_66 (fun q6 => ?_) (fun q6 => ?_)
        ·
          refine go_goto (pc := 200) (tgt := 40) (by decide) dX8_comesTo_200 ?_
          exact go_lv rfl (ih.1 l2 l4 l6 l8  (by omega) (by omega) (by omega) (by omega) (by omega) (CI.all x1 (by omega)) ⟨un_lo _, un_hi _⟩ (by omega))
        ·
          refine go_iconst (pc := 69) (v := 0) (by decide) dX8_comesTo_69 ?_
          refine go_istore (pc := 70) (Nat.le_of_ble_eq_true rfl) dX8_comesTo_70 (go_lv (lv2 := [(0, .ref 70), (2, .int l2), (4, .long l4), (6, .long l6), (8, .int l8), (9, .int l9), (10, .int 0)]) rfl ?_)
          have z7 : (0 : Int32).toInt = 0 := (ti_c (v := 0) (a := 0) (by decide))
          exact go_lv rfl (ih.2.2.1 l2 l4 l6 l8 l9 0  (by omega) (by omega) (by omega) (by omega) (by omega) (by omega) (by omega) (by omega) (by omega) (by have e0 : (0 : Int32).toInt = 0 := (by decide); rw [e0]; exact x1) ⟨un_lo _, un_hi _⟩ (by omega) (by omega))
      ·
        intro l2 l4 l6 l8 l9 l10 l2l l2u l8l l8u l9l l9u l10l l10u x0 x1 x2 x3 hm
        refine go_iload (pc := 72) rfl dX8_comesTo_72 ?_
        refine go_iconst (pc := 74) (v := 2) (by decide) dX8_comesTo_74 ?_
        refine gf_icmp_ge (pc := 75) (tgt := 194) (ti_rfl l10) (ti_c (v := 2) (a := 2) (by decide)) (by decide) dX8_comesTo_75 (fun q8 => ?_) (fun q8 => ?_)
        ·
          refine gf_iinc (pc := 194) (Nat.le_of_ble_eq_true rfl) rfl (ti_rfl l9) (ti_c (by decide)) (by omega) (by omega) dX8_comesTo_194 (fun v9 e10 => ?_)
          refine go_lv (lv2 := [(0, .ref 70), (2, .int l2), (4, .long l4), (6, .long l6), (8, .int l8), (9, .int v9), (10, .int l10)]) rfl ?_
          refine go_goto (pc := 197) (tgt := 55) (by decide) dX8_comesTo_197 ?_
          have z11 : (v9 : Int32).toInt = (l9.toInt + 1) := e10
          exact go_lv rfl (ih.2.1 l2 l4 l6 l8 v9  (by omega) (by omega) (by omega) (by omega) (by omega) (by omega) (by omega) (by rw [show (v9 : Int32).toInt = l9.toInt + 1 from e10]; exact CI.next x1 (by omega) (Or.inl (by omega))) ⟨un_lo _, un_hi _⟩ (by omega))
        ·
          refine go_lload (pc := 78) rfl dX8_comesTo_78 ?_
          refine go_iload (pc := 80) rfl dX8_comesTo_80 ?_
          refine go_invS (pc := 82) (sl := 0) (s_X8_has_x l (d + 3) hv l4 l9 (by rw [show (l9 : Int32).toInt = l9.toInt from (ti_rfl l9)]; omega) (by rw [show (l9 : Int32).toInt = l9.toInt from (ti_rfl l9)]; omega)) mL_X8_280 iM_X8_has rfl rfl (Nat.le_of_ble_eq_true rfl) (show d + 3 + 1 + 1 ≤ d + 5 by omega) (show 8 + (3 + 11) + 40 * (d + 3 + 1) ≤ 40 * (d + 5) by omega) (g_c0 hv.ln) (Nat.le_of_ble_eq_true rfl) dX8_comesTo_82 ?_
          intro r h12 hq _
          obtain ⟨v14, rfl, v14l, v14u, rfl, f13⟩ := hq
          refine gf_if_eq (pc := 85) (tgt := 194) (ti_rfl v14) (by decide) dX8_comesTo_85 (fun q15 => ?_) (fun q15 => ?_)
          ·
            refine gf_iinc (pc := 194) (Nat.le_of_ble_eq_true rfl) rfl (ti_rfl l9) (ti_c (by decide)) (by omega) (by omega) dX8_comesTo_194 (fun v16 e17 => ?_)
            refine go_lv (lv2 := [(0, .ref 70), (2, .int l2), (4, .long l4), (6, .long l6), (8, .int l8), (9, .int v16), (10, .int l10)]) rfl ?_
            refine go_goto (pc := 197) (tgt := 55) (by decide) dX8_comesTo_197 ?_
            have z18 : (v16 : Int32).toInt = (l9.toInt + 1) := e17
            exact go_lv rfl (ih.2.1 l2 l4 l6 l8 v16  (by omega) (by omega) (by omega) (by omega) (by omega) (by omega) (by omega) (by rw [show (v16 : Int32).toInt = l9.toInt + 1 from e17]; exact CI.next x1 (by omega) (Or.inr (f13.2 (by omega)))) ⟨un_lo _, un_hi _⟩ (by omega))
          ·
            refine go_aload_n (pc := 88) rfl dX8_comesTo_88 ?_
            refine go_iload (pc := 89) rfl dX8_comesTo_89 ?_
            refine go_iload (pc := 91) rfl dX8_comesTo_91 ?_
            have sM19 : (h.2.1 70 6).toInt = S := by rw [hv.fy (j := 6) (by omega), ← hv.fy (j := 6) (by omega)]; exact hS.symm
            refine go_invV (pc := 93) (sl := 0) (s_X8_way_x l (d + 0) hv l9 (by rw [show (l9 : Int32).toInt = l9.toInt from (ti_rfl l9)]; omega) (by rw [show (l9 : Int32).toInt = l9.toInt from (ti_rfl l9)]; omega) l10 (by rw [show (l10 : Int32).toInt = l10.toInt from (ti_rfl l10)]; omega) (by rw [show (l10 : Int32).toInt = l10.toInt from (ti_rfl l10)]; omega) ckf) mL_X8_284 iM_X8_way sM_X8_way (hv.sh rfl) rfl rfl rfl (Nat.le_of_ble_eq_true rfl) (show d + 0 + 4 + 1 ≤ d + 5 by omega) (show 8 + (4 + 11) + 40 * (d + 0 + 4) ≤ 40 * (d + 5) by omega) (g_c0 hv.ln) (Nat.le_of_ble_eq_true rfl) dX8_comesTo_93 ?_
            intro r h20 hq _
            obtain ⟨v22, rfl, v22l, v22u, rfl, f21⟩ := hq
            rw [sM19] at f21
            refine go_istore (pc := 96) (Nat.le_of_ble_eq_true rfl) dX8_comesTo_96 (go_lv (lv2 := [(0, .ref 70), (2, .int l2), (4, .long l4), (6, .long l6), (8, .int l8), (9, .int l9), (10, .int l10), (11, .int v22)]) rfl ?_)
            refine go_iload (pc := 98) rfl dX8_comesTo_98 ?_
            refine go_iconst (pc := 100) (v := 1) (by decide) dX8_comesTo_100 ?_
            refine gf_icmp_ne (pc := 101) (tgt := 147) (ti_rfl l10) (ti_c (v := 1) (a := 1) (by decide)) (by decide) dX8_comesTo_101 (fun q23 => ?_) (fun q23 => ?_)
            ·
              refine go_iconst (pc := 147) (v := 0) (by decide) dX8_comesTo_147 ?_
              have z24 : (0 : Int32).toInt = 0 := (ti_c (v := 0) (a := 0) (by decide))
              exact go_lv rfl (ih.2.2.2 l2 l4 l6 l8 l9 l10 v22 0  (by omega) (by omega) (by omega) (by omega) (by omega) (by omega) (by omega) (by omega) (by omega) (by omega) (by omega) (by omega) (by omega) x1 ⟨un_lo _, un_hi _⟩ (by omega) f21 (by unfold th; (first | rw [if_neg (by omega)] | rw [if_pos (by omega)]); decide) (f13.1 (by omega)) (by omega))
            ·
              refine go_aload_n (pc := 104) rfl dX8_comesTo_104 ?_
              refine go_iload (pc := 105) rfl dX8_comesTo_105 ?_
              refine go_invV (pc := 107) (sl := 0) (s_X8_kindAt l (d + 2) hv l9 (by rw [show (l9 : Int32).toInt = l9.toInt from (ti_rfl l9)]; omega) (by rw [show (l9 : Int32).toInt = l9.toInt from (ti_rfl l9)]; omega)) mL_X8_271 iM_X8_kindAt sM_X8_kindAt (hv.sh rfl) rfl rfl rfl (Nat.le_of_ble_eq_true rfl) (show d + 2 + 2 + 1 ≤ d + 5 by omega) (show 8 + (2 + 11) + 40 * (d + 2 + 2) ≤ 40 * (d + 5) by omega) (g_c0 hv.ln) (Nat.le_of_ble_eq_true rfl) dX8_comesTo_107 ?_
              intro r h25 hq _
              obtain ⟨v27, rfl, v27l, v27u, rfl, f26⟩ := hq
              have v27K : v27.toInt = V h.2.1 77 (V h.2.1 93 (40 * S + l9.toInt)) := by rw [f26]; unfold g_kd g_it; rw [← hS]; rfl
              refine go_iconst (pc := 110) (v := 4) (by decide) dX8_comesTo_110 ?_
              refine gf_icmp_eq (pc := 111) (tgt := 124) (ti_rfl v27) (ti_c (v := 4) (a := 4) (by decide)) (by decide) dX8_comesTo_111 (fun q28 => ?_) (fun q28 => ?_)
              ·
                refine go_aload_n (pc := 124) rfl dX8_comesTo_124 ?_
                refine gi_getF (pc := 125) (q := 99) hv fL_X8_95 rfl (Nat.le_of_ble_eq_true rfl) rfl (hv.rf (by decide)) dX8_comesTo_125 ?_
                refine go_bipush (pc := 128) (v := 40) (by decide) dX8_comesTo_128 ?_
                refine go_aload_n (pc := 130) rfl dX8_comesTo_130 ?_
                refine gi_get (pc := 131) (lo := 0) (hi := 1) hv fL_X8_187 rfl (Nat.le_of_ble_eq_true rfl) rfl rfl dX8_comesTo_131 (fun v29 v29l v29u v29w => ?_)
                have v29S : v29.toInt = S := by rw [v29w, hv.fy (j := 6) (by omega), ← hv.fy (j := 6) (by omega)]; exact hS.symm
                refine gf_imul (pc := 134) (ti_c (v := 40) (a := 40) (by decide)) (ti_rfl v29) (by omega) (by omega) dX8_comesTo_134 (fun v30 e31 => ?_)
                refine go_iload (pc := 135) rfl dX8_comesTo_135 ?_
                refine gf_iadd (pc := 137) e31 (ti_rfl l9) (by omega) (by omega) dX8_comesTo_137 (fun v32 e33 => ?_)
                refine gi_iald (pc := 138) (lo := -1) (hi := 5) (len := 80) hv e33 rfl (by omega) (by omega) (fun _ => rfl) dX8_comesTo_138 (fun v34 v34l v34u v34w => ?_)
                have v34V : v34.toInt = V h.2.1 99 (((40 * S) + l9.toInt)) := by rw [v34w, v29S]; rfl
                refine go_iconst (pc := 139) (v := (-1)) (by decide) dX8_comesTo_139 ?_
                refine gf_icmp_ne (pc := 140) (tgt := 147) (ti_rfl v34) (ti_c (v := (-1)) (a := (-1)) (by decide)) (by decide) dX8_comesTo_140 (fun q35 => ?_) (fun q35 => ?_)
                ·
                  refine go_iconst (pc := 147) (v := 0) (by decide) dX8_comesTo_147 ?_
                  have z36 : (0 : Int32).toInt = 0 := (ti_c (v := 0) (a := 0) (by decide))
                  exact go_lv rfl (ih.2.2.2 l2 l4 l6 l8 l9 l10 v22 0  (by omega) (by omega) (by omega) (by omega) (by omega) (by omega) (by omega) (by omega) (by omega) (by omega) (by omega) (by omega) (by omega) x1 ⟨un_lo _, un_hi _⟩ (by omega) f21 (by unfold th; (first | rw [if_neg (by omega)] | rw [if_pos (by omega)]); decide) (f13.1 (by omega)) (by omega))
                ·
                  refine go_iconst (pc := 143) (v := 1) (by decide) dX8_comesTo_143 ?_
                  refine go_goto (pc := 144) (tgt := 148) (by decide) dX8_comesTo_144 ?_
                  have z37 : (1 : Int32).toInt = 1 := (ti_c (v := 1) (a := 1) (by decide))
                  exact go_lv rfl (ih.2.2.2 l2 l4 l6 l8 l9 l10 v22 1  (by omega) (by omega) (by omega) (by omega) (by omega) (by omega) (by omega) (by omega) (by omega) (by omega) (by omega) (by omega) (by omega) x1 ⟨un_lo _, un_hi _⟩ (by omega) f21 (by unfold th; (first | rw [if_neg (by omega)] | rw [if_pos (by omega)]); decide) (f13.1 (by omega)) (by omega))
              ·
                refine go_aload_n (pc := 114) rfl dX8_comesTo_114 ?_
                refine go_iload (pc := 115) rfl dX8_comesTo_115 ?_
                refine go_invV (pc := 117) (sl := 0) (s_X8_kindAt l (d + 2) hv l9 (by rw [show (l9 : Int32).toInt = l9.toInt from (ti_rfl l9)]; omega) (by rw [show (l9 : Int32).toInt = l9.toInt from (ti_rfl l9)]; omega)) mL_X8_271 iM_X8_kindAt sM_X8_kindAt (hv.sh rfl) rfl rfl rfl (Nat.le_of_ble_eq_true rfl) (show d + 2 + 2 + 1 ≤ d + 5 by omega) (show 8 + (2 + 11) + 40 * (d + 2 + 2) ≤ 40 * (d + 5) by omega) (g_c0 hv.ln) (Nat.le_of_ble_eq_true rfl) dX8_comesTo_117 ?_
                intro r h38 hq _
                obtain ⟨v40, rfl, v40l, v40u, rfl, f39⟩ := hq
                have v40K : v40.toInt = V h.2.1 77 (V h.2.1 93 (40 * S + l9.toInt)) := by rw [f39]; unfold g_kd g_it; rw [← hS]; rfl
                refine go_iconst (pc := 120) (v := 1) (by decide) dX8_comesTo_120 ?_
                refine gf_icmp_ne (pc := 121) (tgt := 147) (ti_rfl v40) (ti_c (v := 1) (a := 1) (by decide)) (by decide) dX8_comesTo_121 (fun q41 => ?_) (fun q41 => ?_)
                ·
                  refine go_iconst (pc := 147) (v := 0) (by decide) dX8_comesTo_147 ?_
                  have z42 : (0 : Int32).toInt = 0 := (ti_c (v := 0) (a := 0) (by decide))
                  exact go_lv rfl (ih.2.2.2 l2 l4 l6 l8 l9 l10 v22 0  (by omega) (by omega) (by omega) (by omega) (by omega) (by omega) (by omega) (by omega) (by omega) (by omega) (by omega) (by omega) (by omega) x1 ⟨un_lo _, un_hi _⟩ (by omega) f21 (by unfold th; (first | rw [if_neg (by omega)] | rw [if_pos (by omega)]); decide) (f13.1 (by omega)) (by omega))
                ·
                  refine go_aload_n (pc := 124) rfl dX8_comesTo_124 ?_
                  refine gi_getF (pc := 125) (q := 99) hv fL_X8_95 rfl (Nat.le_of_ble_eq_true rfl) rfl (hv.rf (by decide)) dX8_comesTo_125 ?_
                  refine go_bipush (pc := 128) (v := 40) (by decide) dX8_comesTo_128 ?_
                  refine go_aload_n (pc := 130) rfl dX8_comesTo_130 ?_
                  refine gi_get (pc := 131) (lo := 0) (hi := 1) hv fL_X8_187 rfl (Nat.le_of_ble_eq_true rfl) rfl rfl dX8_comesTo_131 (fun v43 v43l v43u v43w => ?_)
                  have v43S : v43.toInt = S := by rw [v43w, hv.fy (j := 6) (by omega), ← hv.fy (j := 6) (by omega)]; exact hS.symm
                  refine gf_imul (pc := 134) (ti_c (v := 40) (a := 40) (by decide)) (ti_rfl v43) (by omega) (by omega) dX8_comesTo_134 (fun v44 e45 => ?_)
                  refine go_iload (pc := 135) rfl dX8_comesTo_135 ?_
                  refine gf_iadd (pc := 137) e45 (ti_rfl l9) (by omega) (by omega) dX8_comesTo_137 (fun v46 e47 => ?_)
                  refine gi_iald (pc := 138) (lo := -1) (hi := 5) (len := 80) hv e47 rfl (by omega) (by omega) (fun _ => rfl) dX8_comesTo_138 (fun v48 v48l v48u v48w => ?_)
                  have v48V : v48.toInt = V h.2.1 99 (((40 * S) + l9.toInt)) := by rw [v48w, v43S]; rfl
                  refine go_iconst (pc := 139) (v := (-1)) (by decide) dX8_comesTo_139 ?_
                  refine gf_icmp_ne (pc := 140) (tgt := 147) (ti_rfl v48) (ti_c (v := (-1)) (a := (-1)) (by decide)) (by decide) dX8_comesTo_140 (fun q49 => ?_) (fun q49 => ?_)
                  ·
                    refine go_iconst (pc := 147) (v := 0) (by decide) dX8_comesTo_147 ?_
                    have z50 : (0 : Int32).toInt = 0 := (ti_c (v := 0) (a := 0) (by decide))
                    exact go_lv rfl (ih.2.2.2 l2 l4 l6 l8 l9 l10 v22 0  (by omega) (by omega) (by omega) (by omega) (by omega) (by omega) (by omega) (by omega) (by omega) (by omega) (by omega) (by omega) (by omega) x1 ⟨un_lo _, un_hi _⟩ (by omega) f21 (by unfold th; (first | rw [if_neg (by omega)] | rw [if_pos (by omega)]); decide) (f13.1 (by omega)) (by omega))
                  ·
                    refine go_iconst (pc := 143) (v := 1) (by decide) dX8_comesTo_143 ?_
                    refine go_goto (pc := 144) (tgt := 148) (by decide) dX8_comesTo_144 ?_
                    have z51 : (1 : Int32).toInt = 1 := (ti_c (v := 1) (a := 1) (by decide))
                    exact go_lv rfl (ih.2.2.2 l2 l4 l6 l8 l9 l10 v22 1  (by omega) (by omega) (by omega) (by omega) (by omega) (by omega) (by omega) (by omega) (by omega) (by omega) (by omega) (by omega) (by omega) x1 ⟨un_lo _, un_hi _⟩ (by omega) f21 (by unfold th; (first | rw [if_neg (by omega)] | rw [if_pos (by omega)]); decide) (f13.1 (by omega)) (by omega))
      ·
        intro l2 l4 l6 l8 l9 l10 l11 s0 l2l l2u l8l l8u l9l l9u l10l l10u l11l l11u s0l s0u x0 x1 x2 x3 x4 x5 x6 hm
        refine go_istore (pc := 148) (Nat.le_of_ble_eq_true rfl) dX8_comesTo_148 (go_lv (lv2 := [(0, .ref 70), (2, .int l2), (4, .long l4), (6, .long l6), (8, .int l8), (9, .int l9), (10, .int l10), (11, .int l11), (12, .int s0)]) rfl ?_)
        refine go_iload (pc := 150) rfl dX8_comesTo_150 ?_
        refine gf_if_lt (pc := 152) (tgt := 164) (ti_rfl l11) (by decide) dX8_comesTo_152 (fun q52 => ?_) (fun q52 => ?_)
        ·
          refine go_iload (pc := 164) rfl dX8_comesTo_164 ?_
          refine gf_if_ne (pc := 166) (tgt := 181) (ti_rfl l8) (by decide) dX8_comesTo_166 (fun q53 => ?_) (fun q53 => ?_)
          ·
            refine go_iconst (pc := 181) (v := 1) (by decide) dX8_comesTo_181 ?_
            refine go_goto (pc := 182) (tgt := 186) (by decide) dX8_comesTo_182 ?_
            refine go_istore (pc := 186) (Nat.le_of_ble_eq_true rfl) dX8_comesTo_186 (go_lv (lv2 := [(0, .ref 70), (2, .int l2), (4, .long l4), (6, .long l6), (8, .int 1), (9, .int l9), (10, .int l10), (11, .int l11), (12, .int s0)]) rfl ?_)
            refine gf_iinc (pc := 188) (Nat.le_of_ble_eq_true rfl) rfl (ti_rfl l10) (ti_c (by decide)) (by omega) (by omega) dX8_comesTo_188 (fun v54 e55 => ?_)
            refine go_lv (lv2 := [(0, .ref 70), (2, .int l2), (4, .long l4), (6, .long l6), (8, .int 1), (9, .int l9), (10, .int v54), (11, .int l11), (12, .int s0)]) rfl ?_
            refine go_goto (pc := 191) (tgt := 72) (by decide) dX8_comesTo_191 ?_
            have z56 : (1 : Int32).toInt = 1 := (ti_c (v := 1) (a := 1) (by decide))
            have z57 : (v54 : Int32).toInt = (l10.toInt + 1) := e55
            exact go_lv rfl (ih.2.2.1 l2 l4 l6 1 l9 v54  (by omega) (by omega) (by omega) (by omega) (by omega) (by omega) (by omega) (by omega) (by omega) (by rw [show (v54 : Int32).toInt = l10.toInt + 1 from e55]; exact CI.step x1 (by omega) (by omega) (by omega) x6 (Or.inl ⟨by omega, rfl⟩) ⟨fun _ => (by first | exact Or.inl (by omega) | exact Or.inr ⟨by omega, by omega⟩), fun _ => by decide⟩) ⟨un_lo _, un_hi _⟩ (by omega) (by omega))
          ·
            refine go_iload (pc := 169) rfl dX8_comesTo_169 ?_
            refine go_iconst (pc := 171) (v := (-1)) (by decide) dX8_comesTo_171 ?_
            refine gf_icmp_ne (pc := 172) (tgt := 185) (ti_rfl l11) (ti_c (v := (-1)) (a := (-1)) (by decide)) (by decide) dX8_comesTo_172 (fun q58 => ?_) (fun q58 => ?_)
            ·
              refine go_iconst (pc := 185) (v := 0) (by decide) dX8_comesTo_185 ?_
              refine go_istore (pc := 186) (Nat.le_of_ble_eq_true rfl) dX8_comesTo_186 (go_lv (lv2 := [(0, .ref 70), (2, .int l2), (4, .long l4), (6, .long l6), (8, .int 0), (9, .int l9), (10, .int l10), (11, .int l11), (12, .int s0)]) rfl ?_)
              refine gf_iinc (pc := 188) (Nat.le_of_ble_eq_true rfl) rfl (ti_rfl l10) (ti_c (by decide)) (by omega) (by omega) dX8_comesTo_188 (fun v59 e60 => ?_)
              refine go_lv (lv2 := [(0, .ref 70), (2, .int l2), (4, .long l4), (6, .long l6), (8, .int 0), (9, .int l9), (10, .int v59), (11, .int l11), (12, .int s0)]) rfl ?_
              refine go_goto (pc := 191) (tgt := 72) (by decide) dX8_comesTo_191 ?_
              have z61 : (0 : Int32).toInt = 0 := (ti_c (v := 0) (a := 0) (by decide))
              have z62 : (v59 : Int32).toInt = (l10.toInt + 1) := e60
              exact go_lv rfl (ih.2.2.1 l2 l4 l6 0 l9 v59  (by omega) (by omega) (by omega) (by omega) (by omega) (by omega) (by omega) (by omega) (by omega) (by rw [show (v59 : Int32).toInt = l10.toInt + 1 from e60]; exact CI.step x1 (by omega) (by omega) (by omega) x6 (Or.inl ⟨by omega, rfl⟩) ⟨fun q => absurd q (by decide), fun q => by rcases q with q | q; (omega); (have q1 := q.1; have q2 := q.2; omega)⟩) ⟨un_lo _, un_hi _⟩ (by omega) (by omega))
            ·
              refine go_iload (pc := 175) rfl dX8_comesTo_175 ?_
              refine go_iload_n (pc := 177) rfl dX8_comesTo_177 ?_
              refine gf_icmp_ne (pc := 178) (tgt := 185) (ti_rfl s0) (ti_rfl l2) (by decide) dX8_comesTo_178 (fun q63 => ?_) (fun q63 => ?_)
              ·
                refine go_iconst (pc := 185) (v := 0) (by decide) dX8_comesTo_185 ?_
                refine go_istore (pc := 186) (Nat.le_of_ble_eq_true rfl) dX8_comesTo_186 (go_lv (lv2 := [(0, .ref 70), (2, .int l2), (4, .long l4), (6, .long l6), (8, .int 0), (9, .int l9), (10, .int l10), (11, .int l11), (12, .int s0)]) rfl ?_)
                refine gf_iinc (pc := 188) (Nat.le_of_ble_eq_true rfl) rfl (ti_rfl l10) (ti_c (by decide)) (by omega) (by omega) dX8_comesTo_188 (fun v64 e65 => ?_)
                refine go_lv (lv2 := [(0, .ref 70), (2, .int l2), (4, .long l4), (6, .long l6), (8, .int 0), (9, .int l9), (10, .int v64), (11, .int l11), (12, .int s0)]) rfl ?_
                refine go_goto (pc := 191) (tgt := 72) (by decide) dX8_comesTo_191 ?_
                have z66 : (0 : Int32).toInt = 0 := (ti_c (v := 0) (a := 0) (by decide))
                have z67 : (v64 : Int32).toInt = (l10.toInt + 1) := e65
                exact go_lv rfl (ih.2.2.1 l2 l4 l6 0 l9 v64  (by omega) (by omega) (by omega) (by omega) (by omega) (by omega) (by omega) (by omega) (by omega) (by rw [show (v64 : Int32).toInt = l10.toInt + 1 from e65]; exact CI.step x1 (by omega) (by omega) (by omega) x6 (Or.inl ⟨by omega, rfl⟩) ⟨fun q => absurd q (by decide), fun q => by rcases q with q | q; (omega); (have q1 := q.1; have q2 := q.2; omega)⟩) ⟨un_lo _, un_hi _⟩ (by omega) (by omega))
              ·
                refine go_iconst (pc := 181) (v := 1) (by decide) dX8_comesTo_181 ?_
                refine go_goto (pc := 182) (tgt := 186) (by decide) dX8_comesTo_182 ?_
                refine go_istore (pc := 186) (Nat.le_of_ble_eq_true rfl) dX8_comesTo_186 (go_lv (lv2 := [(0, .ref 70), (2, .int l2), (4, .long l4), (6, .long l6), (8, .int 1), (9, .int l9), (10, .int l10), (11, .int l11), (12, .int s0)]) rfl ?_)
                refine gf_iinc (pc := 188) (Nat.le_of_ble_eq_true rfl) rfl (ti_rfl l10) (ti_c (by decide)) (by omega) (by omega) dX8_comesTo_188 (fun v68 e69 => ?_)
                refine go_lv (lv2 := [(0, .ref 70), (2, .int l2), (4, .long l4), (6, .long l6), (8, .int 1), (9, .int l9), (10, .int v68), (11, .int l11), (12, .int s0)]) rfl ?_
                refine go_goto (pc := 191) (tgt := 72) (by decide) dX8_comesTo_191 ?_
                have z70 : (1 : Int32).toInt = 1 := (ti_c (v := 1) (a := 1) (by decide))
                have z71 : (v68 : Int32).toInt = (l10.toInt + 1) := e69
                exact go_lv rfl (ih.2.2.1 l2 l4 l6 1 l9 v68  (by omega) (by omega) (by omega) (by omega) (by omega) (by omega) (by omega) (by omega) (by omega) (by rw [show (v68 : Int32).toInt = l10.toInt + 1 from e69]; exact CI.step x1 (by omega) (by omega) (by omega) x6 (Or.inl ⟨by omega, rfl⟩) ⟨fun _ => (by first | exact Or.inl (by omega) | exact Or.inr ⟨by omega, by omega⟩), fun _ => by decide⟩) ⟨un_lo _, un_hi _⟩ (by omega) (by omega))
        ·
          refine go_lload (pc := 155) rfl dX8_comesTo_155 ?_
          refine go_lconst (pc := 157) (v := 1) (by decide) dX8_comesTo_157 ?_
          refine go_iload (pc := 158) rfl dX8_comesTo_158 ?_
          refine gx_lshl (pc := 160) dX8_comesTo_160 (fun v72 v72x => ?_)
          refine gx_lor (pc := 161) dX8_comesTo_161 (fun v73 v73x => ?_)
          refine go_lstore (pc := 162) (Nat.le_of_ble_eq_true rfl) dX8_comesTo_162 (go_lv (lv2 := [(0, .ref 70), (2, .int l2), (4, .long v73), (6, .long l6), (8, .int l8), (9, .int l9), (10, .int l10), (11, .int l11), (12, .int s0)]) rfl ?_)
          refine go_iload (pc := 164) rfl dX8_comesTo_164 ?_
          refine gf_if_ne (pc := 166) (tgt := 181) (ti_rfl l8) (by decide) dX8_comesTo_166 (fun q74 => ?_) (fun q74 => ?_)
          ·
            refine go_iconst (pc := 181) (v := 1) (by decide) dX8_comesTo_181 ?_
            refine go_goto (pc := 182) (tgt := 186) (by decide) dX8_comesTo_182 ?_
            refine go_istore (pc := 186) (Nat.le_of_ble_eq_true rfl) dX8_comesTo_186 (go_lv (lv2 := [(0, .ref 70), (2, .int l2), (4, .long v73), (6, .long l6), (8, .int 1), (9, .int l9), (10, .int l10), (11, .int l11), (12, .int s0)]) rfl ?_)
            refine gf_iinc (pc := 188) (Nat.le_of_ble_eq_true rfl) rfl (ti_rfl l10) (ti_c (by decide)) (by omega) (by omega) dX8_comesTo_188 (fun v75 e76 => ?_)
            refine go_lv (lv2 := [(0, .ref 70), (2, .int l2), (4, .long v73), (6, .long l6), (8, .int 1), (9, .int l9), (10, .int v75), (11, .int l11), (12, .int s0)]) rfl ?_
            refine go_goto (pc := 191) (tgt := 72) (by decide) dX8_comesTo_191 ?_
            have z77 : (1 : Int32).toInt = 1 := (ti_c (v := 1) (a := 1) (by decide))
            have z78 : (v75 : Int32).toInt = (l10.toInt + 1) := e76
            exact go_lv rfl (ih.2.2.1 l2 v73 l6 1 l9 v75  (by omega) (by omega) (by omega) (by omega) (by omega) (by omega) (by omega) (by omega) (by omega) (by rw [show (v75 : Int32).toInt = l10.toInt + 1 from e76]; exact CI.step x1 (by omega) (by omega) (by omega) x6 (Or.inr ⟨by omega, by rw [v73x]; exact un_or _ _, fun j hj => by rw [v73x, bt_or, v72x, bt_shl (by omega) (by omega) hj, x4]⟩) ⟨fun _ => (by first | exact Or.inl (by omega) | exact Or.inr ⟨by omega, by omega⟩), fun _ => by decide⟩) ⟨un_lo _, un_hi _⟩ (by omega) (by omega))
          ·
            refine go_iload (pc := 169) rfl dX8_comesTo_169 ?_
            refine go_iconst (pc := 171) (v := (-1)) (by decide) dX8_comesTo_171 ?_
            refine gf_icmp_ne (pc := 172) (tgt := 185) (ti_rfl l11) (ti_c (v := (-1)) (a := (-1)) (by decide)) (by decide) dX8_comesTo_172 (fun q79 => ?_) (fun q79 => False.elim (by omega))
            refine go_iconst (pc := 185) (v := 0) (by decide) dX8_comesTo_185 ?_
            refine go_istore (pc := 186) (Nat.le_of_ble_eq_true rfl) dX8_comesTo_186 (go_lv (lv2 := [(0, .ref 70), (2, .int l2), (4, .long v73), (6, .long l6), (8, .int 0), (9, .int l9), (10, .int l10), (11, .int l11), (12, .int s0)]) rfl ?_)
            refine gf_iinc (pc := 188) (Nat.le_of_ble_eq_true rfl) rfl (ti_rfl l10) (ti_c (by decide)) (by omega) (by omega) dX8_comesTo_188 (fun v80 e81 => ?_)
            refine go_lv (lv2 := [(0, .ref 70), (2, .int l2), (4, .long v73), (6, .long l6), (8, .int 0), (9, .int l9), (10, .int v80), (11, .int l11), (12, .int s0)]) rfl ?_
            refine go_goto (pc := 191) (tgt := 72) (by decide) dX8_comesTo_191 ?_
            have z82 : (0 : Int32).toInt = 0 := (ti_c (v := 0) (a := 0) (by decide))
            have z83 : (v80 : Int32).toInt = (l10.toInt + 1) := e81
            exact go_lv rfl (ih.2.2.1 l2 v73 l6 0 l9 v80  (by omega) (by omega) (by omega) (by omega) (by omega) (by omega) (by omega) (by omega) (by omega) (by rw [show (v80 : Int32).toInt = l10.toInt + 1 from e81]; exact CI.step x1 (by omega) (by omega) (by omega) x6 (Or.inr ⟨by omega, by rw [v73x]; exact un_or _ _, fun j hj => by rw [v73x, bt_or, v72x, bt_shl (by omega) (by omega) hj, x4]⟩) ⟨fun q => absurd q (by decide), fun q => by rcases q with q | q; (omega); (have q1 := q.1; have q2 := q.2; omega)⟩) ⟨un_lo _, un_hi _⟩ (by omega) (by omega))
  refine go_aload_n (pc := 0) rfl dX8_comesTo_0 ?_
  refine gi_getF (pc := 1) (q := 100) hv fL_X8_98 rfl (Nat.le_of_ble_eq_true rfl) rfl (hv.rf (by decide)) dX8_comesTo_1 ?_
  refine go_iconst (pc := 4) (v := 5) (by decide) dX8_comesTo_4 ?_
  refine go_aload_n (pc := 5) rfl dX8_comesTo_5 ?_
  refine gi_get (pc := 6) (lo := 0) (hi := 1) hv fL_X8_187 rfl (Nat.le_of_ble_eq_true rfl) rfl rfl dX8_comesTo_6 (fun v84 v84l v84u v84w => ?_)
  have v84S : v84.toInt = S := by rw [v84w, hv.fy (j := 6) (by omega), ← hv.fy (j := 6) (by omega)]; exact hS.symm
  refine gf_imul (pc := 9) (ti_c (v := 5) (a := 5) (by decide)) (ti_rfl v84) (by omega) (by omega) dX8_comesTo_9 (fun v85 e86 => ?_)
  refine go_iload_n (pc := 10) rfl dX8_comesTo_10 ?_
  refine gf_iadd (pc := 11) e86 (ti_rfl a2) (by omega) (by omega) dX8_comesTo_11 (fun v87 e88 => ?_)
  refine gi_iald (pc := 12) (lo := -1) (hi := 39) (len := 10) hv e88 rfl (by omega) (by omega) (fun _ => rfl) dX8_comesTo_12 (fun v89 v89l v89u v89w => ?_)
  have v89V : v89.toInt = V h.2.1 100 (((5 * S) + a2.toInt)) := by rw [v89w, v84S]; rfl
  refine go_istore_n (pc := 13) (Nat.le_of_ble_eq_true rfl) dX8_comesTo_13 (go_lv (lv2 := [(0, .ref 70), (1, .int a2), (2, .int a3), (3, .int v89)]) rfl ?_)
  refine go_iload_n (pc := 14) rfl dX8_comesTo_14 ?_
  refine go_iconst (pc := 15) (v := (-1)) (by decide) dX8_comesTo_15 ?_
  refine gf_icmp_ne (pc := 16) (tgt := 29) (ti_rfl v89) (ti_c (v := (-1)) (a := (-1)) (by decide)) (by decide) dX8_comesTo_16 (fun q90 => ?_) (fun q90 => ?_)
  ·
    refine go_lconst (pc := 29) (v := 1) (by decide) dX8_comesTo_29 ?_
    refine go_iload_n (pc := 30) rfl dX8_comesTo_30 ?_
    refine gx_lshl (pc := 31) dX8_comesTo_31 (fun v91 v91x => ?_)
    refine go_lstore (pc := 32) (Nat.le_of_ble_eq_true rfl) dX8_comesTo_32 (go_lv (lv2 := [(0, .ref 70), (1, .int a2), (2, .int a3), (3, .int v89), (4, .long v91)]) rfl ?_)
    refine go_lconst (pc := 34) (v := 0) (by decide) dX8_comesTo_34 ?_
    refine go_lstore (pc := 35) (Nat.le_of_ble_eq_true rfl) dX8_comesTo_35 (go_lv (lv2 := [(0, .ref 70), (1, .int a2), (2, .int a3), (3, .int v89), (4, .long v91), (6, .long 0)]) rfl ?_)
    have uz := un_lo 0
    refine go_iconst (pc := 37) (v := 0) (by decide) dX8_comesTo_37 ?_
    refine go_istore (pc := 38) (Nat.le_of_ble_eq_true rfl) dX8_comesTo_38 (go_lv (lv2 := [(0, .ref 70), (1, .int a2), (2, .int a3), (3, .int v89), (4, .long v91), (6, .long 0), (8, .int 0)]) rfl ?_)
    have z92 : (0 : Int32).toInt = 0 := (ti_c (v := 0) (a := 0) (by decide))
    exact go_lv rfl ((key 18446744073709551617001).1 a3 v91 0 0  (by omega) (by omega) (by omega) (by omega) (by omega) (by have e0 : (0 : Int32).toInt = 0 := (by decide); rw [e0, v91x]; exact CI.init (by omega) (by omega) v89V) ⟨un_lo _, un_hi _⟩ (by omega))
  ·
    refine go_iload_n (pc := 19) rfl dX8_comesTo_19 ?_
    refine gf_if_ne (pc := 20) (tgt := 27) (ti_rfl a3) (by decide) dX8_comesTo_20 (fun q93 => ?_) (fun q93 => ?_)
    ·
      refine go_iconst (pc := 27) (v := 0) (by decide) dX8_comesTo_27 ?_
      exact gi_zret (pc := 28) (ti_c (v := 0) (a := 0) (by decide)) (by omega) (by omega) ⟨_, rfl, (by rw [show (0 : Int32).toInt = 0 from (ti_c (v := 0) (a := 0) (by decide))]; omega), (by rw [show (0 : Int32).toInt = 0 from (ti_c (v := 0) (a := 0) (by decide))]; omega), rfl, (by rw [← hS]; exact ⟨fun q => absurd q (by decide), fun _ z => by rcases z with z | z; (have := z.2; omega); (have := z.1; omega)⟩)⟩ hv dX8_comesTo_28
    ·
      refine go_iconst (pc := 23) (v := 1) (by decide) dX8_comesTo_23 ?_
      refine go_goto (pc := 24) (tgt := 28) (by decide) dX8_comesTo_24 ?_
      exact gi_zret (pc := 28) (ti_c (v := 1) (a := 1) (by decide)) (by omega) (by omega) ⟨_, rfl, (by rw [show (1 : Int32).toInt = 1 from (ti_c (v := 1) (a := 1) (by decide))]; omega), (by rw [show (1 : Int32).toInt = 1 from (ti_c (v := 1) (a := 1) (by decide))]; omega), rfl, (by rw [← hS]; exact ⟨fun _ => Or.inl ⟨by omega, by omega⟩, fun q => absurd q (by decide)⟩)⟩ hv dX8_comesTo_28
set_option maxHeartbeats 4000000 in
set_option maxRecDepth 100000 in
theorem s_X8_laysMay (l : Launch) (d : Nat) {P : PP} {h : HP} (hv : Iv P h) (hck : CKF h.2.1) : Mt l yX8_laysMay cX8_laysMay 6 none (d + 6) [.ref 70] h 0 0 (fun r h' => r = none ∧ (∃ Q : PP, Iv Q h' ∧ MW P Q) ∧ (KX 100 h.2.1 h'.2.1) ∧ (OH h.2.1 h'.2.1 (h.2.1 70 6).toInt) ∧ (CKF h.2.1 → CKF h'.2.1)) := by
  refine Mt_iv hv (by decide) (Nat.le_of_ble_eq_true rfl) ?_
  show Go l RX8 cX8_laysMay 6 (g_rm (d + 6) 0 0) "laysMay" none 117 0 0 (fun _ _ => True) (fun r h' => r = none ∧ (∃ Q : PP, Iv Q h' ∧ MW P Q) ∧ (KX 100 h.2.1 h'.2.1) ∧ (OH h.2.1 h'.2.1 (h.2.1 70 6).toInt) ∧ (CKF h.2.1 → CKF h'.2.1)) 0 0 [(0, .ref 70)] [] h
  obtain ⟨S, hS⟩ : ∃ S : Int, S = (h.2.1 70 6).toInt := ⟨_, rfl⟩
  have S0 : 0 ≤ S := by rw [hS]; exact (hv.2.1 70 6).1
  have S1 : S ≤ 1 := by rw [hS]; exact (hv.2.1 70 6).2
  have oh : OH h.2.1 h.2.1 S := OH.rfl _ _
  have ck : CKF h.2.1 → CKF h.2.1 := id
  have key : ∀ n : Nat, (∀ (l1 : Int32) (Qx : PP) (hx : HP), Iv Qx hx → MW P Qx → 0 ≤ l1.toInt → l1.toInt ≤ 5 → (KX 100 h.2.1 hx.2.1) → (∀ k : Int, 0 ≤ k → k < l1.toInt → V hx.2.1 101 (5 * S + k) = 0 ∧ V hx.2.1 102 (5 * S + k) = 0) → OH h.2.1 hx.2.1 S → (CKF h.2.1 → CKF hx.2.1) → (1000 + (5 - l1.toInt) : Int) < n → Go l RX8 cX8_laysMay 6 (g_rm (d + 6) 0 0) "laysMay" none 117 0 0 (fun _ _ => True) (fun r h' => r = none ∧ (∃ Q : PP, Iv Q h' ∧ MW P Q) ∧ (KX 100 h.2.1 h'.2.1) ∧ (OH h.2.1 h'.2.1 (h.2.1 70 6).toInt) ∧ (CKF h.2.1 → CKF h'.2.1)) 0 2 [(0, .ref 70), (1, .int l1)] [] hx) ∧ (∀ (l1 : Int32) (Qx : PP) (hx : HP), Iv Qx hx → MW P Qx → 0 ≤ l1.toInt → l1.toInt ≤ 1 → (KX 100 h.2.1 hx.2.1) → (FI hx.2.1 S) → (0 ≤ sm hx.2.1 S ∧ sm hx.2.1 S ≤ 10) → OH h.2.1 hx.2.1 S → (CKF h.2.1 → CKF hx.2.1) → (20 * (10 - sm hx.2.1 S) + 20 * l1.toInt + 5 : Int) < n → Go l RX8 cX8_laysMay 6 (g_rm (d + 6) 0 0) "laysMay" none 117 0 0 (fun _ _ => True) (fun r h' => r = none ∧ (∃ Q : PP, Iv Q h' ∧ MW P Q) ∧ (KX 100 h.2.1 h'.2.1) ∧ (OH h.2.1 h'.2.1 (h.2.1 70 6).toInt) ∧ (CKF h.2.1 → CKF h'.2.1)) 0 43 [(0, .ref 70), (1, .int l1)] [] hx) ∧ (∀ (l1 : Int32) (l2 : Int32) (Qx : PP) (hx : HP), Iv Qx hx → MW P Qx → 0 ≤ l1.toInt → l1.toInt ≤ 1 → 0 ≤ l2.toInt → l2.toInt ≤ 5 → (KX 100 h.2.1 hx.2.1) → (FI hx.2.1 S) → (0 ≤ sm hx.2.1 S ∧ sm hx.2.1 S ≤ 10) → OH h.2.1 hx.2.1 S → (CKF h.2.1 → CKF hx.2.1) → (20 * (10 - sm hx.2.1 S) + 20 * l1.toInt + 6 + (5 - l2.toInt) : Int) < n → Go l RX8 cX8_laysMay 6 (g_rm (d + 6) 0 0) "laysMay" none 117 0 0 (fun _ _ => True) (fun r h' => r = none ∧ (∃ Q : PP, Iv Q h' ∧ MW P Q) ∧ (KX 100 h.2.1 h'.2.1) ∧ (OH h.2.1 h'.2.1 (h.2.1 70 6).toInt) ∧ (CKF h.2.1 → CKF h'.2.1)) 0 51 [(0, .ref 70), (1, .int l1), (2, .int l2)] [] hx) := by
    intro n
    induction n with
    | zero => exact ⟨(by intros; omega), (by intros; omega), (by intros; omega)⟩
    | succ n ih =>
      refine ⟨?_, ?_, ?_⟩
      ·
        intro l1 Qx hx hvx sqx l1l l1u x0 x1 ohx ckx hm
        have xkx := x0
        have smz := sm_hi hvx S
        refine go_iload_n (pc := 2) rfl dX8_laysMay_2 ?_
        refine go_iconst (pc := 3) (v := 5) (by decide) dX8_laysMay_3 ?_
        refine gf_icmp_ge (pc := 4) (tgt := 41) (ti_rfl l1) (ti_c (v := 5) (a := 5) (by decide)) (by decide) dX8_laysMay_4 (fun q1 => ?_) (fun q1 => ?_)
        ·
          refine go_iconst (pc := 41) (v := 1) (by decide) dX8_laysMay_41 ?_
          refine go_istore_n (pc := 42) (Nat.le_of_ble_eq_true rfl) dX8_laysMay_42 (go_lv (lv2 := [(0, .ref 70), (1, .int 1)]) rfl ?_)
          have z2 : (1 : Int32).toInt = 1 := (ti_c (v := 1) (a := 1) (by decide))
          exact go_lv rfl (ih.2.1 1 _ hx hvx sqx (by omega) (by omega) xkx (FI.zero (by omega) x1) (sm_hi hvx S) ohx ckx (by omega))
        ·
          refine go_aload_n (pc := 7) rfl dX8_laysMay_7 ?_
          refine gi_getF (pc := 8) (q := 101) hvx fL_X8_101 rfl (Nat.le_of_ble_eq_true rfl) rfl (hvx.rf (by decide)) dX8_laysMay_8 ?_
          refine go_iconst (pc := 11) (v := 5) (by decide) dX8_laysMay_11 ?_
          refine go_aload_n (pc := 12) rfl dX8_laysMay_12 ?_
          refine gi_get (pc := 13) (lo := 0) (hi := 1) hvx fL_X8_187 rfl (Nat.le_of_ble_eq_true rfl) rfl rfl dX8_laysMay_13 (fun v3 v3l v3u v3w => ?_)
          have v3S : v3.toInt = S := by rw [v3w]; exact (congrArg Int32.toInt ohx.side).trans hS.symm
          refine gf_imul (pc := 16) (ti_c (v := 5) (a := 5) (by decide)) (ti_rfl v3) (by omega) (by omega) dX8_laysMay_16 (fun v4 e5 => ?_)
          refine go_iload_n (pc := 17) rfl dX8_laysMay_17 ?_
          refine gf_iadd (pc := 18) e5 (ti_rfl l1) (by omega) (by omega) dX8_laysMay_18 (fun v6 e7 => ?_)
          refine go_iconst (pc := 19) (v := 0) (by decide) dX8_laysMay_19 ?_
          refine gi_fzt (pc := 20) (len := 10) hvx e7 (ti_c (v := 0) (a := 0) (by decide)) rfl (by omega) (by omega) (fun _ => rfl) (by omega) (by omega) (by omega) dX8_laysMay_20 (fun h8 hv8 hv8e => ?_)
          refine go_aload_n (pc := 21) rfl dX8_laysMay_21 ?_
          refine gi_getF (pc := 22) (q := 102) hv8 fL_X8_105 rfl (Nat.le_of_ble_eq_true rfl) rfl (hv8.rf (by decide)) dX8_laysMay_22 ?_
          refine go_iconst (pc := 25) (v := 5) (by decide) dX8_laysMay_25 ?_
          refine go_aload_n (pc := 26) rfl dX8_laysMay_26 ?_
          refine gi_get (pc := 27) (lo := 0) (hi := 1) hv8 fL_X8_187 rfl (Nat.le_of_ble_eq_true rfl) rfl rfl dX8_laysMay_27 (fun v9 v9l v9u v9w => ?_)
          have v9r : v3 = h8.2.1 70 6 := (show v3 = h8.2.1 70 6 from by rw [hv8e]; exact (g_iI rfl v3w.symm).symm)
          have v9q : TI v9 v3.toInt := by rw [v9w.trans v9r.symm]; exact (ti_rfl v3)
          refine gf_imul (pc := 30) (ti_c (v := 5) (a := 5) (by decide)) v9q (by omega) (by omega) dX8_laysMay_30 (fun v10 e11 => ?_)
          refine go_iload_n (pc := 31) rfl dX8_laysMay_31 ?_
          refine gf_iadd (pc := 32) e11 (ti_rfl l1) (by omega) (by omega) dX8_laysMay_32 (fun v12 e13 => ?_)
          refine go_iconst (pc := 33) (v := 0) (by decide) dX8_laysMay_33 ?_
          refine gi_fzt (pc := 34) (len := 10) hv8 e13 (ti_c (v := 0) (a := 0) (by decide)) rfl (by omega) (by omega) (fun _ => rfl) (by omega) (by omega) (by omega) dX8_laysMay_34 (fun h14 hv14 hv14e => ?_)
          refine gf_iinc (pc := 35) (Nat.le_of_ble_eq_true rfl) rfl (ti_rfl l1) (ti_c (by decide)) (by omega) (by omega) dX8_laysMay_35 (fun v15 e16 => ?_)
          refine go_lv (lv2 := [(0, .ref 70), (1, .int v15)]) rfl ?_
          refine go_goto (pc := 38) (tgt := 2) (by decide) dX8_laysMay_38 ?_
          have E14 : h14.2.1 = (w1 (w1 hx.2.1 101 (((5 * S) + l1.toInt)) (0 : Int32)) 102 (((5 * S) + l1.toInt)) (0 : Int32)) := by
            rw [hv14e, hv8e]
            rw [v3S]
            rfl
          have oh14 : OH h.2.1 h14.2.1 S := by rw [E14]; exact ((ohx.trans (OH.w 5 rfl (by omega) (by omega) (by omega) (by omega))).trans (OH.w 5 rfl (by omega) (by omega) (by omega) (by omega)))
          have n73_14 : V h14.2.1 73 S = V hx.2.1 73 S := by rw [E14, V_ne (by omega), V_ne (by omega)]
          have n74_14 : V h14.2.1 74 S = V hx.2.1 74 S := by rw [E14, V_ne (by omega), V_ne (by omega)]
          have n75_14 : V h14.2.1 75 S = V hx.2.1 75 S := by rw [E14, V_ne (by omega), V_ne (by omega)]
          have ck14 : CKF h.2.1 → CKF h14.2.1 := fun z => by rw [E14]; exact (CKF.w (by omega) (CKF.w (by omega) (ckx z)))
          have z17 : (v15 : Int32).toInt = (l1.toInt + 1) := e16
          exact go_lv rfl (ih.1 v15 _ h14 hv14 (MW.trans (MW.trans sqx (MW.mz _ _)) (MW.mz _ _)) (by omega) (by omega) (xkx.trans (show KX 100 hx.2.1 h14.2.1 from by rw [E14]; exact (((KX.rfl 100 _).trans (KX.w (by omega))).trans (KX.w (by omega))))) (by rw [show (v15 : Int32).toInt = l1.toInt + 1 from e16]; exact zf_step S0 (by omega) x1 E14 (by decide) (by decide)) oh14 ck14 (by omega))
      ·
        intro l1 Qx hx hvx sqx l1l l1u x0 x1 x2 ohx ckx hm
        have xkx := x0
        refine go_iload_n (pc := 43) rfl dX8_laysMay_43 ?_
        refine gf_if_eq (pc := 44) (tgt := 146) (ti_rfl l1) (by decide) dX8_laysMay_44 (fun q18 => ?_) (fun q18 => ?_)
        ·
          have pp19 : KX 100 h.2.1 hx.2.1 := xkx
          subst hS
          exact gi_vret (pc := 146) ⟨rfl, ⟨_, hvx, sqx⟩, pp19, ohx, ckx⟩ hvx dX8_laysMay_146
        ·
          refine go_iconst (pc := 47) (v := 0) (by decide) dX8_laysMay_47 ?_
          refine go_istore_n (pc := 48) (Nat.le_of_ble_eq_true rfl) dX8_laysMay_48 (go_lv (lv2 := [(0, .ref 70), (1, .int 0)]) rfl ?_)
          refine go_iconst (pc := 49) (v := 0) (by decide) dX8_laysMay_49 ?_
          refine go_istore_n (pc := 50) (Nat.le_of_ble_eq_true rfl) dX8_laysMay_50 (go_lv (lv2 := [(0, .ref 70), (1, .int 0), (2, .int 0)]) rfl ?_)
          have z20 : (0 : Int32).toInt = 0 := (ti_c (v := 0) (a := 0) (by decide))
          have z21 : (0 : Int32).toInt = 0 := (ti_c (v := 0) (a := 0) (by decide))
          exact go_lv rfl (ih.2.2 0 0 _ hx hvx sqx (by omega) (by omega) (by omega) (by omega) xkx x1 (sm_hi hvx S) ohx ckx (by omega))
      ·
        intro l1 l2 Qx hx hvx sqx l1l l1u l2l l2u x0 x1 x2 ohx ckx hm
        have xkx := x0
        refine go_iload_n (pc := 51) rfl dX8_laysMay_51 ?_
        refine go_aload_n (pc := 52) rfl dX8_laysMay_52 ?_
        refine gi_getF (pc := 53) (q := 76) hvx fL_X8_26 rfl (Nat.le_of_ble_eq_true rfl) rfl (hvx.rf (by decide)) dX8_laysMay_53 ?_
        refine go_aload_n (pc := 56) rfl dX8_laysMay_56 ?_
        refine gi_get (pc := 57) (lo := 0) (hi := 1) hvx fL_X8_187 rfl (Nat.le_of_ble_eq_true rfl) rfl rfl dX8_laysMay_57 (fun v22 v22l v22u v22w => ?_)
        have v22S : v22.toInt = S := by rw [v22w]; exact (congrArg Int32.toInt ohx.side).trans hS.symm
        refine gi_iald (pc := 60) (lo := 0) (hi := 5) (len := 2) hvx (ti_rfl v22) rfl (by omega) (by omega) (fun _ => rfl) dX8_laysMay_60 (fun v23 v23l v23u v23w => ?_)
        have v23V : v23.toInt = V hx.2.1 76 S := by rw [v23w, v22S]; rfl
        refine gf_icmp_ge (pc := 61) (tgt := 143) (ti_rfl l2) (ti_rfl v23) (by decide) dX8_laysMay_61 (fun q24 => ?_) (fun q24 => ?_)
        ·
          refine go_goto (pc := 143) (tgt := 43) (by decide) dX8_laysMay_143 ?_
          exact go_lv rfl (ih.2.1 l1 _ hx hvx sqx (by omega) (by omega) xkx x1 (sm_hi hvx S) ohx ckx (by omega))
        ·
          refine go_iconst (pc := 64) (v := 5) (by decide) dX8_laysMay_64 ?_
          refine go_aload_n (pc := 65) rfl dX8_laysMay_65 ?_
          refine gi_get (pc := 66) (lo := 0) (hi := 1) hvx fL_X8_187 rfl (Nat.le_of_ble_eq_true rfl) rfl rfl dX8_laysMay_66 (fun v25 v25l v25u v25w => ?_)
          have v25r : v22 = hx.2.1 70 6 := v22w
          have v25q : TI v25 v22.toInt := by rw [v25w.trans v25r.symm]; exact (ti_rfl v22)
          refine gf_imul (pc := 69) (ti_c (v := 5) (a := 5) (by decide)) v25q (by omega) (by omega) dX8_laysMay_69 (fun v26 e27 => ?_)
          refine go_iload_n (pc := 70) rfl dX8_laysMay_70 ?_
          refine gf_iadd (pc := 71) e27 (ti_rfl l2) (by omega) (by omega) dX8_laysMay_71 (fun v28 e29 => ?_)
          refine go_istore_n (pc := 72) (Nat.le_of_ble_eq_true rfl) dX8_laysMay_72 (go_lv (lv2 := [(0, .ref 70), (1, .int l1), (2, .int l2), (3, .int v28)]) rfl ?_)
          refine go_aload_n (pc := 73) rfl dX8_laysMay_73 ?_
          refine go_iload_n (pc := 74) rfl dX8_laysMay_74 ?_
          refine go_iconst (pc := 75) (v := 0) (by decide) dX8_laysMay_75 ?_
          have sM30 : (hx.2.1 70 6).toInt = S := (congrArg Int32.toInt ohx.side).trans hS.symm
          refine go_invV (pc := 76) (sl := 0) (s_X8_comesTo l (d + 0) hvx l2 (by rw [show (l2 : Int32).toInt = l2.toInt from (ti_rfl l2)]; omega) (by rw [show (l2 : Int32).toInt = l2.toInt from (ti_rfl l2)]; omega) 0 (by rw [show (0 : Int32).toInt = 0 from (ti_c (v := 0) (a := 0) (by decide))]; omega) (by rw [show (0 : Int32).toInt = 0 from (ti_c (v := 0) (a := 0) (by decide))]; omega) (ckx hck)) mL_X8_287 iM_X8_comesTo sM_X8_comesTo (hvx.sh rfl) rfl rfl rfl (Nat.le_of_ble_eq_true rfl) (show d + 0 + 5 + 1 ≤ d + 6 by omega) (show 8 + (13 + 11) + 40 * (d + 0 + 5) ≤ 40 * (d + 6) by omega) (g_c0 hvx.ln) (Nat.le_of_ble_eq_true rfl) dX8_laysMay_76 ?_
          intro r h31 hq _
          obtain ⟨v33, rfl, v33l, v33u, rfl, f32⟩ := hq
          rw [sM30] at f32
          try rw [show (0 : Int32).toInt = 0 from (ti_c (v := 0) (a := 0) (by decide))] at f32
          refine go_istore (pc := 79) (Nat.le_of_ble_eq_true rfl) dX8_laysMay_79 (go_lv (lv2 := [(0, .ref 70), (1, .int l1), (2, .int l2), (3, .int v28), (4, .int v33)]) rfl ?_)
          refine go_aload_n (pc := 81) rfl dX8_laysMay_81 ?_
          refine go_iload_n (pc := 82) rfl dX8_laysMay_82 ?_
          refine go_iconst (pc := 83) (v := 1) (by decide) dX8_laysMay_83 ?_
          have sM34 : (hx.2.1 70 6).toInt = S := (congrArg Int32.toInt ohx.side).trans hS.symm
          refine go_invV (pc := 84) (sl := 0) (s_X8_comesTo l (d + 0) hvx l2 (by rw [show (l2 : Int32).toInt = l2.toInt from (ti_rfl l2)]; omega) (by rw [show (l2 : Int32).toInt = l2.toInt from (ti_rfl l2)]; omega) 1 (by rw [show (1 : Int32).toInt = 1 from (ti_c (v := 1) (a := 1) (by decide))]; omega) (by rw [show (1 : Int32).toInt = 1 from (ti_c (v := 1) (a := 1) (by decide))]; omega) (ckx hck)) mL_X8_287 iM_X8_comesTo sM_X8_comesTo (hvx.sh rfl) rfl rfl rfl (Nat.le_of_ble_eq_true rfl) (show d + 0 + 5 + 1 ≤ d + 6 by omega) (show 8 + (13 + 11) + 40 * (d + 0 + 5) ≤ 40 * (d + 6) by omega) (g_c0 hvx.ln) (Nat.le_of_ble_eq_true rfl) dX8_laysMay_84 ?_
          intro r h35 hq _
          obtain ⟨v37, rfl, v37l, v37u, rfl, f36⟩ := hq
          rw [sM34] at f36
          try rw [show (1 : Int32).toInt = 1 from (ti_c (v := 1) (a := 1) (by decide))] at f36
          refine go_istore (pc := 87) (Nat.le_of_ble_eq_true rfl) dX8_laysMay_87 (go_lv (lv2 := [(0, .ref 70), (1, .int l1), (2, .int l2), (3, .int v28), (4, .int v33), (5, .int v37)]) rfl ?_)
          refine go_iload_n (pc := 89) rfl dX8_laysMay_89 ?_
          refine gf_if_ne (pc := 90) (tgt := 115) (ti_rfl l1) (by decide) dX8_laysMay_90 (fun q38 => ?_) (fun q38 => ?_)
          ·
            refine go_iconst (pc := 115) (v := 1) (by decide) dX8_laysMay_115 ?_
            refine go_goto (pc := 116) (tgt := 120) (by decide) dX8_laysMay_116 ?_
            refine go_istore_n (pc := 120) (Nat.le_of_ble_eq_true rfl) dX8_laysMay_120 (go_lv (lv2 := [(0, .ref 70), (1, .int 1), (2, .int l2), (3, .int v28), (4, .int v33), (5, .int v37)]) rfl ?_)
            refine go_aload_n (pc := 121) rfl dX8_laysMay_121 ?_
            refine gi_getF (pc := 122) (q := 101) hvx fL_X8_101 rfl (Nat.le_of_ble_eq_true rfl) rfl (hvx.rf (by decide)) dX8_laysMay_122 ?_
            refine go_iload_n (pc := 125) rfl dX8_laysMay_125 ?_
            refine go_iload (pc := 126) rfl dX8_laysMay_126 ?_
            refine gi_fzt (pc := 128) (len := 10) hvx e29 (ti_rfl v33) rfl (by omega) (by omega) (fun _ => rfl) (by omega) (by omega) (by omega) dX8_laysMay_128 (fun h39 hv39 hv39e => ?_)
            refine go_aload_n (pc := 129) rfl dX8_laysMay_129 ?_
            refine gi_getF (pc := 130) (q := 102) hv39 fL_X8_105 rfl (Nat.le_of_ble_eq_true rfl) rfl (hv39.rf (by decide)) dX8_laysMay_130 ?_
            refine go_iload_n (pc := 133) rfl dX8_laysMay_133 ?_
            refine go_iload (pc := 134) rfl dX8_laysMay_134 ?_
            refine gi_fzt (pc := 136) (len := 10) hv39 e29 (ti_rfl v37) rfl (by omega) (by omega) (fun _ => rfl) (by omega) (by omega) (by omega) dX8_laysMay_136 (fun h40 hv40 hv40e => ?_)
            have E40 : h40.2.1 = (w1 (w1 hx.2.1 101 (((5 * S) + l2.toInt)) (v33 : Int32)) 102 (((5 * S) + l2.toInt)) (v37 : Int32)) := by
              rw [hv40e, hv39e]
              rw [v22S]
              rfl
            have oh40 : OH h.2.1 h40.2.1 S := by rw [E40]; exact ((ohx.trans (OH.w 5 rfl (by omega) (by omega) (by omega) (by omega))).trans (OH.w 5 rfl (by omega) (by omega) (by omega) (by omega)))
            have n73_40 : V h40.2.1 73 S = V hx.2.1 73 S := by rw [E40, V_ne (by omega), V_ne (by omega)]
            have n74_40 : V h40.2.1 74 S = V hx.2.1 74 S := by rw [E40, V_ne (by omega), V_ne (by omega)]
            have n75_40 : V h40.2.1 75 S = V hx.2.1 75 S := by rw [E40, V_ne (by omega), V_ne (by omega)]
            have ck40 : CKF h.2.1 → CKF h40.2.1 := fun z => by rw [E40]; exact (CKF.w (by omega) (CKF.w (by omega) (ckx z)))
            have smx := sm_hi hvx S
            have smy := sm_hi hv40 S
            obtain ⟨fi2, k1, k2, k3⟩ := FI.step S0 (by omega) (by omega) x1 E40 f32.1 f32.2 f36.1 f36.2 (by omega) (by omega) (hvx.2.1 101 _) (hvx.2.1 102 _)
            refine gf_iinc (pc := 137) (Nat.le_of_ble_eq_true rfl) rfl (ti_rfl l2) (ti_c (by decide)) (by omega) (by omega) dX8_laysMay_137 (fun v41 e42 => ?_)
            refine go_lv (lv2 := [(0, .ref 70), (1, .int 1), (2, .int v41), (3, .int v28), (4, .int v33), (5, .int v37)]) rfl ?_
            refine go_goto (pc := 140) (tgt := 51) (by decide) dX8_laysMay_140 ?_
            have z43 : (1 : Int32).toInt = 1 := (ti_c (v := 1) (a := 1) (by decide))
            have z44 : (v41 : Int32).toInt = (l2.toInt + 1) := e42
            exact go_lv rfl (ih.2.2 1 v41 _ h40 hv40 (MW.trans (MW.trans sqx (MW.mz _ _)) (MW.mz _ _)) (by omega) (by omega) (by omega) (by omega) (xkx.trans (show KX 100 hx.2.1 h40.2.1 from by rw [E40]; exact (((KX.rfl 100 _).trans (KX.w (by omega))).trans (KX.w (by omega))))) fi2 (sm_hi hv40 S) oh40 ck40 (by omega))
          ·
            refine go_iload (pc := 93) rfl dX8_laysMay_93 ?_
            refine go_aload_n (pc := 95) rfl dX8_laysMay_95 ?_
            refine gi_getF (pc := 96) (q := 101) hvx fL_X8_101 rfl (Nat.le_of_ble_eq_true rfl) rfl (hvx.rf (by decide)) dX8_laysMay_96 ?_
            refine go_iload_n (pc := 99) rfl dX8_laysMay_99 ?_
            refine gi_zald (pc := 100) (lo := 0) (hi := 1) (len := 10) hvx e29 rfl (by omega) (by omega) (fun _ => rfl) dX8_laysMay_100 (fun v45 v45l v45u v45w => ?_)
            have v45V : v45.toInt = V hx.2.1 101 (((5 * S) + l2.toInt)) := by rw [v45w, v22S]; rfl
            refine gf_icmp_ne (pc := 101) (tgt := 115) (ti_rfl v33) (ti_rfl v45) (by decide) dX8_laysMay_101 (fun q46 => ?_) (fun q46 => ?_)
            ·
              refine go_iconst (pc := 115) (v := 1) (by decide) dX8_laysMay_115 ?_
              refine go_goto (pc := 116) (tgt := 120) (by decide) dX8_laysMay_116 ?_
              refine go_istore_n (pc := 120) (Nat.le_of_ble_eq_true rfl) dX8_laysMay_120 (go_lv (lv2 := [(0, .ref 70), (1, .int 1), (2, .int l2), (3, .int v28), (4, .int v33), (5, .int v37)]) rfl ?_)
              refine go_aload_n (pc := 121) rfl dX8_laysMay_121 ?_
              refine gi_getF (pc := 122) (q := 101) hvx fL_X8_101 rfl (Nat.le_of_ble_eq_true rfl) rfl (hvx.rf (by decide)) dX8_laysMay_122 ?_
              refine go_iload_n (pc := 125) rfl dX8_laysMay_125 ?_
              refine go_iload (pc := 126) rfl dX8_laysMay_126 ?_
              refine gi_fzt (pc := 128) (len := 10) hvx e29 (ti_rfl v33) rfl (by omega) (by omega) (fun _ => rfl) (by omega) (by omega) (by omega) dX8_laysMay_128 (fun h47 hv47 hv47e => ?_)
              refine go_aload_n (pc := 129) rfl dX8_laysMay_129 ?_
              refine gi_getF (pc := 130) (q := 102) hv47 fL_X8_105 rfl (Nat.le_of_ble_eq_true rfl) rfl (hv47.rf (by decide)) dX8_laysMay_130 ?_
              refine go_iload_n (pc := 133) rfl dX8_laysMay_133 ?_
              refine go_iload (pc := 134) rfl dX8_laysMay_134 ?_
              refine gi_fzt (pc := 136) (len := 10) hv47 e29 (ti_rfl v37) rfl (by omega) (by omega) (fun _ => rfl) (by omega) (by omega) (by omega) dX8_laysMay_136 (fun h48 hv48 hv48e => ?_)
              have E48 : h48.2.1 = (w1 (w1 hx.2.1 101 (((5 * S) + l2.toInt)) (v33 : Int32)) 102 (((5 * S) + l2.toInt)) (v37 : Int32)) := by
                rw [hv48e, hv47e]
                rw [v22S]
                rfl
              have oh48 : OH h.2.1 h48.2.1 S := by rw [E48]; exact ((ohx.trans (OH.w 5 rfl (by omega) (by omega) (by omega) (by omega))).trans (OH.w 5 rfl (by omega) (by omega) (by omega) (by omega)))
              have n73_48 : V h48.2.1 73 S = V hx.2.1 73 S := by rw [E48, V_ne (by omega), V_ne (by omega)]
              have n74_48 : V h48.2.1 74 S = V hx.2.1 74 S := by rw [E48, V_ne (by omega), V_ne (by omega)]
              have n75_48 : V h48.2.1 75 S = V hx.2.1 75 S := by rw [E48, V_ne (by omega), V_ne (by omega)]
              have ck48 : CKF h.2.1 → CKF h48.2.1 := fun z => by rw [E48]; exact (CKF.w (by omega) (CKF.w (by omega) (ckx z)))
              have smx := sm_hi hvx S
              have smy := sm_hi hv48 S
              obtain ⟨fi2, k1, k2, k3⟩ := FI.step S0 (by omega) (by omega) x1 E48 f32.1 f32.2 f36.1 f36.2 (by omega) (by omega) (hvx.2.1 101 _) (hvx.2.1 102 _)
              refine gf_iinc (pc := 137) (Nat.le_of_ble_eq_true rfl) rfl (ti_rfl l2) (ti_c (by decide)) (by omega) (by omega) dX8_laysMay_137 (fun v49 e50 => ?_)
              refine go_lv (lv2 := [(0, .ref 70), (1, .int 1), (2, .int v49), (3, .int v28), (4, .int v33), (5, .int v37)]) rfl ?_
              refine go_goto (pc := 140) (tgt := 51) (by decide) dX8_laysMay_140 ?_
              have z51 : (1 : Int32).toInt = 1 := (ti_c (v := 1) (a := 1) (by decide))
              have z52 : (v49 : Int32).toInt = (l2.toInt + 1) := e50
              exact go_lv rfl (ih.2.2 1 v49 _ h48 hv48 (MW.trans (MW.trans sqx (MW.mz _ _)) (MW.mz _ _)) (by omega) (by omega) (by omega) (by omega) (xkx.trans (show KX 100 hx.2.1 h48.2.1 from by rw [E48]; exact (((KX.rfl 100 _).trans (KX.w (by omega))).trans (KX.w (by omega))))) fi2 (sm_hi hv48 S) oh48 ck48 (by omega))
            ·
              refine go_iload (pc := 104) rfl dX8_laysMay_104 ?_
              refine go_aload_n (pc := 106) rfl dX8_laysMay_106 ?_
              refine gi_getF (pc := 107) (q := 102) hvx fL_X8_105 rfl (Nat.le_of_ble_eq_true rfl) rfl (hvx.rf (by decide)) dX8_laysMay_107 ?_
              refine go_iload_n (pc := 110) rfl dX8_laysMay_110 ?_
              refine gi_zald (pc := 111) (lo := 0) (hi := 1) (len := 10) hvx e29 rfl (by omega) (by omega) (fun _ => rfl) dX8_laysMay_111 (fun v53 v53l v53u v53w => ?_)
              have v53V : v53.toInt = V hx.2.1 102 (((5 * S) + l2.toInt)) := by rw [v53w, v22S]; rfl
              refine gf_icmp_eq (pc := 112) (tgt := 119) (ti_rfl v37) (ti_rfl v53) (by decide) dX8_laysMay_112 (fun q54 => ?_) (fun q54 => ?_)
              ·
                refine go_iconst (pc := 119) (v := 0) (by decide) dX8_laysMay_119 ?_
                refine go_istore_n (pc := 120) (Nat.le_of_ble_eq_true rfl) dX8_laysMay_120 (go_lv (lv2 := [(0, .ref 70), (1, .int 0), (2, .int l2), (3, .int v28), (4, .int v33), (5, .int v37)]) rfl ?_)
                refine go_aload_n (pc := 121) rfl dX8_laysMay_121 ?_
                refine gi_getF (pc := 122) (q := 101) hvx fL_X8_101 rfl (Nat.le_of_ble_eq_true rfl) rfl (hvx.rf (by decide)) dX8_laysMay_122 ?_
                refine go_iload_n (pc := 125) rfl dX8_laysMay_125 ?_
                refine go_iload (pc := 126) rfl dX8_laysMay_126 ?_
                refine gi_fzt (pc := 128) (len := 10) hvx e29 (ti_rfl v33) rfl (by omega) (by omega) (fun _ => rfl) (by omega) (by omega) (by omega) dX8_laysMay_128 (fun h55 hv55 hv55e => ?_)
                refine go_aload_n (pc := 129) rfl dX8_laysMay_129 ?_
                refine gi_getF (pc := 130) (q := 102) hv55 fL_X8_105 rfl (Nat.le_of_ble_eq_true rfl) rfl (hv55.rf (by decide)) dX8_laysMay_130 ?_
                refine go_iload_n (pc := 133) rfl dX8_laysMay_133 ?_
                refine go_iload (pc := 134) rfl dX8_laysMay_134 ?_
                refine gi_fzt (pc := 136) (len := 10) hv55 e29 (ti_rfl v37) rfl (by omega) (by omega) (fun _ => rfl) (by omega) (by omega) (by omega) dX8_laysMay_136 (fun h56 hv56 hv56e => ?_)
                have E56 : h56.2.1 = (w1 (w1 hx.2.1 101 (((5 * S) + l2.toInt)) (v33 : Int32)) 102 (((5 * S) + l2.toInt)) (v37 : Int32)) := by
                  rw [hv56e, hv55e]
                  rw [v22S]
                  rfl
                have oh56 : OH h.2.1 h56.2.1 S := by rw [E56]; exact ((ohx.trans (OH.w 5 rfl (by omega) (by omega) (by omega) (by omega))).trans (OH.w 5 rfl (by omega) (by omega) (by omega) (by omega)))
                have n73_56 : V h56.2.1 73 S = V hx.2.1 73 S := by rw [E56, V_ne (by omega), V_ne (by omega)]
                have n74_56 : V h56.2.1 74 S = V hx.2.1 74 S := by rw [E56, V_ne (by omega), V_ne (by omega)]
                have n75_56 : V h56.2.1 75 S = V hx.2.1 75 S := by rw [E56, V_ne (by omega), V_ne (by omega)]
                have ck56 : CKF h.2.1 → CKF h56.2.1 := fun z => by rw [E56]; exact (CKF.w (by omega) (CKF.w (by omega) (ckx z)))
                have smx := sm_hi hvx S
                have smy := sm_hi hv56 S
                obtain ⟨fi2, k1, k2, k3⟩ := FI.step S0 (by omega) (by omega) x1 E56 f32.1 f32.2 f36.1 f36.2 (by omega) (by omega) (hvx.2.1 101 _) (hvx.2.1 102 _)
                refine gf_iinc (pc := 137) (Nat.le_of_ble_eq_true rfl) rfl (ti_rfl l2) (ti_c (by decide)) (by omega) (by omega) dX8_laysMay_137 (fun v57 e58 => ?_)
                refine go_lv (lv2 := [(0, .ref 70), (1, .int 0), (2, .int v57), (3, .int v28), (4, .int v33), (5, .int v37)]) rfl ?_
                refine go_goto (pc := 140) (tgt := 51) (by decide) dX8_laysMay_140 ?_
                have z59 : (0 : Int32).toInt = 0 := (ti_c (v := 0) (a := 0) (by decide))
                have z60 : (v57 : Int32).toInt = (l2.toInt + 1) := e58
                exact go_lv rfl (ih.2.2 0 v57 _ h56 hv56 (MW.trans (MW.trans sqx (MW.mz _ _)) (MW.mz _ _)) (by omega) (by omega) (by omega) (by omega) (xkx.trans (show KX 100 hx.2.1 h56.2.1 from by rw [E56]; exact (((KX.rfl 100 _).trans (KX.w (by omega))).trans (KX.w (by omega))))) fi2 (sm_hi hv56 S) oh56 ck56 (by omega))
              ·
                refine go_iconst (pc := 115) (v := 1) (by decide) dX8_laysMay_115 ?_
                refine go_goto (pc := 116) (tgt := 120) (by decide) dX8_laysMay_116 ?_
                refine go_istore_n (pc := 120) (Nat.le_of_ble_eq_true rfl) dX8_laysMay_120 (go_lv (lv2 := [(0, .ref 70), (1, .int 1), (2, .int l2), (3, .int v28), (4, .int v33), (5, .int v37)]) rfl ?_)
                refine go_aload_n (pc := 121) rfl dX8_laysMay_121 ?_
                refine gi_getF (pc := 122) (q := 101) hvx fL_X8_101 rfl (Nat.le_of_ble_eq_true rfl) rfl (hvx.rf (by decide)) dX8_laysMay_122 ?_
                refine go_iload_n (pc := 125) rfl dX8_laysMay_125 ?_
                refine go_iload (pc := 126) rfl dX8_laysMay_126 ?_
                refine gi_fzt (pc := 128) (len := 10) hvx e29 (ti_rfl v33) rfl (by omega) (by omega) (fun _ => rfl) (by omega) (by omega) (by omega) dX8_laysMay_128 (fun h61 hv61 hv61e => ?_)
                refine go_aload_n (pc := 129) rfl dX8_laysMay_129 ?_
                refine gi_getF (pc := 130) (q := 102) hv61 fL_X8_105 rfl (Nat.le_of_ble_eq_true rfl) rfl (hv61.rf (by decide)) dX8_laysMay_130 ?_
                refine go_iload_n (pc := 133) rfl dX8_laysMay_133 ?_
                refine go_iload (pc := 134) rfl dX8_laysMay_134 ?_
                refine gi_fzt (pc := 136) (len := 10) hv61 e29 (ti_rfl v37) rfl (by omega) (by omega) (fun _ => rfl) (by omega) (by omega) (by omega) dX8_laysMay_136 (fun h62 hv62 hv62e => ?_)
                have E62 : h62.2.1 = (w1 (w1 hx.2.1 101 (((5 * S) + l2.toInt)) (v33 : Int32)) 102 (((5 * S) + l2.toInt)) (v37 : Int32)) := by
                  rw [hv62e, hv61e]
                  rw [v22S]
                  rfl
                have oh62 : OH h.2.1 h62.2.1 S := by rw [E62]; exact ((ohx.trans (OH.w 5 rfl (by omega) (by omega) (by omega) (by omega))).trans (OH.w 5 rfl (by omega) (by omega) (by omega) (by omega)))
                have n73_62 : V h62.2.1 73 S = V hx.2.1 73 S := by rw [E62, V_ne (by omega), V_ne (by omega)]
                have n74_62 : V h62.2.1 74 S = V hx.2.1 74 S := by rw [E62, V_ne (by omega), V_ne (by omega)]
                have n75_62 : V h62.2.1 75 S = V hx.2.1 75 S := by rw [E62, V_ne (by omega), V_ne (by omega)]
                have ck62 : CKF h.2.1 → CKF h62.2.1 := fun z => by rw [E62]; exact (CKF.w (by omega) (CKF.w (by omega) (ckx z)))
                have smx := sm_hi hvx S
                have smy := sm_hi hv62 S
                obtain ⟨fi2, k1, k2, k3⟩ := FI.step S0 (by omega) (by omega) x1 E62 f32.1 f32.2 f36.1 f36.2 (by omega) (by omega) (hvx.2.1 101 _) (hvx.2.1 102 _)
                refine gf_iinc (pc := 137) (Nat.le_of_ble_eq_true rfl) rfl (ti_rfl l2) (ti_c (by decide)) (by omega) (by omega) dX8_laysMay_137 (fun v63 e64 => ?_)
                refine go_lv (lv2 := [(0, .ref 70), (1, .int 1), (2, .int v63), (3, .int v28), (4, .int v33), (5, .int v37)]) rfl ?_
                refine go_goto (pc := 140) (tgt := 51) (by decide) dX8_laysMay_140 ?_
                have z65 : (1 : Int32).toInt = 1 := (ti_c (v := 1) (a := 1) (by decide))
                have z66 : (v63 : Int32).toInt = (l2.toInt + 1) := e64
                exact go_lv rfl (ih.2.2 1 v63 _ h62 hv62 (MW.trans (MW.trans sqx (MW.mz _ _)) (MW.mz _ _)) (by omega) (by omega) (by omega) (by omega) (xkx.trans (show KX 100 hx.2.1 h62.2.1 from by rw [E62]; exact (((KX.rfl 100 _).trans (KX.w (by omega))).trans (KX.w (by omega))))) fi2 (sm_hi hv62 S) oh62 ck62 (by omega))
  refine go_iconst (pc := 0) (v := 0) (by decide) dX8_laysMay_0 ?_
  refine go_istore_n (pc := 1) (Nat.le_of_ble_eq_true rfl) dX8_laysMay_1 (go_lv (lv2 := [(0, .ref 70), (1, .int 0)]) rfl ?_)
  have z67 : (0 : Int32).toInt = 0 := (ti_c (v := 0) (a := 0) (by decide))
  exact go_lv rfl ((key 3001).1 0 _ h hv (MW.rfl _) (by omega) (by omega) (KX.rfl 100 _) (fun k h1 h2 => absurd h2 (by omega)) oh ck (by omega))
