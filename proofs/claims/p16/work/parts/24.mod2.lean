theorem dX8_count_0 : decode cX8_count 0 = .ok (.aload_n 0, 1) := by decide +kernel
theorem dX8_count_1 : decode cX8_count 1 = .ok (.aload_n 0, 1) := by decide +kernel
theorem dX8_count_2 : decode cX8_count 2 = .ok (.getfield 228, 3) := by decide +kernel
theorem dX8_count_5 : decode cX8_count 5 = .ok (.putfield 187, 3) := by decide +kernel
theorem dX8_count_8 : decode cX8_count 8 = .ok (.iload_n 1, 1) := by decide +kernel
theorem dX8_count_9 : decode cX8_count 9 = .ok (.tableswitch 142 0 5 #[39, 60, 81, 97, 117, 137], 39) := by decide +kernel
theorem dX8_count_48 : decode cX8_count 48 = .ok (.aload_n 0, 1) := by decide +kernel
theorem dX8_count_49 : decode cX8_count 49 = .ok (.getfield 243, 3) := by decide +kernel
theorem dX8_count_52 : decode cX8_count 52 = .ok (.ifCond .eq 15, 3) := by decide +kernel
theorem dX8_count_55 : decode cX8_count 55 = .ok (.aload_n 0, 1) := by decide +kernel
theorem dX8_count_56 : decode cX8_count 56 = .ok (.getfield 23, 3) := by decide +kernel
theorem dX8_count_59 : decode cX8_count 59 = .ok (.aload_n 0, 1) := by decide +kernel
theorem dX8_count_60 : decode cX8_count 60 = .ok (.getfield 228, 3) := by decide +kernel
theorem dX8_count_63 : decode cX8_count 63 = .ok (.iaload, 1) := by decide +kernel
theorem dX8_count_64 : decode cX8_count 64 = .ok (.goto 4, 3) := by decide +kernel
theorem dX8_count_67 : decode cX8_count 67 = .ok (.iconst 0, 1) := by decide +kernel
theorem dX8_count_68 : decode cX8_count 68 = .ok (.ireturn, 1) := by decide +kernel
theorem dX8_count_69 : decode cX8_count 69 = .ok (.aload_n 0, 1) := by decide +kernel
theorem dX8_count_70 : decode cX8_count 70 = .ok (.getfield 243, 3) := by decide +kernel
theorem dX8_count_73 : decode cX8_count 73 = .ok (.ifCond .eq 15, 3) := by decide +kernel
theorem dX8_count_76 : decode cX8_count 76 = .ok (.aload_n 0, 1) := by decide +kernel
theorem dX8_count_77 : decode cX8_count 77 = .ok (.getfield 26, 3) := by decide +kernel
theorem dX8_count_80 : decode cX8_count 80 = .ok (.aload_n 0, 1) := by decide +kernel
theorem dX8_count_81 : decode cX8_count 81 = .ok (.getfield 228, 3) := by decide +kernel
theorem dX8_count_84 : decode cX8_count 84 = .ok (.iaload, 1) := by decide +kernel
theorem dX8_count_85 : decode cX8_count 85 = .ok (.goto 4, 3) := by decide +kernel
theorem dX8_count_88 : decode cX8_count 88 = .ok (.iconst 0, 1) := by decide +kernel
theorem dX8_count_89 : decode cX8_count 89 = .ok (.ireturn, 1) := by decide +kernel
theorem dX8_count_90 : decode cX8_count 90 = .ok (.aload_n 0, 1) := by decide +kernel
theorem dX8_count_91 : decode cX8_count 91 = .ok (.getfield 243, 3) := by decide +kernel
theorem dX8_count_94 : decode cX8_count 94 = .ok (.ifCond .eq 10, 3) := by decide +kernel
theorem dX8_count_97 : decode cX8_count 97 = .ok (.aload_n 0, 1) := by decide +kernel
theorem dX8_count_98 : decode cX8_count 98 = .ok (.invokevirtual 382, 3) := by decide +kernel
theorem dX8_count_101 : decode cX8_count 101 = .ok (.goto 4, 3) := by decide +kernel
theorem dX8_count_104 : decode cX8_count 104 = .ok (.iconst 0, 1) := by decide +kernel
theorem dX8_count_105 : decode cX8_count 105 = .ok (.ireturn, 1) := by decide +kernel
theorem dX8_count_106 : decode cX8_count 106 = .ok (.aload_n 0, 1) := by decide +kernel
theorem dX8_count_107 : decode cX8_count 107 = .ok (.getfield 243, 3) := by decide +kernel
theorem dX8_count_110 : decode cX8_count 110 = .ok (.ifCond .eq 14, 3) := by decide +kernel
theorem dX8_count_113 : decode cX8_count 113 = .ok (.aload_n 0, 1) := by decide +kernel
theorem dX8_count_114 : decode cX8_count 114 = .ok (.aload_n 0, 1) := by decide +kernel
theorem dX8_count_115 : decode cX8_count 115 = .ok (.getfield 105, 3) := by decide +kernel
theorem dX8_count_118 : decode cX8_count 118 = .ok (.invokevirtual 385, 3) := by decide +kernel
theorem dX8_count_121 : decode cX8_count 121 = .ok (.goto 4, 3) := by decide +kernel
theorem dX8_count_124 : decode cX8_count 124 = .ok (.iconst 0, 1) := by decide +kernel
theorem dX8_count_125 : decode cX8_count 125 = .ok (.ireturn, 1) := by decide +kernel
theorem dX8_count_126 : decode cX8_count 126 = .ok (.aload_n 0, 1) := by decide +kernel
theorem dX8_count_127 : decode cX8_count 127 = .ok (.getfield 243, 3) := by decide +kernel
theorem dX8_count_130 : decode cX8_count 130 = .ok (.ifCond .eq 14, 3) := by decide +kernel
theorem dX8_count_133 : decode cX8_count 133 = .ok (.aload_n 0, 1) := by decide +kernel
theorem dX8_count_134 : decode cX8_count 134 = .ok (.aload_n 0, 1) := by decide +kernel
theorem dX8_count_135 : decode cX8_count 135 = .ok (.getfield 101, 3) := by decide +kernel
theorem dX8_count_138 : decode cX8_count 138 = .ok (.invokevirtual 385, 3) := by decide +kernel
theorem dX8_count_141 : decode cX8_count 141 = .ok (.goto 4, 3) := by decide +kernel
theorem dX8_count_144 : decode cX8_count 144 = .ok (.iconst 0, 1) := by decide +kernel
theorem dX8_count_145 : decode cX8_count 145 = .ok (.ireturn, 1) := by decide +kernel
theorem dX8_count_146 : decode cX8_count 146 = .ok (.aload_n 0, 1) := by decide +kernel
theorem dX8_count_147 : decode cX8_count 147 = .ok (.getfield 151, 3) := by decide +kernel
theorem dX8_count_150 : decode cX8_count 150 = .ok (.ireturn, 1) := by decide +kernel
theorem dX8_count_151 : decode cX8_count 151 = .ok (.iconst (-1), 1) := by decide +kernel
theorem dX8_count_152 : decode cX8_count 152 = .ok (.ireturn, 1) := by decide +kernel
theorem dX8_decides_0 : decode cX8_decides 0 = .ok (.aload_n 0, 1) := by decide +kernel
theorem dX8_decides_1 : decode cX8_decides 1 = .ok (.iload_n 1, 1) := by decide +kernel
theorem dX8_decides_2 : decode cX8_decides 2 = .ok (.invokevirtual 271, 3) := by decide +kernel
theorem dX8_decides_5 : decode cX8_decides 5 = .ok (.istore_n 2, 1) := by decide +kernel
theorem dX8_decides_6 : decode cX8_decides 6 = .ok (.iload_n 2, 1) := by decide +kernel
theorem dX8_decides_7 : decode cX8_decides 7 = .ok (.iconst 2, 1) := by decide +kernel
theorem dX8_decides_8 : decode cX8_decides 8 = .ok (.if_icmp .eq 26, 3) := by decide +kernel
theorem dX8_decides_11 : decode cX8_decides 11 = .ok (.iload_n 2, 1) := by decide +kernel
theorem dX8_decides_12 : decode cX8_decides 12 = .ok (.iconst 3, 1) := by decide +kernel
theorem dX8_decides_13 : decode cX8_decides 13 = .ok (.if_icmp .eq 21, 3) := by decide +kernel
theorem dX8_decides_16 : decode cX8_decides 16 = .ok (.iload_n 2, 1) := by decide +kernel
theorem dX8_decides_17 : decode cX8_decides 17 = .ok (.iconst 5, 1) := by decide +kernel
theorem dX8_decides_18 : decode cX8_decides 18 = .ok (.if_icmp .eq 16, 3) := by decide +kernel
theorem dX8_decides_21 : decode cX8_decides 21 = .ok (.iload_n 2, 1) := by decide +kernel
theorem dX8_decides_22 : decode cX8_decides 22 = .ok (.iconst 4, 1) := by decide +kernel
theorem dX8_decides_23 : decode cX8_decides 23 = .ok (.if_icmp .eq 11, 3) := by decide +kernel
theorem dX8_decides_26 : decode cX8_decides 26 = .ok (.aload_n 0, 1) := by decide +kernel
theorem dX8_decides_27 : decode cX8_decides 27 = .ok (.iload_n 1, 1) := by decide +kernel
theorem dX8_decides_28 : decode cX8_decides 28 = .ok (.invokevirtual 277, 3) := by decide +kernel
theorem dX8_decides_31 : decode cX8_decides 31 = .ok (.ifCond .eq 7, 3) := by decide +kernel
theorem dX8_decides_34 : decode cX8_decides 34 = .ok (.iconst 1, 1) := by decide +kernel
theorem dX8_decides_35 : decode cX8_decides 35 = .ok (.goto 4, 3) := by decide +kernel
theorem dX8_decides_38 : decode cX8_decides 38 = .ok (.iconst 0, 1) := by decide +kernel
theorem dX8_decides_39 : decode cX8_decides 39 = .ok (.ireturn, 1) := by decide +kernel
theorem dX8_ends_0 : decode cX8_ends 0 = .ok (.aload_n 0, 1) := by decide +kernel
theorem dX8_ends_1 : decode cX8_ends 1 = .ok (.iload_n 1, 1) := by decide +kernel
theorem dX8_ends_2 : decode cX8_ends 2 = .ok (.invokevirtual 306, 3) := by decide +kernel
theorem dX8_ends_5 : decode cX8_ends 5 = .ok (.istore_n 2, 1) := by decide +kernel
theorem dX8_ends_6 : decode cX8_ends 6 = .ok (.aload_n 0, 1) := by decide +kernel
theorem dX8_ends_7 : decode cX8_ends 7 = .ok (.getfield 92, 3) := by decide +kernel
theorem dX8_ends_10 : decode cX8_ends 10 = .ok (.bipush 40, 2) := by decide +kernel
theorem dX8_ends_12 : decode cX8_ends 12 = .ok (.aload_n 0, 1) := by decide +kernel
theorem dX8_ends_13 : decode cX8_ends 13 = .ok (.getfield 187, 3) := by decide +kernel
theorem dX8_ends_16 : decode cX8_ends 16 = .ok (.imul, 1) := by decide +kernel
theorem dX8_ends_17 : decode cX8_ends 17 = .ok (.iload_n 1, 1) := by decide +kernel
theorem dX8_ends_18 : decode cX8_ends 18 = .ok (.iadd, 1) := by decide +kernel
theorem dX8_ends_19 : decode cX8_ends 19 = .ok (.iaload, 1) := by decide +kernel
theorem dX8_ends_20 : decode cX8_ends 20 = .ok (.iconst (-1), 1) := by decide +kernel
theorem dX8_ends_21 : decode cX8_ends 21 = .ok (.if_icmp .ne 25, 3) := by decide +kernel
theorem dX8_ends_24 : decode cX8_ends 24 = .ok (.aload_n 0, 1) := by decide +kernel
theorem dX8_ends_25 : decode cX8_ends 25 = .ok (.getfield 95, 3) := by decide +kernel
theorem dX8_ends_28 : decode cX8_ends 28 = .ok (.bipush 40, 2) := by decide +kernel
theorem dX8_ends_30 : decode cX8_ends 30 = .ok (.aload_n 0, 1) := by decide +kernel
theorem dX8_ends_31 : decode cX8_ends 31 = .ok (.getfield 187, 3) := by decide +kernel
theorem dX8_ends_34 : decode cX8_ends 34 = .ok (.imul, 1) := by decide +kernel
theorem dX8_ends_35 : decode cX8_ends 35 = .ok (.iload_n 1, 1) := by decide +kernel
theorem dX8_ends_36 : decode cX8_ends 36 = .ok (.iadd, 1) := by decide +kernel
theorem dX8_ends_37 : decode cX8_ends 37 = .ok (.iaload, 1) := by decide +kernel
theorem dX8_ends_38 : decode cX8_ends 38 = .ok (.iconst (-1), 1) := by decide +kernel
theorem dX8_ends_39 : decode cX8_ends 39 = .ok (.if_icmp .ne 7, 3) := by decide +kernel
theorem dX8_ends_42 : decode cX8_ends 42 = .ok (.iconst 1, 1) := by decide +kernel
theorem dX8_ends_43 : decode cX8_ends 43 = .ok (.goto 4, 3) := by decide +kernel
theorem dX8_ends_46 : decode cX8_ends 46 = .ok (.iconst 0, 1) := by decide +kernel
theorem dX8_ends_47 : decode cX8_ends 47 = .ok (.istore_n 3, 1) := by decide +kernel
theorem dX8_ends_48 : decode cX8_ends 48 = .ok (.aload_n 0, 1) := by decide +kernel
theorem dX8_ends_49 : decode cX8_ends 49 = .ok (.iload_n 1, 1) := by decide +kernel
theorem dX8_ends_50 : decode cX8_ends 50 = .ok (.invokevirtual 271, 3) := by decide +kernel
theorem dX8_ends_53 : decode cX8_ends 53 = .ok (.iconst 5, 1) := by decide +kernel
theorem dX8_ends_54 : decode cX8_ends 54 = .ok (.if_icmp .eq 16, 3) := by decide +kernel
theorem dX8_ends_57 : decode cX8_ends 57 = .ok (.aload_n 0, 1) := by decide +kernel
theorem dX8_ends_58 : decode cX8_ends 58 = .ok (.iload_n 1, 1) := by decide +kernel
theorem dX8_ends_59 : decode cX8_ends 59 = .ok (.invokevirtual 271, 3) := by decide +kernel
theorem dX8_ends_62 : decode cX8_ends 62 = .ok (.iconst 4, 1) := by decide +kernel
theorem dX8_ends_63 : decode cX8_ends 63 = .ok (.if_icmp .ne 11, 3) := by decide +kernel
theorem dX8_ends_66 : decode cX8_ends 66 = .ok (.iload_n 3, 1) := by decide +kernel
theorem dX8_ends_67 : decode cX8_ends 67 = .ok (.ifCond .eq 7, 3) := by decide +kernel
theorem dX8_ends_70 : decode cX8_ends 70 = .ok (.iconst 1, 1) := by decide +kernel
theorem dX8_ends_71 : decode cX8_ends 71 = .ok (.goto 4, 3) := by decide +kernel
theorem dX8_ends_74 : decode cX8_ends 74 = .ok (.iconst 0, 1) := by decide +kernel
theorem dX8_ends_75 : decode cX8_ends 75 = .ok (.istore 4, 2) := by decide +kernel
theorem dX8_ends_77 : decode cX8_ends 77 = .ok (.aload_n 0, 1) := by decide +kernel
theorem dX8_ends_78 : decode cX8_ends 78 = .ok (.iload_n 1, 1) := by decide +kernel
theorem dX8_ends_79 : decode cX8_ends 79 = .ok (.invokevirtual 277, 3) := by decide +kernel
theorem dX8_ends_82 : decode cX8_ends 82 = .ok (.ifCond .eq 11, 3) := by decide +kernel
theorem dX8_ends_85 : decode cX8_ends 85 = .ok (.iload_n 3, 1) := by decide +kernel
theorem dX8_ends_86 : decode cX8_ends 86 = .ok (.ifCond .eq 7, 3) := by decide +kernel
theorem dX8_ends_89 : decode cX8_ends 89 = .ok (.iconst 1, 1) := by decide +kernel
theorem dX8_ends_90 : decode cX8_ends 90 = .ok (.goto 4, 3) := by decide +kernel
theorem dX8_ends_93 : decode cX8_ends 93 = .ok (.iconst 0, 1) := by decide +kernel
theorem dX8_ends_94 : decode cX8_ends 94 = .ok (.istore 5, 2) := by decide +kernel
theorem dX8_ends_96 : decode cX8_ends 96 = .ok (.iload 4, 2) := by decide +kernel
theorem dX8_ends_98 : decode cX8_ends 98 = .ok (.ifCond .eq 18, 3) := by decide +kernel
theorem dX8_ends_101 : decode cX8_ends 101 = .ok (.aload_n 0, 1) := by decide +kernel
theorem dX8_ends_102 : decode cX8_ends 102 = .ok (.iload_n 2, 1) := by decide +kernel
theorem dX8_ends_103 : decode cX8_ends 103 = .ok (.bipush 7, 2) := by decide +kernel
theorem dX8_ends_105 : decode cX8_ends 105 = .ok (.invokestatic 300, 3) := by decide +kernel
theorem dX8_ends_108 : decode cX8_ends 108 = .ok (.iload_n 1, 1) := by decide +kernel
theorem dX8_ends_109 : decode cX8_ends 109 = .ok (.iconst 0, 1) := by decide +kernel
theorem dX8_ends_110 : decode cX8_ends 110 = .ok (.invokestatic 291, 3) := by decide +kernel
theorem dX8_ends_113 : decode cX8_ends 113 = .ok (.invokevirtual 303, 3) := by decide +kernel
theorem dX8_ends_116 : decode cX8_ends 116 = .ok (.iload 5, 2) := by decide +kernel
theorem dX8_ends_118 : decode cX8_ends 118 = .ok (.ifCond .eq 19, 3) := by decide +kernel
theorem dX8_ends_121 : decode cX8_ends 121 = .ok (.aload_n 0, 1) := by decide +kernel
theorem dX8_ends_122 : decode cX8_ends 122 = .ok (.iload_n 2, 1) := by decide +kernel
theorem dX8_ends_123 : decode cX8_ends 123 = .ok (.bipush 7, 2) := by decide +kernel
theorem dX8_ends_125 : decode cX8_ends 125 = .ok (.invokestatic 300, 3) := by decide +kernel
theorem dX8_ends_128 : decode cX8_ends 128 = .ok (.iload_n 1, 1) := by decide +kernel
theorem dX8_ends_129 : decode cX8_ends 129 = .ok (.bipush 7, 2) := by decide +kernel
theorem dX8_ends_131 : decode cX8_ends 131 = .ok (.invokestatic 291, 3) := by decide +kernel
theorem dX8_ends_134 : decode cX8_ends 134 = .ok (.invokevirtual 303, 3) := by decide +kernel
theorem dX8_ends_137 : decode cX8_ends 137 = .ok (.aload_n 0, 1) := by decide +kernel
theorem dX8_ends_138 : decode cX8_ends 138 = .ok (.getfield 105, 3) := by decide +kernel
theorem dX8_ends_141 : decode cX8_ends 141 = .ok (.iconst 5, 1) := by decide +kernel
theorem dX8_ends_142 : decode cX8_ends 142 = .ok (.aload_n 0, 1) := by decide +kernel
theorem dX8_ends_143 : decode cX8_ends 143 = .ok (.getfield 187, 3) := by decide +kernel
theorem dX8_ends_146 : decode cX8_ends 146 = .ok (.imul, 1) := by decide +kernel
theorem dX8_ends_147 : decode cX8_ends 147 = .ok (.iload_n 2, 1) := by decide +kernel
theorem dX8_ends_148 : decode cX8_ends 148 = .ok (.iadd, 1) := by decide +kernel
theorem dX8_ends_149 : decode cX8_ends 149 = .ok (.baload, 1) := by decide +kernel
theorem dX8_ends_150 : decode cX8_ends 150 = .ok (.ifCond .ne 4, 3) := by decide +kernel
theorem dX8_ends_153 : decode cX8_ends 153 = .ok (.return_, 1) := by decide +kernel
theorem dX8_ends_154 : decode cX8_ends 154 = .ok (.iload 4, 2) := by decide +kernel
theorem dX8_ends_156 : decode cX8_ends 156 = .ok (.ifCond .eq 18, 3) := by decide +kernel
theorem dX8_ends_159 : decode cX8_ends 159 = .ok (.aload_n 0, 1) := by decide +kernel
theorem dX8_ends_160 : decode cX8_ends 160 = .ok (.iload_n 2, 1) := by decide +kernel
theorem dX8_ends_161 : decode cX8_ends 161 = .ok (.bipush 8, 2) := by decide +kernel
theorem dX8_ends_163 : decode cX8_ends 163 = .ok (.invokestatic 300, 3) := by decide +kernel
theorem dX8_ends_166 : decode cX8_ends 166 = .ok (.iload_n 1, 1) := by decide +kernel
theorem dX8_ends_167 : decode cX8_ends 167 = .ok (.iconst 0, 1) := by decide +kernel
theorem dX8_ends_168 : decode cX8_ends 168 = .ok (.invokestatic 291, 3) := by decide +kernel
theorem dX8_ends_171 : decode cX8_ends 171 = .ok (.invokevirtual 303, 3) := by decide +kernel
theorem dX8_ends_174 : decode cX8_ends 174 = .ok (.iload 5, 2) := by decide +kernel
theorem dX8_ends_176 : decode cX8_ends 176 = .ok (.ifCond .eq 19, 3) := by decide +kernel
theorem dX8_ends_179 : decode cX8_ends 179 = .ok (.aload_n 0, 1) := by decide +kernel
theorem dX8_ends_180 : decode cX8_ends 180 = .ok (.iload_n 2, 1) := by decide +kernel
theorem dX8_ends_181 : decode cX8_ends 181 = .ok (.bipush 8, 2) := by decide +kernel
theorem dX8_ends_183 : decode cX8_ends 183 = .ok (.invokestatic 300, 3) := by decide +kernel
theorem dX8_ends_186 : decode cX8_ends 186 = .ok (.iload_n 1, 1) := by decide +kernel
theorem dX8_ends_187 : decode cX8_ends 187 = .ok (.bipush 8, 2) := by decide +kernel
theorem dX8_ends_189 : decode cX8_ends 189 = .ok (.invokestatic 291, 3) := by decide +kernel
theorem dX8_ends_192 : decode cX8_ends 192 = .ok (.invokevirtual 303, 3) := by decide +kernel
theorem dX8_ends_195 : decode cX8_ends 195 = .ok (.return_, 1) := by decide +kernel
theorem dX8_isReturning_0 : decode cX8_isReturning 0 = .ok (.aload_n 0, 1) := by decide +kernel
theorem dX8_isReturning_1 : decode cX8_isReturning 1 = .ok (.iload_n 1, 1) := by decide +kernel
theorem dX8_isReturning_2 : decode cX8_isReturning 2 = .ok (.invokevirtual 271, 3) := by decide +kernel
theorem dX8_isReturning_5 : decode cX8_isReturning 5 = .ok (.iconst 1, 1) := by decide +kernel
theorem dX8_isReturning_6 : decode cX8_isReturning 6 = .ok (.if_icmp .ne 32, 3) := by decide +kernel
theorem dX8_isReturning_9 : decode cX8_isReturning 9 = .ok (.aload_n 0, 1) := by decide +kernel
theorem dX8_isReturning_10 : decode cX8_isReturning 10 = .ok (.getfield 101, 3) := by decide +kernel
theorem dX8_isReturning_13 : decode cX8_isReturning 13 = .ok (.iconst 5, 1) := by decide +kernel
theorem dX8_isReturning_14 : decode cX8_isReturning 14 = .ok (.aload_n 0, 1) := by decide +kernel
theorem dX8_isReturning_15 : decode cX8_isReturning 15 = .ok (.getfield 187, 3) := by decide +kernel
theorem dX8_isReturning_18 : decode cX8_isReturning 18 = .ok (.imul, 1) := by decide +kernel
theorem dX8_isReturning_19 : decode cX8_isReturning 19 = .ok (.aload_n 0, 1) := by decide +kernel
theorem dX8_isReturning_20 : decode cX8_isReturning 20 = .ok (.getfield 50, 3) := by decide +kernel
theorem dX8_isReturning_23 : decode cX8_isReturning 23 = .ok (.aload_n 0, 1) := by decide +kernel
theorem dX8_isReturning_24 : decode cX8_isReturning 24 = .ok (.iload_n 1, 1) := by decide +kernel
theorem dX8_isReturning_25 : decode cX8_isReturning 25 = .ok (.invokevirtual 268, 3) := by decide +kernel
theorem dX8_isReturning_28 : decode cX8_isReturning 28 = .ok (.iaload, 1) := by decide +kernel
theorem dX8_isReturning_29 : decode cX8_isReturning 29 = .ok (.iadd, 1) := by decide +kernel
theorem dX8_isReturning_30 : decode cX8_isReturning 30 = .ok (.baload, 1) := by decide +kernel
theorem dX8_isReturning_31 : decode cX8_isReturning 31 = .ok (.ifCond .eq 7, 3) := by decide +kernel
theorem dX8_isReturning_34 : decode cX8_isReturning 34 = .ok (.iconst 1, 1) := by decide +kernel
theorem dX8_isReturning_35 : decode cX8_isReturning 35 = .ok (.goto 4, 3) := by decide +kernel
theorem dX8_isReturning_38 : decode cX8_isReturning 38 = .ok (.iconst 0, 1) := by decide +kernel
theorem dX8_isReturning_39 : decode cX8_isReturning 39 = .ok (.ireturn, 1) := by decide +kernel
theorem dX8_isThrowing_0 : decode cX8_isThrowing 0 = .ok (.aload_n 0, 1) := by decide +kernel
theorem dX8_isThrowing_1 : decode cX8_isThrowing 1 = .ok (.iload_n 1, 1) := by decide +kernel
theorem dX8_isThrowing_2 : decode cX8_isThrowing 2 = .ok (.invokevirtual 271, 3) := by decide +kernel
theorem dX8_isThrowing_5 : decode cX8_isThrowing 5 = .ok (.iconst 1, 1) := by decide +kernel
theorem dX8_isThrowing_6 : decode cX8_isThrowing 6 = .ok (.if_icmp .ne 32, 3) := by decide +kernel
theorem dX8_isThrowing_9 : decode cX8_isThrowing 9 = .ok (.aload_n 0, 1) := by decide +kernel
theorem dX8_isThrowing_10 : decode cX8_isThrowing 10 = .ok (.getfield 105, 3) := by decide +kernel
theorem dX8_isThrowing_13 : decode cX8_isThrowing 13 = .ok (.iconst 5, 1) := by decide +kernel
theorem dX8_isThrowing_14 : decode cX8_isThrowing 14 = .ok (.aload_n 0, 1) := by decide +kernel
theorem dX8_isThrowing_15 : decode cX8_isThrowing 15 = .ok (.getfield 187, 3) := by decide +kernel
theorem dX8_isThrowing_18 : decode cX8_isThrowing 18 = .ok (.imul, 1) := by decide +kernel
theorem dX8_isThrowing_19 : decode cX8_isThrowing 19 = .ok (.aload_n 0, 1) := by decide +kernel
theorem dX8_isThrowing_20 : decode cX8_isThrowing 20 = .ok (.getfield 50, 3) := by decide +kernel
theorem dX8_isThrowing_23 : decode cX8_isThrowing 23 = .ok (.aload_n 0, 1) := by decide +kernel
theorem dX8_isThrowing_24 : decode cX8_isThrowing 24 = .ok (.iload_n 1, 1) := by decide +kernel
theorem dX8_isThrowing_25 : decode cX8_isThrowing 25 = .ok (.invokevirtual 268, 3) := by decide +kernel
theorem dX8_isThrowing_28 : decode cX8_isThrowing 28 = .ok (.iaload, 1) := by decide +kernel
theorem dX8_isThrowing_29 : decode cX8_isThrowing 29 = .ok (.iadd, 1) := by decide +kernel
theorem dX8_isThrowing_30 : decode cX8_isThrowing 30 = .ok (.baload, 1) := by decide +kernel
theorem dX8_isThrowing_31 : decode cX8_isThrowing 31 = .ok (.ifCond .eq 7, 3) := by decide +kernel
theorem dX8_isThrowing_34 : decode cX8_isThrowing 34 = .ok (.iconst 1, 1) := by decide +kernel
theorem dX8_isThrowing_35 : decode cX8_isThrowing 35 = .ok (.goto 4, 3) := by decide +kernel
theorem dX8_isThrowing_38 : decode cX8_isThrowing 38 = .ok (.iconst 0, 1) := by decide +kernel
theorem dX8_isThrowing_39 : decode cX8_isThrowing 39 = .ok (.ireturn, 1) := by decide +kernel
theorem dX8_isWanted_0 : decode cX8_isWanted 0 = .ok (.aload_n 0, 1) := by decide +kernel
theorem dX8_isWanted_1 : decode cX8_isWanted 1 = .ok (.iload_n 1, 1) := by decide +kernel
theorem dX8_isWanted_2 : decode cX8_isWanted 2 = .ok (.invokevirtual 271, 3) := by decide +kernel
theorem dX8_isWanted_5 : decode cX8_isWanted 5 = .ok (.iconst 1, 1) := by decide +kernel
theorem dX8_isWanted_6 : decode cX8_isWanted 6 = .ok (.if_icmp .ne 24, 3) := by decide +kernel
theorem dX8_isWanted_9 : decode cX8_isWanted 9 = .ok (.aload_n 0, 1) := by decide +kernel
theorem dX8_isWanted_10 : decode cX8_isWanted 10 = .ok (.aload_n 0, 1) := by decide +kernel
theorem dX8_isWanted_11 : decode cX8_isWanted 11 = .ok (.getfield 50, 3) := by decide +kernel
theorem dX8_isWanted_14 : decode cX8_isWanted 14 = .ok (.aload_n 0, 1) := by decide +kernel
theorem dX8_isWanted_15 : decode cX8_isWanted 15 = .ok (.iload_n 1, 1) := by decide +kernel
theorem dX8_isWanted_16 : decode cX8_isWanted 16 = .ok (.invokevirtual 268, 3) := by decide +kernel
theorem dX8_isWanted_19 : decode cX8_isWanted 19 = .ok (.iaload, 1) := by decide +kernel
theorem dX8_isWanted_20 : decode cX8_isWanted 20 = .ok (.iload_n 2, 1) := by decide +kernel
theorem dX8_isWanted_21 : decode cX8_isWanted 21 = .ok (.invokestatic 300, 3) := by decide +kernel
theorem dX8_isWanted_24 : decode cX8_isWanted 24 = .ok (.invokevirtual 401, 3) := by decide +kernel
theorem dX8_isWanted_27 : decode cX8_isWanted 27 = .ok (.ifCond .ne 5, 3) := by decide +kernel
theorem dX8_isWanted_30 : decode cX8_isWanted 30 = .ok (.iconst 0, 1) := by decide +kernel
theorem dX8_isWanted_31 : decode cX8_isWanted 31 = .ok (.ireturn, 1) := by decide +kernel
theorem dX8_isWanted_32 : decode cX8_isWanted 32 = .ok (.aload_n 0, 1) := by decide +kernel
theorem dX8_isWanted_33 : decode cX8_isWanted 33 = .ok (.iload_n 1, 1) := by decide +kernel
theorem dX8_isWanted_34 : decode cX8_isWanted 34 = .ok (.invokevirtual 404, 3) := by decide +kernel
theorem dX8_isWanted_37 : decode cX8_isWanted 37 = .ok (.ifCond .eq 19, 3) := by decide +kernel
theorem dX8_isWanted_40 : decode cX8_isWanted 40 = .ok (.aload_n 0, 1) := by decide +kernel
theorem dX8_isWanted_41 : decode cX8_isWanted 41 = .ok (.iload_n 1, 1) := by decide +kernel
theorem dX8_isWanted_42 : decode cX8_isWanted 42 = .ok (.iload_n 2, 1) := by decide +kernel
theorem dX8_isWanted_43 : decode cX8_isWanted 43 = .ok (.invokestatic 291, 3) := by decide +kernel
theorem dX8_isWanted_46 : decode cX8_isWanted 46 = .ok (.invokevirtual 401, 3) := by decide +kernel
theorem dX8_isWanted_49 : decode cX8_isWanted 49 = .ok (.ifCond .ne 7, 3) := by decide +kernel
theorem dX8_isWanted_52 : decode cX8_isWanted 52 = .ok (.iconst 1, 1) := by decide +kernel
theorem dX8_isWanted_53 : decode cX8_isWanted 53 = .ok (.goto 4, 3) := by decide +kernel
theorem dX8_isWanted_56 : decode cX8_isWanted 56 = .ok (.iconst 0, 1) := by decide +kernel
theorem dX8_isWanted_57 : decode cX8_isWanted 57 = .ok (.ireturn, 1) := by decide +kernel
theorem dX8_may_0 : decode cX8_may 0 = .ok (.iconst 0, 1) := by decide +kernel
theorem dX8_may_1 : decode cX8_may 1 = .ok (.istore_n 2, 1) := by decide +kernel
theorem dX8_may_2 : decode cX8_may 2 = .ok (.iconst 0, 1) := by decide +kernel
theorem dX8_may_3 : decode cX8_may 3 = .ok (.istore_n 3, 1) := by decide +kernel
theorem dX8_may_4 : decode cX8_may 4 = .ok (.iload_n 3, 1) := by decide +kernel
theorem dX8_may_5 : decode cX8_may 5 = .ok (.aload_n 0, 1) := by decide +kernel
theorem dX8_may_6 : decode cX8_may 6 = .ok (.getfield 26, 3) := by decide +kernel
theorem dX8_may_9 : decode cX8_may 9 = .ok (.aload_n 0, 1) := by decide +kernel
theorem dX8_may_10 : decode cX8_may 10 = .ok (.getfield 228, 3) := by decide +kernel
theorem dX8_may_13 : decode cX8_may 13 = .ok (.iaload, 1) := by decide +kernel
theorem dX8_may_14 : decode cX8_may 14 = .ok (.if_icmp .ge 32, 3) := by decide +kernel
theorem dX8_may_17 : decode cX8_may 17 = .ok (.iload_n 2, 1) := by decide +kernel
theorem dX8_may_18 : decode cX8_may 18 = .ok (.aload_n 1, 1) := by decide +kernel
theorem dX8_may_19 : decode cX8_may 19 = .ok (.iconst 5, 1) := by decide +kernel
theorem dX8_may_20 : decode cX8_may 20 = .ok (.aload_n 0, 1) := by decide +kernel
theorem dX8_may_21 : decode cX8_may 21 = .ok (.getfield 228, 3) := by decide +kernel
theorem dX8_may_24 : decode cX8_may 24 = .ok (.imul, 1) := by decide +kernel
theorem dX8_may_25 : decode cX8_may 25 = .ok (.iload_n 3, 1) := by decide +kernel
theorem dX8_may_26 : decode cX8_may 26 = .ok (.iadd, 1) := by decide +kernel
theorem dX8_may_27 : decode cX8_may 27 = .ok (.baload, 1) := by decide +kernel
theorem dX8_may_28 : decode cX8_may 28 = .ok (.ifCond .eq 9, 3) := by decide +kernel
theorem dX8_may_31 : decode cX8_may 31 = .ok (.iconst 1, 1) := by decide +kernel
theorem dX8_may_32 : decode cX8_may 32 = .ok (.iload_n 3, 1) := by decide +kernel
theorem dX8_may_33 : decode cX8_may 33 = .ok (.ishl, 1) := by decide +kernel
theorem dX8_may_34 : decode cX8_may 34 = .ok (.goto 4, 3) := by decide +kernel
theorem dX8_may_37 : decode cX8_may 37 = .ok (.iconst 0, 1) := by decide +kernel
theorem dX8_may_38 : decode cX8_may 38 = .ok (.ior, 1) := by decide +kernel
theorem dX8_may_39 : decode cX8_may 39 = .ok (.istore_n 2, 1) := by decide +kernel
theorem dX8_may_40 : decode cX8_may 40 = .ok (.iinc 3 1, 3) := by decide +kernel
theorem dX8_may_43 : decode cX8_may 43 = .ok (.goto (-39), 3) := by decide +kernel
theorem dX8_may_46 : decode cX8_may 46 = .ok (.iload_n 2, 1) := by decide +kernel
theorem dX8_may_47 : decode cX8_may 47 = .ok (.ireturn, 1) := by decide +kernel
theorem dX8_summary_0 : decode cX8_summary 0 = .ok (.aload_n 0, 1) := by decide +kernel
theorem dX8_summary_1 : decode cX8_summary 1 = .ok (.aload_n 0, 1) := by decide +kernel
theorem dX8_summary_2 : decode cX8_summary 2 = .ok (.getfield 228, 3) := by decide +kernel
theorem dX8_summary_5 : decode cX8_summary 5 = .ok (.putfield 187, 3) := by decide +kernel
theorem dX8_summary_8 : decode cX8_summary 8 = .ok (.aload_n 0, 1) := by decide +kernel
theorem dX8_summary_9 : decode cX8_summary 9 = .ok (.iload_n 1, 1) := by decide +kernel
theorem dX8_summary_10 : decode cX8_summary 10 = .ok (.invokevirtual 389, 3) := by decide +kernel
theorem dX8_summary_13 : decode cX8_summary 13 = .ok (.ifCond .eq 30, 3) := by decide +kernel
theorem dX8_summary_16 : decode cX8_summary 16 = .ok (.aload_n 0, 1) := by decide +kernel
theorem dX8_summary_17 : decode cX8_summary 17 = .ok (.iload_n 1, 1) := by decide +kernel
theorem dX8_summary_18 : decode cX8_summary 18 = .ok (.invokevirtual 271, 3) := by decide +kernel
theorem dX8_summary_21 : decode cX8_summary 21 = .ok (.iconst 1, 1) := by decide +kernel
theorem dX8_summary_22 : decode cX8_summary 22 = .ok (.if_icmp .ne 21, 3) := by decide +kernel
theorem dX8_summary_25 : decode cX8_summary 25 = .ok (.iload_n 2, 1) := by decide +kernel
theorem dX8_summary_26 : decode cX8_summary 26 = .ok (.iconst 0, 1) := by decide +kernel
theorem dX8_summary_27 : decode cX8_summary 27 = .ok (.iconst 5, 1) := by decide +kernel
theorem dX8_summary_28 : decode cX8_summary 28 = .ok (.invokestatic 159, 3) := by decide +kernel
theorem dX8_summary_31 : decode cX8_summary 31 = .ok (.ifCond .eq 12, 3) := by decide +kernel
theorem dX8_summary_34 : decode cX8_summary 34 = .ok (.iload_n 3, 1) := by decide +kernel
theorem dX8_summary_35 : decode cX8_summary 35 = .ok (.iconst 0, 1) := by decide +kernel
theorem dX8_summary_36 : decode cX8_summary 36 = .ok (.iconst 5, 1) := by decide +kernel
theorem dX8_summary_37 : decode cX8_summary 37 = .ok (.invokestatic 159, 3) := by decide +kernel
theorem dX8_summary_40 : decode cX8_summary 40 = .ok (.ifCond .ne 5, 3) := by decide +kernel
theorem dX8_summary_43 : decode cX8_summary 43 = .ok (.iconst 0, 1) := by decide +kernel
theorem dX8_summary_44 : decode cX8_summary 44 = .ok (.ireturn, 1) := by decide +kernel
theorem dX8_summary_45 : decode cX8_summary 45 = .ok (.aload_n 0, 1) := by decide +kernel
theorem dX8_summary_46 : decode cX8_summary 46 = .ok (.getfield 124, 3) := by decide +kernel
theorem dX8_summary_49 : decode cX8_summary 49 = .ok (.bipush 6, 2) := by decide +kernel
theorem dX8_summary_51 : decode cX8_summary 51 = .ok (.aload_n 0, 1) := by decide +kernel
theorem dX8_summary_52 : decode cX8_summary 52 = .ok (.getfield 50, 3) := by decide +kernel
theorem dX8_summary_55 : decode cX8_summary 55 = .ok (.aload_n 0, 1) := by decide +kernel
theorem dX8_summary_56 : decode cX8_summary 56 = .ok (.iload_n 1, 1) := by decide +kernel
theorem dX8_summary_57 : decode cX8_summary 57 = .ok (.invokevirtual 268, 3) := by decide +kernel
theorem dX8_summary_60 : decode cX8_summary 60 = .ok (.iaload, 1) := by decide +kernel
theorem dX8_summary_61 : decode cX8_summary 61 = .ok (.imul, 1) := by decide +kernel
theorem dX8_summary_62 : decode cX8_summary 62 = .ok (.iload_n 3, 1) := by decide +kernel
theorem dX8_summary_63 : decode cX8_summary 63 = .ok (.iadd, 1) := by decide +kernel
theorem dX8_summary_64 : decode cX8_summary 64 = .ok (.iaload, 1) := by decide +kernel
theorem dX8_summary_65 : decode cX8_summary 65 = .ok (.iload_n 2, 1) := by decide +kernel
theorem dX8_summary_66 : decode cX8_summary 66 = .ok (.ishr, 1) := by decide +kernel
theorem dX8_summary_67 : decode cX8_summary 67 = .ok (.iconst 1, 1) := by decide +kernel
theorem dX8_summary_68 : decode cX8_summary 68 = .ok (.iand, 1) := by decide +kernel
theorem dX8_summary_69 : decode cX8_summary 69 = .ok (.iconst 1, 1) := by decide +kernel
theorem dX8_summary_70 : decode cX8_summary 70 = .ok (.if_icmp .ne 7, 3) := by decide +kernel
theorem dX8_summary_73 : decode cX8_summary 73 = .ok (.iconst 1, 1) := by decide +kernel
theorem dX8_summary_74 : decode cX8_summary 74 = .ok (.goto 4, 3) := by decide +kernel
theorem dX8_summary_77 : decode cX8_summary 77 = .ok (.iconst 0, 1) := by decide +kernel
theorem dX8_summary_78 : decode cX8_summary 78 = .ok (.ireturn, 1) := by decide +kernel
theorem dX8_tells_0 : decode cX8_tells 0 = .ok (.aload_n 0, 1) := by decide +kernel
theorem dX8_tells_1 : decode cX8_tells 1 = .ok (.iload_n 1, 1) := by decide +kernel
theorem dX8_tells_2 : decode cX8_tells 2 = .ok (.invokevirtual 268, 3) := by decide +kernel
theorem dX8_tells_5 : decode cX8_tells 5 = .ok (.istore 4, 2) := by decide +kernel
theorem dX8_tells_7 : decode cX8_tells 7 = .ok (.aload_n 0, 1) := by decide +kernel
theorem dX8_tells_8 : decode cX8_tells 8 = .ok (.getfield 95, 3) := by decide +kernel
theorem dX8_tells_11 : decode cX8_tells 11 = .ok (.bipush 40, 2) := by decide +kernel
theorem dX8_tells_13 : decode cX8_tells 13 = .ok (.aload_n 0, 1) := by decide +kernel
theorem dX8_tells_14 : decode cX8_tells 14 = .ok (.getfield 187, 3) := by decide +kernel
theorem dX8_tells_17 : decode cX8_tells 17 = .ok (.imul, 1) := by decide +kernel
theorem dX8_tells_18 : decode cX8_tells 18 = .ok (.iload_n 1, 1) := by decide +kernel
theorem dX8_tells_19 : decode cX8_tells 19 = .ok (.iadd, 1) := by decide +kernel
theorem dX8_tells_20 : decode cX8_tells 20 = .ok (.iaload, 1) := by decide +kernel
theorem dX8_tells_21 : decode cX8_tells 21 = .ok (.istore 5, 2) := by decide +kernel
theorem dX8_tells_23 : decode cX8_tells 23 = .ok (.aload_n 0, 1) := by decide +kernel
theorem dX8_tells_24 : decode cX8_tells 24 = .ok (.getfield 29, 3) := by decide +kernel
theorem dX8_tells_27 : decode cX8_tells 27 = .ok (.iload 4, 2) := by decide +kernel
theorem dX8_tells_29 : decode cX8_tells 29 = .ok (.iaload, 1) := by decide +kernel
theorem dX8_tells_30 : decode cX8_tells 30 = .ok (.tableswitch 119 0 4 #[34, 71, 119, 119, 55], 34) := by decide +kernel
theorem dX8_tells_64 : decode cX8_tells 64 = .ok (.aload_n 0, 1) := by decide +kernel
theorem dX8_tells_65 : decode cX8_tells 65 = .ok (.getfield 44, 3) := by decide +kernel
theorem dX8_tells_68 : decode cX8_tells 68 = .ok (.iload 4, 2) := by decide +kernel
theorem dX8_tells_70 : decode cX8_tells 70 = .ok (.iaload, 1) := by decide +kernel
theorem dX8_tells_71 : decode cX8_tells 71 = .ok (.iload_n 3, 1) := by decide +kernel
theorem dX8_tells_72 : decode cX8_tells 72 = .ok (.if_icmp .ne 11, 3) := by decide +kernel
theorem dX8_tells_75 : decode cX8_tells 75 = .ok (.iload_n 1, 1) := by decide +kernel
theorem dX8_tells_76 : decode cX8_tells 76 = .ok (.iconst 0, 1) := by decide +kernel
theorem dX8_tells_77 : decode cX8_tells 77 = .ok (.invokestatic 291, 3) := by decide +kernel
theorem dX8_tells_80 : decode cX8_tells 80 = .ok (.goto 4, 3) := by decide +kernel
theorem dX8_tells_83 : decode cX8_tells 83 = .ok (.iconst (-1), 1) := by decide +kernel
theorem dX8_tells_84 : decode cX8_tells 84 = .ok (.ireturn, 1) := by decide +kernel
theorem dX8_tells_85 : decode cX8_tells 85 = .ok (.iload 5, 2) := by decide +kernel
theorem dX8_tells_87 : decode cX8_tells 87 = .ok (.iload_n 3, 1) := by decide +kernel
theorem dX8_tells_88 : decode cX8_tells 88 = .ok (.if_icmp .ne 11, 3) := by decide +kernel
theorem dX8_tells_91 : decode cX8_tells 91 = .ok (.iload_n 1, 1) := by decide +kernel
theorem dX8_tells_92 : decode cX8_tells 92 = .ok (.iconst 0, 1) := by decide +kernel
theorem dX8_tells_93 : decode cX8_tells 93 = .ok (.invokestatic 291, 3) := by decide +kernel
theorem dX8_tells_96 : decode cX8_tells 96 = .ok (.goto 4, 3) := by decide +kernel
theorem dX8_tells_99 : decode cX8_tells 99 = .ok (.iconst (-1), 1) := by decide +kernel
theorem dX8_tells_100 : decode cX8_tells 100 = .ok (.ireturn, 1) := by decide +kernel
theorem dX8_tells_101 : decode cX8_tells 101 = .ok (.iload_n 3, 1) := by decide +kernel
theorem dX8_tells_102 : decode cX8_tells 102 = .ok (.bipush 6, 2) := by decide +kernel
theorem dX8_tells_104 : decode cX8_tells 104 = .ok (.if_icmp .lt 14, 3) := by decide +kernel
theorem dX8_tells_107 : decode cX8_tells 107 = .ok (.iload_n 1, 1) := by decide +kernel
theorem dX8_tells_108 : decode cX8_tells 108 = .ok (.bipush 7, 2) := by decide +kernel
theorem dX8_tells_110 : decode cX8_tells 110 = .ok (.iload_n 3, 1) := by decide +kernel
theorem dX8_tells_111 : decode cX8_tells 111 = .ok (.iadd, 1) := by decide +kernel
theorem dX8_tells_112 : decode cX8_tells 112 = .ok (.iconst 4, 1) := by decide +kernel
theorem dX8_tells_113 : decode cX8_tells 113 = .ok (.isub, 1) := by decide +kernel
theorem dX8_tells_114 : decode cX8_tells 114 = .ok (.invokestatic 291, 3) := by decide +kernel
theorem dX8_tells_117 : decode cX8_tells 117 = .ok (.ireturn, 1) := by decide +kernel
theorem dX8_tells_118 : decode cX8_tells 118 = .ok (.iload_n 2, 1) := by decide +kernel
theorem dX8_tells_119 : decode cX8_tells 119 = .ok (.ifCond .ne 13, 3) := by decide +kernel
theorem dX8_tells_122 : decode cX8_tells 122 = .ok (.aload_n 0, 1) := by decide +kernel
theorem dX8_tells_123 : decode cX8_tells 123 = .ok (.getfield 44, 3) := by decide +kernel
theorem dX8_tells_126 : decode cX8_tells 126 = .ok (.iload 4, 2) := by decide +kernel
theorem dX8_tells_128 : decode cX8_tells 128 = .ok (.iaload, 1) := by decide +kernel
theorem dX8_tells_129 : decode cX8_tells 129 = .ok (.goto 5, 3) := by decide +kernel
theorem dX8_tells_132 : decode cX8_tells 132 = .ok (.iload 5, 2) := by decide +kernel
theorem dX8_tells_134 : decode cX8_tells 134 = .ok (.iload_n 3, 1) := by decide +kernel
theorem dX8_tells_135 : decode cX8_tells 135 = .ok (.if_icmp .ne 12, 3) := by decide +kernel
theorem dX8_tells_138 : decode cX8_tells 138 = .ok (.iload_n 1, 1) := by decide +kernel
theorem dX8_tells_139 : decode cX8_tells 139 = .ok (.bipush 7, 2) := by decide +kernel
theorem dX8_tells_141 : decode cX8_tells 141 = .ok (.invokestatic 291, 3) := by decide +kernel
theorem dX8_tells_144 : decode cX8_tells 144 = .ok (.goto 4, 3) := by decide +kernel
theorem dX8_tells_147 : decode cX8_tells 147 = .ok (.iconst (-1), 1) := by decide +kernel
theorem dX8_tells_148 : decode cX8_tells 148 = .ok (.ireturn, 1) := by decide +kernel
theorem dX8_tells_149 : decode cX8_tells 149 = .ok (.iconst (-1), 1) := by decide +kernel
theorem dX8_tells_150 : decode cX8_tells 150 = .ok (.ireturn, 1) := by decide +kernel
theorem dX8_way_0 : decode cX8_way 0 = .ok (.bipush 40, 2) := by decide +kernel
theorem dX8_way_2 : decode cX8_way 2 = .ok (.aload_n 0, 1) := by decide +kernel
theorem dX8_way_3 : decode cX8_way 3 = .ok (.getfield 187, 3) := by decide +kernel
theorem dX8_way_6 : decode cX8_way 6 = .ok (.imul, 1) := by decide +kernel
theorem dX8_way_7 : decode cX8_way 7 = .ok (.iload_n 1, 1) := by decide +kernel
theorem dX8_way_8 : decode cX8_way 8 = .ok (.iadd, 1) := by decide +kernel
theorem dX8_way_9 : decode cX8_way 9 = .ok (.istore_n 3, 1) := by decide +kernel
theorem dX8_way_10 : decode cX8_way 10 = .ok (.aload_n 0, 1) := by decide +kernel
theorem dX8_way_11 : decode cX8_way 11 = .ok (.iload_n 1, 1) := by decide +kernel
theorem dX8_way_12 : decode cX8_way 12 = .ok (.invokevirtual 271, 3) := by decide +kernel
theorem dX8_way_15 : decode cX8_way 15 = .ok (.tableswitch 151 0 4 #[33, 49, 95, 115, 135], 33) := by decide +kernel
theorem dX8_way_48 : decode cX8_way 48 = .ok (.iload_n 2, 1) := by decide +kernel
theorem dX8_way_49 : decode cX8_way 49 = .ok (.ifCond .ne 12, 3) := by decide +kernel
theorem dX8_way_52 : decode cX8_way 52 = .ok (.aload_n 0, 1) := by decide +kernel
theorem dX8_way_53 : decode cX8_way 53 = .ok (.getfield 83, 3) := by decide +kernel
theorem dX8_way_56 : decode cX8_way 56 = .ok (.iload_n 3, 1) := by decide +kernel
theorem dX8_way_57 : decode cX8_way 57 = .ok (.iaload, 1) := by decide +kernel
theorem dX8_way_58 : decode cX8_way 58 = .ok (.goto 5, 3) := by decide +kernel
theorem dX8_way_61 : decode cX8_way 61 = .ok (.bipush (-2), 2) := by decide +kernel
theorem dX8_way_63 : decode cX8_way 63 = .ok (.ireturn, 1) := by decide +kernel
theorem dX8_way_64 : decode cX8_way 64 = .ok (.iload_n 2, 1) := by decide +kernel
theorem dX8_way_65 : decode cX8_way 65 = .ok (.ifCond .ne 25, 3) := by decide +kernel
theorem dX8_way_68 : decode cX8_way 68 = .ok (.aload_n 0, 1) := by decide +kernel
theorem dX8_way_69 : decode cX8_way 69 = .ok (.iload_n 1, 1) := by decide +kernel
theorem dX8_way_70 : decode cX8_way 70 = .ok (.invokevirtual 274, 3) := by decide +kernel
theorem dX8_way_73 : decode cX8_way 73 = .ok (.ifCond .eq 12, 3) := by decide +kernel
theorem dX8_way_76 : decode cX8_way 76 = .ok (.aload_n 0, 1) := by decide +kernel
theorem dX8_way_77 : decode cX8_way 77 = .ok (.getfield 83, 3) := by decide +kernel
theorem dX8_way_80 : decode cX8_way 80 = .ok (.iload_n 3, 1) := by decide +kernel
theorem dX8_way_81 : decode cX8_way 81 = .ok (.iaload, 1) := by decide +kernel
theorem dX8_way_82 : decode cX8_way 82 = .ok (.goto 27, 3) := by decide +kernel
theorem dX8_way_85 : decode cX8_way 85 = .ok (.bipush (-2), 2) := by decide +kernel
theorem dX8_way_87 : decode cX8_way 87 = .ok (.goto 22, 3) := by decide +kernel
theorem dX8_way_90 : decode cX8_way 90 = .ok (.aload_n 0, 1) := by decide +kernel
theorem dX8_way_91 : decode cX8_way 91 = .ok (.iload_n 1, 1) := by decide +kernel
theorem dX8_way_92 : decode cX8_way 92 = .ok (.invokevirtual 277, 3) := by decide +kernel
theorem dX8_way_95 : decode cX8_way 95 = .ok (.ifCond .eq 12, 3) := by decide +kernel
theorem dX8_way_98 : decode cX8_way 98 = .ok (.aload_n 0, 1) := by decide +kernel
theorem dX8_way_99 : decode cX8_way 99 = .ok (.getfield 92, 3) := by decide +kernel
theorem dX8_way_102 : decode cX8_way 102 = .ok (.iload_n 3, 1) := by decide +kernel
theorem dX8_way_103 : decode cX8_way 103 = .ok (.iaload, 1) := by decide +kernel
theorem dX8_way_104 : decode cX8_way 104 = .ok (.goto 5, 3) := by decide +kernel
theorem dX8_way_107 : decode cX8_way 107 = .ok (.bipush (-2), 2) := by decide +kernel
theorem dX8_way_109 : decode cX8_way 109 = .ok (.ireturn, 1) := by decide +kernel
theorem dX8_way_110 : decode cX8_way 110 = .ok (.iload_n 2, 1) := by decide +kernel
theorem dX8_way_111 : decode cX8_way 111 = .ok (.ifCond .ne 12, 3) := by decide +kernel
theorem dX8_way_114 : decode cX8_way 114 = .ok (.aload_n 0, 1) := by decide +kernel
theorem dX8_way_115 : decode cX8_way 115 = .ok (.getfield 86, 3) := by decide +kernel
theorem dX8_way_118 : decode cX8_way 118 = .ok (.iload_n 3, 1) := by decide +kernel
theorem dX8_way_119 : decode cX8_way 119 = .ok (.iaload, 1) := by decide +kernel
theorem dX8_way_120 : decode cX8_way 120 = .ok (.goto 9, 3) := by decide +kernel
theorem dX8_way_123 : decode cX8_way 123 = .ok (.aload_n 0, 1) := by decide +kernel
theorem dX8_way_124 : decode cX8_way 124 = .ok (.getfield 89, 3) := by decide +kernel
theorem dX8_way_127 : decode cX8_way 127 = .ok (.iload_n 3, 1) := by decide +kernel
theorem dX8_way_128 : decode cX8_way 128 = .ok (.iaload, 1) := by decide +kernel
theorem dX8_way_129 : decode cX8_way 129 = .ok (.ireturn, 1) := by decide +kernel
theorem dX8_way_130 : decode cX8_way 130 = .ok (.iload_n 2, 1) := by decide +kernel
theorem dX8_way_131 : decode cX8_way 131 = .ok (.ifCond .ne 12, 3) := by decide +kernel
theorem dX8_way_134 : decode cX8_way 134 = .ok (.aload_n 0, 1) := by decide +kernel
theorem dX8_way_135 : decode cX8_way 135 = .ok (.getfield 86, 3) := by decide +kernel
theorem dX8_way_138 : decode cX8_way 138 = .ok (.iload_n 3, 1) := by decide +kernel
theorem dX8_way_139 : decode cX8_way 139 = .ok (.iaload, 1) := by decide +kernel
theorem dX8_way_140 : decode cX8_way 140 = .ok (.goto 9, 3) := by decide +kernel
theorem dX8_way_143 : decode cX8_way 143 = .ok (.aload_n 0, 1) := by decide +kernel
theorem dX8_way_144 : decode cX8_way 144 = .ok (.getfield 83, 3) := by decide +kernel
theorem dX8_way_147 : decode cX8_way 147 = .ok (.iload_n 3, 1) := by decide +kernel
theorem dX8_way_148 : decode cX8_way 148 = .ok (.iaload, 1) := by decide +kernel
theorem dX8_way_149 : decode cX8_way 149 = .ok (.ireturn, 1) := by decide +kernel
theorem dX8_way_150 : decode cX8_way 150 = .ok (.iload_n 2, 1) := by decide +kernel
theorem dX8_way_151 : decode cX8_way 151 = .ok (.ifCond .ne 8, 3) := by decide +kernel
theorem dX8_way_154 : decode cX8_way 154 = .ok (.bipush (-2), 2) := by decide +kernel
theorem dX8_way_156 : decode cX8_way 156 = .ok (.goto 9, 3) := by decide +kernel
theorem dX8_way_159 : decode cX8_way 159 = .ok (.aload_n 0, 1) := by decide +kernel
theorem dX8_way_160 : decode cX8_way 160 = .ok (.getfield 92, 3) := by decide +kernel
theorem dX8_way_163 : decode cX8_way 163 = .ok (.iload_n 3, 1) := by decide +kernel
theorem dX8_way_164 : decode cX8_way 164 = .ok (.iaload, 1) := by decide +kernel
theorem dX8_way_165 : decode cX8_way 165 = .ok (.ireturn, 1) := by decide +kernel
theorem dX8_way_166 : decode cX8_way 166 = .ok (.iload_n 2, 1) := by decide +kernel
theorem dX8_way_167 : decode cX8_way 167 = .ok (.ifCond .ne 7, 3) := by decide +kernel
theorem dX8_way_170 : decode cX8_way 170 = .ok (.iconst (-1), 1) := by decide +kernel
theorem dX8_way_171 : decode cX8_way 171 = .ok (.goto 5, 3) := by decide +kernel
theorem dX8_way_174 : decode cX8_way 174 = .ok (.bipush (-2), 2) := by decide +kernel
theorem dX8_way_176 : decode cX8_way 176 = .ok (.ireturn, 1) := by decide +kernel
theorem dX8_wayOf_0 : decode cX8_wayOf 0 = .ok (.bipush 40, 2) := by decide +kernel
theorem dX8_wayOf_2 : decode cX8_wayOf 2 = .ok (.aload_n 0, 1) := by decide +kernel
theorem dX8_wayOf_3 : decode cX8_wayOf 3 = .ok (.getfield 187, 3) := by decide +kernel
theorem dX8_wayOf_6 : decode cX8_wayOf 6 = .ok (.imul, 1) := by decide +kernel
theorem dX8_wayOf_7 : decode cX8_wayOf 7 = .ok (.iload_n 1, 1) := by decide +kernel
theorem dX8_wayOf_8 : decode cX8_wayOf 8 = .ok (.iadd, 1) := by decide +kernel
theorem dX8_wayOf_9 : decode cX8_wayOf 9 = .ok (.istore_n 3, 1) := by decide +kernel
theorem dX8_wayOf_10 : decode cX8_wayOf 10 = .ok (.aload_n 0, 1) := by decide +kernel
theorem dX8_wayOf_11 : decode cX8_wayOf 11 = .ok (.iload_n 1, 1) := by decide +kernel
theorem dX8_wayOf_12 : decode cX8_wayOf 12 = .ok (.invokevirtual 271, 3) := by decide +kernel
theorem dX8_wayOf_15 : decode cX8_wayOf 15 = .ok (.tableswitch 108 1 5 #[75, 33, 33, 55, 40], 33) := by decide +kernel
theorem dX8_wayOf_48 : decode cX8_wayOf 48 = .ok (.aload_n 0, 1) := by decide +kernel
theorem dX8_wayOf_49 : decode cX8_wayOf 49 = .ok (.iload_n 1, 1) := by decide +kernel
theorem dX8_wayOf_50 : decode cX8_wayOf 50 = .ok (.iload_n 2, 1) := by decide +kernel
theorem dX8_wayOf_51 : decode cX8_wayOf 51 = .ok (.invokevirtual 284, 3) := by decide +kernel
theorem dX8_wayOf_54 : decode cX8_wayOf 54 = .ok (.ireturn, 1) := by decide +kernel
theorem dX8_wayOf_55 : decode cX8_wayOf 55 = .ok (.iload_n 2, 1) := by decide +kernel
theorem dX8_wayOf_56 : decode cX8_wayOf 56 = .ok (.ifCond .ne 7, 3) := by decide +kernel
theorem dX8_wayOf_59 : decode cX8_wayOf 59 = .ok (.iconst (-1), 1) := by decide +kernel
theorem dX8_wayOf_60 : decode cX8_wayOf 60 = .ok (.goto 9, 3) := by decide +kernel
theorem dX8_wayOf_63 : decode cX8_wayOf 63 = .ok (.aload_n 0, 1) := by decide +kernel
theorem dX8_wayOf_64 : decode cX8_wayOf 64 = .ok (.getfield 83, 3) := by decide +kernel
theorem dX8_wayOf_67 : decode cX8_wayOf 67 = .ok (.iload_n 3, 1) := by decide +kernel
theorem dX8_wayOf_68 : decode cX8_wayOf 68 = .ok (.iaload, 1) := by decide +kernel
theorem dX8_wayOf_69 : decode cX8_wayOf 69 = .ok (.ireturn, 1) := by decide +kernel
theorem dX8_wayOf_70 : decode cX8_wayOf 70 = .ok (.iload_n 2, 1) := by decide +kernel
theorem dX8_wayOf_71 : decode cX8_wayOf 71 = .ok (.ifCond .ne 12, 3) := by decide +kernel
theorem dX8_wayOf_74 : decode cX8_wayOf 74 = .ok (.aload_n 0, 1) := by decide +kernel
theorem dX8_wayOf_75 : decode cX8_wayOf 75 = .ok (.getfield 92, 3) := by decide +kernel
theorem dX8_wayOf_78 : decode cX8_wayOf 78 = .ok (.iload_n 3, 1) := by decide +kernel
theorem dX8_wayOf_79 : decode cX8_wayOf 79 = .ok (.iaload, 1) := by decide +kernel
theorem dX8_wayOf_80 : decode cX8_wayOf 80 = .ok (.goto 9, 3) := by decide +kernel
theorem dX8_wayOf_83 : decode cX8_wayOf 83 = .ok (.aload_n 0, 1) := by decide +kernel
theorem dX8_wayOf_84 : decode cX8_wayOf 84 = .ok (.getfield 83, 3) := by decide +kernel
theorem dX8_wayOf_87 : decode cX8_wayOf 87 = .ok (.iload_n 3, 1) := by decide +kernel
theorem dX8_wayOf_88 : decode cX8_wayOf 88 = .ok (.iaload, 1) := by decide +kernel
theorem dX8_wayOf_89 : decode cX8_wayOf 89 = .ok (.ireturn, 1) := by decide +kernel
theorem dX8_wayOf_90 : decode cX8_wayOf 90 = .ok (.iload_n 2, 1) := by decide +kernel
theorem dX8_wayOf_91 : decode cX8_wayOf 91 = .ok (.ifCond .ne 12, 3) := by decide +kernel
theorem dX8_wayOf_94 : decode cX8_wayOf 94 = .ok (.aload_n 0, 1) := by decide +kernel
theorem dX8_wayOf_95 : decode cX8_wayOf 95 = .ok (.getfield 83, 3) := by decide +kernel
theorem dX8_wayOf_98 : decode cX8_wayOf 98 = .ok (.iload_n 3, 1) := by decide +kernel
theorem dX8_wayOf_99 : decode cX8_wayOf 99 = .ok (.iaload, 1) := by decide +kernel
theorem dX8_wayOf_100 : decode cX8_wayOf 100 = .ok (.goto 22, 3) := by decide +kernel
theorem dX8_wayOf_103 : decode cX8_wayOf 103 = .ok (.aload_n 0, 1) := by decide +kernel
theorem dX8_wayOf_104 : decode cX8_wayOf 104 = .ok (.iload_n 1, 1) := by decide +kernel
theorem dX8_wayOf_105 : decode cX8_wayOf 105 = .ok (.invokevirtual 277, 3) := by decide +kernel
theorem dX8_wayOf_108 : decode cX8_wayOf 108 = .ok (.ifCond .eq 12, 3) := by decide +kernel
theorem dX8_wayOf_111 : decode cX8_wayOf 111 = .ok (.aload_n 0, 1) := by decide +kernel
theorem dX8_wayOf_112 : decode cX8_wayOf 112 = .ok (.getfield 92, 3) := by decide +kernel
theorem dX8_wayOf_115 : decode cX8_wayOf 115 = .ok (.iload_n 3, 1) := by decide +kernel
theorem dX8_wayOf_116 : decode cX8_wayOf 116 = .ok (.iaload, 1) := by decide +kernel
theorem dX8_wayOf_117 : decode cX8_wayOf 117 = .ok (.goto 5, 3) := by decide +kernel
theorem dX8_wayOf_120 : decode cX8_wayOf 120 = .ok (.bipush (-2), 2) := by decide +kernel
theorem dX8_wayOf_122 : decode cX8_wayOf 122 = .ok (.ireturn, 1) := by decide +kernel
theorem dX8_wayOf_123 : decode cX8_wayOf 123 = .ok (.iload_n 2, 1) := by decide +kernel
theorem dX8_wayOf_124 : decode cX8_wayOf 124 = .ok (.ifCond .ne 12, 3) := by decide +kernel
theorem dX8_wayOf_127 : decode cX8_wayOf 127 = .ok (.aload_n 0, 1) := by decide +kernel
theorem dX8_wayOf_128 : decode cX8_wayOf 128 = .ok (.getfield 83, 3) := by decide +kernel
theorem dX8_wayOf_131 : decode cX8_wayOf 131 = .ok (.iload_n 3, 1) := by decide +kernel
theorem dX8_wayOf_132 : decode cX8_wayOf 132 = .ok (.iaload, 1) := by decide +kernel
theorem dX8_wayOf_133 : decode cX8_wayOf 133 = .ok (.goto 5, 3) := by decide +kernel
theorem dX8_wayOf_136 : decode cX8_wayOf 136 = .ok (.bipush (-2), 2) := by decide +kernel
theorem dX8_wayOf_138 : decode cX8_wayOf 138 = .ok (.ireturn, 1) := by decide +kernel
set_option maxHeartbeats 4000000 in
set_option maxRecDepth 100000 in
theorem s_X8_may (l : Launch) (d : Nat) {P : PP} {h : HP} (hv : Iv P h) (c2 : Nat) (hc2 : c2 = 101 ∨ c2 = 102) : Mt l yX8_may cX8_may 4 (some .int) (d + 1) [.ref 70, .ref c2] h 0 0 (fun r h' => ∃ v : Int32, r = some (.int v) ∧ -2147483648 ≤ v.toInt ∧ v.toInt ≤ 2147483647 ∧ h = h') := by
  refine Mt_iv hv (by decide) (Nat.le_of_ble_eq_true rfl) ?_
  show Go l RX8 cX8_may 4 (g_rm (d + 1) 0 0) "may" (some .int) 117 0 0 (fun _ _ => True) (fun r h' => ∃ v : Int32, r = some (.int v) ∧ -2147483648 ≤ v.toInt ∧ v.toInt ≤ 2147483647 ∧ h = h') 0 0 [(0, .ref 70), (1, .ref c2)] [] h
  have key : ∀ n : Nat, (∀ (l1 : Nat) (l2 : Int32) (l3 : Int32), (l1 = 101 ∨ l1 = 102) → 0 ≤ l3.toInt → l3.toInt ≤ 5 → (4 * (5 - l3.toInt) + 3 : Int) < n → Go l RX8 cX8_may 4 (g_rm (d + 1) 0 0) "may" (some .int) 117 0 0 (fun _ _ => True) (fun r h' => ∃ v : Int32, r = some (.int v) ∧ -2147483648 ≤ v.toInt ∧ v.toInt ≤ 2147483647 ∧ h = h') 0 4 [(0, .ref 70), (1, .ref l1), (2, .int l2), (3, .int l3)] [] h) ∧ (∀ (l1 : Nat) (l3 : Int32) (s0 : Int32) (s1 : Int32), (l1 = 101 ∨ l1 = 102) → 0 ≤ l3.toInt → l3.toInt ≤ 4 → (4 * (5 - l3.toInt) + 2 : Int) < n → Go l RX8 cX8_may 4 (g_rm (d + 1) 0 0) "may" (some .int) 117 0 0 (fun _ _ => True) (fun r h' => ∃ v : Int32, r = some (.int v) ∧ -2147483648 ≤ v.toInt ∧ v.toInt ≤ 2147483647 ∧ h = h') 0 38 [(0, .ref 70), (1, .ref l1), (3, .int l3)] [.int s0, .int s1] h) := by
    intro n
    induction n with
    | zero => exact ⟨(by intros; omega), (by intros; omega)⟩
    | succ n ih =>
      refine ⟨?_, ?_⟩
      ·
        intro l1 l2 l3 hl1 l3l l3u hm
        refine go_iload_n (pc := 4) rfl dX8_may_4 ?_
        refine go_aload_n (pc := 5) rfl dX8_may_5 ?_
        refine gi_getF (pc := 6) (q := 76) hv fL_X8_26 rfl (Nat.le_of_ble_eq_true rfl) rfl (hv.rf (by decide)) dX8_may_6 ?_
        refine go_aload_n (pc := 9) rfl dX8_may_9 ?_
        refine gi_get (pc := 10) (lo := 0) (hi := 1) hv fL_X8_228 rfl (Nat.le_of_ble_eq_true rfl) rfl rfl dX8_may_10 (fun v1 v1l v1u v1w => ?_)
        refine gi_iald (pc := 13) (lo := 0) (hi := 5) (len := 2) hv (ti_rfl v1) rfl (by omega) (by omega) (fun _ => rfl) dX8_may_13 (fun v2 v2l v2u v2w => ?_)
        refine gf_icmp_ge (pc := 14) (tgt := 46) (ti_rfl l3) (ti_rfl v2) (by decide) dX8_may_14 (fun q3 => ?_) (fun q3 => ?_)
        ·
          refine go_iload_n (pc := 46) rfl dX8_may_46 ?_
          exact gi_iret (pc := 47) (ti_rfl l2) ⟨_, rfl, (ti_lo _), (ti_hi _), rfl⟩ hv dX8_may_47
        ·
          refine go_iload_n (pc := 17) rfl dX8_may_17 ?_
          refine go_aload_n (pc := 18) rfl dX8_may_18 ?_
          refine go_iconst (pc := 19) (v := 5) (by decide) dX8_may_19 ?_
          refine go_aload_n (pc := 20) rfl dX8_may_20 ?_
          refine gi_get (pc := 21) (lo := 0) (hi := 1) hv fL_X8_228 rfl (Nat.le_of_ble_eq_true rfl) rfl rfl dX8_may_21 (fun v4 v4l v4u v4w => ?_)
          have v4r : v1 = h.2.1 70 29 := v1w
          have v4q : TI v4 v1.toInt := by rw [v4w.trans v4r.symm]; exact (ti_rfl v1)
          refine gf_imul (pc := 24) (ti_c (v := 5) (a := 5) (by decide)) v4q (by omega) (by omega) dX8_may_24 (fun v5 e6 => ?_)
          refine go_iload_n (pc := 25) rfl dX8_may_25 ?_
          refine gf_iadd (pc := 26) e6 (ti_rfl l3) (by omega) (by omega) dX8_may_26 (fun v7 e8 => ?_)
          refine gi_zald (pc := 27) (lo := 0) (hi := 1) (len := 10) hv e8 (by rcases hl1 with rfl | rfl <;> rfl) (by omega) (by omega) (fun _ => by rcases hl1 with rfl | rfl <;> rfl) dX8_may_27 (fun v9 v9l v9u v9w => ?_)
          refine gf_if_eq (pc := 28) (tgt := 37) (ti_rfl v9) (by decide) dX8_may_28 (fun q10 => ?_) (fun q10 => ?_)
          ·
            refine go_iconst (pc := 37) (v := 0) (by decide) dX8_may_37 ?_
            have z11 : (0 : Int32).toInt = 0 := (ti_c (v := 0) (a := 0) (by decide))
            exact go_lv rfl (ih.2 l1 l3 0 l2  hl1 (by omega) (by omega) (by omega))
          ·
            refine go_iconst (pc := 31) (v := 1) (by decide) dX8_may_31 ?_
            refine go_iload_n (pc := 32) rfl dX8_may_32 ?_
            refine gu_ishl (pc := 33) dX8_may_33 (fun v12 => ?_)
            refine go_goto (pc := 34) (tgt := 38) (by decide) dX8_may_34 ?_
            exact go_lv rfl (ih.2 l1 l3 v12 l2  hl1 (by omega) (by omega) (by omega))
      ·
        intro l1 l3 s0 s1 hl1 l3l l3u hm
        refine gu_ior (pc := 38) dX8_may_38 (fun v13 => ?_)
        refine go_istore_n (pc := 39) (Nat.le_of_ble_eq_true rfl) dX8_may_39 (go_lv (lv2 := [(0, .ref 70), (1, .ref l1), (2, .int v13), (3, .int l3)]) rfl ?_)
        refine gf_iinc (pc := 40) (Nat.le_of_ble_eq_true rfl) rfl (ti_rfl l3) (ti_c (by decide)) (by omega) (by omega) dX8_may_40 (fun v14 e15 => ?_)
        refine go_lv (lv2 := [(0, .ref 70), (1, .ref l1), (2, .int v13), (3, .int v14)]) rfl ?_
        refine go_goto (pc := 43) (tgt := 4) (by decide) dX8_may_43 ?_
        have z16 : (v14 : Int32).toInt = (l3.toInt + 1) := e15
        exact go_lv rfl (ih.1 l1 v13 v14  hl1 (by omega) (by omega) (by omega))
  refine go_iconst (pc := 0) (v := 0) (by decide) dX8_may_0 ?_
  refine go_istore_n (pc := 1) (Nat.le_of_ble_eq_true rfl) dX8_may_1 (go_lv (lv2 := [(0, .ref 70), (1, .ref c2), (2, .int 0)]) rfl ?_)
  refine go_iconst (pc := 2) (v := 0) (by decide) dX8_may_2 ?_
  refine go_istore_n (pc := 3) (Nat.le_of_ble_eq_true rfl) dX8_may_3 (go_lv (lv2 := [(0, .ref 70), (1, .ref c2), (2, .int 0), (3, .int 0)]) rfl ?_)
  have z17 : (0 : Int32).toInt = 0 := (ti_c (v := 0) (a := 0) (by decide))
  have z18 : (0 : Int32).toInt = 0 := (ti_c (v := 0) (a := 0) (by decide))
  exact go_lv rfl ((key 41).1 c2 0 0  hc2 (by omega) (by omega) (by omega))
