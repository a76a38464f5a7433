theorem dX8_count_0 : decode cX8_count 0 = .ok (.aload_n 0, 1) := by decide +kernel
theorem dX8_count_1 : decode cX8_count 1 = .ok (.aload_n 0, 1) := by decide +kernel
theorem dX8_count_2 : decode cX8_count 2 = .ok (.getfield 228, 3) := by decide +kernel
theorem dX8_count_5 : decode cX8_count 5 = .ok (.putfield 187, 3) := by decide +kernel
theorem dX8_count_8 : decode cX8_count 8 = .ok (.iload_n 1, 1) := by decide +kernel
theorem dX8_count_9 : decode cX8_count 9 = .ok (.tableswitch 142 0 5 #[39, 60, 81, 97, 117, 137], 39) := by decide +kernel
theorem dX8_count_48 : decode cX8_count 48 = .ok (.aload_n 0, 1) := by decide +kernel
theorem dX8_count_49 : decode cX8_count 49 = .ok (.getfield 243, 3) := by decide +kernel
theorem dX8_count_52 : decode cX8_count 52 = .ok (.ifCond .eq 15, 3) := by decide +kernel
theorem dX8_count_55 : decode cX8_count 55 = .ok (.aload_n 0, 1) := by decide +kernel
theorem dX8_count_56 : decode cX8_count 56 = .ok (.getfield 23, 3) := by decide +kernel
theorem dX8_count_59 : decode cX8_count 59 = .ok (.aload_n 0, 1) := by decide +kernel
theorem dX8_count_60 : decode cX8_count 60 = .ok (.getfield 228, 3) := by decide +kernel
theorem dX8_count_63 : decode cX8_count 63 = .ok (.iaload, 1) := by decide +kernel
theorem dX8_count_64 : decode cX8_count 64 = .ok (.goto 4, 3) := by decide +kernel
theorem dX8_count_67 : decode cX8_count 67 = .ok (.iconst 0, 1) := by decide +kernel
theorem dX8_count_68 : decode cX8_count 68 = .ok (.ireturn, 1) := by decide +kernel
theorem dX8_count_69 : decode cX8_count 69 = .ok (.aload_n 0, 1) := by decide +kernel
theorem dX8_count_70 : decode cX8_count 70 = .ok (.getfield 243, 3) := by decide +kernel
theorem dX8_count_73 : decode cX8_count 73 = .ok (.ifCond .eq 15, 3) := by decide +kernel
theorem dX8_count_76 : decode cX8_count 76 = .ok (.aload_n 0, 1) := by decide +kernel
theorem dX8_count_77 : decode cX8_count 77 = .ok (.getfield 26, 3) := by decide +kernel
theorem dX8_count_80 : decode cX8_count 80 = .ok (.aload_n 0, 1) := by decide +kernel
theorem dX8_count_81 : decode cX8_count 81 = .ok (.getfield 228, 3) := by decide +kernel
theorem dX8_count_84 : decode cX8_count 84 = .ok (.iaload, 1) := by decide +kernel
theorem dX8_count_85 : decode cX8_count 85 = .ok (.goto 4, 3) := by decide +kernel
theorem dX8_count_88 : decode cX8_count 88 = .ok (.iconst 0, 1) := by decide +kernel
theorem dX8_count_89 : decode cX8_count 89 = .ok (.ireturn, 1) := by decide +kernel
theorem dX8_count_90 : decode cX8_count 90 = .ok (.aload_n 0, 1) := by decide +kernel
theorem dX8_count_91 : decode cX8_count 91 = .ok (.getfield 243, 3) := by decide +kernel
theorem dX8_count_94 : decode cX8_count 94 = .ok (.ifCond .eq 10, 3) := by decide +kernel
theorem dX8_count_97 : decode cX8_count 97 = .ok (.aload_n 0, 1) := by decide +kernel
theorem dX8_count_98 : decode cX8_count 98 = .ok (.invokevirtual 382, 3) := by decide +kernel
theorem dX8_count_101 : decode cX8_count 101 = .ok (.goto 4, 3) := by decide +kernel
theorem dX8_count_104 : decode cX8_count 104 = .ok (.iconst 0, 1) := by decide +kernel
theorem dX8_count_105 : decode cX8_count 105 = .ok (.ireturn, 1) := by decide +kernel
theorem dX8_count_106 : decode cX8_count 106 = .ok (.aload_n 0, 1) := by decide +kernel
theorem dX8_count_107 : decode cX8_count 107 = .ok (.getfield 243, 3) := by decide +kernel
theorem dX8_count_110 : decode cX8_count 110 = .ok (.ifCond .eq 14, 3) := by decide +kernel
theorem dX8_count_113 : decode cX8_count 113 = .ok (.aload_n 0, 1) := by decide +kernel
theorem dX8_count_114 : decode cX8_count 114 = .ok (.aload_n 0, 1) := by decide +kernel
theorem dX8_count_115 : decode cX8_count 115 = .ok (.getfield 105, 3) := by decide +kernel
theorem dX8_count_118 : decode cX8_count 118 = .ok (.invokevirtual 385, 3) := by decide +kernel
theorem dX8_count_121 : decode cX8_count 121 = .ok (.goto 4, 3) := by decide +kernel
theorem dX8_count_124 : decode cX8_count 124 = .ok (.iconst 0, 1) := by decide +kernel
theorem dX8_count_125 : decode cX8_count 125 = .ok (.ireturn, 1) := by decide +kernel
theorem dX8_count_126 : decode cX8_count 126 = .ok (.aload_n 0, 1) := by decide +kernel
theorem dX8_count_127 : decode cX8_count 127 = .ok (.getfield 243, 3) := by decide +kernel
theorem dX8_count_130 : decode cX8_count 130 = .ok (.ifCond .eq 14, 3) := by decide +kernel
theorem dX8_count_133 : decode cX8_count 133 = .ok (.aload_n 0, 1) := by decide +kernel
theorem dX8_count_134 : decode cX8_count 134 = .ok (.aload_n 0, 1) := by decide +kernel
theorem dX8_count_135 : decode cX8_count 135 = .ok (.getfield 101, 3) := by decide +kernel
theorem dX8_count_138 : decode cX8_count 138 = .ok (.invokevirtual 385, 3) := by decide +kernel
theorem dX8_count_141 : decode cX8_count 141 = .ok (.goto 4, 3) := by decide +kernel
theorem dX8_count_144 : decode cX8_count 144 = .ok (.iconst 0, 1) := by decide +kernel
theorem dX8_count_145 : decode cX8_count 145 = .ok (.ireturn, 1) := by decide +kernel
theorem dX8_count_146 : decode cX8_count 146 = .ok (.aload_n 0, 1) := by decide +kernel
theorem dX8_count_147 : decode cX8_count 147 = .ok (.getfield 151, 3) := by decide +kernel
theorem dX8_count_150 : decode cX8_count 150 = .ok (.ireturn, 1) := by decide +kernel
theorem dX8_count_151 : decode cX8_count 151 = .ok (.iconst (-1), 1) := by decide +kernel
theorem dX8_count_152 : decode cX8_count 152 = .ok (.ireturn, 1) := by decide +kernel
theorem dX8_decides_0 : decode cX8_decides 0 = .ok (.aload_n 0, 1) := by decide +kernel
theorem dX8_decides_1 : decode cX8_decides 1 = .ok (.iload_n 1, 1) := by decide +kernel
theorem dX8_decides_2 : decode cX8_decides 2 = .ok (.invokevirtual 271, 3) := by decide +kernel
theorem dX8_decides_5 : decode cX8_decides 5 = .ok (.istore_n 2, 1) := by decide +kernel
theorem dX8_decides_6 : decode cX8_decides 6 = .ok (.iload_n 2, 1) := by decide +kernel
theorem dX8_decides_7 : decode cX8_decides 7 = .ok (.iconst 2, 1) := by decide +kernel
theorem dX8_decides_8 : decode cX8_decides 8 = .ok (.if_icmp .eq 26, 3) := by decide +kernel
theorem dX8_decides_11 : decode cX8_decides 11 = .ok (.iload_n 2, 1) := by decide +kernel
theorem dX8_decides_12 : decode cX8_decides 12 = .ok (.iconst 3, 1) := by decide +kernel
theorem dX8_decides_13 : decode cX8_decides 13 = .ok (.if_icmp .eq 21, 3) := by decide +kernel
theorem dX8_decides_16 : decode cX8_decides 16 = .ok (.iload_n 2, 1) := by decide +kernel
theorem dX8_decides_17 : decode cX8_decides 17 = .ok (.iconst 5, 1) := by decide +kernel
theorem dX8_decides_18 : decode cX8_decides 18 = .ok (.if_icmp .eq 16, 3) := by decide +kernel
theorem dX8_decides_21 : decode cX8_decides 21 = .ok (.iload_n 2, 1) := by decide +kernel
theorem dX8_decides_22 : decode cX8_decides 22 = .ok (.iconst 4, 1) := by decide +kernel
theorem dX8_decides_23 : decode cX8_decides 23 = .ok (.if_icmp .eq 11, 3) := by decide +kernel
theorem dX8_decides_26 : decode cX8_decides 26 = .ok (.aload_n 0, 1) := by decide +kernel
theorem dX8_decides_27 : decode cX8_decides 27 = .ok (.iload_n 1, 1) := by decide +kernel
theorem dX8_decides_28 : decode cX8_decides 28 = .ok (.invokevirtual 277, 3) := by decide +kernel
theorem dX8_decides_31 : decode cX8_decides 31 = .ok (.ifCond .eq 7, 3) := by decide +kernel
theorem dX8_decides_34 : decode cX8_decides 34 = .ok (.iconst 1, 1) := by decide +kernel
theorem dX8_decides_35 : decode cX8_decides 35 = .ok (.goto 4, 3) := by decide +kernel
theorem dX8_decides_38 : decode cX8_decides 38 = .ok (.iconst 0, 1) := by decide +kernel
theorem dX8_decides_39 : decode cX8_decides 39 = .ok (.ireturn, 1) := by decide +kernel
theorem dX8_ends_0 : decode cX8_ends 0 = .ok (.aload_n 0, 1) := by decide +kernel
theorem dX8_ends_1 : decode cX8_ends 1 = .ok (.iload_n 1, 1) := by decide +kernel
theorem dX8_ends_2 : decode cX8_ends 2 = .ok (.invokevirtual 306, 3) := by decide +kernel
theorem dX8_ends_5 : decode cX8_ends 5 = .ok (.istore_n 2, 1) := by decide +kernel
theorem dX8_ends_6 : decode cX8_ends 6 = .ok (.aload_n 0, 1) := by decide +kernel
theorem dX8_ends_7 : decode cX8_ends 7 = .ok (.getfield 92, 3) := by decide +kernel
theorem dX8_ends_10 : decode cX8_ends 10 = .ok (.bipush 40, 2) := by decide +kernel
theorem dX8_ends_12 : decode cX8_ends 12 = .ok (.aload_n 0, 1) := by decide +kernel
theorem dX8_ends_13 : decode cX8_ends 13 = .ok (.getfield 187, 3) := by decide +kernel
theorem dX8_ends_16 : decode cX8_ends 16 = .ok (.imul, 1) := by decide +kernel
theorem dX8_ends_17 : decode cX8_ends 17 = .ok (.iload_n 1, 1) := by decide +kernel
theorem dX8_ends_18 : decode cX8_ends 18 = .ok (.iadd, 1) := by decide +kernel
theorem dX8_ends_19 : decode cX8_ends 19 = .ok (.iaload, 1) := by decide +kernel
theorem dX8_ends_20 : decode cX8_ends 20 = .ok (.iconst (-1), 1) := by decide +kernel
theorem dX8_ends_21 : decode cX8_ends 21 = .ok (.if_icmp .ne 25, 3) := by decide +kernel
theorem dX8_ends_24 : decode cX8_ends 24 = .ok (.aload_n 0, 1) := by decide +kernel
theorem dX8_ends_25 : decode cX8_ends 25 = .ok (.getfield 95, 3) := by decide +kernel
theorem dX8_ends_28 : decode cX8_ends 28 = .ok (.bipush 40, 2) := by decide +kernel
theorem dX8_ends_30 : decode cX8_ends 30 = .ok (.aload_n 0, 1) := by decide +kernel
theorem dX8_ends_31 : decode cX8_ends 31 = .ok (.getfield 187, 3) := by decide +kernel
theorem dX8_ends_34 : decode cX8_ends 34 = .ok (.imul, 1) := by decide +kernel
theorem dX8_ends_35 : decode cX8_ends 35 = .ok (.iload_n 1, 1) := by decide +kernel
theorem dX8_ends_36 : decode cX8_ends 36 = .ok (.iadd, 1) := by decide +kernel
theorem dX8_ends_37 : decode cX8_ends 37 = .ok (.iaload, 1) := by decide +kernel
theorem dX8_ends_38 : decode cX8_ends 38 = .ok (.iconst (-1), 1) := by decide +kernel
theorem dX8_ends_39 : decode cX8_ends 39 = .ok (.if_icmp .ne 7, 3) := by decide +kernel
theorem dX8_ends_42 : decode cX8_ends 42 = .ok (.iconst 1, 1) := by decide +kernel
theorem dX8_ends_43 : decode cX8_ends 43 = .ok (.goto 4, 3) := by decide +kernel
theorem dX8_ends_46 : decode cX8_ends 46 = .ok (.iconst 0, 1) := by decide +kernel
theorem dX8_ends_47 : decode cX8_ends 47 = .ok (.istore_n 3, 1) := by decide +kernel
theorem dX8_ends_48 : decode cX8_ends 48 = .ok (.aload_n 0, 1) := by decide +kernel
theorem dX8_ends_49 : decode cX8_ends 49 = .ok (.iload_n 1, 1) := by decide +kernel
theorem dX8_ends_50 : decode cX8_ends 50 = .ok (.invokevirtual 271, 3) := by decide +kernel
theorem dX8_ends_53 : decode cX8_ends 53 = .ok (.iconst 5, 1) := by decide +kernel
theorem dX8_ends_54 : decode cX8_ends 54 = .ok (.if_icmp .eq 16, 3) := by decide +kernel
theorem dX8_ends_57 : decode cX8_ends 57 = .ok (.aload_n 0, 1) := by decide +kernel
theorem dX8_ends_58 : decode cX8_ends 58 = .ok (.iload_n 1, 1) := by decide +kernel
theorem dX8_ends_59 : decode cX8_ends 59 = .ok (.invokevirtual 271, 3) := by decide +kernel
theorem dX8_ends_62 : decode cX8_ends 62 = .ok (.iconst 4, 1) := by decide +kernel
theorem dX8_ends_63 : decode cX8_ends 63 = .ok (.if_icmp .ne 11, 3) := by decide +kernel
theorem dX8_ends_66 : decode cX8_ends 66 = .ok (.iload_n 3, 1) := by decide +kernel
theorem dX8_ends_67 : decode cX8_ends 67 = .ok (.ifCond .eq 7, 3) := by decide +kernel
theorem dX8_ends_70 : decode cX8_ends 70 = .ok (.iconst 1, 1) := by decide +kernel
theorem dX8_ends_71 : decode cX8_ends 71 = .ok (.goto 4, 3) := by decide +kernel
theorem dX8_ends_74 : decode cX8_ends 74 = .ok (.iconst 0, 1) := by decide +kernel
theorem dX8_ends_75 : decode cX8_ends 75 = .ok (.istore 4, 2) := by decide +kernel
theorem dX8_ends_77 : decode cX8_ends 77 = .ok (.aload_n 0, 1) := by decide +kernel
theorem dX8_ends_78 : decode cX8_ends 78 = .ok (.iload_n 1, 1) := by decide +kernel
theorem dX8_ends_79 : decode cX8_ends 79 = .ok (.invokevirtual 277, 3) := by decide +kernel
theorem dX8_ends_82 : decode cX8_ends 82 = .ok (.ifCond .eq 11, 3) := by decide +kernel
theorem dX8_ends_85 : decode cX8_ends 85 = .ok (.iload_n 3, 1) := by decide +kernel
theorem dX8_ends_86 : decode cX8_ends 86 = .ok (.ifCond .eq 7, 3) := by decide +kernel
theorem dX8_ends_89 : decode cX8_ends 89 = .ok (.iconst 1, 1) := by decide +kernel
theorem dX8_ends_90 : decode cX8_ends 90 = .ok (.goto 4, 3) := by decide +kernel
theorem dX8_ends_93 : decode cX8_ends 93 = .ok (.iconst 0, 1) := by decide +kernel
theorem dX8_ends_94 : decode cX8_ends 94 = .ok (.istore 5, 2) := by decide +kernel
theorem dX8_ends_96 : decode cX8_ends 96 = .ok (.iload 4, 2) := by decide +kernel
theorem dX8_ends_98 : decode cX8_ends 98 = .ok (.ifCond .eq 18, 3) := by decide +kernel
theorem dX8_ends_101 : decode cX8_ends 101 = .ok (.aload_n 0, 1) := by decide +kernel
theorem dX8_ends_102 : decode cX8_ends 102 = .ok (.iload_n 2, 1) := by decide +kernel
theorem dX8_ends_103 : decode cX8_ends 103 = .ok (.bipush 7, 2) := by decide +kernel
theorem dX8_ends_105 : decode cX8_ends 105 = .ok (.invokestatic 300, 3) := by decide +kernel
theorem dX8_ends_108 : decode cX8_ends 108 = .ok (.iload_n 1, 1) := by decide +kernel
theorem dX8_ends_109 : decode cX8_ends 109 = .ok (.iconst 0, 1) := by decide +kernel
theorem dX8_ends_110 : decode cX8_ends 110 = .ok (.invokestatic 291, 3) := by decide +kernel
theorem dX8_ends_113 : decode cX8_ends 113 = .ok (.invokevirtual 303, 3) := by decide +kernel
theorem dX8_ends_116 : decode cX8_ends 116 = .ok (.iload 5, 2) := by decide +kernel
theorem dX8_ends_118 : decode cX8_ends 118 = .ok (.ifCond .eq 19, 3) := by decide +kernel
theorem dX8_ends_121 : decode cX8_ends 121 = .ok (.aload_n 0, 1) := by decide +kernel
theorem dX8_ends_122 : decode cX8_ends 122 = .ok (.iload_n 2, 1) := by decide +kernel
theorem dX8_ends_123 : decode cX8_ends 123 = .ok (.bipush 7, 2) := by decide +kernel
theorem dX8_ends_125 : decode cX8_ends 125 = .ok (.invokestatic 300, 3) := by decide +kernel
theorem dX8_ends_128 : decode cX8_ends 128 = .ok (.iload_n 1, 1) := by decide +kernel
theorem dX8_ends_129 : decode cX8_ends 129 = .ok (.bipush 7, 2) := by decide +kernel
theorem dX8_ends_131 : decode cX8_ends 131 = .ok (.invokestatic 291, 3) := by decide +kernel
theorem dX8_ends_134 : decode cX8_ends 134 = .ok (.invokevirtual 303, 3) := by decide +kernel
theorem dX8_ends_137 : decode cX8_ends 137 = .ok (.aload_n 0, 1) := by decide +kernel
theorem dX8_ends_138 : decode cX8_ends 138 = .ok (.getfield 105, 3) := by decide +kernel
theorem dX8_ends_141 : decode cX8_ends 141 = .ok (.iconst 5, 1) := by decide +kernel
theorem dX8_ends_142 : decode cX8_ends 142 = .ok (.aload_n 0, 1) := by decide +kernel
theorem dX8_ends_143 : decode cX8_ends 143 = .ok (.getfield 187, 3) := by decide +kernel
theorem dX8_ends_146 : decode cX8_ends 146 = .ok (.imul, 1) := by decide +kernel
theorem dX8_ends_147 : decode cX8_ends 147 = .ok (.iload_n 2, 1) := by decide +kernel
theorem dX8_ends_148 : decode cX8_ends 148 = .ok (.iadd, 1) := by decide +kernel
theorem dX8_ends_149 : decode cX8_ends 149 = .ok (.baload, 1) := by decide +kernel
theorem dX8_ends_150 : decode cX8_ends 150 = .ok (.ifCond .ne 4, 3) := by decide +kernel
theorem dX8_ends_153 : decode cX8_ends 153 = .ok (.return_, 1) := by decide +kernel
theorem dX8_ends_154 : decode cX8_ends 154 = .ok (.iload 4, 2) := by decide +kernel
theorem dX8_ends_156 : decode cX8_ends 156 = .ok (.ifCond .eq 18, 3) := by decide +kernel
theorem dX8_ends_159 : decode cX8_ends 159 = .ok (.aload_n 0, 1) := by decide +kernel
theorem dX8_ends_160 : decode cX8_ends 160 = .ok (.iload_n 2, 1) := by decide +kernel
theorem dX8_ends_161 : decode cX8_ends 161 = .ok (.bipush 8, 2) := by decide +kernel
theorem dX8_ends_163 : decode cX8_ends 163 = .ok (.invokestatic 300, 3) := by decide +kernel
theorem dX8_ends_166 : decode cX8_ends 166 = .ok (.iload_n 1, 1) := by decide +kernel
theorem dX8_ends_167 : decode cX8_ends 167 = .ok (.iconst 0, 1) := by decide +kernel
theorem dX8_ends_168 : decode cX8_ends 168 = .ok (.invokestatic 291, 3) := by decide +kernel
theorem dX8_ends_171 : decode cX8_ends 171 = .ok (.invokevirtual 303, 3) := by decide +kernel
theorem dX8_ends_174 : decode cX8_ends 174 = .ok (.iload 5, 2) := by decide +kernel
theorem dX8_ends_176 : decode cX8_ends 176 = .ok (.ifCond .eq 19, 3) := by decide +kernel
theorem dX8_ends_179 : decode cX8_ends 179 = .ok (.aload_n 0, 1) := by decide +kernel
theorem dX8_ends_180 : decode cX8_ends 180 = .ok (.iload_n 2, 1) := by decide +kernel
theorem dX8_ends_181 : decode cX8_ends 181 = .ok (.bipush 8, 2) := by decide +kernel
theorem dX8_ends_183 : decode cX8_ends 183 = .ok (.invokestatic 300, 3) := by decide +kernel
theorem dX8_ends_186 : decode cX8_ends 186 = .ok (.iload_n 1, 1) := by decide +kernel
theorem dX8_ends_187 : decode cX8_ends 187 = .ok (.bipush 8, 2) := by decide +kernel
theorem dX8_ends_189 : decode cX8_ends 189 = .ok (.invokestatic 291, 3) := by decide +kernel
theorem dX8_ends_192 : decode cX8_ends 192 = .ok (.invokevirtual 303, 3) := by decide +kernel
theorem dX8_ends_195 : decode cX8_ends 195 = .ok (.return_, 1) := by decide +kernel
theorem dX8_isReturning_0 : decode cX8_isReturning 0 = .ok (.aload_n 0, 1) := by decide +kernel
theorem dX8_isReturning_1 : decode cX8_isReturning 1 = .ok (.iload_n 1, 1) := by decide +kernel
theorem dX8_isReturning_2 : decode cX8_isReturning 2 = .ok (.invokevirtual 271, 3) := by decide +kernel
theorem dX8_isReturning_5 : decode cX8_isReturning 5 = .ok (.iconst 1, 1) := by decide +kernel
theorem dX8_isReturning_6 : decode cX8_isReturning 6 = .ok (.if_icmp .ne 32, 3) := by decide +kernel
theorem dX8_isReturning_9 : decode cX8_isReturning 9 = .ok (.aload_n 0, 1) := by decide +kernel
theorem dX8_isReturning_10 : decode cX8_isReturning 10 = .ok (.getfield 101, 3) := by decide +kernel
theorem dX8_isReturning_13 : decode cX8_isReturning 13 = .ok (.iconst 5, 1) := by decide +kernel
theorem dX8_isReturning_14 : decode cX8_isReturning 14 = .ok (.aload_n 0, 1) := by decide +kernel
theorem dX8_isReturning_15 : decode cX8_isReturning 15 = .ok (.getfield 187, 3) := by decide +kernel
theorem dX8_isReturning_18 : decode cX8_isReturning 18 = .ok (.imul, 1) := by decide +kernel
theorem dX8_isReturning_19 : decode cX8_isReturning 19 = .ok (.aload_n 0, 1) := by decide +kernel
theorem dX8_isReturning_20 : decode cX8_isReturning 20 = .ok (.getfield 50, 3) := by decide +kernel
theorem dX8_isReturning_23 : decode cX8_isReturning 23 = .ok (.aload_n 0, 1) := by decide +kernel
theorem dX8_isReturning_24 : decode cX8_isReturning 24 = .ok (.iload_n 1, 1) := by decide +kernel
theorem dX8_isReturning_25 : decode cX8_isReturning 25 = .ok (.invokevirtual 268, 3) := by decide +kernel
theorem dX8_isReturning_28 : decode cX8_isReturning 28 = .ok (.iaload, 1) := by decide +kernel
theorem dX8_isReturning_29 : decode cX8_isReturning 29 = .ok (.iadd, 1) := by decide +kernel
theorem dX8_isReturning_30 : decode cX8_isReturning 30 = .ok (.baload, 1) := by decide +kernel
theorem dX8_isReturning_31 : decode cX8_isReturning 31 = .ok (.ifCond .eq 7, 3) := by decide +kernel
theorem dX8_isReturning_34 : decode cX8_isReturning 34 = .ok (.iconst 1, 1) := by decide +kernel
theorem dX8_isReturning_35 : decode cX8_isReturning 35 = .ok (.goto 4, 3) := by decide +kernel
theorem dX8_isReturning_38 : decode cX8_isReturning 38 = .ok (.iconst 0, 1) := by decide +kernel
theorem dX8_isReturning_39 : decode cX8_isReturning 39 = .ok (.ireturn, 1) := by decide +kernel
theorem dX8_isThrowing_0 : decode cX8_isThrowing 0 = .ok (.aload_n 0, 1) := by decide +kernel
theorem dX8_isThrowing_1 : decode cX8_isThrowing 1 = .ok (.iload_n 1, 1) := by decide +kernel
theorem dX8_isThrowing_2 : decode cX8_isThrowing 2 = .ok (.invokevirtual 271, 3) := by decide +kernel
theorem dX8_isThrowing_5 : decode cX8_isThrowing 5 = .ok (.iconst 1, 1) := by decide +kernel
theorem dX8_isThrowing_6 : decode cX8_isThrowing 6 = .ok (.if_icmp .ne 32, 3) := by decide +kernel
theorem dX8_isThrowing_9 : decode cX8_isThrowing 9 = .ok (.aload_n 0, 1) := by decide +kernel
theorem dX8_isThrowing_10 : decode cX8_isThrowing 10 = .ok (.getfield 105, 3) := by decide +kernel
theorem dX8_isThrowing_13 : decode cX8_isThrowing 13 = .ok (.iconst 5, 1) := by decide +kernel
theorem dX8_isThrowing_14 : decode cX8_isThrowing 14 = .ok (.aload_n 0, 1) := by decide +kernel
theorem dX8_isThrowing_15 : decode cX8_isThrowing 15 = .ok (.getfield 187, 3) := by decide +kernel
theorem dX8_isThrowing_18 : decode cX8_isThrowing 18 = .ok (.imul, 1) := by decide +kernel
theorem dX8_isThrowing_19 : decode cX8_isThrowing 19 = .ok (.aload_n 0, 1) := by decide +kernel
theorem dX8_isThrowing_20 : decode cX8_isThrowing 20 = .ok (.getfield 50, 3) := by decide +kernel
theorem dX8_isThrowing_23 : decode cX8_isThrowing 23 = .ok (.aload_n 0, 1) := by decide +kernel
theorem dX8_isThrowing_24 : decode cX8_isThrowing 24 = .ok (.iload_n 1, 1) := by decide +kernel
theorem dX8_isThrowing_25 : decode cX8_isThrowing 25 = .ok (.invokevirtual 268, 3) := by decide +kernel
theorem dX8_isThrowing_28 : decode cX8_isThrowing 28 = .ok (.iaload, 1) := by decide +kernel
theorem dX8_isThrowing_29 : decode cX8_isThrowing 29 = .ok (.iadd, 1) := by decide +kernel
theorem dX8_isThrowing_30 : decode cX8_isThrowing 30 = .ok (.baload, 1) := by decide +kernel
theorem dX8_isThrowing_31 : decode cX8_isThrowing 31 = .ok (.ifCond .eq 7, 3) := by decide +kernel
theorem dX8_isThrowing_34 : decode cX8_isThrowing 34 = .ok (.iconst 1, 1) := by decide +kernel
theorem dX8_isThrowing_35 : decode cX8_isThrowing 35 = .ok (.goto 4, 3) := by decide +kernel
theorem dX8_isThrowing_38 : decode cX8_isThrowing 38 = .ok (.iconst 0, 1) := by decide +kernel
theorem dX8_isThrowing_39 : decode cX8_isThrowing 39 = .ok (.ireturn, 1) := by decide +kernel
theorem dX8_isWanted_0 : decode cX8_isWanted 0 = .ok (.aload_n 0, 1) := by decide +kernel
theorem dX8_isWanted_1 : decode cX8_isWanted 1 = .ok (.iload_n 1, 1) := by decide +kernel
theorem dX8_isWanted_2 : decode cX8_isWanted 2 = .ok (.invokevirtual 271, 3) := by decide +kernel
theorem dX8_isWanted_5 : decode cX8_isWanted 5 = .ok (.iconst 1, 1) := by decide +kernel
theorem dX8_isWanted_6 : decode cX8_isWanted 6 = .ok (.if_icmp .ne 24, 3) := by decide +kernel
theorem dX8_isWanted_9 : decode cX8_isWanted 9 = .ok (.aload_n 0, 1) := by decide +kernel
theorem dX8_isWanted_10 : decode cX8_isWanted 10 = .ok (.aload_n 0, 1) := by decide +kernel
theorem dX8_isWanted_11 : decode cX8_isWanted 11 = .ok (.getfield 50, 3) := by decide +kernel
theorem dX8_isWanted_14 : decode cX8_isWanted 14 = .ok (.aload_n 0, 1) := by decide +kernel
theorem dX8_isWanted_15 : decode cX8_isWanted 15 = .ok (.iload_n 1, 1) := by decide +kernel
theorem dX8_isWanted_16 : decode cX8_isWanted 16 = .ok (.invokevirtual 268, 3) := by decide +kernel
theorem dX8_isWanted_19 : decode cX8_isWanted 19 = .ok (.iaload, 1) := by decide +kernel
theorem dX8_isWanted_20 : decode cX8_isWanted 20 = .ok (.iload_n 2, 1) := by decide +kernel
theorem dX8_isWanted_21 : decode cX8_isWanted 21 = .ok (.invokestatic 300, 3) := by decide +kernel
theorem dX8_isWanted_24 : decode cX8_isWanted 24 = .ok (.invokevirtual 401, 3) := by decide +kernel
theorem dX8_isWanted_27 : decode cX8_isWanted 27 = .ok (.ifCond .ne 5, 3) := by decide +kernel
theorem dX8_isWanted_30 : decode cX8_isWanted 30 = .ok (.iconst 0, 1) := by decide +kernel
theorem dX8_isWanted_31 : decode cX8_isWanted 31 = .ok (.ireturn, 1) := by decide +kernel
theorem dX8_isWanted_32 : decode cX8_isWanted 32 = .ok (.aload_n 0, 1) := by decide +kernel
theorem dX8_isWanted_33 : decode cX8_isWanted 33 = .ok (.iload_n 1, 1) := by decide +kernel
theorem dX8_isWanted_34 : decode cX8_isWanted 34 = .ok (.invokevirtual 404, 3) := by decide +kernel
theorem dX8_isWanted_37 : decode cX8_isWanted 37 = .ok (.ifCond .eq 19, 3) := by decide +kernel
theorem dX8_isWanted_40 : decode cX8_isWanted 40 = .ok (.aload_n 0, 1) := by decide +kernel
theorem dX8_isWanted_41 : decode cX8_isWanted 41 = .ok (.iload_n 1, 1) := by decide +kernel
theorem dX8_isWanted_42 : decode cX8_isWanted 42 = .ok (.iload_n 2, 1) := by decide +kernel
theorem dX8_isWanted_43 : decode cX8_isWanted 43 = .ok (.invokestatic 291, 3) := by decide +kernel
theorem dX8_isWanted_46 : decode cX8_isWanted 46 = .ok (.invokevirtual 401, 3) := by decide +kernel
theorem dX8_isWanted_49 : decode cX8_isWanted 49 = .ok (.ifCond .ne 7, 3) := by decide +kernel
theorem dX8_isWanted_52 : decode cX8_isWanted 52 = .ok (.iconst 1, 1) := by decide +kernel
theorem dX8_isWanted_53 : decode cX8_isWanted 53 = .ok (.goto 4, 3) := by decide +kernel
theorem dX8_isWanted_56 : decode cX8_isWanted 56 = .ok (.iconst 0, 1) := by decide +kernel
theorem dX8_isWanted_57 : decode cX8_isWanted 57 = .ok (.ireturn, 1) := by decide +kernel
theorem dX8_may_0 : decode cX8_may 0 = .ok (.iconst 0, 1) := by decide +kernel
theorem dX8_may_1 : decode cX8_may 1 = .ok (.istore_n 2, 1) := by decide +kernel
theorem dX8_may_2 : decode cX8_may 2 = .ok (.iconst 0, 1) := by decide +kernel
theorem dX8_may_3 : decode cX8_may 3 = .ok (.istore_n 3, 1) := by decide +kernel
theorem dX8_may_4 : decode cX8_may 4 = .ok (.iload_n 3, 1) := by decide +kernel
theorem dX8_may_5 : decode cX8_may 5 = .ok (.aload_n 0, 1) := by decide +kernel
theorem dX8_may_6 : decode cX8_may 6 = .ok (.getfield 26, 3) := by decide +kernel
theorem dX8_may_9 : decode cX8_may 9 = .ok (.aload_n 0, 1) := by decide +kernel
theorem dX8_may_10 : decode cX8_may 10 = .ok (.getfield 228, 3) := by decide +kernel
theorem dX8_may_13 : decode cX8_may 13 = .ok (.iaload, 1) := by decide +kernel
theorem dX8_may_14 : decode cX8_may 14 = .ok (.if_icmp .ge 32, 3) := by decide +kernel
theorem dX8_may_17 : decode cX8_may 17 = .ok (.iload_n 2, 1) := by decide +kernel
theorem dX8_may_18 : decode cX8_may 18 = .ok (.aload_n 1, 1) := by decide +kernel
theorem dX8_may_19 : decode cX8_may 19 = .ok (.iconst 5, 1) := by decide +kernel
theorem dX8_may_20 : decode cX8_may 20 = .ok (.aload_n 0, 1) := by decide +kernel
theorem dX8_may_21 : decode cX8_may 21 = .ok (.getfield 228, 3) := by decide +kernel
theorem dX8_may_24 : decode cX8_may 24 = .ok (.imul, 1) := by decide +kernel
theorem dX8_may_25 : decode cX8_may 25 = .ok (.iload_n 3, 1) := by decide +kernel
theorem dX8_may_26 : decode cX8_may 26 = .ok (.iadd, 1) := by decide +kernel
theorem dX8_may_27 : decode cX8_may 27 = .ok (.baload, 1) := by decide +kernel
theorem dX8_may_28 : decode cX8_may 28 = .ok (.ifCond .eq 9, 3) := by decide +kernel
theorem dX8_may_31 : decode cX8_may 31 = .ok (.iconst 1, 1) := by decide +kernel
theorem dX8_may_32 : decode cX8_may 32 = .ok (.iload_n 3, 1) := by decide +kernel
theorem dX8_may_33 : decode cX8_may 33 = .ok (.ishl, 1) := by decide +kernel
theorem dX8_may_34 : decode cX8_may 34 = .ok (.goto 4, 3) := by decide +kernel
theorem dX8_may_37 : decode cX8_may 37 = .ok (.iconst 0, 1) := by decide +kernel
theorem dX8_may_38 : decode cX8_may 38 = .ok (.ior, 1) := by decide +kernel
theorem dX8_may_39 : decode cX8_may 39 = .ok (.istore_n 2, 1) := by decide +kernel
theorem dX8_may_40 : decode cX8_may 40 = .ok (.iinc 3 1, 3) := by decide +kernel
theorem dX8_may_43 : decode cX8_may 43 = .ok (.goto (-39), 3) := by decide +kernel
theorem dX8_may_46 : decode cX8_may 46 = .ok (.iload_n 2, 1) := by decide +kernel
theorem dX8_may_47 : decode cX8_may 47 = .ok (.ireturn, 1) := by decide +kernel
theorem dX8_summary_0 : decode cX8_summary 0 = .ok (.aload_n 0, 1) := by decide +kernel
theorem dX8_summary_1 : decode cX8_summary 1 = .ok (.aload_n 0, 1) := by decide +kernel
theorem dX8_summary_2 : decode cX8_summary 2 = .ok (.getfield 228, 3) := by decide +kernel
theorem dX8_summary_5 : decode cX8_summary 5 = .ok (.putfield 187, 3) := by decide +kernel
theorem dX8_summary_8 : decode cX8_summary 8 = .ok (.aload_n 0, 1) := by decide +kernel
theorem dX8_summary_9 : decode cX8_summary 9 = .ok (.iload_n 1, 1) := by decide +kernel
theorem dX8_summary_10 : decode cX8_summary 10 = .ok (.invokevirtual 389, 3) := by decide +kernel
theorem dX8_summary_13 : decode cX8_summary 13 = .ok (.ifCond .eq 30, 3) := by decide +kernel
theorem dX8_summary_16 : decode cX8_summary 16 = .ok (.aload_n 0, 1) := by decide +kernel
theorem dX8_summary_17 : decode cX8_summary 17 = .ok (.iload_n 1, 1) := by decide +kernel
theorem dX8_summary_18 : decode cX8_summary 18 = .ok (.invokevirtual 271, 3) := by decide +kernel
theorem dX8_summary_21 : decode cX8_summary 21 = .ok (.iconst 1, 1) := by decide +kernel
theorem dX8_summary_22 : decode cX8_summary 22 = .ok (.if_icmp .ne 21, 3) := by decide +kernel
theorem dX8_summary_25 : decode cX8_summary 25 = .ok (.iload_n 2, 1) := by decide +kernel
theorem dX8_summary_26 : decode cX8_summary 26 = .ok (.iconst 0, 1) := by decide +kernel
theorem dX8_summary_27 : decode cX8_summary 27 = .ok (.iconst 5, 1) := by decide +kernel
theorem dX8_summary_28 : decode cX8_summary 28 = .ok (.invokestatic 159, 3) := by decide +kernel
theorem dX8_summary_31 : decode cX8_summary 31 = .ok (.ifCond .eq 12, 3) := by decide +kernel
theorem dX8_summary_34 : decode cX8_summary 34 = .ok (.iload_n 3, 1) := by decide +kernel
theorem dX8_summary_35 : decode cX8_summary 35 = .ok (.iconst 0, 1) := by decide +kernel
theorem dX8_summary_36 : decode cX8_summary 36 = .ok (.iconst 5, 1) := by decide +kernel
theorem dX8_summary_37 : decode cX8_summary 37 = .ok (.invokestatic 159, 3) := by decide +kernel
theorem dX8_summary_40 : decode cX8_summary 40 = .ok (.ifCond .ne 5, 3) := by decide +kernel
theorem dX8_summary_43 : decode cX8_summary 43 = .ok (.iconst 0, 1) := by decide +kernel
theorem dX8_summary_44 : decode cX8_summary 44 = .ok (.ireturn, 1) := by decide +kernel
theorem dX8_summary_45 : decode cX8_summary 45 = .ok (.aload_n 0, 1) := by decide +kernel
theorem dX8_summary_46 : decode cX8_summary 46 = .ok (.getfield 124, 3) := by decide +kernel
theorem dX8_summary_49 : decode cX8_summary 49 = .ok (.bipush 6, 2) := by decide +kernel
theorem dX8_summary_51 : decode cX8_summary 51 = .ok (.aload_n 0, 1) := by decide +kernel
theorem dX8_summary_52 : decode cX8_summary 52 = .ok (.getfield 50, 3) := by decide +kernel
theorem dX8_summary_55 : decode cX8_summary 55 = .ok (.aload_n 0, 1) := by decide +kernel
theorem dX8_summary_56 : decode cX8_summary 56 = .ok (.iload_n 1, 1) := by decide +kernel
theorem dX8_summary_57 : decode cX8_summary 57 = .ok (.invokevirtual 268, 3) := by decide +kernel
theorem dX8_summary_60 : decode cX8_summary 60 = .ok (.iaload, 1) := by decide +kernel
theorem dX8_summary_61 : decode cX8_summary 61 = .ok (.imul, 1) := by decide +kernel
theorem dX8_summary_62 : decode cX8_summary 62 = .ok (.iload_n 3, 1) := by decide +kernel
theorem dX8_summary_63 : decode cX8_summary 63 = .ok (.iadd, 1) := by decide +kernel
theorem dX8_summary_64 : decode cX8_summary 64 = .ok (.iaload, 1) := by decide +kernel
theorem dX8_summary_65 : decode cX8_summary 65 = .ok (.iload_n 2, 1) := by decide +kernel
theorem dX8_summary_66 : decode cX8_summary 66 = .ok (.ishr, 1) := by decide +kernel
theorem dX8_summary_67 : decode cX8_summary 67 = .ok (.iconst 1, 1) := by decide +kernel
theorem dX8_summary_68 : decode cX8_summary 68 = .ok (.iand, 1) := by decide +kernel
theorem dX8_summary_69 : decode cX8_summary 69 = .ok (.iconst 1, 1) := by decide +kernel
theorem dX8_summary_70 : decode cX8_summary 70 = .ok (.if_icmp .ne 7, 3) := by decide +kernel
theorem dX8_summary_73 : decode cX8_summary 73 = .ok (.iconst 1, 1) := by decide +kernel
theorem dX8_summary_74 : decode cX8_summary 74 = .ok (.goto 4, 3) := by decide +kernel
theorem dX8_summary_77 : decode cX8_summary 77 = .ok (.iconst 0, 1) := by decide +kernel
theorem dX8_summary_78 : decode cX8_summary 78 = .ok (.ireturn, 1) := by decide +kernel
theorem dX8_tells_0 : decode cX8_tells 0 = .ok (.aload_n 0, 1) := by decide +kernel
theorem dX8_tells_1 : decode cX8_tells 1 = .ok (.iload_n 1, 1) := by decide +kernel
theorem dX8_tells_2 : decode cX8_tells 2 = .ok (.invokevirtual 268, 3) := by decide +kernel
theorem dX8_tells_5 : decode cX8_tells 5 = .ok (.istore 4, 2) := by decide +kernel
theorem dX8_tells_7 : decode cX8_tells 7 = .ok (.aload_n 0, 1) := by decide +kernel
theorem dX8_tells_8 : decode cX8_tells 8 = .ok (.getfield 95, 3) := by decide +kernel
theorem dX8_tells_11 : decode cX8_tells 11 = .ok (.bipush 40, 2) := by decide +kernel
theorem dX8_tells_13 : decode cX8_tells 13 = .ok (.aload_n 0, 1) := by decide +kernel
theorem dX8_tells_14 : decode cX8_tells 14 = .ok (.getfield 187, 3) := by decide +kernel
theorem dX8_tells_17 : decode cX8_tells 17 = .ok (.imul, 1) := by decide +kernel
theorem dX8_tells_18 : decode cX8_tells 18 = .ok (.iload_n 1, 1) := by decide +kernel
theorem dX8_tells_19 : decode cX8_tells 19 = .ok (.iadd, 1) := by decide +kernel
theorem dX8_tells_20 : decode cX8_tells 20 = .ok (.iaload, 1) := by decide +kernel
theorem dX8_tells_21 : decode cX8_tells 21 = .ok (.istore 5, 2) := by decide +kernel
theorem dX8_tells_23 : decode cX8_tells 23 = .ok (.aload_n 0, 1) := by decide +kernel
theorem dX8_tells_24 : decode cX8_tells 24 = .ok (.getfield 29, 3) := by decide +kernel
theorem dX8_tells_27 : decode cX8_tells 27 = .ok (.iload 4, 2) := by decide +kernel
theorem dX8_tells_29 : decode cX8_tells 29 = .ok (.iaload, 1) := by decide +kernel
theorem dX8_tells_30 : decode cX8_tells 30 = .ok (.tableswitch 119 0 4 #[34, 71, 119, 119, 55], 34) := by decide +kernel
theorem dX8_tells_64 : decode cX8_tells 64 = .ok (.aload_n 0, 1) := by decide +kernel
theorem dX8_tells_65 : decode cX8_tells 65 = .ok (.getfield 44, 3) := by decide +kernel
theorem dX8_tells_68 : decode cX8_tells 68 = .ok (.iload 4, 2) := by decide +kernel
theorem dX8_tells_70 : decode cX8_tells 70 = .ok (.iaload, 1) := by decide +kernel
theorem dX8_tells_71 : decode cX8_tells 71 = .ok (.iload_n 3, 1) := by decide +kernel
theorem dX8_tells_72 : decode cX8_tells 72 = .ok (.if_icmp .ne 11, 3) := by decide +kernel
theorem dX8_tells_75 : decode cX8_tells 75 = .ok (.iload_n 1, 1) := by decide +kernel
theorem dX8_tells_76 : decode cX8_tells 76 = .ok (.iconst 0, 1) := by decide +kernel
theorem dX8_tells_77 : decode cX8_tells 77 = .ok (.invokestatic 291, 3) := by decide +kernel
theorem dX8_tells_80 : decode cX8_tells 80 = .ok (.goto 4, 3) := by decide +kernel
theorem dX8_tells_83 : decode cX8_tells 83 = .ok (.iconst (-1), 1) := by decide +kernel
theorem dX8_tells_84 : decode cX8_tells 84 = .ok (.ireturn, 1) := by decide +kernel
theorem dX8_tells_85 : decode cX8_tells 85 = .ok (.iload 5, 2) := by decide +kernel
theorem dX8_tells_87 : decode cX8_tells 87 = .ok (.iload_n 3, 1) := by decide +kernel
theorem dX8_tells_88 : decode cX8_tells 88 = .ok (.if_icmp .ne 11, 3) := by decide +kernel
theorem dX8_tells_91 : decode cX8_tells 91 = .ok (.iload_n 1, 1) := by decide +kernel
theorem dX8_tells_92 : decode cX8_tells 92 = .ok (.iconst 0, 1) := by decide +kernel
theorem dX8_tells_93 : decode cX8_tells 93 = .ok (.invokestatic 291, 3) := by decide +kernel
theorem dX8_tells_96 : decode cX8_tells 96 = .ok (.goto 4, 3) := by decide +kernel
theorem dX8_tells_99 : decode cX8_tells 99 = .ok (.iconst (-1), 1) := by decide +kernel
theorem dX8_tells_100 : decode cX8_tells 100 = .ok (.ireturn, 1) := by decide +kernel
theorem dX8_tells_101 : decode cX8_tells 101 = .ok (.iload_n 3, 1) := by decide +kernel
theorem dX8_tells_102 : decode cX8_tells 102 = .ok (.bipush 6, 2) := by decide +kernel
theorem dX8_tells_104 : decode cX8_tells 104 = .ok (.if_icmp .lt 14, 3) := by decide +kernel
theorem dX8_tells_107 : decode cX8_tells 107 = .ok (.iload_n 1, 1) := by decide +kernel
theorem dX8_tells_108 : decode cX8_tells 108 = .ok (.bipush 7, 2) := by decide +kernel
theorem dX8_tells_110 : decode cX8_tells 110 = .ok (.iload_n 3, 1) := by decide +kernel
theorem dX8_tells_111 : decode cX8_tells 111 = .ok (.iadd, 1) := by decide +kernel
theorem dX8_tells_112 : decode cX8_tells 112 = .ok (.iconst 4, 1) := by decide +kernel
theorem dX8_tells_113 : decode cX8_tells 113 = .ok (.isub, 1) := by decide +kernel
theorem dX8_tells_114 : decode cX8_tells 114 = .ok (.invokestatic 291, 3) := by decide +kernel
theorem dX8_tells_117 : decode cX8_tells 117 = .ok (.ireturn, 1) := by decide +kernel
theorem dX8_tells_118 : decode cX8_tells 118 = .ok (.iload_n 2, 1) := by decide +kernel
theorem dX8_tells_119 : decode cX8_tells 119 = .ok (.ifCond .ne 13, 3) := by decide +kernel
theorem dX8_tells_122 : decode cX8_tells 122 = .ok (.aload_n 0, 1) := by decide +kernel
theorem dX8_tells_123 : decode cX8_tells 123 = .ok (.getfield 44, 3) := by decide +kernel
theorem dX8_tells_126 : decode cX8_tells 126 = .ok (.iload 4, 2) := by decide +kernel
theorem dX8_tells_128 : decode cX8_tells 128 = .ok (.iaload, 1) := by decide +kernel
theorem dX8_tells_129 : decode cX8_tells 129 = .ok (.goto 5, 3) := by decide +kernel
theorem dX8_tells_132 : decode cX8_tells 132 = .ok (.iload 5, 2) := by decide +kernel
theorem dX8_tells_134 : decode cX8_tells 134 = .ok (.iload_n 3, 1) := by decide +kernel
theorem dX8_tells_135 : decode cX8_tells 135 = .ok (.if_icmp .ne 12, 3) := by decide +kernel
theorem dX8_tells_138 : decode cX8_tells 138 = .ok (.iload_n 1, 1) := by decide +kernel
theorem dX8_tells_139 : decode cX8_tells 139 = .ok (.bipush 7, 2) := by decide +kernel
theorem dX8_tells_141 : decode cX8_tells 141 = .ok (.invokestatic 291, 3) := by decide +kernel
theorem dX8_tells_144 : decode cX8_tells 144 = .ok (.goto 4, 3) := by decide +kernel
theorem dX8_tells_147 : decode cX8_tells 147 = .ok (.iconst (-1), 1) := by decide +kernel
theorem dX8_tells_148 : decode cX8_tells 148 = .ok (.ireturn, 1) := by decide +kernel
theorem dX8_tells_149 : decode cX8_tells 149 = .ok (.iconst (-1), 1) := by decide +kernel
theorem dX8_tells_150 : decode cX8_tells 150 = .ok (.ireturn, 1) := by decide +kernel
theorem dX8_way_0 : decode cX8_way 0 = .ok (.bipush 40, 2) := by decide +kernel
theorem dX8_way_2 : decode cX8_way 2 = .ok (.aload_n 0, 1) := by decide +kernel
theorem dX8_way_3 : decode cX8_way 3 = .ok (.getfield 187, 3) := by decide +kernel
theorem dX8_way_6 : decode cX8_way 6 = .ok (.imul, 1) := by decide +kernel
theorem dX8_way_7 : decode cX8_way 7 = .ok (.iload_n 1, 1) := by decide +kernel
theorem dX8_way_8 : decode cX8_way 8 = .ok (.iadd, 1) := by decide +kernel
theorem dX8_way_9 : decode cX8_way 9 = .ok (.istore_n 3, 1) := by decide +kernel
theorem dX8_way_10 : decode cX8_way 10 = .ok (.aload_n 0, 1) := by decide +kernel
theorem dX8_way_11 : decode cX8_way 11 = .ok (.iload_n 1, 1) := by decide +kernel
theorem dX8_way_12 : decode cX8_way 12 = .ok (.invokevirtual 271, 3) := by decide +kernel
theorem dX8_way_15 : decode cX8_way 15 = .ok (.tableswitch 151 0 4 #[33, 49, 95, 115, 135], 33) := by decide +kernel
theorem dX8_way_48 : decode cX8_way 48 = .ok (.iload_n 2, 1) := by decide +kernel
theorem dX8_way_49 : decode cX8_way 49 = .ok (.ifCond .ne 12, 3) := by decide +kernel
theorem dX8_way_52 : decode cX8_way 52 = .ok (.aload_n 0, 1) := by decide +kernel
theorem dX8_way_53 : decode cX8_way 53 = .ok (.getfield 83, 3) := by decide +kernel
theorem dX8_way_56 : decode cX8_way 56 = .ok (.iload_n 3, 1) := by decide +kernel
theorem dX8_way_57 : decode cX8_way 57 = .ok (.iaload, 1) := by decide +kernel
theorem dX8_way_58 : decode cX8_way 58 = .ok (.goto 5, 3) := by decide +kernel
theorem dX8_way_61 : decode cX8_way 61 = .ok (.bipush (-2), 2) := by decide +kernel
theorem dX8_way_63 : decode cX8_way 63 = .ok (.ireturn, 1) := by decide +kernel
theorem dX8_way_64 : decode cX8_way 64 = .ok (.iload_n 2, 1) := by decide +kernel
theorem dX8_way_65 : decode cX8_way 65 = .ok (.ifCond .ne 25, 3) := by decide +kernel
theorem dX8_way_68 : decode cX8_way 68 = .ok (.aload_n 0, 1) := by decide +kernel
theorem dX8_way_69 : decode cX8_way 69 = .ok (.iload_n 1, 1) := by decide +kernel
theorem dX8_way_70 : decode cX8_way 70 = .ok (.invokevirtual 274, 3) := by decide +kernel
theorem dX8_way_73 : decode cX8_way 73 = .ok (.ifCond .eq 12, 3) := by decide +kernel
theorem dX8_way_76 : decode cX8_way 76 = .ok (.aload_n 0, 1) := by decide +kernel
theorem dX8_way_77 : decode cX8_way 77 = .ok (.getfield 83, 3) := by decide +kernel
theorem dX8_way_80 : decode cX8_way 80 = .ok (.iload_n 3, 1) := by decide +kernel
theorem dX8_way_81 : decode cX8_way 81 = .ok (.iaload, 1) := by decide +kernel
theorem dX8_way_82 : decode cX8_way 82 = .ok (.goto 27, 3) := by decide +kernel
theorem dX8_way_85 : decode cX8_way 85 = .ok (.bipush (-2), 2) := by decide +kernel
theorem dX8_way_87 : decode cX8_way 87 = .ok (.goto 22, 3) := by decide +kernel
theorem dX8_way_90 : decode cX8_way 90 = .ok (.aload_n 0, 1) := by decide +kernel
theorem dX8_way_91 : decode cX8_way 91 = .ok (.iload_n 1, 1) := by decide +kernel
theorem dX8_way_92 : decode cX8_way 92 = .ok (.invokevirtual 277, 3) := by decide +kernel
theorem dX8_way_95 : decode cX8_way 95 = .ok (.ifCond .eq 12, 3) := by decide +kernel
theorem dX8_way_98 : decode cX8_way 98 = .ok (.aload_n 0, 1) := by decide +kernel
theorem dX8_way_99 : decode cX8_way 99 = .ok (.getfield 92, 3) := by decide +kernel
theorem dX8_way_102 : decode cX8_way 102 = .ok (.iload_n 3, 1) := by decide +kernel
theorem dX8_way_103 : decode cX8_way 103 = .ok (.iaload, 1) := by decide +kernel
theorem dX8_way_104 : decode cX8_way 104 = .ok (.goto 5, 3) := by decide +kernel
theorem dX8_way_107 : decode cX8_way 107 = .ok (.bipush (-2), 2) := by decide +kernel
theorem dX8_way_109 : decode cX8_way 109 = .ok (.ireturn, 1) := by decide +kernel
theorem dX8_way_110 : decode cX8_way 110 = .ok (.iload_n 2, 1) := by decide +kernel
theorem dX8_way_111 : decode cX8_way 111 = .ok (.ifCond .ne 12, 3) := by decide +kernel
theorem dX8_way_114 : decode cX8_way 114 = .ok (.aload_n 0, 1) := by decide +kernel
theorem dX8_way_115 : decode cX8_way 115 = .ok (.getfield 86, 3) := by decide +kernel
theorem dX8_way_118 : decode cX8_way 118 = .ok (.iload_n 3, 1) := by decide +kernel
theorem dX8_way_119 : decode cX8_way 119 = .ok (.iaload, 1) := by decide +kernel
theorem dX8_way_120 : decode cX8_way 120 = .ok (.goto 9, 3) := by decide +kernel
theorem dX8_way_123 : decode cX8_way 123 = .ok (.aload_n 0, 1) := by decide +kernel
theorem dX8_way_124 : decode cX8_way 124 = .ok (.getfield 89, 3) := by decide +kernel
theorem dX8_way_127 : decode cX8_way 127 = .ok (.iload_n 3, 1) := by decide +kernel
theorem dX8_way_128 : decode cX8_way 128 = .ok (.iaload, 1) := by decide +kernel
theorem dX8_way_129 : decode cX8_way 129 = .ok (.ireturn, 1) := by decide +kernel
theorem dX8_way_130 : decode cX8_way 130 = .ok (.iload_n 2, 1) := by decide +kernel
theorem dX8_way_131 : decode cX8_way 131 = .ok (.ifCond .ne 12, 3) := by decide +kernel
theorem dX8_way_134 : decode cX8_way 134 = .ok (.aload_n 0, 1) := by decide +kernel
theorem dX8_way_135 : decode cX8_way 135 = .ok (.getfield 86, 3) := by decide +kernel
theorem dX8_way_138 : decode cX8_way 138 = .ok (.iload_n 3, 1) := by decide +kernel
theorem dX8_way_139 : decode cX8_way 139 = .ok (.iaload, 1) := by decide +kernel
theorem dX8_way_140 : decode cX8_way 140 = .ok (.goto 9, 3) := by decide +kernel
theorem dX8_way_143 : decode cX8_way 143 = .ok (.aload_n 0, 1) := by decide +kernel
theorem dX8_way_144 : decode cX8_way 144 = .ok (.getfield 83, 3) := by decide +kernel
theorem dX8_way_147 : decode cX8_way 147 = .ok (.iload_n 3, 1) := by decide +kernel
theorem dX8_way_148 : decode cX8_way 148 = .ok (.iaload, 1) := by decide +kernel
theorem dX8_way_149 : decode cX8_way 149 = .ok (.ireturn, 1) := by decide +kernel
theorem dX8_way_150 : decode cX8_way 150 = .ok (.iload_n 2, 1) := by decide +kernel
theorem dX8_way_151 : decode cX8_way 151 = .ok (.ifCond .ne 8, 3) := by decide +kernel
theorem dX8_way_154 : decode cX8_way 154 = .ok (.bipush (-2), 2) := by decide +kernel
theorem dX8_way_156 : decode cX8_way 156 = .ok (.goto 9, 3) := by decide +kernel
theorem dX8_way_159 : decode cX8_way 159 = .ok (.aload_n 0, 1) := by decide +kernel
theorem dX8_way_160 : decode cX8_way 160 = .ok (.getfield 92, 3) := by decide +kernel
theorem dX8_way_163 : decode cX8_way 163 = .ok (.iload_n 3, 1) := by decide +kernel
theorem dX8_way_164 : decode cX8_way 164 = .ok (.iaload, 1) := by decide +kernel
theorem dX8_way_165 : decode cX8_way 165 = .ok (.ireturn, 1) := by decide +kernel
theorem dX8_way_166 : decode cX8_way 166 = .ok (.iload_n 2, 1) := by decide +kernel
theorem dX8_way_167 : decode cX8_way 167 = .ok (.ifCond .ne 7, 3) := by decide +kernel
theorem dX8_way_170 : decode cX8_way 170 = .ok (.iconst (-1), 1) := by decide +kernel
theorem dX8_way_171 : decode cX8_way 171 = .ok (.goto 5, 3) := by decide +kernel
theorem dX8_way_174 : decode cX8_way 174 = .ok (.bipush (-2), 2) := by decide +kernel
theorem dX8_way_176 : decode cX8_way 176 = .ok (.ireturn, 1) := by decide +kernel
theorem dX8_wayOf_0 : decode cX8_wayOf 0 = .ok (.bipush 40, 2) := by decide +kernel
theorem dX8_wayOf_2 : decode cX8_wayOf 2 = .ok (.aload_n 0, 1) := by decide +kernel
theorem dX8_wayOf_3 : decode cX8_wayOf 3 = .ok (.getfield 187, 3) := by decide +kernel
theorem dX8_wayOf_6 : decode cX8_wayOf 6 = .ok (.imul, 1) := by decide +kernel
theorem dX8_wayOf_7 : decode cX8_wayOf 7 = .ok (.iload_n 1, 1) := by decide +kernel
theorem dX8_wayOf_8 : decode cX8_wayOf 8 = .ok (.iadd, 1) := by decide +kernel
theorem dX8_wayOf_9 : decode cX8_wayOf 9 = .ok (.istore_n 3, 1) := by decide +kernel
theorem dX8_wayOf_10 : decode cX8_wayOf 10 = .ok (.aload_n 0, 1) := by decide +kernel
theorem dX8_wayOf_11 : decode cX8_wayOf 11 = .ok (.iload_n 1, 1) := by decide +kernel
theorem dX8_wayOf_12 : decode cX8_wayOf 12 = .ok (.invokevirtual 271, 3) := by decide +kernel
theorem dX8_wayOf_15 : decode cX8_wayOf 15 = .ok (.tableswitch 108 1 5 #[75, 33, 33, 55, 40], 33) := by decide +kernel
theorem dX8_wayOf_48 : decode cX8_wayOf 48 = .ok (.aload_n 0, 1) := by decide +kernel
theorem dX8_wayOf_49 : decode cX8_wayOf 49 = .ok (.iload_n 1, 1) := by decide +kernel
theorem dX8_wayOf_50 : decode cX8_wayOf 50 = .ok (.iload_n 2, 1) := by decide +kernel
theorem dX8_wayOf_51 : decode cX8_wayOf 51 = .ok (.invokevirtual 284, 3) := by decide +kernel
theorem dX8_wayOf_54 : decode cX8_wayOf 54 = .ok (.ireturn, 1) := by decide +kernel
theorem dX8_wayOf_55 : decode cX8_wayOf 55 = .ok (.iload_n 2, 1) := by decide +kernel
theorem dX8_wayOf_56 : decode cX8_wayOf 56 = .ok (.ifCond .ne 7, 3) := by decide +kernel
theorem dX8_wayOf_59 : decode cX8_wayOf 59 = .ok (.iconst (-1), 1) := by decide +kernel
theorem dX8_wayOf_60 : decode cX8_wayOf 60 = .ok (.goto 9, 3) := by decide +kernel
theorem dX8_wayOf_63 : decode cX8_wayOf 63 = .ok (.aload_n 0, 1) := by decide +kernel
theorem dX8_wayOf_64 : decode cX8_wayOf 64 = .ok (.getfield 83, 3) := by decide +kernel
theorem dX8_wayOf_67 : decode cX8_wayOf 67 = .ok (.iload_n 3, 1) := by decide +kernel
theorem dX8_wayOf_68 : decode cX8_wayOf 68 = .ok (.iaload, 1) := by decide +kernel
theorem dX8_wayOf_69 : decode cX8_wayOf 69 = .ok (.ireturn, 1) := by decide +kernel
theorem dX8_wayOf_70 : decode cX8_wayOf 70 = .ok (.iload_n 2, 1) := by decide +kernel
theorem dX8_wayOf_71 : decode cX8_wayOf 71 = .ok (.ifCond .ne 12, 3) := by decide +kernel
theorem dX8_wayOf_74 : decode cX8_wayOf 74 = .ok (.aload_n 0, 1) := by decide +kernel
theorem dX8_wayOf_75 : decode cX8_wayOf 75 = .ok (.getfield 92, 3) := by decide +kernel
theorem dX8_wayOf_78 : decode cX8_wayOf 78 = .ok (.iload_n 3, 1) := by decide +kernel
theorem dX8_wayOf_79 : decode cX8_wayOf 79 = .ok (.iaload, 1) := by decide +kernel
theorem dX8_wayOf_80 : decode cX8_wayOf 80 = .ok (.goto 9, 3) := by decide +kernel
theorem dX8_wayOf_83 : decode cX8_wayOf 83 = .ok (.aload_n 0, 1) := by decide +kernel
theorem dX8_wayOf_84 : decode cX8_wayOf 84 = .ok (.getfield 83, 3) := by decide +kernel
theorem dX8_wayOf_87 : decode cX8_wayOf 87 = .ok (.iload_n 3, 1) := by decide +kernel
theorem dX8_wayOf_88 : decode cX8_wayOf 88 = .ok (.iaload, 1) := by decide +kernel
theorem dX8_wayOf_89 : decode cX8_wayOf 89 = .ok (.ireturn, 1) := by decide +kernel
theorem dX8_wayOf_90 : decode cX8_wayOf 90 = .ok (.iload_n 2, 1) := by decide +kernel
theorem dX8_wayOf_91 : decode cX8_wayOf 91 = .ok (.ifCond .ne 12, 3) := by decide +kernel
theorem dX8_wayOf_94 : decode cX8_wayOf 94 = .ok (.aload_n 0, 1) := by decide +kernel
theorem dX8_wayOf_95 : decode cX8_wayOf 95 = .ok (.getfield 83, 3) := by decide +kernel
theorem dX8_wayOf_98 : decode cX8_wayOf 98 = .ok (.iload_n 3, 1) := by decide +kernel
theorem dX8_wayOf_99 : decode cX8_wayOf 99 = .ok (.iaload, 1) := by decide +kernel
theorem dX8_wayOf_100 : decode cX8_wayOf 100 = .ok (.goto 22, 3) := by decide +kernel
theorem dX8_wayOf_103 : decode cX8_wayOf 103 = .ok (.aload_n 0, 1) := by decide +kernel
theorem dX8_wayOf_104 : decode cX8_wayOf 104 = .ok (.iload_n 1, 1) := by decide +kernel
theorem dX8_wayOf_105 : decode cX8_wayOf 105 = .ok (.invokevirtual 277, 3) := by decide +kernel
theorem dX8_wayOf_108 : decode cX8_wayOf 108 = .ok (.ifCond .eq 12, 3) := by decide +kernel
theorem dX8_wayOf_111 : decode cX8_wayOf 111 = .ok (.aload_n 0, 1) := by decide +kernel
theorem dX8_wayOf_112 : decode cX8_wayOf 112 = .ok (.getfield 92, 3) := by decide +kernel
theorem dX8_wayOf_115 : decode cX8_wayOf 115 = .ok (.iload_n 3, 1) := by decide +kernel
theorem dX8_wayOf_116 : decode cX8_wayOf 116 = .ok (.iaload, 1) := by decide +kernel
theorem dX8_wayOf_117 : decode cX8_wayOf 117 = .ok (.goto 5, 3) := by decide +kernel
theorem dX8_wayOf_120 : decode cX8_wayOf 120 = .ok (.bipush (-2), 2) := by decide +kernel
theorem dX8_wayOf_122 : decode cX8_wayOf 122 = .ok (.ireturn, 1) := by decide +kernel
theorem dX8_wayOf_123 : decode cX8_wayOf 123 = .ok (.iload_n 2, 1) := by decide +kernel
theorem dX8_wayOf_124 : decode cX8_wayOf 124 = .ok (.ifCond .ne 12, 3) := by decide +kernel
theorem dX8_wayOf_127 : decode cX8_wayOf 127 = .ok (.aload_n 0, 1) := by decide +kernel
theorem dX8_wayOf_128 : decode cX8_wayOf 128 = .ok (.getfield 83, 3) := by decide +kernel
theorem dX8_wayOf_131 : decode cX8_wayOf 131 = .ok (.iload_n 3, 1) := by decide +kernel
theorem dX8_wayOf_132 : decode cX8_wayOf 132 = .ok (.iaload, 1) := by decide +kernel
theorem dX8_wayOf_133 : decode cX8_wayOf 133 = .ok (.goto 5, 3) := by decide +kernel
theorem dX8_wayOf_136 : decode cX8_wayOf 136 = .ok (.bipush (-2), 2) := by decide +kernel
theorem dX8_wayOf_138 : decode cX8_wayOf 138 = .ok (.ireturn, 1) := by decide +kernel
set_option maxHeartbeats 4000000 in
set_option maxRecDepth 100000 in
theorem s_X8_summary (l : Launch) (d : Nat) {P : PP} {h : HP} (hv : Iv P h) (a2 : Int32) (a3 : Int32) (a4 : Int32) (ck : CK P) : Mt l yX8_summary cX8_summary 4 (some .boolean) (d + 3) [.ref 70, .int a2, .int a3, .int a4] h 0 0 (fun r h' => ∃ v : Int32, r = some (.int v) ∧ 0 ≤ v.toInt ∧ v.toInt ≤ 1 ∧ Iv (gs P) h') := by
  refine Mt_iv hv (by decide) (Nat.le_of_ble_eq_true rfl) ?_
  show Go l RX8 cX8_summary 4 (g_rm (d + 3) 0 0) "summary" (some .boolean) 117 0 0 (fun _ _ => True) (fun r h' => ∃ v : Int32, r = some (.int v) ∧ 0 ≤ v.toInt ∧ v.toInt ≤ 1 ∧ Iv (gs P) h') 0 0 [(0, .ref 70), (1, .int a2), (2, .int a3), (3, .int a4)] [] h
  have key : ∀ n : Nat, (∀  (hx : HP), Iv (gs P) hx → (1 : Int) < n → Go l RX8 cX8_summary 4 (g_rm (d + 3) 0 0) "summary" (some .boolean) 117 0 0 (fun _ _ => True) (fun r h' => ∃ v : Int32, r = some (.int v) ∧ 0 ≤ v.toInt ∧ v.toInt ≤ 1 ∧ Iv (gs P) h') 0 43 [] [] hx) ∧ (∀ (s0 : Int32) (hx : HP), Iv (gs P) hx → 0 ≤ s0.toInt → s0.toInt ≤ 1 → (2 : Int) < n → Go l RX8 cX8_summary 4 (g_rm (d + 3) 0 0) "summary" (some .boolean) 117 0 0 (fun _ _ => True) (fun r h' => ∃ v : Int32, r = some (.int v) ∧ 0 ≤ v.toInt ∧ v.toInt ≤ 1 ∧ Iv (gs P) h') 0 78 [] [.int s0] hx) := by
    intro n
    induction n with
    | zero => exact ⟨(by intros; omega), (by intros; omega)⟩
    | succ n ih =>
      refine ⟨?_, ?_⟩
      ·
        intro hx hvx hm
        refine go_iconst (pc := 43) (v := 0) (by decide) dX8_summary_43 ?_
        exact gi_zret (pc := 44) (ti_c (v := 0) (a := 0) (by decide)) (by omega) (by omega) ⟨_, rfl, (by rw [show (0 : Int32).toInt = 0 from (ti_c (v := 0) (a := 0) (by decide))]; omega), (by rw [show (0 : Int32).toInt = 0 from (ti_c (v := 0) (a := 0) (by decide))]; omega), hvx⟩ hvx dX8_summary_44
      ·
        intro s0 hx hvx s0l s0u hm
        exact gi_zret (pc := 78) (ti_rfl s0) (by omega) (by omega) ⟨_, rfl, (by rw [show (s0 : Int32).toInt = s0.toInt from (ti_rfl s0)]; omega), (by rw [show (s0 : Int32).toInt = s0.toInt from (ti_rfl s0)]; omega), hvx⟩ hvx dX8_summary_78
  refine go_aload_n (pc := 0) rfl dX8_summary_0 ?_
  refine go_aload_n (pc := 1) rfl dX8_summary_1 ?_
  refine gi_get (pc := 2) (lo := 0) (hi := 1) hv fL_X8_228 rfl (Nat.le_of_ble_eq_true rfl) rfl rfl dX8_summary_2 (fun v1 v1l v1u v1w => ?_)
  refine gi_putS (pc := 5) hv v1w (fP_X8_187 _) dX8_summary_5 (fun h2 hv2 hv2e => ?_)
  refine go_aload_n (pc := 8) rfl dX8_summary_8 ?_
  refine go_iload_n (pc := 9) rfl dX8_summary_9 ?_
  refine go_invV (pc := 10) (sl := 0) (s_X8_isStatement l (d + 0) hv2 a2) mL_X8_389 iM_X8_isStatement sM_X8_isStatement (hv2.sh rfl) rfl rfl rfl (Nat.le_of_ble_eq_true rfl) (show d + 0 + 2 + 1 ≤ d + 3 by omega) (show 8 + (2 + 11) + 40 * (d + 0 + 2) ≤ 40 * (d + 3) by omega) (g_c0 hv2.ln) (Nat.le_of_ble_eq_true rfl) dX8_summary_10 ?_
  intro r h3 hq _
  obtain ⟨v4, rfl, v4l, v4u, rfl, f5⟩ := hq
  refine gf_if_eq (pc := 13) (tgt := 43) (ti_rfl v4) (by decide) dX8_summary_13 (fun q6 => ?_) (fun q6 => ?_)
  ·
    exact go_lv rfl ((key 15).1  h2 hv2  (by omega))
  ·
    refine go_aload_n (pc := 16) rfl dX8_summary_16 ?_
    refine go_iload_n (pc := 17) rfl dX8_summary_17 ?_
    refine go_invV (pc := 18) (sl := 0) (s_X8_kindAt l (d + 0) hv2 a2 (by rw [show (a2 : Int32).toInt = a2.toInt from (ti_rfl a2)]; omega) (by rw [show (a2 : Int32).toInt = a2.toInt from (ti_rfl a2)]; omega)) mL_X8_271 iM_X8_kindAt sM_X8_kindAt (hv2.sh rfl) rfl rfl rfl (Nat.le_of_ble_eq_true rfl) (show d + 0 + 2 + 1 ≤ d + 3 by omega) (show 8 + (2 + 11) + 40 * (d + 0 + 2) ≤ 40 * (d + 3) by omega) (g_c0 hv2.ln) (Nat.le_of_ble_eq_true rfl) dX8_summary_18 ?_
    intro r h7 hq _
    obtain ⟨v9, rfl, v9l, v9u, rfl, f8⟩ := hq
    refine go_iconst (pc := 21) (v := 1) (by decide) dX8_summary_21 ?_
    refine gf_icmp_ne (pc := 22) (tgt := 43) (ti_rfl v9) (ti_c (v := 1) (a := 1) (by decide)) (by decide) dX8_summary_22 (fun q10 => ?_) (fun q10 => ?_)
    ·
      exact go_lv rfl ((key 15).1  h2 hv2  (by omega))
    ·
      refine go_iload_n (pc := 25) rfl dX8_summary_25 ?_
      refine go_iconst (pc := 26) (v := 0) (by decide) dX8_summary_26 ?_
      refine go_iconst (pc := 27) (v := 5) (by decide) dX8_summary_27 ?_
      refine go_invS (pc := 28) (sl := 0) (s_X8_isIn l (d + 1) hv2 a3 0 5) mL_X8_159 iM_X8_isIn rfl rfl (Nat.le_of_ble_eq_true rfl) (show d + 1 + 1 + 1 ≤ d + 3 by omega) (show 8 + (3 + 11) + 40 * (d + 1 + 1) ≤ 40 * (d + 3) by omega) (g_c0 hv2.ln) (Nat.le_of_ble_eq_true rfl) dX8_summary_28 ?_
      intro r h11 hq _
      obtain ⟨v14, rfl, v14l, v14u, rfl, f12, f13⟩ := hq
      try rw [show (0 : Int32).toInt = 0 from (ti_c (v := 0) (a := 0) (by decide))] at f12
      try rw [show (5 : Int32).toInt = 5 from (ti_c (v := 5) (a := 5) (by decide))] at f12
      try rw [show (0 : Int32).toInt = 0 from (ti_c (v := 0) (a := 0) (by decide))] at f13
      try rw [show (5 : Int32).toInt = 5 from (ti_c (v := 5) (a := 5) (by decide))] at f13
      refine gf_if_eq (pc := 31) (tgt := 43) (ti_rfl v14) (by decide) dX8_summary_31 (fun q15 => ?_) (fun q15 => ?_)
      ·
        exact go_lv rfl ((key 15).1  h2 hv2  (by omega))
      ·
        refine go_iload_n (pc := 34) rfl dX8_summary_34 ?_
        refine go_iconst (pc := 35) (v := 0) (by decide) dX8_summary_35 ?_
        refine go_iconst (pc := 36) (v := 5) (by decide) dX8_summary_36 ?_
        refine go_invS (pc := 37) (sl := 0) (s_X8_isIn l (d + 1) hv2 a4 0 5) mL_X8_159 iM_X8_isIn rfl rfl (Nat.le_of_ble_eq_true rfl) (show d + 1 + 1 + 1 ≤ d + 3 by omega) (show 8 + (3 + 11) + 40 * (d + 1 + 1) ≤ 40 * (d + 3) by omega) (g_c0 hv2.ln) (Nat.le_of_ble_eq_true rfl) dX8_summary_37 ?_
        intro r h16 hq _
        obtain ⟨v19, rfl, v19l, v19u, rfl, f17, f18⟩ := hq
        try rw [show (0 : Int32).toInt = 0 from (ti_c (v := 0) (a := 0) (by decide))] at f17
        try rw [show (5 : Int32).toInt = 5 from (ti_c (v := 5) (a := 5) (by decide))] at f17
        try rw [show (0 : Int32).toInt = 0 from (ti_c (v := 0) (a := 0) (by decide))] at f18
        try rw [show (5 : Int32).toInt = 5 from (ti_c (v := 5) (a := 5) (by decide))] at f18
        refine gf_if_ne (pc := 40) (tgt := 45) (ti_rfl v19) (by decide) dX8_summary_40 (fun q20 => ?_) (fun q20 => ?_)
        ·
          refine go_aload_n (pc := 45) rfl dX8_summary_45 ?_
          refine gi_getF (pc := 46) (q := 108) hv2 fL_X8_124 rfl (Nat.le_of_ble_eq_true rfl) rfl (hv2.rf (by decide)) dX8_summary_46 ?_
          refine go_bipush (pc := 49) (v := 6) (by decide) dX8_summary_49 ?_
          refine go_aload_n (pc := 51) rfl dX8_summary_51 ?_
          refine gi_getF (pc := 52) (q := 84) hv2 fL_X8_50 rfl (Nat.le_of_ble_eq_true rfl) rfl (hv2.rf (by decide)) dX8_summary_52 ?_
          refine go_aload_n (pc := 55) rfl dX8_summary_55 ?_
          refine go_iload_n (pc := 56) rfl dX8_summary_56 ?_
          refine go_invV (pc := 57) (sl := 0) (s_X8_item l (d + 1) hv2 a2 (by rw [show (a2 : Int32).toInt = a2.toInt from (ti_rfl a2)]; omega) (by rw [show (a2 : Int32).toInt = a2.toInt from (ti_rfl a2)]; omega)) mL_X8_268 iM_X8_item sM_X8_item (hv2.sh rfl) rfl rfl rfl (Nat.le_of_ble_eq_true rfl) (show d + 1 + 1 + 1 ≤ d + 3 by omega) (show 8 + (2 + 11) + 40 * (d + 1 + 1) ≤ 40 * (d + 3) by omega) (g_c0 hv2.ln) (Nat.le_of_ble_eq_true rfl) dX8_summary_57 ?_
          intro r h21 hq _
          obtain ⟨v23, rfl, v23l, v23u, rfl, f22⟩ := hq
          refine gi_iald (pc := 60) (lo := -2) (hi := 4) (len := 260) hv2 (ti_rfl v23) rfl (by omega) (by omega) (fun _ => rfl) dX8_summary_60 (fun v24 v24l v24u v24w => ?_)
          have k25 : 0 ≤ v24.toInt := by
            rw [v24w]
            refine hv2.mc ck.gs ?_
            rw [f22]
            have e := f8
            unfold g_kd at e
            omega
          refine gf_imul (pc := 61) (ti_c (v := 6) (a := 6) (by decide)) (ti_rfl v24) (by omega) (by omega) dX8_summary_61 (fun v26 e27 => ?_)
          refine go_iload_n (pc := 62) rfl dX8_summary_62 ?_
          refine gf_iadd (pc := 63) e27 (ti_rfl a4) (by omega) (by omega) dX8_summary_63 (fun v28 e29 => ?_)
          refine gi_iald (pc := 64) (lo := -2147483648) (hi := 2147483647) (len := 30) hv2 e29 rfl (by omega) (by omega) (fun _ => rfl) dX8_summary_64 (fun v30 v30l v30u v30w => ?_)
          refine go_iload_n (pc := 65) rfl dX8_summary_65 ?_
          refine gu_ishr (pc := 66) dX8_summary_66 (fun v31 => ?_)
          refine go_iconst (pc := 67) (v := 1) (by decide) dX8_summary_67 ?_
          refine gf_iand (pc := 68) (ti_c (v := 1) (a := 1) (by decide)) (by omega) dX8_summary_68 (fun v32 v32l v32u => ?_)
          refine go_iconst (pc := 69) (v := 1) (by decide) dX8_summary_69 ?_
          refine gf_icmp_ne (pc := 70) (tgt := 77) (ti_rfl v32) (ti_c (v := 1) (a := 1) (by decide)) (by decide) dX8_summary_70 (fun q33 => ?_) (fun q33 => ?_)
          ·
            refine go_iconst (pc := 77) (v := 0) (by decide) dX8_summary_77 ?_
            have z34 : (0 : Int32).toInt = 0 := (ti_c (v := 0) (a := 0) (by decide))
            exact go_lv rfl ((key 15).2 0 h2 hv2 (by omega) (by omega) (by omega))
          ·
            refine go_iconst (pc := 73) (v := 1) (by decide) dX8_summary_73 ?_
            refine go_goto (pc := 74) (tgt := 78) (by decide) dX8_summary_74 ?_
            have z35 : (1 : Int32).toInt = 1 := (ti_c (v := 1) (a := 1) (by decide))
            exact go_lv rfl ((key 15).2 1 h2 hv2 (by omega) (by omega) (by omega))
        ·
          exact go_lv rfl ((key 15).1  h2 hv2  (by omega))
set_option maxHeartbeats 4000000 in
set_option maxRecDepth 100000 in
theorem s_X8_isWanted (l : Launch) (d : Nat) {P : PP} {h : HP} (hv : Iv P h) (a2 : Int32) (a2l : 0 ≤ a2.toInt) (a2u : a2.toInt ≤ 39) (a3 : Int32) (a3l : 1 ≤ a3.toInt) (a3u : a3.toInt ≤ 6) (ck : CK P) : Mt l yX8_isWanted cX8_isWanted 3 (some .boolean) (d + 3) [.ref 70, .int a2, .int a3] h 0 0 (fun r h' => ∃ v : Int32, r = some (.int v) ∧ 0 ≤ v.toInt ∧ v.toInt ≤ 1 ∧ h = h') := by
  refine Mt_iv hv (by decide) (Nat.le_of_ble_eq_true rfl) ?_
  show Go l RX8 cX8_isWanted 3 (g_rm (d + 3) 0 0) "isWanted" (some .boolean) 117 0 0 (fun _ _ => True) (fun r h' => ∃ v : Int32, r = some (.int v) ∧ 0 ≤ v.toInt ∧ v.toInt ≤ 1 ∧ h = h') 0 0 [(0, .ref 70), (1, .int a2), (2, .int a3)] [] h
  have key : ∀ n : Nat, (∀ (_ : Unit), (1 : Int) < n → Go l RX8 cX8_isWanted 3 (g_rm (d + 3) 0 0) "isWanted" (some .boolean) 117 0 0 (fun _ _ => True) (fun r h' => ∃ v : Int32, r = some (.int v) ∧ 0 ≤ v.toInt ∧ v.toInt ≤ 1 ∧ h = h') 0 30 [] [] h) ∧ (∀ (_ : Unit), (3 : Int) < n → Go l RX8 cX8_isWanted 3 (g_rm (d + 3) 0 0) "isWanted" (some .boolean) 117 0 0 (fun _ _ => True) (fun r h' => ∃ v : Int32, r = some (.int v) ∧ 0 ≤ v.toInt ∧ v.toInt ≤ 1 ∧ h = h') 0 56 [] [] h) ∧ (∀ (s0 : Int32), 0 ≤ s0.toInt → s0.toInt ≤ 1 → (2 : Int) < n → Go l RX8 cX8_isWanted 3 (g_rm (d + 3) 0 0) "isWanted" (some .boolean) 117 0 0 (fun _ _ => True) (fun r h' => ∃ v : Int32, r = some (.int v) ∧ 0 ≤ v.toInt ∧ v.toInt ≤ 1 ∧ h = h') 0 57 [] [.int s0] h) := by
    intro n
    induction n with
    | zero => exact ⟨(by intros; omega), (by intros; omega), (by intros; omega)⟩
    | succ n ih =>
      refine ⟨?_, ?_, ?_⟩
      ·
        intro _ hm
        refine go_iconst (pc := 30) (v := 0) (by decide) dX8_isWanted_30 ?_
        exact gi_zret (pc := 31) (ti_c (v := 0) (a := 0) (by decide)) (by omega) (by omega) ⟨_, rfl, (by rw [show (0 : Int32).toInt = 0 from (ti_c (v := 0) (a := 0) (by decide))]; omega), (by rw [show (0 : Int32).toInt = 0 from (ti_c (v := 0) (a := 0) (by decide))]; omega), rfl⟩ hv dX8_isWanted_31
      ·
        intro _ hm
        refine go_iconst (pc := 56) (v := 0) (by decide) dX8_isWanted_56 ?_
        have z1 : (0 : Int32).toInt = 0 := (ti_c (v := 0) (a := 0) (by decide))
        exact go_lv rfl (ih.2.2 0  (by omega) (by omega) (by omega))
      ·
        intro s0 s0l s0u hm
        exact gi_zret (pc := 57) (ti_rfl s0) (by omega) (by omega) ⟨_, rfl, (by rw [show (s0 : Int32).toInt = s0.toInt from (ti_rfl s0)]; omega), (by rw [show (s0 : Int32).toInt = s0.toInt from (ti_rfl s0)]; omega), rfl⟩ hv dX8_isWanted_57
  refine go_aload_n (pc := 0) rfl dX8_isWanted_0 ?_
  refine go_iload_n (pc := 1) rfl dX8_isWanted_1 ?_
  refine go_invV (pc := 2) (sl := 0) (s_X8_kindAt l (d + 0) hv a2 (by rw [show (a2 : Int32).toInt = a2.toInt from (ti_rfl a2)]; omega) (by rw [show (a2 : Int32).toInt = a2.toInt from (ti_rfl a2)]; omega)) mL_X8_271 iM_X8_kindAt sM_X8_kindAt (hv.sh rfl) rfl rfl rfl (Nat.le_of_ble_eq_true rfl) (show d + 0 + 2 + 1 ≤ d + 3 by omega) (show 8 + (2 + 11) + 40 * (d + 0 + 2) ≤ 40 * (d + 3) by omega) (g_c0 hv.ln) (Nat.le_of_ble_eq_true rfl) dX8_isWanted_2 ?_
  intro r h2 hq _
  obtain ⟨v4, rfl, v4l, v4u, rfl, f3⟩ := hq
  refine go_iconst (pc := 5) (v := 1) (by decide) dX8_isWanted_5 ?_
  refine gf_icmp_ne (pc := 6) (tgt := 30) (ti_rfl v4) (ti_c (v := 1) (a := 1) (by decide)) (by decide) dX8_isWanted_6 (fun q5 => ?_) (fun q5 => ?_)
  ·
    exact go_lv rfl ((key 16).1 ()   (by omega))
  ·
    refine go_aload_n (pc := 9) rfl dX8_isWanted_9 ?_
    refine go_aload_n (pc := 10) rfl dX8_isWanted_10 ?_
    refine gi_getF (pc := 11) (q := 84) hv fL_X8_50 rfl (Nat.le_of_ble_eq_true rfl) rfl (hv.rf (by decide)) dX8_isWanted_11 ?_
    refine go_aload_n (pc := 14) rfl dX8_isWanted_14 ?_
    refine go_iload_n (pc := 15) rfl dX8_isWanted_15 ?_
    refine go_invV (pc := 16) (sl := 0) (s_X8_item l (d + 1) hv a2 (by rw [show (a2 : Int32).toInt = a2.toInt from (ti_rfl a2)]; omega) (by rw [show (a2 : Int32).toInt = a2.toInt from (ti_rfl a2)]; omega)) mL_X8_268 iM_X8_item sM_X8_item (hv.sh rfl) rfl rfl rfl (Nat.le_of_ble_eq_true rfl) (show d + 1 + 1 + 1 ≤ d + 3 by omega) (show 8 + (2 + 11) + 40 * (d + 1 + 1) ≤ 40 * (d + 3) by omega) (g_c0 hv.ln) (Nat.le_of_ble_eq_true rfl) dX8_isWanted_16 ?_
    intro r h6 hq _
    obtain ⟨v8, rfl, v8l, v8u, rfl, f7⟩ := hq
    refine gi_iald (pc := 19) (lo := -2) (hi := 4) (len := 260) hv (ti_rfl v8) rfl (by omega) (by omega) (fun _ => rfl) dX8_isWanted_19 (fun v9 v9l v9u v9w => ?_)
    have k10 : 0 ≤ v9.toInt := by
      rw [v9w]
      refine hv.mc ck ?_
      rw [f7]
      have e := f3
      unfold g_kd at e
      omega
    refine go_iload_n (pc := 20) rfl dX8_isWanted_20 ?_
    refine go_invS (pc := 21) (sl := 0) (s_X8_procedurePlace l (d + 1) hv v9 (by rw [show (v9 : Int32).toInt = v9.toInt from (ti_rfl v9)]; omega) (by rw [show (v9 : Int32).toInt = v9.toInt from (ti_rfl v9)]; omega) a3 (by rw [show (a3 : Int32).toInt = a3.toInt from (ti_rfl a3)]; omega) (by rw [show (a3 : Int32).toInt = a3.toInt from (ti_rfl a3)]; omega)) mL_X8_300 iM_X8_procedurePlace rfl rfl (Nat.le_of_ble_eq_true rfl) (show d + 1 + 1 + 1 ≤ d + 3 by omega) (show 8 + (2 + 11) + 40 * (d + 1 + 1) ≤ 40 * (d + 3) by omega) (g_c0 hv.ln) (Nat.le_of_ble_eq_true rfl) dX8_isWanted_21 ?_
    intro r h11 hq _
    obtain ⟨v12, rfl, v12l, v12u, rfl⟩ := hq
    refine go_invV (pc := 24) (sl := 0) (s_X8_isKept l (d + 1) hv v12 (by rw [show (v12 : Int32).toInt = v12.toInt from (ti_rfl v12)]; omega) (by rw [show (v12 : Int32).toInt = v12.toInt from (ti_rfl v12)]; omega)) mL_X8_401 iM_X8_isKept sM_X8_isKept (hv.sh rfl) rfl rfl rfl (Nat.le_of_ble_eq_true rfl) (show d + 1 + 1 + 1 ≤ d + 3 by omega) (show 8 + (2 + 11) + 40 * (d + 1 + 1) ≤ 40 * (d + 3) by omega) (g_c0 hv.ln) (Nat.le_of_ble_eq_true rfl) dX8_isWanted_24 ?_
    intro r h13 hq _
    obtain ⟨v14, rfl, v14l, v14u, rfl⟩ := hq
    refine gf_if_ne (pc := 27) (tgt := 32) (ti_rfl v14) (by decide) dX8_isWanted_27 (fun q15 => ?_) (fun q15 => ?_)
    ·
      refine go_aload_n (pc := 32) rfl dX8_isWanted_32 ?_
      refine go_iload_n (pc := 33) rfl dX8_isWanted_33 ?_
      refine go_invV (pc := 34) (sl := 0) (s_X8_isAnyKept l (d + 0) hv a2 (by rw [show (a2 : Int32).toInt = a2.toInt from (ti_rfl a2)]; omega) (by rw [show (a2 : Int32).toInt = a2.toInt from (ti_rfl a2)]; omega)) mL_X8_404 iM_X8_isAnyKept sM_X8_isAnyKept (hv.sh rfl) rfl rfl rfl (Nat.le_of_ble_eq_true rfl) (show d + 0 + 2 + 1 ≤ d + 3 by omega) (show 8 + (3 + 11) + 40 * (d + 0 + 2) ≤ 40 * (d + 3) by omega) (g_c0 hv.ln) (Nat.le_of_ble_eq_true rfl) dX8_isWanted_34 ?_
      intro r h16 hq _
      obtain ⟨v17, rfl, v17l, v17u, rfl⟩ := hq
      refine gf_if_eq (pc := 37) (tgt := 56) (ti_rfl v17) (by decide) dX8_isWanted_37 (fun q18 => ?_) (fun q18 => ?_)
      ·
        exact go_lv rfl ((key 16).2.1 ()   (by omega))
      ·
        refine go_aload_n (pc := 40) rfl dX8_isWanted_40 ?_
        refine go_iload_n (pc := 41) rfl dX8_isWanted_41 ?_
        refine go_iload_n (pc := 42) rfl dX8_isWanted_42 ?_
        refine go_invS (pc := 43) (sl := 0) (s_X8_statementPlace l (d + 1) hv a2 (by rw [show (a2 : Int32).toInt = a2.toInt from (ti_rfl a2)]; omega) (by rw [show (a2 : Int32).toInt = a2.toInt from (ti_rfl a2)]; omega) a3 (by rw [show (a3 : Int32).toInt = a3.toInt from (ti_rfl a3)]; omega) (by rw [show (a3 : Int32).toInt = a3.toInt from (ti_rfl a3)]; omega)) mL_X8_291 iM_X8_statementPlace rfl rfl (Nat.le_of_ble_eq_true rfl) (show d + 1 + 1 + 1 ≤ d + 3 by omega) (show 8 + (2 + 11) + 40 * (d + 1 + 1) ≤ 40 * (d + 3) by omega) (g_c0 hv.ln) (Nat.le_of_ble_eq_true rfl) dX8_isWanted_43 ?_
        intro r h19 hq _
        obtain ⟨v20, rfl, v20l, v20u, rfl⟩ := hq
        refine go_invV (pc := 46) (sl := 0) (s_X8_isKept l (d + 1) hv v20 (by rw [show (v20 : Int32).toInt = v20.toInt from (ti_rfl v20)]; omega) (by rw [show (v20 : Int32).toInt = v20.toInt from (ti_rfl v20)]; omega)) mL_X8_401 iM_X8_isKept sM_X8_isKept (hv.sh rfl) rfl rfl rfl (Nat.le_of_ble_eq_true rfl) (show d + 1 + 1 + 1 ≤ d + 3 by omega) (show 8 + (2 + 11) + 40 * (d + 1 + 1) ≤ 40 * (d + 3) by omega) (g_c0 hv.ln) (Nat.le_of_ble_eq_true rfl) dX8_isWanted_46 ?_
        intro r h21 hq _
        obtain ⟨v22, rfl, v22l, v22u, rfl⟩ := hq
        refine gf_if_ne (pc := 49) (tgt := 56) (ti_rfl v22) (by decide) dX8_isWanted_49 (fun q23 => ?_) (fun q23 => ?_)
        ·
          exact go_lv rfl ((key 16).2.1 ()   (by omega))
        ·
          refine go_iconst (pc := 52) (v := 1) (by decide) dX8_isWanted_52 ?_
          refine go_goto (pc := 53) (tgt := 57) (by decide) dX8_isWanted_53 ?_
          have z24 : (1 : Int32).toInt = 1 := (ti_c (v := 1) (a := 1) (by decide))
          exact go_lv rfl ((key 16).2.2 1  (by omega) (by omega) (by omega))
    ·
      exact go_lv rfl ((key 16).1 ()   (by omega))
set_option maxHeartbeats 4000000 in
set_option maxRecDepth 100000 in
theorem s_X8_isThrowing (l : Launch) (d : Nat) {P : PP} {h : HP} (hv : Iv P h) (a2 : Int32) (a2l : 0 ≤ a2.toInt) (a2u : a2.toInt ≤ 39) (ck : CK P) : Mt l yX8_isThrowing cX8_isThrowing 2 (some .boolean) (d + 3) [.ref 70, .int a2] h 0 0 (fun r h' => ∃ v : Int32, r = some (.int v) ∧ 0 ≤ v.toInt ∧ v.toInt ≤ 1 ∧ h = h') := by
  refine Mt_iv hv (by decide) (Nat.le_of_ble_eq_true rfl) ?_
  show Go l RX8 cX8_isThrowing 2 (g_rm (d + 3) 0 0) "isThrowing" (some .boolean) 117 0 0 (fun _ _ => True) (fun r h' => ∃ v : Int32, r = some (.int v) ∧ 0 ≤ v.toInt ∧ v.toInt ≤ 1 ∧ h = h') 0 0 [(0, .ref 70), (1, .int a2)] [] h
  have key : ∀ n : Nat, (∀ (_ : Unit), (2 : Int) < n → Go l RX8 cX8_isThrowing 2 (g_rm (d + 3) 0 0) "isThrowing" (some .boolean) 117 0 0 (fun _ _ => True) (fun r h' => ∃ v : Int32, r = some (.int v) ∧ 0 ≤ v.toInt ∧ v.toInt ≤ 1 ∧ h = h') 0 38 [] [] h) ∧ (∀ (s0 : Int32), 0 ≤ s0.toInt → s0.toInt ≤ 1 → (1 : Int) < n → Go l RX8 cX8_isThrowing 2 (g_rm (d + 3) 0 0) "isThrowing" (some .boolean) 117 0 0 (fun _ _ => True) (fun r h' => ∃ v : Int32, r = some (.int v) ∧ 0 ≤ v.toInt ∧ v.toInt ≤ 1 ∧ h = h') 0 39 [] [.int s0] h) := by
    intro n
    induction n with
    | zero => exact ⟨(by intros; omega), (by intros; omega)⟩
    | succ n ih =>
      refine ⟨?_, ?_⟩
      ·
        intro _ hm
        refine go_iconst (pc := 38) (v := 0) (by decide) dX8_isThrowing_38 ?_
        have z1 : (0 : Int32).toInt = 0 := (ti_c (v := 0) (a := 0) (by decide))
        exact go_lv rfl (ih.2 0  (by omega) (by omega) (by omega))
      ·
        intro s0 s0l s0u hm
        exact gi_zret (pc := 39) (ti_rfl s0) (by omega) (by omega) ⟨_, rfl, (by rw [show (s0 : Int32).toInt = s0.toInt from (ti_rfl s0)]; omega), (by rw [show (s0 : Int32).toInt = s0.toInt from (ti_rfl s0)]; omega), rfl⟩ hv dX8_isThrowing_39
  refine go_aload_n (pc := 0) rfl dX8_isThrowing_0 ?_
  refine go_iload_n (pc := 1) rfl dX8_isThrowing_1 ?_
  refine go_invV (pc := 2) (sl := 0) (s_X8_kindAt l (d + 0) hv a2 (by rw [show (a2 : Int32).toInt = a2.toInt from (ti_rfl a2)]; omega) (by rw [show (a2 : Int32).toInt = a2.toInt from (ti_rfl a2)]; omega)) mL_X8_271 iM_X8_kindAt sM_X8_kindAt (hv.sh rfl) rfl rfl rfl (Nat.le_of_ble_eq_true rfl) (show d + 0 + 2 + 1 ≤ d + 3 by omega) (show 8 + (2 + 11) + 40 * (d + 0 + 2) ≤ 40 * (d + 3) by omega) (g_c0 hv.ln) (Nat.le_of_ble_eq_true rfl) dX8_isThrowing_2 ?_
  intro r h2 hq _
  obtain ⟨v4, rfl, v4l, v4u, rfl, f3⟩ := hq
  refine go_iconst (pc := 5) (v := 1) (by decide) dX8_isThrowing_5 ?_
  refine gf_icmp_ne (pc := 6) (tgt := 38) (ti_rfl v4) (ti_c (v := 1) (a := 1) (by decide)) (by decide) dX8_isThrowing_6 (fun q5 => ?_) (fun q5 => ?_)
  ·
    exact go_lv rfl ((key 15).1 ()   (by omega))
  ·
    refine go_aload_n (pc := 9) rfl dX8_isThrowing_9 ?_
    refine gi_getF (pc := 10) (q := 102) hv fL_X8_105 rfl (Nat.le_of_ble_eq_true rfl) rfl (hv.rf (by decide)) dX8_isThrowing_10 ?_
    refine go_iconst (pc := 13) (v := 5) (by decide) dX8_isThrowing_13 ?_
    refine go_aload_n (pc := 14) rfl dX8_isThrowing_14 ?_
    refine gi_get (pc := 15) (lo := 0) (hi := 1) hv fL_X8_187 rfl (Nat.le_of_ble_eq_true rfl) rfl rfl dX8_isThrowing_15 (fun v6 v6l v6u v6w => ?_)
    refine gf_imul (pc := 18) (ti_c (v := 5) (a := 5) (by decide)) (ti_rfl v6) (by omega) (by omega) dX8_isThrowing_18 (fun v7 e8 => ?_)
    refine go_aload_n (pc := 19) rfl dX8_isThrowing_19 ?_
    refine gi_getF (pc := 20) (q := 84) hv fL_X8_50 rfl (Nat.le_of_ble_eq_true rfl) rfl (hv.rf (by decide)) dX8_isThrowing_20 ?_
    refine go_aload_n (pc := 23) rfl dX8_isThrowing_23 ?_
    refine go_iload_n (pc := 24) rfl dX8_isThrowing_24 ?_
    refine go_invV (pc := 25) (sl := 0) (s_X8_item l (d + 1) hv a2 (by rw [show (a2 : Int32).toInt = a2.toInt from (ti_rfl a2)]; omega) (by rw [show (a2 : Int32).toInt = a2.toInt from (ti_rfl a2)]; omega)) mL_X8_268 iM_X8_item sM_X8_item (hv.sh rfl) rfl rfl rfl (Nat.le_of_ble_eq_true rfl) (show d + 1 + 1 + 1 ≤ d + 3 by omega) (show 8 + (2 + 11) + 40 * (d + 1 + 1) ≤ 40 * (d + 3) by omega) (g_c0 hv.ln) (Nat.le_of_ble_eq_true rfl) dX8_isThrowing_25 ?_
    intro r h9 hq _
    obtain ⟨v11, rfl, v11l, v11u, rfl, f10⟩ := hq
    refine gi_iald (pc := 28) (lo := -2) (hi := 4) (len := 260) hv (ti_rfl v11) rfl (by omega) (by omega) (fun _ => rfl) dX8_isThrowing_28 (fun v12 v12l v12u v12w => ?_)
    have k13 : 0 ≤ v12.toInt := by
      rw [v12w]
      refine hv.mc ck ?_
      rw [f10]
      have e := f3
      unfold g_kd at e
      omega
    refine gf_iadd (pc := 29) e8 (ti_rfl v12) (by omega) (by omega) dX8_isThrowing_29 (fun v14 e15 => ?_)
    refine gi_zald (pc := 30) (lo := 0) (hi := 1) (len := 10) hv e15 rfl (by omega) (by omega) (fun _ => rfl) dX8_isThrowing_30 (fun v16 v16l v16u v16w => ?_)
    refine gf_if_eq (pc := 31) (tgt := 38) (ti_rfl v16) (by decide) dX8_isThrowing_31 (fun q17 => ?_) (fun q17 => ?_)
    ·
      exact go_lv rfl ((key 15).1 ()   (by omega))
    ·
      refine go_iconst (pc := 34) (v := 1) (by decide) dX8_isThrowing_34 ?_
      refine go_goto (pc := 35) (tgt := 39) (by decide) dX8_isThrowing_35 ?_
      have z18 : (1 : Int32).toInt = 1 := (ti_c (v := 1) (a := 1) (by decide))
      exact go_lv rfl ((key 15).2 1  (by omega) (by omega) (by omega))
set_option maxHeartbeats 4000000 in
set_option maxRecDepth 100000 in
theorem s_X8_isReturning (l : Launch) (d : Nat) {P : PP} {h : HP} (hv : Iv P h) (a2 : Int32) (a2l : 0 ≤ a2.toInt) (a2u : a2.toInt ≤ 39) (ck : CK P) : Mt l yX8_isReturning cX8_isReturning 2 (some .boolean) (d + 3) [.ref 70, .int a2] h 0 0 (fun r h' => ∃ v : Int32, r = some (.int v) ∧ 0 ≤ v.toInt ∧ v.toInt ≤ 1 ∧ h = h') := by
  refine Mt_iv hv (by decide) (Nat.le_of_ble_eq_true rfl) ?_
  show Go l RX8 cX8_isReturning 2 (g_rm (d + 3) 0 0) "isReturning" (some .boolean) 117 0 0 (fun _ _ => True) (fun r h' => ∃ v : Int32, r = some (.int v) ∧ 0 ≤ v.toInt ∧ v.toInt ≤ 1 ∧ h = h') 0 0 [(0, .ref 70), (1, .int a2)] [] h
  have key : ∀ n : Nat, (∀ (_ : Unit), (2 : Int) < n → Go l RX8 cX8_isReturning 2 (g_rm (d + 3) 0 0) "isReturning" (some .boolean) 117 0 0 (fun _ _ => True) (fun r h' => ∃ v : Int32, r = some (.int v) ∧ 0 ≤ v.toInt ∧ v.toInt ≤ 1 ∧ h = h') 0 38 [] [] h) ∧ (∀ (s0 : Int32), 0 ≤ s0.toInt → s0.toInt ≤ 1 → (1 : Int) < n → Go l RX8 cX8_isReturning 2 (g_rm (d + 3) 0 0) "isReturning" (some .boolean) 117 0 0 (fun _ _ => True) (fun r h' => ∃ v : Int32, r = some (.int v) ∧ 0 ≤ v.toInt ∧ v.toInt ≤ 1 ∧ h = h') 0 39 [] [.int s0] h) := by
    intro n
    induction n with
    | zero => exact ⟨(by intros; omega), (by intros; omega)⟩
    | succ n ih =>
      refine ⟨?_, ?_⟩
      ·
        intro _ hm
        refine go_iconst (pc := 38) (v := 0) (by decide) dX8_isReturning_38 ?_
        have z1 : (0 : Int32).toInt = 0 := (ti_c (v := 0) (a := 0) (by decide))
        exact go_lv rfl (ih.2 0  (by omega) (by omega) (by omega))
      ·
        intro s0 s0l s0u hm
        exact gi_zret (pc := 39) (ti_rfl s0) (by omega) (by omega) ⟨_, rfl, (by rw [show (s0 : Int32).toInt = s0.toInt from (ti_rfl s0)]; omega), (by rw [show (s0 : Int32).toInt = s0.toInt from (ti_rfl s0)]; omega), rfl⟩ hv dX8_isReturning_39
  refine go_aload_n (pc := 0) rfl dX8_isReturning_0 ?_
  refine go_iload_n (pc := 1) rfl dX8_isReturning_1 ?_
  refine go_invV (pc := 2) (sl := 0) (s_X8_kindAt l (d + 0) hv a2 (by rw [show (a2 : Int32).toInt = a2.toInt from (ti_rfl a2)]; omega) (by rw [show (a2 : Int32).toInt = a2.toInt from (ti_rfl a2)]; omega)) mL_X8_271 iM_X8_kindAt sM_X8_kindAt (hv.sh rfl) rfl rfl rfl (Nat.le_of_ble_eq_true rfl) (show d + 0 + 2 + 1 ≤ d + 3 by omega) (show 8 + (2 + 11) + 40 * (d + 0 + 2) ≤ 40 * (d + 3) by omega) (g_c0 hv.ln) (Nat.le_of_ble_eq_true rfl) dX8_isReturning_2 ?_
  intro r h2 hq _
  obtain ⟨v4, rfl, v4l, v4u, rfl, f3⟩ := hq
  refine go_iconst (pc := 5) (v := 1) (by decide) dX8_isReturning_5 ?_
  refine gf_icmp_ne (pc := 6) (tgt := 38) (ti_rfl v4) (ti_c (v := 1) (a := 1) (by decide)) (by decide) dX8_isReturning_6 (fun q5 => ?_) (fun q5 => ?_)
  ·
    exact go_lv rfl ((key 15).1 ()   (by omega))
  ·
    refine go_aload_n (pc := 9) rfl dX8_isReturning_9 ?_
    refine gi_getF (pc := 10) (q := 101) hv fL_X8_101 rfl (Nat.le_of_ble_eq_true rfl) rfl (hv.rf (by decide)) dX8_isReturning_10 ?_
    refine go_iconst (pc := 13) (v := 5) (by decide) dX8_isReturning_13 ?_
    refine go_aload_n (pc := 14) rfl dX8_isReturning_14 ?_
    refine gi_get (pc := 15) (lo := 0) (hi := 1) hv fL_X8_187 rfl (Nat.le_of_ble_eq_true rfl) rfl rfl dX8_isReturning_15 (fun v6 v6l v6u v6w => ?_)
    refine gf_imul (pc := 18) (ti_c (v := 5) (a := 5) (by decide)) (ti_rfl v6) (by omega) (by omega) dX8_isReturning_18 (fun v7 e8 => ?_)
    refine go_aload_n (pc := 19) rfl dX8_isReturning_19 ?_
    refine gi_getF (pc := 20) (q := 84) hv fL_X8_50 rfl (Nat.le_of_ble_eq_true rfl) rfl (hv.rf (by decide)) dX8_isReturning_20 ?_
    refine go_aload_n (pc := 23) rfl dX8_isReturning_23 ?_
    refine go_iload_n (pc := 24) rfl dX8_isReturning_24 ?_
    refine go_invV (pc := 25) (sl := 0) (s_X8_item l (d + 1) hv a2 (by rw [show (a2 : Int32).toInt = a2.toInt from (ti_rfl a2)]; omega) (by rw [show (a2 : Int32).toInt = a2.toInt from (ti_rfl a2)]; omega)) mL_X8_268 iM_X8_item sM_X8_item (hv.sh rfl) rfl rfl rfl (Nat.le_of_ble_eq_true rfl) (show d + 1 + 1 + 1 ≤ d + 3 by omega) (show 8 + (2 + 11) + 40 * (d + 1 + 1) ≤ 40 * (d + 3) by omega) (g_c0 hv.ln) (Nat.le_of_ble_eq_true rfl) dX8_isReturning_25 ?_
    intro r h9 hq _
    obtain ⟨v11, rfl, v11l, v11u, rfl, f10⟩ := hq
    refine gi_iald (pc := 28) (lo := -2) (hi := 4) (len := 260) hv (ti_rfl v11) rfl (by omega) (by omega) (fun _ => rfl) dX8_isReturning_28 (fun v12 v12l v12u v12w => ?_)
    have k13 : 0 ≤ v12.toInt := by
      rw [v12w]
      refine hv.mc ck ?_
      rw [f10]
      have e := f3
      unfold g_kd at e
      omega
    refine gf_iadd (pc := 29) e8 (ti_rfl v12) (by omega) (by omega) dX8_isReturning_29 (fun v14 e15 => ?_)
    refine gi_zald (pc := 30) (lo := 0) (hi := 1) (len := 10) hv e15 rfl (by omega) (by omega) (fun _ => rfl) dX8_isReturning_30 (fun v16 v16l v16u v16w => ?_)
    refine gf_if_eq (pc := 31) (tgt := 38) (ti_rfl v16) (by decide) dX8_isReturning_31 (fun q17 => ?_) (fun q17 => ?_)
    ·
      exact go_lv rfl ((key 15).1 ()   (by omega))
    ·
      refine go_iconst (pc := 34) (v := 1) (by decide) dX8_isReturning_34 ?_
      refine go_goto (pc := 35) (tgt := 39) (by decide) dX8_isReturning_35 ?_
      have z18 : (1 : Int32).toInt = 1 := (ti_c (v := 1) (a := 1) (by decide))
      exact go_lv rfl ((key 15).2 1  (by omega) (by omega) (by omega))
set_option maxHeartbeats 4000000 in
set_option maxRecDepth 100000 in
theorem s_X8_way (l : Launch) (d : Nat) {P : PP} {h : HP} (hv : Iv P h) (a2 : Int32) (a2l : 0 ≤ a2.toInt) (a2u : a2.toInt ≤ 39) (a3 : Int32) (ck : CK P) : Mt l yX8_way cX8_way 4 (some .int) (d + 4) [.ref 70, .int a2, .int a3] h 0 0 (fun r h' => ∃ v : Int32, r = some (.int v) ∧ -2 ≤ v.toInt ∧ v.toInt ≤ 39 ∧ h = h') := by
  refine Mt_iv hv (by decide) (Nat.le_of_ble_eq_true rfl) ?_
  show Go l RX8 cX8_way 4 (g_rm (d + 4) 0 0) "way" (some .int) 117 0 0 (fun _ _ => True) (fun r h' => ∃ v : Int32, r = some (.int v) ∧ -2 ≤ v.toInt ∧ v.toInt ≤ 39 ∧ h = h') 0 0 [(0, .ref 70), (1, .int a2), (2, .int a3)] [] h
  have key : ∀ n : Nat, (∀ (s0 : Int32), -2 ≤ s0.toInt → s0.toInt ≤ 39 → (1 : Int) < n → Go l RX8 cX8_way 4 (g_rm (d + 4) 0 0) "way" (some .int) 117 0 0 (fun _ _ => True) (fun r h' => ∃ v : Int32, r = some (.int v) ∧ -2 ≤ v.toInt ∧ v.toInt ≤ 39 ∧ h = h') 0 63 [] [.int s0] h) ∧ (∀ (s0 : Int32), -2 ≤ s0.toInt → s0.toInt ≤ 39 → (2 : Int) < n → Go l RX8 cX8_way 4 (g_rm (d + 4) 0 0) "way" (some .int) 117 0 0 (fun _ _ => True) (fun r h' => ∃ v : Int32, r = some (.int v) ∧ -2 ≤ v.toInt ∧ v.toInt ≤ 39 ∧ h = h') 0 109 [] [.int s0] h) ∧ (∀ (s0 : Int32), -2 ≤ s0.toInt → s0.toInt ≤ 39 → (3 : Int) < n → Go l RX8 cX8_way 4 (g_rm (d + 4) 0 0) "way" (some .int) 117 0 0 (fun _ _ => True) (fun r h' => ∃ v : Int32, r = some (.int v) ∧ -2 ≤ v.toInt ∧ v.toInt ≤ 39 ∧ h = h') 0 129 [] [.int s0] h) ∧ (∀ (s0 : Int32), -2 ≤ s0.toInt → s0.toInt ≤ 39 → (4 : Int) < n → Go l RX8 cX8_way 4 (g_rm (d + 4) 0 0) "way" (some .int) 117 0 0 (fun _ _ => True) (fun r h' => ∃ v : Int32, r = some (.int v) ∧ -2 ≤ v.toInt ∧ v.toInt ≤ 39 ∧ h = h') 0 149 [] [.int s0] h) ∧ (∀ (s0 : Int32), -2 ≤ s0.toInt → s0.toInt ≤ 39 → (5 : Int) < n → Go l RX8 cX8_way 4 (g_rm (d + 4) 0 0) "way" (some .int) 117 0 0 (fun _ _ => True) (fun r h' => ∃ v : Int32, r = some (.int v) ∧ -2 ≤ v.toInt ∧ v.toInt ≤ 39 ∧ h = h') 0 165 [] [.int s0] h) ∧ (∀ (s0 : Int32), -2 ≤ s0.toInt → s0.toInt ≤ -1 → (6 : Int) < n → Go l RX8 cX8_way 4 (g_rm (d + 4) 0 0) "way" (some .int) 117 0 0 (fun _ _ => True) (fun r h' => ∃ v : Int32, r = some (.int v) ∧ -2 ≤ v.toInt ∧ v.toInt ≤ 39 ∧ h = h') 0 176 [] [.int s0] h) := by
    intro n
    induction n with
    | zero => exact ⟨(by intros; omega), (by intros; omega), (by intros; omega), (by intros; omega), (by intros; omega), (by intros; omega)⟩
    | succ n ih =>
      refine ⟨?_, ?_, ?_, ?_, ?_, ?_⟩
      ·
        intro s0 s0l s0u hm
        exact gi_iret (pc := 63) (ti_rfl s0) ⟨_, rfl, (by rw [show (s0 : Int32).toInt = s0.toInt from (ti_rfl s0)]; omega), (by rw [show (s0 : Int32).toInt = s0.toInt from (ti_rfl s0)]; omega), rfl⟩ hv dX8_way_63
      ·
        intro s0 s0l s0u hm
        exact gi_iret (pc := 109) (ti_rfl s0) ⟨_, rfl, (by rw [show (s0 : Int32).toInt = s0.toInt from (ti_rfl s0)]; omega), (by rw [show (s0 : Int32).toInt = s0.toInt from (ti_rfl s0)]; omega), rfl⟩ hv dX8_way_109
      ·
        intro s0 s0l s0u hm
        exact gi_iret (pc := 129) (ti_rfl s0) ⟨_, rfl, (by rw [show (s0 : Int32).toInt = s0.toInt from (ti_rfl s0)]; omega), (by rw [show (s0 : Int32).toInt = s0.toInt from (ti_rfl s0)]; omega), rfl⟩ hv dX8_way_129
      ·
        intro s0 s0l s0u hm
        exact gi_iret (pc := 149) (ti_rfl s0) ⟨_, rfl, (by rw [show (s0 : Int32).toInt = s0.toInt from (ti_rfl s0)]; omega), (by rw [show (s0 : Int32).toInt = s0.toInt from (ti_rfl s0)]; omega), rfl⟩ hv dX8_way_149
      ·
        intro s0 s0l s0u hm
        exact gi_iret (pc := 165) (ti_rfl s0) ⟨_, rfl, (by rw [show (s0 : Int32).toInt = s0.toInt from (ti_rfl s0)]; omega), (by rw [show (s0 : Int32).toInt = s0.toInt from (ti_rfl s0)]; omega), rfl⟩ hv dX8_way_165
      ·
        intro s0 s0l s0u hm
        exact gi_iret (pc := 176) (ti_rfl s0) ⟨_, rfl, (by rw [show (s0 : Int32).toInt = s0.toInt from (ti_rfl s0)]; omega), (by rw [show (s0 : Int32).toInt = s0.toInt from (ti_rfl s0)]; omega), rfl⟩ hv dX8_way_176
  refine go_bipush (pc := 0) (v := 40) (by decide) dX8_way_0 ?_
  refine go_aload_n (pc := 2) rfl dX8_way_2 ?_
  refine gi_get (pc := 3) (lo := 0) (hi := 1) hv fL_X8_187 rfl (Nat.le_of_ble_eq_true rfl) rfl rfl dX8_way_3 (fun v1 v1l v1u v1w => ?_)
  refine gf_imul (pc := 6) (ti_c (v := 40) (a := 40) (by decide)) (ti_rfl v1) (by omega) (by omega) dX8_way_6 (fun v2 e3 => ?_)
  refine go_iload_n (pc := 7) rfl dX8_way_7 ?_
  refine gf_iadd (pc := 8) e3 (ti_rfl a2) (by omega) (by omega) dX8_way_8 (fun v4 e5 => ?_)
  refine go_istore_n (pc := 9) (Nat.le_of_ble_eq_true rfl) dX8_way_9 (go_lv (lv2 := [(0, .ref 70), (1, .int a2), (2, .int a3), (3, .int v4)]) rfl ?_)
  refine go_aload_n (pc := 10) rfl dX8_way_10 ?_
  refine go_iload_n (pc := 11) rfl dX8_way_11 ?_
  refine go_invV (pc := 12) (sl := 0) (s_X8_kindAt l (d + 1) hv a2 (by rw [show (a2 : Int32).toInt = a2.toInt from (ti_rfl a2)]; omega) (by rw [show (a2 : Int32).toInt = a2.toInt from (ti_rfl a2)]; omega)) mL_X8_271 iM_X8_kindAt sM_X8_kindAt (hv.sh rfl) rfl rfl rfl (Nat.le_of_ble_eq_true rfl) (show d + 1 + 2 + 1 ≤ d + 4 by omega) (show 8 + (2 + 11) + 40 * (d + 1 + 2) ≤ 40 * (d + 4) by omega) (g_c0 hv.ln) (Nat.le_of_ble_eq_true rfl) dX8_way_12 ?_
  intro r h6 hq _
  obtain ⟨v8, rfl, v8l, v8u, rfl, f7⟩ := hq
  by_cases q9 : v8.toInt = 0
  ·
    refine go_tableIn (pc := 15) (tgt := 48) (off := 33) (by rw [show (v8 : Int32).toInt = v8.toInt from (ti_rfl v8)]; omega) (by rw [show (v8 : Int32).toInt = v8.toInt from (ti_rfl v8)]; omega) (by rw [show (v8 : Int32).toInt = v8.toInt from (ti_rfl v8), q9]; rfl) (by decide) dX8_way_15 ?_
    refine go_iload_n (pc := 48) rfl dX8_way_48 ?_
    refine gf_if_ne (pc := 49) (tgt := 61) (ti_rfl a3) (by decide) dX8_way_49 (fun q10 => ?_) (fun q10 => ?_)
    ·
      refine go_bipush (pc := 61) (v := (-2)) (by decide) dX8_way_61 ?_
      have z11 : ((-2) : Int32).toInt = (-2) := (ti_c (v := (-2)) (a := (-2)) (by decide))
      exact go_lv rfl ((key 19).1 (-2)  (by omega) (by omega) (by omega))
    ·
      refine go_aload_n (pc := 52) rfl dX8_way_52 ?_
      refine gi_getF (pc := 53) (q := 95) hv fL_X8_83 rfl (Nat.le_of_ble_eq_true rfl) rfl (hv.rf (by decide)) dX8_way_53 ?_
      refine go_iload_n (pc := 56) rfl dX8_way_56 ?_
      refine gi_iald (pc := 57) (lo := -1) (hi := 39) (len := 80) hv e5 rfl (by omega) (by omega) (fun _ => rfl) dX8_way_57 (fun v12 v12l v12u v12w => ?_)
      refine go_goto (pc := 58) (tgt := 63) (by decide) dX8_way_58 ?_
      exact go_lv rfl ((key 19).1 v12  (by omega) (by omega) (by omega))
  by_cases q13 : v8.toInt = 1
  ·
    refine go_tableIn (pc := 15) (tgt := 64) (off := 49) (by rw [show (v8 : Int32).toInt = v8.toInt from (ti_rfl v8)]; omega) (by rw [show (v8 : Int32).toInt = v8.toInt from (ti_rfl v8)]; omega) (by rw [show (v8 : Int32).toInt = v8.toInt from (ti_rfl v8), q13]; rfl) (by decide) dX8_way_15 ?_
    refine go_iload_n (pc := 64) rfl dX8_way_64 ?_
    refine gf_if_ne (pc := 65) (tgt := 90) (ti_rfl a3) (by decide) dX8_way_65 (fun q14 => ?_) (fun q14 => ?_)
    ·
      refine go_aload_n (pc := 90) rfl dX8_way_90 ?_
      refine go_iload_n (pc := 91) rfl dX8_way_91 ?_
      refine go_invV (pc := 92) (sl := 0) (s_X8_isThrowing l (d + 0) hv a2 (by rw [show (a2 : Int32).toInt = a2.toInt from (ti_rfl a2)]; omega) (by rw [show (a2 : Int32).toInt = a2.toInt from (ti_rfl a2)]; omega) ck) mL_X8_277 iM_X8_isThrowing sM_X8_isThrowing (hv.sh rfl) rfl rfl rfl (Nat.le_of_ble_eq_true rfl) (show d + 0 + 3 + 1 ≤ d + 4 by omega) (show 8 + (2 + 11) + 40 * (d + 0 + 3) ≤ 40 * (d + 4) by omega) (g_c0 hv.ln) (Nat.le_of_ble_eq_true rfl) dX8_way_92 ?_
      intro r h15 hq _
      obtain ⟨v16, rfl, v16l, v16u, rfl⟩ := hq
      refine gf_if_eq (pc := 95) (tgt := 107) (ti_rfl v16) (by decide) dX8_way_95 (fun q17 => ?_) (fun q17 => ?_)
      ·
        refine go_bipush (pc := 107) (v := (-2)) (by decide) dX8_way_107 ?_
        have z18 : ((-2) : Int32).toInt = (-2) := (ti_c (v := (-2)) (a := (-2)) (by decide))
        exact go_lv rfl ((key 19).2.1 (-2)  (by omega) (by omega) (by omega))
      ·
        refine go_aload_n (pc := 98) rfl dX8_way_98 ?_
        refine gi_getF (pc := 99) (q := 98) hv fL_X8_92 rfl (Nat.le_of_ble_eq_true rfl) rfl (hv.rf (by decide)) dX8_way_99 ?_
        refine go_iload_n (pc := 102) rfl dX8_way_102 ?_
        refine gi_iald (pc := 103) (lo := -1) (hi := 39) (len := 80) hv e5 rfl (by omega) (by omega) (fun _ => rfl) dX8_way_103 (fun v19 v19l v19u v19w => ?_)
        refine go_goto (pc := 104) (tgt := 109) (by decide) dX8_way_104 ?_
        exact go_lv rfl ((key 19).2.1 v19  (by omega) (by omega) (by omega))
    ·
      refine go_aload_n (pc := 68) rfl dX8_way_68 ?_
      refine go_iload_n (pc := 69) rfl dX8_way_69 ?_
      refine go_invV (pc := 70) (sl := 0) (s_X8_isReturning l (d + 0) hv a2 (by rw [show (a2 : Int32).toInt = a2.toInt from (ti_rfl a2)]; omega) (by rw [show (a2 : Int32).toInt = a2.toInt from (ti_rfl a2)]; omega) ck) mL_X8_274 iM_X8_isReturning sM_X8_isReturning (hv.sh rfl) rfl rfl rfl (Nat.le_of_ble_eq_true rfl) (show d + 0 + 3 + 1 ≤ d + 4 by omega) (show 8 + (2 + 11) + 40 * (d + 0 + 3) ≤ 40 * (d + 4) by omega) (g_c0 hv.ln) (Nat.le_of_ble_eq_true rfl) dX8_way_70 ?_
      intro r h20 hq _
      obtain ⟨v21, rfl, v21l, v21u, rfl⟩ := hq
      refine gf_if_eq (pc := 73) (tgt := 85) (ti_rfl v21) (by decide) dX8_way_73 (fun q22 => ?_) (fun q22 => ?_)
      ·
        refine go_bipush (pc := 85) (v := (-2)) (by decide) dX8_way_85 ?_
        refine go_goto (pc := 87) (tgt := 109) (by decide) dX8_way_87 ?_
        have z23 : ((-2) : Int32).toInt = (-2) := (ti_c (v := (-2)) (a := (-2)) (by decide))
        exact go_lv rfl ((key 19).2.1 (-2)  (by omega) (by omega) (by omega))
      ·
        refine go_aload_n (pc := 76) rfl dX8_way_76 ?_
        refine gi_getF (pc := 77) (q := 95) hv fL_X8_83 rfl (Nat.le_of_ble_eq_true rfl) rfl (hv.rf (by decide)) dX8_way_77 ?_
        refine go_iload_n (pc := 80) rfl dX8_way_80 ?_
        refine gi_iald (pc := 81) (lo := -1) (hi := 39) (len := 80) hv e5 rfl (by omega) (by omega) (fun _ => rfl) dX8_way_81 (fun v24 v24l v24u v24w => ?_)
        refine go_goto (pc := 82) (tgt := 109) (by decide) dX8_way_82 ?_
        exact go_lv rfl ((key 19).2.1 v24  (by omega) (by omega) (by omega))
  by_cases q25 : v8.toInt = 2
  ·
    refine go_tableIn (pc := 15) (tgt := 110) (off := 95) (by rw [show (v8 : Int32).toInt = v8.toInt from (ti_rfl v8)]; omega) (by rw [show (v8 : Int32).toInt = v8.toInt from (ti_rfl v8)]; omega) (by rw [show (v8 : Int32).toInt = v8.toInt from (ti_rfl v8), q25]; rfl) (by decide) dX8_way_15 ?_
    refine go_iload_n (pc := 110) rfl dX8_way_110 ?_
    refine gf_if_ne (pc := 111) (tgt := 123) (ti_rfl a3) (by decide) dX8_way_111 (fun q26 => ?_) (fun q26 => ?_)
    ·
      refine go_aload_n (pc := 123) rfl dX8_way_123 ?_
      refine gi_getF (pc := 124) (q := 97) hv fL_X8_89 rfl (Nat.le_of_ble_eq_true rfl) rfl (hv.rf (by decide)) dX8_way_124 ?_
      refine go_iload_n (pc := 127) rfl dX8_way_127 ?_
      refine gi_iald (pc := 128) (lo := -1) (hi := 39) (len := 80) hv e5 rfl (by omega) (by omega) (fun _ => rfl) dX8_way_128 (fun v27 v27l v27u v27w => ?_)
      exact go_lv rfl ((key 19).2.2.1 v27  (by omega) (by omega) (by omega))
    ·
      refine go_aload_n (pc := 114) rfl dX8_way_114 ?_
      refine gi_getF (pc := 115) (q := 96) hv fL_X8_86 rfl (Nat.le_of_ble_eq_true rfl) rfl (hv.rf (by decide)) dX8_way_115 ?_
      refine go_iload_n (pc := 118) rfl dX8_way_118 ?_
      refine gi_iald (pc := 119) (lo := -2) (hi := 39) (len := 80) hv e5 rfl (by omega) (by omega) (fun _ => rfl) dX8_way_119 (fun v28 v28l v28u v28w => ?_)
      refine go_goto (pc := 120) (tgt := 129) (by decide) dX8_way_120 ?_
      exact go_lv rfl ((key 19).2.2.1 v28  (by omega) (by omega) (by omega))
  by_cases q29 : v8.toInt = 3
  ·
    refine go_tableIn (pc := 15) (tgt := 130) (off := 115) (by rw [show (v8 : Int32).toInt = v8.toInt from (ti_rfl v8)]; omega) (by rw [show (v8 : Int32).toInt = v8.toInt from (ti_rfl v8)]; omega) (by rw [show (v8 : Int32).toInt = v8.toInt from (ti_rfl v8), q29]; rfl) (by decide) dX8_way_15 ?_
    refine go_iload_n (pc := 130) rfl dX8_way_130 ?_
    refine gf_if_ne (pc := 131) (tgt := 143) (ti_rfl a3) (by decide) dX8_way_131 (fun q30 => ?_) (fun q30 => ?_)
    ·
      refine go_aload_n (pc := 143) rfl dX8_way_143 ?_
      refine gi_getF (pc := 144) (q := 95) hv fL_X8_83 rfl (Nat.le_of_ble_eq_true rfl) rfl (hv.rf (by decide)) dX8_way_144 ?_
      refine go_iload_n (pc := 147) rfl dX8_way_147 ?_
      refine gi_iald (pc := 148) (lo := -1) (hi := 39) (len := 80) hv e5 rfl (by omega) (by omega) (fun _ => rfl) dX8_way_148 (fun v31 v31l v31u v31w => ?_)
      exact go_lv rfl ((key 19).2.2.2.1 v31  (by omega) (by omega) (by omega))
    ·
      refine go_aload_n (pc := 134) rfl dX8_way_134 ?_
      refine gi_getF (pc := 135) (q := 96) hv fL_X8_86 rfl (Nat.le_of_ble_eq_true rfl) rfl (hv.rf (by decide)) dX8_way_135 ?_
      refine go_iload_n (pc := 138) rfl dX8_way_138 ?_
      refine gi_iald (pc := 139) (lo := -2) (hi := 39) (len := 80) hv e5 rfl (by omega) (by omega) (fun _ => rfl) dX8_way_139 (fun v32 v32l v32u v32w => ?_)
      refine go_goto (pc := 140) (tgt := 149) (by decide) dX8_way_140 ?_
      exact go_lv rfl ((key 19).2.2.2.1 v32  (by omega) (by omega) (by omega))
  by_cases q33 : v8.toInt = 4
  ·
    refine go_tableIn (pc := 15) (tgt := 150) (off := 135) (by rw [show (v8 : Int32).toInt = v8.toInt from (ti_rfl v8)]; omega) (by rw [show (v8 : Int32).toInt = v8.toInt from (ti_rfl v8)]; omega) (by rw [show (v8 : Int32).toInt = v8.toInt from (ti_rfl v8), q33]; rfl) (by decide) dX8_way_15 ?_
    refine go_iload_n (pc := 150) rfl dX8_way_150 ?_
    refine gf_if_ne (pc := 151) (tgt := 159) (ti_rfl a3) (by decide) dX8_way_151 (fun q34 => ?_) (fun q34 => ?_)
    ·
      refine go_aload_n (pc := 159) rfl dX8_way_159 ?_
      refine gi_getF (pc := 160) (q := 98) hv fL_X8_92 rfl (Nat.le_of_ble_eq_true rfl) rfl (hv.rf (by decide)) dX8_way_160 ?_
      refine go_iload_n (pc := 163) rfl dX8_way_163 ?_
      refine gi_iald (pc := 164) (lo := -1) (hi := 39) (len := 80) hv e5 rfl (by omega) (by omega) (fun _ => rfl) dX8_way_164 (fun v35 v35l v35u v35w => ?_)
      exact go_lv rfl ((key 19).2.2.2.2.1 v35  (by omega) (by omega) (by omega))
    ·
      refine go_bipush (pc := 154) (v := (-2)) (by decide) dX8_way_154 ?_
      refine go_goto (pc := 156) (tgt := 165) (by decide) dX8_way_156 ?_
      have z36 : ((-2) : Int32).toInt = (-2) := (ti_c (v := (-2)) (a := (-2)) (by decide))
      exact go_lv rfl ((key 19).2.2.2.2.1 (-2)  (by omega) (by omega) (by omega))
  refine go_tableOut (pc := 15) (tgt := 166) (by rw [show (v8 : Int32).toInt = v8.toInt from (ti_rfl v8)]; omega) (by decide) dX8_way_15 ?_
  refine go_iload_n (pc := 166) rfl dX8_way_166 ?_
  refine gf_if_ne (pc := 167) (tgt := 174) (ti_rfl a3) (by decide) dX8_way_167 (fun q37 => ?_) (fun q37 => ?_)
  ·
    refine go_bipush (pc := 174) (v := (-2)) (by decide) dX8_way_174 ?_
    have z38 : ((-2) : Int32).toInt = (-2) := (ti_c (v := (-2)) (a := (-2)) (by decide))
    exact go_lv rfl ((key 19).2.2.2.2.2 (-2)  (by omega) (by omega) (by omega))
  ·
    refine go_iconst (pc := 170) (v := (-1)) (by decide) dX8_way_170 ?_
    refine go_goto (pc := 171) (tgt := 176) (by decide) dX8_way_171 ?_
    have z39 : ((-1) : Int32).toInt = (-1) := (ti_c (v := (-1)) (a := (-1)) (by decide))
    exact go_lv rfl ((key 19).2.2.2.2.2 (-1)  (by omega) (by omega) (by omega))
set_option maxHeartbeats 4000000 in
set_option maxRecDepth 100000 in
theorem s_X8_tells (l : Launch) (d : Nat) {P : PP} {h : HP} (hv : Iv P h) (a2 : Int32) (a2l : 0 ≤ a2.toInt) (a2u : a2.toInt ≤ 39) (a3 : Int32) (a4 : Int32) (a4l : 0 ≤ a4.toInt) (a4u : a4.toInt ≤ 9) : Mt l yX8_tells cX8_tells 6 (some .int) (d + 2) [.ref 70, .int a2, .int a3, .int a4] h 0 0 (fun r h' => ∃ v : Int32, r = some (.int v) ∧ -1 ≤ v.toInt ∧ v.toInt ≤ 519 ∧ h = h') := by
  refine Mt_iv hv (by decide) (Nat.le_of_ble_eq_true rfl) ?_
  show Go l RX8 cX8_tells 6 (g_rm (d + 2) 0 0) "tells" (some .int) 117 0 0 (fun _ _ => True) (fun r h' => ∃ v : Int32, r = some (.int v) ∧ -1 ≤ v.toInt ∧ v.toInt ≤ 519 ∧ h = h') 0 0 [(0, .ref 70), (1, .int a2), (2, .int a3), (3, .int a4)] [] h
  have key : ∀ n : Nat, (∀ (s0 : Int32), -1 ≤ s0.toInt → s0.toInt ≤ 519 → (1 : Int) < n → Go l RX8 cX8_tells 6 (g_rm (d + 2) 0 0) "tells" (some .int) 117 0 0 (fun _ _ => True) (fun r h' => ∃ v : Int32, r = some (.int v) ∧ -1 ≤ v.toInt ∧ v.toInt ≤ 519 ∧ h = h') 0 84 [] [.int s0] h) ∧ (∀ (s0 : Int32), -1 ≤ s0.toInt → s0.toInt ≤ 519 → (2 : Int) < n → Go l RX8 cX8_tells 6 (g_rm (d + 2) 0 0) "tells" (some .int) 117 0 0 (fun _ _ => True) (fun r h' => ∃ v : Int32, r = some (.int v) ∧ -1 ≤ v.toInt ∧ v.toInt ≤ 519 ∧ h = h') 0 100 [] [.int s0] h) ∧ (∀ (l1 : Int32) (l3 : Int32) (s0 : Int32), 0 ≤ l1.toInt → l1.toInt ≤ 39 → 0 ≤ l3.toInt → l3.toInt ≤ 5 → -1 ≤ s0.toInt → s0.toInt ≤ 9 → (4 : Int) < n → Go l RX8 cX8_tells 6 (g_rm (d + 2) 0 0) "tells" (some .int) 117 0 0 (fun _ _ => True) (fun r h' => ∃ v : Int32, r = some (.int v) ∧ -1 ≤ v.toInt ∧ v.toInt ≤ 519 ∧ h = h') 0 134 [(1, .int l1), (3, .int l3)] [.int s0] h) ∧ (∀ (s0 : Int32), -1 ≤ s0.toInt → s0.toInt ≤ 519 → (3 : Int) < n → Go l RX8 cX8_tells 6 (g_rm (d + 2) 0 0) "tells" (some .int) 117 0 0 (fun _ _ => True) (fun r h' => ∃ v : Int32, r = some (.int v) ∧ -1 ≤ v.toInt ∧ v.toInt ≤ 519 ∧ h = h') 0 148 [] [.int s0] h) := by
    intro n
    induction n with
    | zero => exact ⟨(by intros; omega), (by intros; omega), (by intros; omega), (by intros; omega)⟩
    | succ n ih =>
      refine ⟨?_, ?_, ?_, ?_⟩
      ·
        intro s0 s0l s0u hm
        exact gi_iret (pc := 84) (ti_rfl s0) ⟨_, rfl, (by rw [show (s0 : Int32).toInt = s0.toInt from (ti_rfl s0)]; omega), (by rw [show (s0 : Int32).toInt = s0.toInt from (ti_rfl s0)]; omega), rfl⟩ hv dX8_tells_84
      ·
        intro s0 s0l s0u hm
        exact gi_iret (pc := 100) (ti_rfl s0) ⟨_, rfl, (by rw [show (s0 : Int32).toInt = s0.toInt from (ti_rfl s0)]; omega), (by rw [show (s0 : Int32).toInt = s0.toInt from (ti_rfl s0)]; omega), rfl⟩ hv dX8_tells_100
      ·
        intro l1 l3 s0 l1l l1u l3l l3u s0l s0u hm
        refine go_iload_n (pc := 134) rfl dX8_tells_134 ?_
        refine gf_icmp_ne (pc := 135) (tgt := 147) (ti_rfl s0) (ti_rfl l3) (by decide) dX8_tells_135 (fun q1 => ?_) (fun q1 => ?_)
        ·
          refine go_iconst (pc := 147) (v := (-1)) (by decide) dX8_tells_147 ?_
          have z2 : ((-1) : Int32).toInt = (-1) := (ti_c (v := (-1)) (a := (-1)) (by decide))
          exact go_lv rfl (ih.2.2.2 (-1)  (by omega) (by omega) (by omega))
        ·
          refine go_iload_n (pc := 138) rfl dX8_tells_138 ?_
          refine go_bipush (pc := 139) (v := 7) (by decide) dX8_tells_139 ?_
          refine go_invS (pc := 141) (sl := 0) (s_X8_statementPlace l (d + 0) hv l1 (by rw [show (l1 : Int32).toInt = l1.toInt from (ti_rfl l1)]; omega) (by rw [show (l1 : Int32).toInt = l1.toInt from (ti_rfl l1)]; omega) 7 (by rw [show (7 : Int32).toInt = 7 from (ti_c (v := 7) (a := 7) (by decide))]; omega) (by rw [show (7 : Int32).toInt = 7 from (ti_c (v := 7) (a := 7) (by decide))]; omega)) mL_X8_291 iM_X8_statementPlace rfl rfl (Nat.le_of_ble_eq_true rfl) (show d + 0 + 1 + 1 ≤ d + 2 by omega) (show 8 + (2 + 11) + 40 * (d + 0 + 1) ≤ 40 * (d + 2) by omega) (g_c0 hv.ln) (Nat.le_of_ble_eq_true rfl) dX8_tells_141 ?_
          intro r h3 hq _
          obtain ⟨v4, rfl, v4l, v4u, rfl⟩ := hq
          refine go_goto (pc := 144) (tgt := 148) (by decide) dX8_tells_144 ?_
          exact go_lv rfl (ih.2.2.2 v4  (by omega) (by omega) (by omega))
      ·
        intro s0 s0l s0u hm
        exact gi_iret (pc := 148) (ti_rfl s0) ⟨_, rfl, (by rw [show (s0 : Int32).toInt = s0.toInt from (ti_rfl s0)]; omega), (by rw [show (s0 : Int32).toInt = s0.toInt from (ti_rfl s0)]; omega), rfl⟩ hv dX8_tells_148
  refine go_aload_n (pc := 0) rfl dX8_tells_0 ?_
  refine go_iload_n (pc := 1) rfl dX8_tells_1 ?_
  refine go_invV (pc := 2) (sl := 0) (s_X8_item l (d + 0) hv a2 (by rw [show (a2 : Int32).toInt = a2.toInt from (ti_rfl a2)]; omega) (by rw [show (a2 : Int32).toInt = a2.toInt from (ti_rfl a2)]; omega)) mL_X8_268 iM_X8_item sM_X8_item (hv.sh rfl) rfl rfl rfl (Nat.le_of_ble_eq_true rfl) (show d + 0 + 1 + 1 ≤ d + 2 by omega) (show 8 + (2 + 11) + 40 * (d + 0 + 1) ≤ 40 * (d + 2) by omega) (g_c0 hv.ln) (Nat.le_of_ble_eq_true rfl) dX8_tells_2 ?_
  intro r h5 hq _
  obtain ⟨v7, rfl, v7l, v7u, rfl, f6⟩ := hq
  refine go_istore (pc := 5) (Nat.le_of_ble_eq_true rfl) dX8_tells_5 (go_lv (lv2 := [(0, .ref 70), (1, .int a2), (2, .int a3), (3, .int a4), (4, .int v7)]) rfl ?_)
  refine go_aload_n (pc := 7) rfl dX8_tells_7 ?_
  refine gi_getF (pc := 8) (q := 99) hv fL_X8_95 rfl (Nat.le_of_ble_eq_true rfl) rfl (hv.rf (by decide)) dX8_tells_8 ?_
  refine go_bipush (pc := 11) (v := 40) (by decide) dX8_tells_11 ?_
  refine go_aload_n (pc := 13) rfl dX8_tells_13 ?_
  refine gi_get (pc := 14) (lo := 0) (hi := 1) hv fL_X8_187 rfl (Nat.le_of_ble_eq_true rfl) rfl rfl dX8_tells_14 (fun v8 v8l v8u v8w => ?_)
  refine gf_imul (pc := 17) (ti_c (v := 40) (a := 40) (by decide)) (ti_rfl v8) (by omega) (by omega) dX8_tells_17 (fun v9 e10 => ?_)
  refine go_iload_n (pc := 18) rfl dX8_tells_18 ?_
  refine gf_iadd (pc := 19) e10 (ti_rfl a2) (by omega) (by omega) dX8_tells_19 (fun v11 e12 => ?_)
  refine gi_iald (pc := 20) (lo := -1) (hi := 5) (len := 80) hv e12 rfl (by omega) (by omega) (fun _ => rfl) dX8_tells_20 (fun v13 v13l v13u v13w => ?_)
  refine go_istore (pc := 21) (Nat.le_of_ble_eq_true rfl) dX8_tells_21 (go_lv (lv2 := [(0, .ref 70), (1, .int a2), (2, .int a3), (3, .int a4), (4, .int v7), (5, .int v13)]) rfl ?_)
  refine go_aload_n (pc := 23) rfl dX8_tells_23 ?_
  refine gi_getF (pc := 24) (q := 77) hv fL_X8_29 rfl (Nat.le_of_ble_eq_true rfl) rfl (hv.rf (by decide)) dX8_tells_24 ?_
  refine go_iload (pc := 27) rfl dX8_tells_27 ?_
  refine gi_iald (pc := 29) (lo := 0) (hi := 6) (len := 260) hv (ti_rfl v7) rfl (by omega) (by omega) (fun _ => rfl) dX8_tells_29 (fun v14 v14l v14u v14w => ?_)
  by_cases q15 : v14.toInt = 0
  ·
    refine go_tableIn (pc := 30) (tgt := 64) (off := 34) (by rw [show (v14 : Int32).toInt = v14.toInt from (ti_rfl v14)]; omega) (by rw [show (v14 : Int32).toInt = v14.toInt from (ti_rfl v14)]; omega) (by rw [show (v14 : Int32).toInt = v14.toInt from (ti_rfl v14), q15]; rfl) (by decide) dX8_tells_30 ?_
    refine go_aload_n (pc := 64) rfl dX8_tells_64 ?_
    refine gi_getF (pc := 65) (q := 82) hv fL_X8_44 rfl (Nat.le_of_ble_eq_true rfl) rfl (hv.rf (by decide)) dX8_tells_65 ?_
    refine go_iload (pc := 68) rfl dX8_tells_68 ?_
    refine gi_iald (pc := 70) (lo := -1) (hi := 9) (len := 260) hv (ti_rfl v7) rfl (by omega) (by omega) (fun _ => rfl) dX8_tells_70 (fun v16 v16l v16u v16w => ?_)
    refine go_iload_n (pc := 71) rfl dX8_tells_71 ?_
    refine gf_icmp_ne (pc := 72) (tgt := 83) (ti_rfl v16) (ti_rfl a4) (by decide) dX8_tells_72 (fun q17 => ?_) (fun q17 => ?_)
    ·
      refine go_iconst (pc := 83) (v := (-1)) (by decide) dX8_tells_83 ?_
      have z18 : ((-1) : Int32).toInt = (-1) := (ti_c (v := (-1)) (a := (-1)) (by decide))
      exact go_lv rfl ((key 17).1 (-1)  (by omega) (by omega) (by omega))
    ·
      refine go_iload_n (pc := 75) rfl dX8_tells_75 ?_
      refine go_iconst (pc := 76) (v := 0) (by decide) dX8_tells_76 ?_
      refine go_invS (pc := 77) (sl := 0) (s_X8_statementPlace l (d + 0) hv a2 (by rw [show (a2 : Int32).toInt = a2.toInt from (ti_rfl a2)]; omega) (by rw [show (a2 : Int32).toInt = a2.toInt from (ti_rfl a2)]; omega) 0 (by rw [show (0 : Int32).toInt = 0 from (ti_c (v := 0) (a := 0) (by decide))]; omega) (by rw [show (0 : Int32).toInt = 0 from (ti_c (v := 0) (a := 0) (by decide))]; omega)) mL_X8_291 iM_X8_statementPlace rfl rfl (Nat.le_of_ble_eq_true rfl) (show d + 0 + 1 + 1 ≤ d + 2 by omega) (show 8 + (2 + 11) + 40 * (d + 0 + 1) ≤ 40 * (d + 2) by omega) (g_c0 hv.ln) (Nat.le_of_ble_eq_true rfl) dX8_tells_77 ?_
      intro r h19 hq _
      obtain ⟨v20, rfl, v20l, v20u, rfl⟩ := hq
      refine go_goto (pc := 80) (tgt := 84) (by decide) dX8_tells_80 ?_
      exact go_lv rfl ((key 17).1 v20  (by omega) (by omega) (by omega))
  by_cases q21 : v14.toInt = 1
  ·
    refine go_tableIn (pc := 30) (tgt := 101) (off := 71) (by rw [show (v14 : Int32).toInt = v14.toInt from (ti_rfl v14)]; omega) (by rw [show (v14 : Int32).toInt = v14.toInt from (ti_rfl v14)]; omega) (by rw [show (v14 : Int32).toInt = v14.toInt from (ti_rfl v14), q21]; rfl) (by decide) dX8_tells_30 ?_
    refine go_iload_n (pc := 101) rfl dX8_tells_101 ?_
    refine go_bipush (pc := 102) (v := 6) (by decide) dX8_tells_102 ?_
    refine gf_icmp_lt (pc := 104) (tgt := 118) (ti_rfl a4) (ti_c (v := 6) (a := 6) (by decide)) (by decide) dX8_tells_104 (fun q22 => ?_) (fun q22 => ?_)
    ·
      refine go_iload_n (pc := 118) rfl dX8_tells_118 ?_
      refine gf_if_ne (pc := 119) (tgt := 132) (ti_rfl a3) (by decide) dX8_tells_119 (fun q23 => ?_) (fun q23 => ?_)
      ·
        refine go_iload (pc := 132) rfl dX8_tells_132 ?_
        exact go_lv rfl ((key 17).2.2.1 a2 a4 v13  (by omega) (by omega) (by omega) (by omega) (by omega) (by omega) (by omega))
      ·
        refine go_aload_n (pc := 122) rfl dX8_tells_122 ?_
        refine gi_getF (pc := 123) (q := 82) hv fL_X8_44 rfl (Nat.le_of_ble_eq_true rfl) rfl (hv.rf (by decide)) dX8_tells_123 ?_
        refine go_iload (pc := 126) rfl dX8_tells_126 ?_
        refine gi_iald (pc := 128) (lo := -1) (hi := 9) (len := 260) hv (ti_rfl v7) rfl (by omega) (by omega) (fun _ => rfl) dX8_tells_128 (fun v24 v24l v24u v24w => ?_)
        refine go_goto (pc := 129) (tgt := 134) (by decide) dX8_tells_129 ?_
        exact go_lv rfl ((key 17).2.2.1 a2 a4 v24  (by omega) (by omega) (by omega) (by omega) (by omega) (by omega) (by omega))
    ·
      refine go_iload_n (pc := 107) rfl dX8_tells_107 ?_
      refine go_bipush (pc := 108) (v := 7) (by decide) dX8_tells_108 ?_
      refine go_iload_n (pc := 110) rfl dX8_tells_110 ?_
      refine gf_iadd (pc := 111) (ti_c (v := 7) (a := 7) (by decide)) (ti_rfl a4) (by omega) (by omega) dX8_tells_111 (fun v25 e26 => ?_)
      refine go_iconst (pc := 112) (v := 4) (by decide) dX8_tells_112 ?_
      refine gf_isub (pc := 113) e26 (ti_c (v := 4) (a := 4) (by decide)) (by omega) (by omega) dX8_tells_113 (fun v27 e28 => ?_)
      refine go_invS (pc := 114) (sl := 0) (s_X8_statementPlace l (d + 0) hv a2 (by rw [show (a2 : Int32).toInt = a2.toInt from (ti_rfl a2)]; omega) (by rw [show (a2 : Int32).toInt = a2.toInt from (ti_rfl a2)]; omega) v27 (by rw [show (v27 : Int32).toInt = ((7 + a4.toInt) - 4) from e28]; omega) (by rw [show (v27 : Int32).toInt = ((7 + a4.toInt) - 4) from e28]; omega)) mL_X8_291 iM_X8_statementPlace rfl rfl (Nat.le_of_ble_eq_true rfl) (show d + 0 + 1 + 1 ≤ d + 2 by omega) (show 8 + (2 + 11) + 40 * (d + 0 + 1) ≤ 40 * (d + 2) by omega) (g_c0 hv.ln) (Nat.le_of_ble_eq_true rfl) dX8_tells_114 ?_
      intro r h29 hq _
      obtain ⟨v30, rfl, v30l, v30u, rfl⟩ := hq
      exact gi_iret (pc := 117) (ti_rfl v30) ⟨_, rfl, (by rw [show (v30 : Int32).toInt = v30.toInt from (ti_rfl v30)]; omega), (by rw [show (v30 : Int32).toInt = v30.toInt from (ti_rfl v30)]; omega), rfl⟩ hv dX8_tells_117
  by_cases q31 : v14.toInt = 2
  ·
    refine go_tableIn (pc := 30) (tgt := 149) (off := 119) (by rw [show (v14 : Int32).toInt = v14.toInt from (ti_rfl v14)]; omega) (by rw [show (v14 : Int32).toInt = v14.toInt from (ti_rfl v14)]; omega) (by rw [show (v14 : Int32).toInt = v14.toInt from (ti_rfl v14), q31]; rfl) (by decide) dX8_tells_30 ?_
    refine go_iconst (pc := 149) (v := (-1)) (by decide) dX8_tells_149 ?_
    exact gi_iret (pc := 150) (ti_c (v := (-1)) (a := (-1)) (by decide)) ⟨_, rfl, (by rw [show ((-1) : Int32).toInt = (-1) from (ti_c (v := (-1)) (a := (-1)) (by decide))]; omega), (by rw [show ((-1) : Int32).toInt = (-1) from (ti_c (v := (-1)) (a := (-1)) (by decide))]; omega), rfl⟩ hv dX8_tells_150
  by_cases q32 : v14.toInt = 3
  ·
    refine go_tableIn (pc := 30) (tgt := 149) (off := 119) (by rw [show (v14 : Int32).toInt = v14.toInt from (ti_rfl v14)]; omega) (by rw [show (v14 : Int32).toInt = v14.toInt from (ti_rfl v14)]; omega) (by rw [show (v14 : Int32).toInt = v14.toInt from (ti_rfl v14), q32]; rfl) (by decide) dX8_tells_30 ?_
    refine go_iconst (pc := 149) (v := (-1)) (by decide) dX8_tells_149 ?_
    exact gi_iret (pc := 150) (ti_c (v := (-1)) (a := (-1)) (by decide)) ⟨_, rfl, (by rw [show ((-1) : Int32).toInt = (-1) from (ti_c (v := (-1)) (a := (-1)) (by decide))]; omega), (by rw [show ((-1) : Int32).toInt = (-1) from (ti_c (v := (-1)) (a := (-1)) (by decide))]; omega), rfl⟩ hv dX8_tells_150
  by_cases q33 : v14.toInt = 4
  ·
    refine go_tableIn (pc := 30) (tgt := 85) (off := 55) (by rw [show (v14 : Int32).toInt = v14.toInt from (ti_rfl v14)]; omega) (by rw [show (v14 : Int32).toInt = v14.toInt from (ti_rfl v14)]; omega) (by rw [show (v14 : Int32).toInt = v14.toInt from (ti_rfl v14), q33]; rfl) (by decide) dX8_tells_30 ?_
    refine go_iload (pc := 85) rfl dX8_tells_85 ?_
    refine go_iload_n (pc := 87) rfl dX8_tells_87 ?_
    refine gf_icmp_ne (pc := 88) (tgt := 99) (ti_rfl v13) (ti_rfl a4) (by decide) dX8_tells_88 (fun q34 => ?_) (fun q34 => ?_)
    ·
      refine go_iconst (pc := 99) (v := (-1)) (by decide) dX8_tells_99 ?_
      have z35 : ((-1) : Int32).toInt = (-1) := (ti_c (v := (-1)) (a := (-1)) (by decide))
      exact go_lv rfl ((key 17).2.1 (-1)  (by omega) (by omega) (by omega))
    ·
      refine go_iload_n (pc := 91) rfl dX8_tells_91 ?_
      refine go_iconst (pc := 92) (v := 0) (by decide) dX8_tells_92 ?_
      refine go_invS (pc := 93) (sl := 0) (s_X8_statementPlace l (d + 0) hv a2 (by rw [show (a2 : Int32).toInt = a2.toInt from (ti_rfl a2)]; omega) (by rw [show (a2 : Int32).toInt = a2.toInt from (ti_rfl a2)]; omega) 0 (by rw [show (0 : Int32).toInt = 0 from (ti_c (v := 0) (a := 0) (by decide))]; omega) (by rw [show (0 : Int32).toInt = 0 from (ti_c (v := 0) (a := 0) (by decide))]; omega)) mL_X8_291 iM_X8_statementPlace rfl rfl (Nat.le_of_ble_eq_true rfl) (show d + 0 + 1 + 1 ≤ d + 2 by omega) (show 8 + (2 + 11) + 40 * (d + 0 + 1) ≤ 40 * (d + 2) by omega) (g_c0 hv.ln) (Nat.le_of_ble_eq_true rfl) dX8_tells_93 ?_
      intro r h36 hq _
      obtain ⟨v37, rfl, v37l, v37u, rfl⟩ := hq
      refine go_goto (pc := 96) (tgt := 100) (by decide) dX8_tells_96 ?_
      exact go_lv rfl ((key 17).2.1 v37  (by omega) (by omega) (by omega))
  refine go_tableOut (pc := 30) (tgt := 149) (by rw [show (v14 : Int32).toInt = v14.toInt from (ti_rfl v14)]; omega) (by decide) dX8_tells_30 ?_
  refine go_iconst (pc := 149) (v := (-1)) (by decide) dX8_tells_149 ?_
  exact gi_iret (pc := 150) (ti_c (v := (-1)) (a := (-1)) (by decide)) ⟨_, rfl, (by rw [show ((-1) : Int32).toInt = (-1) from (ti_c (v := (-1)) (a := (-1)) (by decide))]; omega), (by rw [show ((-1) : Int32).toInt = (-1) from (ti_c (v := (-1)) (a := (-1)) (by decide))]; omega), rfl⟩ hv dX8_tells_150
set_option maxHeartbeats 4000000 in
set_option maxRecDepth 100000 in
theorem s_X8_ends (l : Launch) (d : Nat) {P : PP} {h : HP} (hv : Iv P h) (a2 : Int32) (a2l : 0 ≤ a2.toInt) (a2u : a2.toInt ≤ 39) (ck : CK P) : Mt l yX8_ends cX8_ends 6 none (d + 4) [.ref 70, .int a2] h 0 0 (fun r h' => r = none ∧ Iv P h') := by
  refine Mt_iv hv (by decide) (Nat.le_of_ble_eq_true rfl) ?_
  show Go l RX8 cX8_ends 6 (g_rm (d + 4) 0 0) "ends" none 117 0 0 (fun _ _ => True) (fun r h' => r = none ∧ Iv P h') 0 0 [(0, .ref 70), (1, .int a2)] [] h
  have key : ∀ n : Nat, (∀ (l1 : Int32) (l2 : Int32) (hx : HP), Iv P hx → 0 ≤ l1.toInt → l1.toInt ≤ 39 → 0 ≤ l2.toInt → l2.toInt ≤ 4 → (11 : Int) < n → Go l RX8 cX8_ends 6 (g_rm (d + 4) 0 0) "ends" none 117 0 0 (fun _ _ => True) (fun r h' => r = none ∧ Iv P h') 0 46 [(0, .ref 70), (1, .int l1), (2, .int l2)] [] hx) ∧ (∀ (l1 : Int32) (l2 : Int32) (s0 : Int32) (hx : HP), Iv P hx → 0 ≤ l1.toInt → l1.toInt ≤ 39 → 0 ≤ l2.toInt → l2.toInt ≤ 4 → 0 ≤ s0.toInt → s0.toInt ≤ 1 → (10 : Int) < n → Go l RX8 cX8_ends 6 (g_rm (d + 4) 0 0) "ends" none 117 0 0 (fun _ _ => True) (fun r h' => r = none ∧ Iv P h') 0 47 [(0, .ref 70), (1, .int l1), (2, .int l2)] [.int s0] hx) ∧ (∀ (l1 : Int32) (l2 : Int32) (l3 : Int32) (hx : HP), Iv P hx → 0 ≤ l1.toInt → l1.toInt ≤ 39 → 0 ≤ l2.toInt → l2.toInt ≤ 4 → 0 ≤ l3.toInt → l3.toInt ≤ 1 → (8 : Int) < n → Go l RX8 cX8_ends 6 (g_rm (d + 4) 0 0) "ends" none 117 0 0 (fun _ _ => True) (fun r h' => r = none ∧ Iv P h') 0 70 [(0, .ref 70), (1, .int l1), (2, .int l2), (3, .int l3)] [] hx) ∧ (∀ (l1 : Int32) (l2 : Int32) (l3 : Int32) (hx : HP), Iv P hx → 0 ≤ l1.toInt → l1.toInt ≤ 39 → 0 ≤ l2.toInt → l2.toInt ≤ 4 → 0 ≤ l3.toInt → l3.toInt ≤ 1 → (9 : Int) < n → Go l RX8 cX8_ends 6 (g_rm (d + 4) 0 0) "ends" none 117 0 0 (fun _ _ => True) (fun r h' => r = none ∧ Iv P h') 0 74 [(0, .ref 70), (1, .int l1), (2, .int l2), (3, .int l3)] [] hx) ∧ (∀ (l1 : Int32) (l2 : Int32) (l3 : Int32) (s0 : Int32) (hx : HP), Iv P hx → 0 ≤ l1.toInt → l1.toInt ≤ 39 → 0 ≤ l2.toInt → l2.toInt ≤ 4 → 0 ≤ l3.toInt → l3.toInt ≤ 1 → 0 ≤ s0.toInt → s0.toInt ≤ 1 → (7 : Int) < n → Go l RX8 cX8_ends 6 (g_rm (d + 4) 0 0) "ends" none 117 0 0 (fun _ _ => True) (fun r h' => r = none ∧ Iv P h') 0 75 [(0, .ref 70), (1, .int l1), (2, .int l2), (3, .int l3)] [.int s0] hx) ∧ (∀ (l1 : Int32) (l2 : Int32) (l4 : Int32) (hx : HP), Iv P hx → 0 ≤ l1.toInt → l1.toInt ≤ 39 → 0 ≤ l2.toInt → l2.toInt ≤ 4 → 0 ≤ l4.toInt → l4.toInt ≤ 1 → (6 : Int) < n → Go l RX8 cX8_ends 6 (g_rm (d + 4) 0 0) "ends" none 117 0 0 (fun _ _ => True) (fun r h' => r = none ∧ Iv P h') 0 93 [(0, .ref 70), (1, .int l1), (2, .int l2), (4, .int l4)] [] hx) ∧ (∀ (l1 : Int32) (l2 : Int32) (l4 : Int32) (s0 : Int32) (hx : HP), Iv P hx → 0 ≤ l1.toInt → l1.toInt ≤ 39 → 0 ≤ l2.toInt → l2.toInt ≤ 4 → 0 ≤ l4.toInt → l4.toInt ≤ 1 → 0 ≤ s0.toInt → s0.toInt ≤ 1 → (5 : Int) < n → Go l RX8 cX8_ends 6 (g_rm (d + 4) 0 0) "ends" none 117 0 0 (fun _ _ => True) (fun r h' => r = none ∧ Iv P h') 0 94 [(0, .ref 70), (1, .int l1), (2, .int l2), (4, .int l4)] [.int s0] hx) ∧ (∀ (l1 : Int32) (l2 : Int32) (l4 : Int32) (l5 : Int32) (hx : HP), Iv P hx → 0 ≤ l1.toInt → l1.toInt ≤ 39 → 0 ≤ l2.toInt → l2.toInt ≤ 4 → 0 ≤ l4.toInt → l4.toInt ≤ 1 → 0 ≤ l5.toInt → l5.toInt ≤ 1 → (4 : Int) < n → Go l RX8 cX8_ends 6 (g_rm (d + 4) 0 0) "ends" none 117 0 0 (fun _ _ => True) (fun r h' => r = none ∧ Iv P h') 0 116 [(0, .ref 70), (1, .int l1), (2, .int l2), (4, .int l4), (5, .int l5)] [] hx) ∧ (∀ (l1 : Int32) (l2 : Int32) (l4 : Int32) (l5 : Int32) (hx : HP), Iv P hx → 0 ≤ l1.toInt → l1.toInt ≤ 39 → 0 ≤ l2.toInt → l2.toInt ≤ 4 → 0 ≤ l4.toInt → l4.toInt ≤ 1 → 0 ≤ l5.toInt → l5.toInt ≤ 1 → (3 : Int) < n → Go l RX8 cX8_ends 6 (g_rm (d + 4) 0 0) "ends" none 117 0 0 (fun _ _ => True) (fun r h' => r = none ∧ Iv P h') 0 137 [(0, .ref 70), (1, .int l1), (2, .int l2), (4, .int l4), (5, .int l5)] [] hx) ∧ (∀ (l1 : Int32) (l2 : Int32) (l5 : Int32) (hx : HP), Iv P hx → 0 ≤ l1.toInt → l1.toInt ≤ 39 → 0 ≤ l2.toInt → l2.toInt ≤ 4 → 0 ≤ l5.toInt → l5.toInt ≤ 1 → (2 : Int) < n → Go l RX8 cX8_ends 6 (g_rm (d + 4) 0 0) "ends" none 117 0 0 (fun _ _ => True) (fun r h' => r = none ∧ Iv P h') 0 174 [(0, .ref 70), (1, .int l1), (2, .int l2), (5, .int l5)] [] hx) ∧ (∀  (hx : HP), Iv P hx → (1 : Int) < n → Go l RX8 cX8_ends 6 (g_rm (d + 4) 0 0) "ends" none 117 0 0 (fun _ _ => True) (fun r h' => r = none ∧ Iv P h') 0 195 [] [] hx) := by
    intro n
    induction n with
    | zero => exact ⟨(by intros; omega), (by intros; omega), (by intros; omega), (by intros; omega), (by intros; omega), (by intros; omega), (by intros; omega), (by intros; omega), (by intros; omega), (by intros; omega), (by intros; omega)⟩
    | succ n ih =>
      refine ⟨?_, ?_, ?_, ?_, ?_, ?_, ?_, ?_, ?_, ?_, ?_⟩
      ·
        intro l1 l2 hx hvx l1l l1u l2l l2u hm
        refine go_iconst (pc := 46) (v := 0) (by decide) dX8_ends_46 ?_
        have z1 : (0 : Int32).toInt = 0 := (ti_c (v := 0) (a := 0) (by decide))
        exact go_lv rfl (ih.2.1 l1 l2 0 hx hvx (by omega) (by omega) (by omega) (by omega) (by omega) (by omega) (by omega))
      ·
        intro l1 l2 s0 hx hvx l1l l1u l2l l2u s0l s0u hm
        refine go_istore_n (pc := 47) (Nat.le_of_ble_eq_true rfl) dX8_ends_47 (go_lv (lv2 := [(0, .ref 70), (1, .int l1), (2, .int l2), (3, .int s0)]) rfl ?_)
        refine go_aload_n (pc := 48) rfl dX8_ends_48 ?_
        refine go_iload_n (pc := 49) rfl dX8_ends_49 ?_
        refine go_invV (pc := 50) (sl := 0) (s_X8_kindAt l (d + 1) hvx l1 (by rw [show (l1 : Int32).toInt = l1.toInt from (ti_rfl l1)]; omega) (by rw [show (l1 : Int32).toInt = l1.toInt from (ti_rfl l1)]; omega)) mL_X8_271 iM_X8_kindAt sM_X8_kindAt (hvx.sh rfl) rfl rfl rfl (Nat.le_of_ble_eq_true rfl) (show d + 1 + 2 + 1 ≤ d + 4 by omega) (show 8 + (2 + 11) + 40 * (d + 1 + 2) ≤ 40 * (d + 4) by omega) (g_c0 hvx.ln) (Nat.le_of_ble_eq_true rfl) dX8_ends_50 ?_
        intro r h2 hq _
        obtain ⟨v4, rfl, v4l, v4u, rfl, f3⟩ := hq
        refine go_iconst (pc := 53) (v := 5) (by decide) dX8_ends_53 ?_
        refine gf_icmp_eq (pc := 54) (tgt := 70) (ti_rfl v4) (ti_c (v := 5) (a := 5) (by decide)) (by decide) dX8_ends_54 (fun q5 => ?_) (fun q5 => ?_)
        ·
          exact go_lv rfl (ih.2.2.1 l1 l2 s0 hx hvx (by omega) (by omega) (by omega) (by omega) (by omega) (by omega) (by omega))
        ·
          refine go_aload_n (pc := 57) rfl dX8_ends_57 ?_
          refine go_iload_n (pc := 58) rfl dX8_ends_58 ?_
          refine go_invV (pc := 59) (sl := 0) (s_X8_kindAt l (d + 1) hvx l1 (by rw [show (l1 : Int32).toInt = l1.toInt from (ti_rfl l1)]; omega) (by rw [show (l1 : Int32).toInt = l1.toInt from (ti_rfl l1)]; omega)) mL_X8_271 iM_X8_kindAt sM_X8_kindAt (hvx.sh rfl) rfl rfl rfl (Nat.le_of_ble_eq_true rfl) (show d + 1 + 2 + 1 ≤ d + 4 by omega) (show 8 + (2 + 11) + 40 * (d + 1 + 2) ≤ 40 * (d + 4) by omega) (g_c0 hvx.ln) (Nat.le_of_ble_eq_true rfl) dX8_ends_59 ?_
          intro r h6 hq _
          obtain ⟨v8, rfl, v8l, v8u, rfl, f7⟩ := hq
          refine go_iconst (pc := 62) (v := 4) (by decide) dX8_ends_62 ?_
          refine gf_icmp_ne (pc := 63) (tgt := 74) (ti_rfl v8) (ti_c (v := 4) (a := 4) (by decide)) (by decide) dX8_ends_63 (fun q9 => ?_) (fun q9 => ?_)
          ·
            exact go_lv rfl (ih.2.2.2.1 l1 l2 s0 hx hvx (by omega) (by omega) (by omega) (by omega) (by omega) (by omega) (by omega))
          ·
            refine go_iload_n (pc := 66) rfl dX8_ends_66 ?_
            refine gf_if_eq (pc := 67) (tgt := 74) (ti_rfl s0) (by decide) dX8_ends_67 (fun q10 => ?_) (fun q10 => ?_)
            ·
              exact go_lv rfl (ih.2.2.2.1 l1 l2 s0 hx hvx (by omega) (by omega) (by omega) (by omega) (by omega) (by omega) (by omega))
            ·
              exact go_lv rfl (ih.2.2.1 l1 l2 s0 hx hvx (by omega) (by omega) (by omega) (by omega) (by omega) (by omega) (by omega))
      ·
        intro l1 l2 l3 hx hvx l1l l1u l2l l2u l3l l3u hm
        refine go_iconst (pc := 70) (v := 1) (by decide) dX8_ends_70 ?_
        refine go_goto (pc := 71) (tgt := 75) (by decide) dX8_ends_71 ?_
        have z11 : (1 : Int32).toInt = 1 := (ti_c (v := 1) (a := 1) (by decide))
        exact go_lv rfl (ih.2.2.2.2.1 l1 l2 l3 1 hx hvx (by omega) (by omega) (by omega) (by omega) (by omega) (by omega) (by omega) (by omega) (by omega))
      ·
        intro l1 l2 l3 hx hvx l1l l1u l2l l2u l3l l3u hm
        refine go_iconst (pc := 74) (v := 0) (by decide) dX8_ends_74 ?_
        have z12 : (0 : Int32).toInt = 0 := (ti_c (v := 0) (a := 0) (by decide))
        exact go_lv rfl (ih.2.2.2.2.1 l1 l2 l3 0 hx hvx (by omega) (by omega) (by omega) (by omega) (by omega) (by omega) (by omega) (by omega) (by omega))
      ·
        intro l1 l2 l3 s0 hx hvx l1l l1u l2l l2u l3l l3u s0l s0u hm
        refine go_istore (pc := 75) (Nat.le_of_ble_eq_true rfl) dX8_ends_75 (go_lv (lv2 := [(0, .ref 70), (1, .int l1), (2, .int l2), (3, .int l3), (4, .int s0)]) rfl ?_)
        refine go_aload_n (pc := 77) rfl dX8_ends_77 ?_
        refine go_iload_n (pc := 78) rfl dX8_ends_78 ?_
        refine go_invV (pc := 79) (sl := 0) (s_X8_isThrowing l (d + 0) hvx l1 (by rw [show (l1 : Int32).toInt = l1.toInt from (ti_rfl l1)]; omega) (by rw [show (l1 : Int32).toInt = l1.toInt from (ti_rfl l1)]; omega) ck) mL_X8_277 iM_X8_isThrowing sM_X8_isThrowing (hvx.sh rfl) rfl rfl rfl (Nat.le_of_ble_eq_true rfl) (show d + 0 + 3 + 1 ≤ d + 4 by omega) (show 8 + (2 + 11) + 40 * (d + 0 + 3) ≤ 40 * (d + 4) by omega) (g_c0 hvx.ln) (Nat.le_of_ble_eq_true rfl) dX8_ends_79 ?_
        intro r h13 hq _
        obtain ⟨v14, rfl, v14l, v14u, rfl⟩ := hq
        refine gf_if_eq (pc := 82) (tgt := 93) (ti_rfl v14) (by decide) dX8_ends_82 (fun q15 => ?_) (fun q15 => ?_)
        ·
          exact go_lv rfl (ih.2.2.2.2.2.1 l1 l2 s0 hx hvx (by omega) (by omega) (by omega) (by omega) (by omega) (by omega) (by omega))
        ·
          refine go_iload_n (pc := 85) rfl dX8_ends_85 ?_
          refine gf_if_eq (pc := 86) (tgt := 93) (ti_rfl l3) (by decide) dX8_ends_86 (fun q16 => ?_) (fun q16 => ?_)
          ·
            exact go_lv rfl (ih.2.2.2.2.2.1 l1 l2 s0 hx hvx (by omega) (by omega) (by omega) (by omega) (by omega) (by omega) (by omega))
          ·
            refine go_iconst (pc := 89) (v := 1) (by decide) dX8_ends_89 ?_
            refine go_goto (pc := 90) (tgt := 94) (by decide) dX8_ends_90 ?_
            have z17 : (1 : Int32).toInt = 1 := (ti_c (v := 1) (a := 1) (by decide))
            exact go_lv rfl (ih.2.2.2.2.2.2.1 l1 l2 s0 1 hx hvx (by omega) (by omega) (by omega) (by omega) (by omega) (by omega) (by omega) (by omega) (by omega))
      ·
        intro l1 l2 l4 hx hvx l1l l1u l2l l2u l4l l4u hm
        refine go_iconst (pc := 93) (v := 0) (by decide) dX8_ends_93 ?_
        have z18 : (0 : Int32).toInt = 0 := (ti_c (v := 0) (a := 0) (by decide))
        exact go_lv rfl (ih.2.2.2.2.2.2.1 l1 l2 l4 0 hx hvx (by omega) (by omega) (by omega) (by omega) (by omega) (by omega) (by omega) (by omega) (by omega))
      ·
        intro l1 l2 l4 s0 hx hvx l1l l1u l2l l2u l4l l4u s0l s0u hm
        refine go_istore (pc := 94) (Nat.le_of_ble_eq_true rfl) dX8_ends_94 (go_lv (lv2 := [(0, .ref 70), (1, .int l1), (2, .int l2), (4, .int l4), (5, .int s0)]) rfl ?_)
        refine go_iload (pc := 96) rfl dX8_ends_96 ?_
        refine gf_if_eq (pc := 98) (tgt := 116) (ti_rfl l4) (by decide) dX8_ends_98 (fun q19 => ?_) (fun q19 => ?_)
        ·
          exact go_lv rfl (ih.2.2.2.2.2.2.2.1 l1 l2 l4 s0 hx hvx (by omega) (by omega) (by omega) (by omega) (by omega) (by omega) (by omega) (by omega) (by omega))
        ·
          refine go_aload_n (pc := 101) rfl dX8_ends_101 ?_
          refine go_iload_n (pc := 102) rfl dX8_ends_102 ?_
          refine go_bipush (pc := 103) (v := 7) (by decide) dX8_ends_103 ?_
          refine go_invS (pc := 105) (sl := 0) (s_X8_procedurePlace l (d + 2) hvx l2 (by rw [show (l2 : Int32).toInt = l2.toInt from (ti_rfl l2)]; omega) (by rw [show (l2 : Int32).toInt = l2.toInt from (ti_rfl l2)]; omega) 7 (by rw [show (7 : Int32).toInt = 7 from (ti_c (v := 7) (a := 7) (by decide))]; omega) (by rw [show (7 : Int32).toInt = 7 from (ti_c (v := 7) (a := 7) (by decide))]; omega)) mL_X8_300 iM_X8_procedurePlace rfl rfl (Nat.le_of_ble_eq_true rfl) (show d + 2 + 1 + 1 ≤ d + 4 by omega) (show 8 + (2 + 11) + 40 * (d + 2 + 1) ≤ 40 * (d + 4) by omega) (g_c0 hvx.ln) (Nat.le_of_ble_eq_true rfl) dX8_ends_105 ?_
          intro r h20 hq _
          obtain ⟨v21, rfl, v21l, v21u, rfl⟩ := hq
          refine go_iload_n (pc := 108) rfl dX8_ends_108 ?_
          refine go_iconst (pc := 109) (v := 0) (by decide) dX8_ends_109 ?_
          refine go_invS (pc := 110) (sl := 0) (s_X8_statementPlace l (d + 2) hvx l1 (by rw [show (l1 : Int32).toInt = l1.toInt from (ti_rfl l1)]; omega) (by rw [show (l1 : Int32).toInt = l1.toInt from (ti_rfl l1)]; omega) 0 (by rw [show (0 : Int32).toInt = 0 from (ti_c (v := 0) (a := 0) (by decide))]; omega) (by rw [show (0 : Int32).toInt = 0 from (ti_c (v := 0) (a := 0) (by decide))]; omega)) mL_X8_291 iM_X8_statementPlace rfl rfl (Nat.le_of_ble_eq_true rfl) (show d + 2 + 1 + 1 ≤ d + 4 by omega) (show 8 + (2 + 11) + 40 * (d + 2 + 1) ≤ 40 * (d + 4) by omega) (g_c0 hvx.ln) (Nat.le_of_ble_eq_true rfl) dX8_ends_110 ?_
          intro r h22 hq _
          obtain ⟨v23, rfl, v23l, v23u, rfl⟩ := hq
          refine go_invV (pc := 113) (sl := 0) (s_X8_hang l (d + 2) hvx v21 (by rw [show (v21 : Int32).toInt = v21.toInt from (ti_rfl v21)]; omega) (by rw [show (v21 : Int32).toInt = v21.toInt from (ti_rfl v21)]; omega) v23 (by rw [show (v23 : Int32).toInt = v23.toInt from (ti_rfl v23)]; omega) (by rw [show (v23 : Int32).toInt = v23.toInt from (ti_rfl v23)]; omega)) mL_X8_303 iM_X8_hang sM_X8_hang (hvx.sh rfl) rfl rfl rfl (Nat.le_of_ble_eq_true rfl) (show d + 2 + 1 + 1 ≤ d + 4 by omega) (show 8 + (3 + 11) + 40 * (d + 2 + 1) ≤ 40 * (d + 4) by omega) (g_c0 hvx.ln) (Nat.le_of_ble_eq_true rfl) dX8_ends_113 ?_
          intro r h24 hq _
          obtain ⟨rfl, hv24⟩ := hq
          exact go_lv rfl (ih.2.2.2.2.2.2.2.1 l1 l2 l4 s0 h24 hv24 (by omega) (by omega) (by omega) (by omega) (by omega) (by omega) (by omega) (by omega) (by omega))
      ·
        intro l1 l2 l4 l5 hx hvx l1l l1u l2l l2u l4l l4u l5l l5u hm
        refine go_iload (pc := 116) rfl dX8_ends_116 ?_
        refine gf_if_eq (pc := 118) (tgt := 137) (ti_rfl l5) (by decide) dX8_ends_118 (fun q25 => ?_) (fun q25 => ?_)
        ·
          exact go_lv rfl (ih.2.2.2.2.2.2.2.2.1 l1 l2 l4 l5 hx hvx (by omega) (by omega) (by omega) (by omega) (by omega) (by omega) (by omega) (by omega) (by omega))
        ·
          refine go_aload_n (pc := 121) rfl dX8_ends_121 ?_
          refine go_iload_n (pc := 122) rfl dX8_ends_122 ?_
          refine go_bipush (pc := 123) (v := 7) (by decide) dX8_ends_123 ?_
          refine go_invS (pc := 125) (sl := 0) (s_X8_procedurePlace l (d + 2) hvx l2 (by rw [show (l2 : Int32).toInt = l2.toInt from (ti_rfl l2)]; omega) (by rw [show (l2 : Int32).toInt = l2.toInt from (ti_rfl l2)]; omega) 7 (by rw [show (7 : Int32).toInt = 7 from (ti_c (v := 7) (a := 7) (by decide))]; omega) (by rw [show (7 : Int32).toInt = 7 from (ti_c (v := 7) (a := 7) (by decide))]; omega)) mL_X8_300 iM_X8_procedurePlace rfl rfl (Nat.le_of_ble_eq_true rfl) (show d + 2 + 1 + 1 ≤ d + 4 by omega) (show 8 + (2 + 11) + 40 * (d + 2 + 1) ≤ 40 * (d + 4) by omega) (g_c0 hvx.ln) (Nat.le_of_ble_eq_true rfl) dX8_ends_125 ?_
          intro r h26 hq _
          obtain ⟨v27, rfl, v27l, v27u, rfl⟩ := hq
          refine go_iload_n (pc := 128) rfl dX8_ends_128 ?_
          refine go_bipush (pc := 129) (v := 7) (by decide) dX8_ends_129 ?_
          refine go_invS (pc := 131) (sl := 0) (s_X8_statementPlace l (d + 2) hvx l1 (by rw [show (l1 : Int32).toInt = l1.toInt from (ti_rfl l1)]; omega) (by rw [show (l1 : Int32).toInt = l1.toInt from (ti_rfl l1)]; omega) 7 (by rw [show (7 : Int32).toInt = 7 from (ti_c (v := 7) (a := 7) (by decide))]; omega) (by rw [show (7 : Int32).toInt = 7 from (ti_c (v := 7) (a := 7) (by decide))]; omega)) mL_X8_291 iM_X8_statementPlace rfl rfl (Nat.le_of_ble_eq_true rfl) (show d + 2 + 1 + 1 ≤ d + 4 by omega) (show 8 + (2 + 11) + 40 * (d + 2 + 1) ≤ 40 * (d + 4) by omega) (g_c0 hvx.ln) (Nat.le_of_ble_eq_true rfl) dX8_ends_131 ?_
          intro r h28 hq _
          obtain ⟨v29, rfl, v29l, v29u, rfl⟩ := hq
          refine go_invV (pc := 134) (sl := 0) (s_X8_hang l (d + 2) hvx v27 (by rw [show (v27 : Int32).toInt = v27.toInt from (ti_rfl v27)]; omega) (by rw [show (v27 : Int32).toInt = v27.toInt from (ti_rfl v27)]; omega) v29 (by rw [show (v29 : Int32).toInt = v29.toInt from (ti_rfl v29)]; omega) (by rw [show (v29 : Int32).toInt = v29.toInt from (ti_rfl v29)]; omega)) mL_X8_303 iM_X8_hang sM_X8_hang (hvx.sh rfl) rfl rfl rfl (Nat.le_of_ble_eq_true rfl) (show d + 2 + 1 + 1 ≤ d + 4 by omega) (show 8 + (3 + 11) + 40 * (d + 2 + 1) ≤ 40 * (d + 4) by omega) (g_c0 hvx.ln) (Nat.le_of_ble_eq_true rfl) dX8_ends_134 ?_
          intro r h30 hq _
          obtain ⟨rfl, hv30⟩ := hq
          exact go_lv rfl (ih.2.2.2.2.2.2.2.2.1 l1 l2 l4 l5 h30 hv30 (by omega) (by omega) (by omega) (by omega) (by omega) (by omega) (by omega) (by omega) (by omega))
      ·
        intro l1 l2 l4 l5 hx hvx l1l l1u l2l l2u l4l l4u l5l l5u hm
        refine go_aload_n (pc := 137) rfl dX8_ends_137 ?_
        refine gi_getF (pc := 138) (q := 102) hvx fL_X8_105 rfl (Nat.le_of_ble_eq_true rfl) rfl (hvx.rf (by decide)) dX8_ends_138 ?_
        refine go_iconst (pc := 141) (v := 5) (by decide) dX8_ends_141 ?_
        refine go_aload_n (pc := 142) rfl dX8_ends_142 ?_
        refine gi_get (pc := 143) (lo := 0) (hi := 1) hvx fL_X8_187 rfl (Nat.le_of_ble_eq_true rfl) rfl rfl dX8_ends_143 (fun v31 v31l v31u v31w => ?_)
        refine gf_imul (pc := 146) (ti_c (v := 5) (a := 5) (by decide)) (ti_rfl v31) (by omega) (by omega) dX8_ends_146 (fun v32 e33 => ?_)
        refine go_iload_n (pc := 147) rfl dX8_ends_147 ?_
        refine gf_iadd (pc := 148) e33 (ti_rfl l2) (by omega) (by omega) dX8_ends_148 (fun v34 e35 => ?_)
        refine gi_zald (pc := 149) (lo := 0) (hi := 1) (len := 10) hvx e35 rfl (by omega) (by omega) (fun _ => rfl) dX8_ends_149 (fun v36 v36l v36u v36w => ?_)
        refine gf_if_ne (pc := 150) (tgt := 154) (ti_rfl v36) (by decide) dX8_ends_150 (fun q37 => ?_) (fun q37 => ?_)
        ·
          refine go_iload (pc := 154) rfl dX8_ends_154 ?_
          refine gf_if_eq (pc := 156) (tgt := 174) (ti_rfl l4) (by decide) dX8_ends_156 (fun q38 => ?_) (fun q38 => ?_)
          ·
            exact go_lv rfl (ih.2.2.2.2.2.2.2.2.2.1 l1 l2 l5 hx hvx (by omega) (by omega) (by omega) (by omega) (by omega) (by omega) (by omega))
          ·
            refine go_aload_n (pc := 159) rfl dX8_ends_159 ?_
            refine go_iload_n (pc := 160) rfl dX8_ends_160 ?_
            refine go_bipush (pc := 161) (v := 8) (by decide) dX8_ends_161 ?_
            refine go_invS (pc := 163) (sl := 0) (s_X8_procedurePlace l (d + 2) hvx l2 (by rw [show (l2 : Int32).toInt = l2.toInt from (ti_rfl l2)]; omega) (by rw [show (l2 : Int32).toInt = l2.toInt from (ti_rfl l2)]; omega) 8 (by rw [show (8 : Int32).toInt = 8 from (ti_c (v := 8) (a := 8) (by decide))]; omega) (by rw [show (8 : Int32).toInt = 8 from (ti_c (v := 8) (a := 8) (by decide))]; omega)) mL_X8_300 iM_X8_procedurePlace rfl rfl (Nat.le_of_ble_eq_true rfl) (show d + 2 + 1 + 1 ≤ d + 4 by omega) (show 8 + (2 + 11) + 40 * (d + 2 + 1) ≤ 40 * (d + 4) by omega) (g_c0 hvx.ln) (Nat.le_of_ble_eq_true rfl) dX8_ends_163 ?_
            intro r h39 hq _
            obtain ⟨v40, rfl, v40l, v40u, rfl⟩ := hq
            refine go_iload_n (pc := 166) rfl dX8_ends_166 ?_
            refine go_iconst (pc := 167) (v := 0) (by decide) dX8_ends_167 ?_
            refine go_invS (pc := 168) (sl := 0) (s_X8_statementPlace l (d + 2) hvx l1 (by rw [show (l1 : Int32).toInt = l1.toInt from (ti_rfl l1)]; omega) (by rw [show (l1 : Int32).toInt = l1.toInt from (ti_rfl l1)]; omega) 0 (by rw [show (0 : Int32).toInt = 0 from (ti_c (v := 0) (a := 0) (by decide))]; omega) (by rw [show (0 : Int32).toInt = 0 from (ti_c (v := 0) (a := 0) (by decide))]; omega)) mL_X8_291 iM_X8_statementPlace rfl rfl (Nat.le_of_ble_eq_true rfl) (show d + 2 + 1 + 1 ≤ d + 4 by omega) (show 8 + (2 + 11) + 40 * (d + 2 + 1) ≤ 40 * (d + 4) by omega) (g_c0 hvx.ln) (Nat.le_of_ble_eq_true rfl) dX8_ends_168 ?_
            intro r h41 hq _
            obtain ⟨v42, rfl, v42l, v42u, rfl⟩ := hq
            refine go_invV (pc := 171) (sl := 0) (s_X8_hang l (d + 2) hvx v40 (by rw [show (v40 : Int32).toInt = v40.toInt from (ti_rfl v40)]; omega) (by rw [show (v40 : Int32).toInt = v40.toInt from (ti_rfl v40)]; omega) v42 (by rw [show (v42 : Int32).toInt = v42.toInt from (ti_rfl v42)]; omega) (by rw [show (v42 : Int32).toInt = v42.toInt from (ti_rfl v42)]; omega)) mL_X8_303 iM_X8_hang sM_X8_hang (hvx.sh rfl) rfl rfl rfl (Nat.le_of_ble_eq_true rfl) (show d + 2 + 1 + 1 ≤ d + 4 by omega) (show 8 + (3 + 11) + 40 * (d + 2 + 1) ≤ 40 * (d + 4) by omega) (g_c0 hvx.ln) (Nat.le_of_ble_eq_true rfl) dX8_ends_171 ?_
            intro r h43 hq _
            obtain ⟨rfl, hv43⟩ := hq
            exact go_lv rfl (ih.2.2.2.2.2.2.2.2.2.1 l1 l2 l5 h43 hv43 (by omega) (by omega) (by omega) (by omega) (by omega) (by omega) (by omega))
        ·
          exact gi_vret (pc := 153) ⟨rfl, hvx⟩ hvx dX8_ends_153
      ·
        intro l1 l2 l5 hx hvx l1l l1u l2l l2u l5l l5u hm
        refine go_iload (pc := 174) rfl dX8_ends_174 ?_
        refine gf_if_eq (pc := 176) (tgt := 195) (ti_rfl l5) (by decide) dX8_ends_176 (fun q44 => ?_) (fun q44 => ?_)
        ·
          exact go_lv rfl (ih.2.2.2.2.2.2.2.2.2.2  hx hvx  (by omega))
        ·
          refine go_aload_n (pc := 179) rfl dX8_ends_179 ?_
          refine go_iload_n (pc := 180) rfl dX8_ends_180 ?_
          refine go_bipush (pc := 181) (v := 8) (by decide) dX8_ends_181 ?_
          refine go_invS (pc := 183) (sl := 0) (s_X8_procedurePlace l (d + 2) hvx l2 (by rw [show (l2 : Int32).toInt = l2.toInt from (ti_rfl l2)]; omega) (by rw [show (l2 : Int32).toInt = l2.toInt from (ti_rfl l2)]; omega) 8 (by rw [show (8 : Int32).toInt = 8 from (ti_c (v := 8) (a := 8) (by decide))]; omega) (by rw [show (8 : Int32).toInt = 8 from (ti_c (v := 8) (a := 8) (by decide))]; omega)) mL_X8_300 iM_X8_procedurePlace rfl rfl (Nat.le_of_ble_eq_true rfl) (show d + 2 + 1 + 1 ≤ d + 4 by omega) (show 8 + (2 + 11) + 40 * (d + 2 + 1) ≤ 40 * (d + 4) by omega) (g_c0 hvx.ln) (Nat.le_of_ble_eq_true rfl) dX8_ends_183 ?_
          intro r h45 hq _
          obtain ⟨v46, rfl, v46l, v46u, rfl⟩ := hq
          refine go_iload_n (pc := 186) rfl dX8_ends_186 ?_
          refine go_bipush (pc := 187) (v := 8) (by decide) dX8_ends_187 ?_
          refine go_invS (pc := 189) (sl := 0) (s_X8_statementPlace l (d + 2) hvx l1 (by rw [show (l1 : Int32).toInt = l1.toInt from (ti_rfl l1)]; omega) (by rw [show (l1 : Int32).toInt = l1.toInt from (ti_rfl l1)]; omega) 8 (by rw [show (8 : Int32).toInt = 8 from (ti_c (v := 8) (a := 8) (by decide))]; omega) (by rw [show (8 : Int32).toInt = 8 from (ti_c (v := 8) (a := 8) (by decide))]; omega)) mL_X8_291 iM_X8_statementPlace rfl rfl (Nat.le_of_ble_eq_true rfl) (show d + 2 + 1 + 1 ≤ d + 4 by omega) (show 8 + (2 + 11) + 40 * (d + 2 + 1) ≤ 40 * (d + 4) by omega) (g_c0 hvx.ln) (Nat.le_of_ble_eq_true rfl) dX8_ends_189 ?_
          intro r h47 hq _
          obtain ⟨v48, rfl, v48l, v48u, rfl⟩ := hq
          refine go_invV (pc := 192) (sl := 0) (s_X8_hang l (d + 2) hvx v46 (by rw [show (v46 : Int32).toInt = v46.toInt from (ti_rfl v46)]; omega) (by rw [show (v46 : Int32).toInt = v46.toInt from (ti_rfl v46)]; omega) v48 (by rw [show (v48 : Int32).toInt = v48.toInt from (ti_rfl v48)]; omega) (by rw [show (v48 : Int32).toInt = v48.toInt from (ti_rfl v48)]; omega)) mL_X8_303 iM_X8_hang sM_X8_hang (hvx.sh rfl) rfl rfl rfl (Nat.le_of_ble_eq_true rfl) (show d + 2 + 1 + 1 ≤ d + 4 by omega) (show 8 + (3 + 11) + 40 * (d + 2 + 1) ≤ 40 * (d + 4) by omega) (g_c0 hvx.ln) (Nat.le_of_ble_eq_true rfl) dX8_ends_192 ?_
          intro r h49 hq _
          obtain ⟨rfl, hv49⟩ := hq
          exact go_lv rfl (ih.2.2.2.2.2.2.2.2.2.2  h49 hv49  (by omega))
      ·
        intro hx hvx hm
        exact gi_vret (pc := 195) ⟨rfl, hvx⟩ hvx dX8_ends_195
  refine go_aload_n (pc := 0) rfl dX8_ends_0 ?_
  refine go_iload_n (pc := 1) rfl dX8_ends_1 ?_
  refine go_invV (pc := 2) (sl := 0) (s_X8_procedureOf l (d + 1) hv a2 (by rw [show (a2 : Int32).toInt = a2.toInt from (ti_rfl a2)]; omega) (by rw [show (a2 : Int32).toInt = a2.toInt from (ti_rfl a2)]; omega)) mL_X8_306 iM_X8_procedureOf sM_X8_procedureOf (hv.sh rfl) rfl rfl rfl (Nat.le_of_ble_eq_true rfl) (show d + 1 + 2 + 1 ≤ d + 4 by omega) (show 8 + (2 + 11) + 40 * (d + 1 + 2) ≤ 40 * (d + 4) by omega) (g_c0 hv.ln) (Nat.le_of_ble_eq_true rfl) dX8_ends_2 ?_
  intro r h50 hq _
  obtain ⟨v51, rfl, v51l, v51u, rfl⟩ := hq
  refine go_istore_n (pc := 5) (Nat.le_of_ble_eq_true rfl) dX8_ends_5 (go_lv (lv2 := [(0, .ref 70), (1, .int a2), (2, .int v51)]) rfl ?_)
  refine go_aload_n (pc := 6) rfl dX8_ends_6 ?_
  refine gi_getF (pc := 7) (q := 98) hv fL_X8_92 rfl (Nat.le_of_ble_eq_true rfl) rfl (hv.rf (by decide)) dX8_ends_7 ?_
  refine go_bipush (pc := 10) (v := 40) (by decide) dX8_ends_10 ?_
  refine go_aload_n (pc := 12) rfl dX8_ends_12 ?_
  refine gi_get (pc := 13) (lo := 0) (hi := 1) hv fL_X8_187 rfl (Nat.le_of_ble_eq_true rfl) rfl rfl dX8_ends_13 (fun v52 v52l v52u v52w => ?_)
  refine gf_imul (pc := 16) (ti_c (v := 40) (a := 40) (by decide)) (ti_rfl v52) (by omega) (by omega) dX8_ends_16 (fun v53 e54 => ?_)
  refine go_iload_n (pc := 17) rfl dX8_ends_17 ?_
  refine gf_iadd (pc := 18) e54 (ti_rfl a2) (by omega) (by omega) dX8_ends_18 (fun v55 e56 => ?_)
  refine gi_iald (pc := 19) (lo := -1) (hi := 39) (len := 80) hv e56 rfl (by omega) (by omega) (fun _ => rfl) dX8_ends_19 (fun v57 v57l v57u v57w => ?_)
  refine go_iconst (pc := 20) (v := (-1)) (by decide) dX8_ends_20 ?_
  refine gf_icmp_ne (pc := 21) (tgt := 46) (ti_rfl v57) (ti_c (v := (-1)) (a := (-1)) (by decide)) (by decide) dX8_ends_21 (fun q58 => ?_) (fun q58 => ?_)
  ·
    exact go_lv rfl ((key 24).1 a2 v51 h hv (by omega) (by omega) (by omega) (by omega) (by omega))
  ·
    refine go_aload_n (pc := 24) rfl dX8_ends_24 ?_
    refine gi_getF (pc := 25) (q := 99) hv fL_X8_95 rfl (Nat.le_of_ble_eq_true rfl) rfl (hv.rf (by decide)) dX8_ends_25 ?_
    refine go_bipush (pc := 28) (v := 40) (by decide) dX8_ends_28 ?_
    refine go_aload_n (pc := 30) rfl dX8_ends_30 ?_
    refine gi_get (pc := 31) (lo := 0) (hi := 1) hv fL_X8_187 rfl (Nat.le_of_ble_eq_true rfl) rfl rfl dX8_ends_31 (fun v59 v59l v59u v59w => ?_)
    have v59r : v52 = h.2.1 70 6 := v52w
    have v59q : TI v59 v52.toInt := by rw [v59w.trans v59r.symm]; exact (ti_rfl v52)
    refine gf_imul (pc := 34) (ti_c (v := 40) (a := 40) (by decide)) v59q (by omega) (by omega) dX8_ends_34 (fun v60 e61 => ?_)
    refine go_iload_n (pc := 35) rfl dX8_ends_35 ?_
    refine gf_iadd (pc := 36) e61 (ti_rfl a2) (by omega) (by omega) dX8_ends_36 (fun v62 e63 => ?_)
    refine gi_iald (pc := 37) (lo := -1) (hi := 5) (len := 80) hv e63 rfl (by omega) (by omega) (fun _ => rfl) dX8_ends_37 (fun v64 v64l v64u v64w => ?_)
    refine go_iconst (pc := 38) (v := (-1)) (by decide) dX8_ends_38 ?_
    refine gf_icmp_ne (pc := 39) (tgt := 46) (ti_rfl v64) (ti_c (v := (-1)) (a := (-1)) (by decide)) (by decide) dX8_ends_39 (fun q65 => ?_) (fun q65 => ?_)
    ·
      exact go_lv rfl ((key 24).1 a2 v51 h hv (by omega) (by omega) (by omega) (by omega) (by omega))
    ·
      refine go_iconst (pc := 42) (v := 1) (by decide) dX8_ends_42 ?_
      refine go_goto (pc := 43) (tgt := 47) (by decide) dX8_ends_43 ?_
      have z66 : (1 : Int32).toInt = 1 := (ti_c (v := 1) (a := 1) (by decide))
      exact go_lv rfl ((key 24).2.1 a2 v51 1 h hv (by omega) (by omega) (by omega) (by omega) (by omega) (by omega) (by omega))
set_option maxHeartbeats 4000000 in
set_option maxRecDepth 100000 in
theorem s_X8_decides (l : Launch) (d : Nat) {P : PP} {h : HP} (hv : Iv P h) (a2 : Int32) (a2l : 0 ≤ a2.toInt) (a2u : a2.toInt ≤ 39) (ck : CK P) : Mt l yX8_decides cX8_decides 3 (some .boolean) (d + 4) [.ref 70, .int a2] h 0 0 (fun r h' => ∃ v : Int32, r = some (.int v) ∧ 0 ≤ v.toInt ∧ v.toInt ≤ 1 ∧ h = h') := by
  refine Mt_iv hv (by decide) (Nat.le_of_ble_eq_true rfl) ?_
  show Go l RX8 cX8_decides 3 (g_rm (d + 4) 0 0) "decides" (some .boolean) 117 0 0 (fun _ _ => True) (fun r h' => ∃ v : Int32, r = some (.int v) ∧ 0 ≤ v.toInt ∧ v.toInt ≤ 1 ∧ h = h') 0 0 [(0, .ref 70), (1, .int a2)] [] h
  have key : ∀ n : Nat, (∀ (_ : Unit), (2 : Int) < n → Go l RX8 cX8_decides 3 (g_rm (d + 4) 0 0) "decides" (some .boolean) 117 0 0 (fun _ _ => True) (fun r h' => ∃ v : Int32, r = some (.int v) ∧ 0 ≤ v.toInt ∧ v.toInt ≤ 1 ∧ h = h') 0 34 [] [] h) ∧ (∀ (s0 : Int32), 0 ≤ s0.toInt → s0.toInt ≤ 1 → (1 : Int) < n → Go l RX8 cX8_decides 3 (g_rm (d + 4) 0 0) "decides" (some .boolean) 117 0 0 (fun _ _ => True) (fun r h' => ∃ v : Int32, r = some (.int v) ∧ 0 ≤ v.toInt ∧ v.toInt ≤ 1 ∧ h = h') 0 39 [] [.int s0] h) := by
    intro n
    induction n with
    | zero => exact ⟨(by intros; omega), (by intros; omega)⟩
    | succ n ih =>
      refine ⟨?_, ?_⟩
      ·
        intro _ hm
        refine go_iconst (pc := 34) (v := 1) (by decide) dX8_decides_34 ?_
        refine go_goto (pc := 35) (tgt := 39) (by decide) dX8_decides_35 ?_
        have z1 : (1 : Int32).toInt = 1 := (ti_c (v := 1) (a := 1) (by decide))
        exact go_lv rfl (ih.2 1  (by omega) (by omega) (by omega))
      ·
        intro s0 s0l s0u hm
        exact gi_zret (pc := 39) (ti_rfl s0) (by omega) (by omega) ⟨_, rfl, (by rw [show (s0 : Int32).toInt = s0.toInt from (ti_rfl s0)]; omega), (by rw [show (s0 : Int32).toInt = s0.toInt from (ti_rfl s0)]; omega), rfl⟩ hv dX8_decides_39
  refine go_aload_n (pc := 0) rfl dX8_decides_0 ?_
  refine go_iload_n (pc := 1) rfl dX8_decides_1 ?_
  refine go_invV (pc := 2) (sl := 0) (s_X8_kindAt l (d + 1) hv a2 (by rw [show (a2 : Int32).toInt = a2.toInt from (ti_rfl a2)]; omega) (by rw [show (a2 : Int32).toInt = a2.toInt from (ti_rfl a2)]; omega)) mL_X8_271 iM_X8_kindAt sM_X8_kindAt (hv.sh rfl) rfl rfl rfl (Nat.le_of_ble_eq_true rfl) (show d + 1 + 2 + 1 ≤ d + 4 by omega) (show 8 + (2 + 11) + 40 * (d + 1 + 2) ≤ 40 * (d + 4) by omega) (g_c0 hv.ln) (Nat.le_of_ble_eq_true rfl) dX8_decides_2 ?_
  intro r h2 hq _
  obtain ⟨v4, rfl, v4l, v4u, rfl, f3⟩ := hq
  refine go_istore_n (pc := 5) (Nat.le_of_ble_eq_true rfl) dX8_decides_5 (go_lv (lv2 := [(0, .ref 70), (1, .int a2), (2, .int v4)]) rfl ?_)
  refine go_iload_n (pc := 6) rfl dX8_decides_6 ?_
  refine go_iconst (pc := 7) (v := 2) (by decide) dX8_decides_7 ?_
  refine gf_icmp_eq (pc := 8) (tgt := 34) (ti_rfl v4) (ti_c (v := 2) (a := 2) (by decide)) (by decide) dX8_decides_8 (fun q5 => ?_) (fun q5 => ?_)
  ·
    exact go_lv rfl ((key 15).1 ()   (by omega))
  ·
    refine go_iload_n (pc := 11) rfl dX8_decides_11 ?_
    refine go_iconst (pc := 12) (v := 3) (by decide) dX8_decides_12 ?_
    refine gf_icmp_eq (pc := 13) (tgt := 34) (ti_rfl v4) (ti_c (v := 3) (a := 3) (by decide)) (by decide) dX8_decides_13 (fun q6 => ?_) (fun q6 => ?_)
    ·
      exact go_lv rfl ((key 15).1 ()   (by omega))
    ·
      refine go_iload_n (pc := 16) rfl dX8_decides_16 ?_
      refine go_iconst (pc := 17) (v := 5) (by decide) dX8_decides_17 ?_
      refine gf_icmp_eq (pc := 18) (tgt := 34) (ti_rfl v4) (ti_c (v := 5) (a := 5) (by decide)) (by decide) dX8_decides_18 (fun q7 => ?_) (fun q7 => ?_)
      ·
        exact go_lv rfl ((key 15).1 ()   (by omega))
      ·
        refine go_iload_n (pc := 21) rfl dX8_decides_21 ?_
        refine go_iconst (pc := 22) (v := 4) (by decide) dX8_decides_22 ?_
        refine gf_icmp_eq (pc := 23) (tgt := 34) (ti_rfl v4) (ti_c (v := 4) (a := 4) (by decide)) (by decide) dX8_decides_23 (fun q8 => ?_) (fun q8 => ?_)
        ·
          exact go_lv rfl ((key 15).1 ()   (by omega))
        ·
          refine go_aload_n (pc := 26) rfl dX8_decides_26 ?_
          refine go_iload_n (pc := 27) rfl dX8_decides_27 ?_
          refine go_invV (pc := 28) (sl := 0) (s_X8_isThrowing l (d + 0) hv a2 (by rw [show (a2 : Int32).toInt = a2.toInt from (ti_rfl a2)]; omega) (by rw [show (a2 : Int32).toInt = a2.toInt from (ti_rfl a2)]; omega) ck) mL_X8_277 iM_X8_isThrowing sM_X8_isThrowing (hv.sh rfl) rfl rfl rfl (Nat.le_of_ble_eq_true rfl) (show d + 0 + 3 + 1 ≤ d + 4 by omega) (show 8 + (2 + 11) + 40 * (d + 0 + 3) ≤ 40 * (d + 4) by omega) (g_c0 hv.ln) (Nat.le_of_ble_eq_true rfl) dX8_decides_28 ?_
          intro r h9 hq _
          obtain ⟨v10, rfl, v10l, v10u, rfl⟩ := hq
          refine gf_if_eq (pc := 31) (tgt := 38) (ti_rfl v10) (by decide) dX8_decides_31 (fun q11 => ?_) (fun q11 => ?_)
          ·
            refine go_iconst (pc := 38) (v := 0) (by decide) dX8_decides_38 ?_
            have z12 : (0 : Int32).toInt = 0 := (ti_c (v := 0) (a := 0) (by decide))
            exact go_lv rfl ((key 15).2 0  (by omega) (by omega) (by omega))
          ·
            exact go_lv rfl ((key 15).1 ()   (by omega))
set_option maxHeartbeats 4000000 in
set_option maxRecDepth 100000 in
theorem s_X8_wayOf (l : Launch) (d : Nat) {P : PP} {h : HP} (hv : Iv P h) (a2 : Int32) (a2l : 0 ≤ a2.toInt) (a2u : a2.toInt ≤ 39) (a3 : Int32) (ck : CK P) : Mt l yX8_wayOf cX8_wayOf 4 (some .int) (d + 5) [.ref 70, .int a2, .int a3] h 0 0 (fun r h' => ∃ v : Int32, r = some (.int v) ∧ -2 ≤ v.toInt ∧ v.toInt ≤ 39 ∧ h = h') := by
  refine Mt_iv hv (by decide) (Nat.le_of_ble_eq_true rfl) ?_
  show Go l RX8 cX8_wayOf 4 (g_rm (d + 5) 0 0) "wayOf" (some .int) 117 0 0 (fun _ _ => True) (fun r h' => ∃ v : Int32, r = some (.int v) ∧ -2 ≤ v.toInt ∧ v.toInt ≤ 39 ∧ h = h') 0 0 [(0, .ref 70), (1, .int a2), (2, .int a3)] [] h
  have key : ∀ n : Nat, (∀ (s0 : Int32), -1 ≤ s0.toInt → s0.toInt ≤ 39 → (1 : Int) < n → Go l RX8 cX8_wayOf 4 (g_rm (d + 5) 0 0) "wayOf" (some .int) 117 0 0 (fun _ _ => True) (fun r h' => ∃ v : Int32, r = some (.int v) ∧ -2 ≤ v.toInt ∧ v.toInt ≤ 39 ∧ h = h') 0 69 [] [.int s0] h) ∧ (∀ (s0 : Int32), -1 ≤ s0.toInt → s0.toInt ≤ 39 → (2 : Int) < n → Go l RX8 cX8_wayOf 4 (g_rm (d + 5) 0 0) "wayOf" (some .int) 117 0 0 (fun _ _ => True) (fun r h' => ∃ v : Int32, r = some (.int v) ∧ -2 ≤ v.toInt ∧ v.toInt ≤ 39 ∧ h = h') 0 89 [] [.int s0] h) ∧ (∀ (s0 : Int32), -2 ≤ s0.toInt → s0.toInt ≤ 39 → (3 : Int) < n → Go l RX8 cX8_wayOf 4 (g_rm (d + 5) 0 0) "wayOf" (some .int) 117 0 0 (fun _ _ => True) (fun r h' => ∃ v : Int32, r = some (.int v) ∧ -2 ≤ v.toInt ∧ v.toInt ≤ 39 ∧ h = h') 0 122 [] [.int s0] h) ∧ (∀ (s0 : Int32), -2 ≤ s0.toInt → s0.toInt ≤ 39 → (4 : Int) < n → Go l RX8 cX8_wayOf 4 (g_rm (d + 5) 0 0) "wayOf" (some .int) 117 0 0 (fun _ _ => True) (fun r h' => ∃ v : Int32, r = some (.int v) ∧ -2 ≤ v.toInt ∧ v.toInt ≤ 39 ∧ h = h') 0 138 [] [.int s0] h) := by
    intro n
    induction n with
    | zero => exact ⟨(by intros; omega), (by intros; omega), (by intros; omega), (by intros; omega)⟩
    | succ n ih =>
      refine ⟨?_, ?_, ?_, ?_⟩
      ·
        intro s0 s0l s0u hm
        exact gi_iret (pc := 69) (ti_rfl s0) ⟨_, rfl, (by rw [show (s0 : Int32).toInt = s0.toInt from (ti_rfl s0)]; omega), (by rw [show (s0 : Int32).toInt = s0.toInt from (ti_rfl s0)]; omega), rfl⟩ hv dX8_wayOf_69
      ·
        intro s0 s0l s0u hm
        exact gi_iret (pc := 89) (ti_rfl s0) ⟨_, rfl, (by rw [show (s0 : Int32).toInt = s0.toInt from (ti_rfl s0)]; omega), (by rw [show (s0 : Int32).toInt = s0.toInt from (ti_rfl s0)]; omega), rfl⟩ hv dX8_wayOf_89
      ·
        intro s0 s0l s0u hm
        exact gi_iret (pc := 122) (ti_rfl s0) ⟨_, rfl, (by rw [show (s0 : Int32).toInt = s0.toInt from (ti_rfl s0)]; omega), (by rw [show (s0 : Int32).toInt = s0.toInt from (ti_rfl s0)]; omega), rfl⟩ hv dX8_wayOf_122
      ·
        intro s0 s0l s0u hm
        exact gi_iret (pc := 138) (ti_rfl s0) ⟨_, rfl, (by rw [show (s0 : Int32).toInt = s0.toInt from (ti_rfl s0)]; omega), (by rw [show (s0 : Int32).toInt = s0.toInt from (ti_rfl s0)]; omega), rfl⟩ hv dX8_wayOf_138
  refine go_bipush (pc := 0) (v := 40) (by decide) dX8_wayOf_0 ?_
  refine go_aload_n (pc := 2) rfl dX8_wayOf_2 ?_
  refine gi_get (pc := 3) (lo := 0) (hi := 1) hv fL_X8_187 rfl (Nat.le_of_ble_eq_true rfl) rfl rfl dX8_wayOf_3 (fun v1 v1l v1u v1w => ?_)
  refine gf_imul (pc := 6) (ti_c (v := 40) (a := 40) (by decide)) (ti_rfl v1) (by omega) (by omega) dX8_wayOf_6 (fun v2 e3 => ?_)
  refine go_iload_n (pc := 7) rfl dX8_wayOf_7 ?_
  refine gf_iadd (pc := 8) e3 (ti_rfl a2) (by omega) (by omega) dX8_wayOf_8 (fun v4 e5 => ?_)
  refine go_istore_n (pc := 9) (Nat.le_of_ble_eq_true rfl) dX8_wayOf_9 (go_lv (lv2 := [(0, .ref 70), (1, .int a2), (2, .int a3), (3, .int v4)]) rfl ?_)
  refine go_aload_n (pc := 10) rfl dX8_wayOf_10 ?_
  refine go_iload_n (pc := 11) rfl dX8_wayOf_11 ?_
  refine go_invV (pc := 12) (sl := 0) (s_X8_kindAt l (d + 2) hv a2 (by rw [show (a2 : Int32).toInt = a2.toInt from (ti_rfl a2)]; omega) (by rw [show (a2 : Int32).toInt = a2.toInt from (ti_rfl a2)]; omega)) mL_X8_271 iM_X8_kindAt sM_X8_kindAt (hv.sh rfl) rfl rfl rfl (Nat.le_of_ble_eq_true rfl) (show d + 2 + 2 + 1 ≤ d + 5 by omega) (show 8 + (2 + 11) + 40 * (d + 2 + 2) ≤ 40 * (d + 5) by omega) (g_c0 hv.ln) (Nat.le_of_ble_eq_true rfl) dX8_wayOf_12 ?_
  intro r h6 hq _
  obtain ⟨v8, rfl, v8l, v8u, rfl, f7⟩ := hq
  by_cases q9 : v8.toInt = 1
  ·
    refine go_tableIn (pc := 15) (tgt := 90) (off := 75) (by rw [show (v8 : Int32).toInt = v8.toInt from (ti_rfl v8)]; omega) (by rw [show (v8 : Int32).toInt = v8.toInt from (ti_rfl v8)]; omega) (by rw [show (v8 : Int32).toInt = v8.toInt from (ti_rfl v8), q9]; rfl) (by decide) dX8_wayOf_15 ?_
    refine go_iload_n (pc := 90) rfl dX8_wayOf_90 ?_
    refine gf_if_ne (pc := 91) (tgt := 103) (ti_rfl a3) (by decide) dX8_wayOf_91 (fun q10 => ?_) (fun q10 => ?_)
    ·
      refine go_aload_n (pc := 103) rfl dX8_wayOf_103 ?_
      refine go_iload_n (pc := 104) rfl dX8_wayOf_104 ?_
      refine go_invV (pc := 105) (sl := 0) (s_X8_isThrowing l (d + 1) hv a2 (by rw [show (a2 : Int32).toInt = a2.toInt from (ti_rfl a2)]; omega) (by rw [show (a2 : Int32).toInt = a2.toInt from (ti_rfl a2)]; omega) ck) mL_X8_277 iM_X8_isThrowing sM_X8_isThrowing (hv.sh rfl) rfl rfl rfl (Nat.le_of_ble_eq_true rfl) (show d + 1 + 3 + 1 ≤ d + 5 by omega) (show 8 + (2 + 11) + 40 * (d + 1 + 3) ≤ 40 * (d + 5) by omega) (g_c0 hv.ln) (Nat.le_of_ble_eq_true rfl) dX8_wayOf_105 ?_
      intro r h11 hq _
      obtain ⟨v12, rfl, v12l, v12u, rfl⟩ := hq
      refine gf_if_eq (pc := 108) (tgt := 120) (ti_rfl v12) (by decide) dX8_wayOf_108 (fun q13 => ?_) (fun q13 => ?_)
      ·
        refine go_bipush (pc := 120) (v := (-2)) (by decide) dX8_wayOf_120 ?_
        have z14 : ((-2) : Int32).toInt = (-2) := (ti_c (v := (-2)) (a := (-2)) (by decide))
        exact go_lv rfl ((key 17).2.2.1 (-2)  (by omega) (by omega) (by omega))
      ·
        refine go_aload_n (pc := 111) rfl dX8_wayOf_111 ?_
        refine gi_getF (pc := 112) (q := 98) hv fL_X8_92 rfl (Nat.le_of_ble_eq_true rfl) rfl (hv.rf (by decide)) dX8_wayOf_112 ?_
        refine go_iload_n (pc := 115) rfl dX8_wayOf_115 ?_
        refine gi_iald (pc := 116) (lo := -1) (hi := 39) (len := 80) hv e5 rfl (by omega) (by omega) (fun _ => rfl) dX8_wayOf_116 (fun v15 v15l v15u v15w => ?_)
        refine go_goto (pc := 117) (tgt := 122) (by decide) dX8_wayOf_117 ?_
        exact go_lv rfl ((key 17).2.2.1 v15  (by omega) (by omega) (by omega))
    ·
      refine go_aload_n (pc := 94) rfl dX8_wayOf_94 ?_
      refine gi_getF (pc := 95) (q := 95) hv fL_X8_83 rfl (Nat.le_of_ble_eq_true rfl) rfl (hv.rf (by decide)) dX8_wayOf_95 ?_
      refine go_iload_n (pc := 98) rfl dX8_wayOf_98 ?_
      refine gi_iald (pc := 99) (lo := -1) (hi := 39) (len := 80) hv e5 rfl (by omega) (by omega) (fun _ => rfl) dX8_wayOf_99 (fun v16 v16l v16u v16w => ?_)
      refine go_goto (pc := 100) (tgt := 122) (by decide) dX8_wayOf_100 ?_
      exact go_lv rfl ((key 17).2.2.1 v16  (by omega) (by omega) (by omega))
  by_cases q17 : v8.toInt = 2
  ·
    refine go_tableIn (pc := 15) (tgt := 48) (off := 33) (by rw [show (v8 : Int32).toInt = v8.toInt from (ti_rfl v8)]; omega) (by rw [show (v8 : Int32).toInt = v8.toInt from (ti_rfl v8)]; omega) (by rw [show (v8 : Int32).toInt = v8.toInt from (ti_rfl v8), q17]; rfl) (by decide) dX8_wayOf_15 ?_
    refine go_aload_n (pc := 48) rfl dX8_wayOf_48 ?_
    refine go_iload_n (pc := 49) rfl dX8_wayOf_49 ?_
    refine go_iload_n (pc := 50) rfl dX8_wayOf_50 ?_
    refine go_invV (pc := 51) (sl := 0) (s_X8_way l (d + 0) hv a2 (by rw [show (a2 : Int32).toInt = a2.toInt from (ti_rfl a2)]; omega) (by rw [show (a2 : Int32).toInt = a2.toInt from (ti_rfl a2)]; omega) a3 ck) mL_X8_284 iM_X8_way sM_X8_way (hv.sh rfl) rfl rfl rfl (Nat.le_of_ble_eq_true rfl) (show d + 0 + 4 + 1 ≤ d + 5 by omega) (show 8 + (4 + 11) + 40 * (d + 0 + 4) ≤ 40 * (d + 5) by omega) (g_c0 hv.ln) (Nat.le_of_ble_eq_true rfl) dX8_wayOf_51 ?_
    intro r h18 hq _
    obtain ⟨v19, rfl, v19l, v19u, rfl⟩ := hq
    exact gi_iret (pc := 54) (ti_rfl v19) ⟨_, rfl, (by rw [show (v19 : Int32).toInt = v19.toInt from (ti_rfl v19)]; omega), (by rw [show (v19 : Int32).toInt = v19.toInt from (ti_rfl v19)]; omega), rfl⟩ hv dX8_wayOf_54
  by_cases q20 : v8.toInt = 3
  ·
    refine go_tableIn (pc := 15) (tgt := 48) (off := 33) (by rw [show (v8 : Int32).toInt = v8.toInt from (ti_rfl v8)]; omega) (by rw [show (v8 : Int32).toInt = v8.toInt from (ti_rfl v8)]; omega) (by rw [show (v8 : Int32).toInt = v8.toInt from (ti_rfl v8), q20]; rfl) (by decide) dX8_wayOf_15 ?_
    refine go_aload_n (pc := 48) rfl dX8_wayOf_48 ?_
    refine go_iload_n (pc := 49) rfl dX8_wayOf_49 ?_
    refine go_iload_n (pc := 50) rfl dX8_wayOf_50 ?_
    refine go_invV (pc := 51) (sl := 0) (s_X8_way l (d + 0) hv a2 (by rw [show (a2 : Int32).toInt = a2.toInt from (ti_rfl a2)]; omega) (by rw [show (a2 : Int32).toInt = a2.toInt from (ti_rfl a2)]; omega) a3 ck) mL_X8_284 iM_X8_way sM_X8_way (hv.sh rfl) rfl rfl rfl (Nat.le_of_ble_eq_true rfl) (show d + 0 + 4 + 1 ≤ d + 5 by omega) (show 8 + (4 + 11) + 40 * (d + 0 + 4) ≤ 40 * (d + 5) by omega) (g_c0 hv.ln) (Nat.le_of_ble_eq_true rfl) dX8_wayOf_51 ?_
    intro r h21 hq _
    obtain ⟨v22, rfl, v22l, v22u, rfl⟩ := hq
    exact gi_iret (pc := 54) (ti_rfl v22) ⟨_, rfl, (by rw [show (v22 : Int32).toInt = v22.toInt from (ti_rfl v22)]; omega), (by rw [show (v22 : Int32).toInt = v22.toInt from (ti_rfl v22)]; omega), rfl⟩ hv dX8_wayOf_54
  by_cases q23 : v8.toInt = 4
  ·
    refine go_tableIn (pc := 15) (tgt := 70) (off := 55) (by rw [show (v8 : Int32).toInt = v8.toInt from (ti_rfl v8)]; omega) (by rw [show (v8 : Int32).toInt = v8.toInt from (ti_rfl v8)]; omega) (by rw [show (v8 : Int32).toInt = v8.toInt from (ti_rfl v8), q23]; rfl) (by decide) dX8_wayOf_15 ?_
    refine go_iload_n (pc := 70) rfl dX8_wayOf_70 ?_
    refine gf_if_ne (pc := 71) (tgt := 83) (ti_rfl a3) (by decide) dX8_wayOf_71 (fun q24 => ?_) (fun q24 => ?_)
    ·
      refine go_aload_n (pc := 83) rfl dX8_wayOf_83 ?_
      refine gi_getF (pc := 84) (q := 95) hv fL_X8_83 rfl (Nat.le_of_ble_eq_true rfl) rfl (hv.rf (by decide)) dX8_wayOf_84 ?_
      refine go_iload_n (pc := 87) rfl dX8_wayOf_87 ?_
      refine gi_iald (pc := 88) (lo := -1) (hi := 39) (len := 80) hv e5 rfl (by omega) (by omega) (fun _ => rfl) dX8_wayOf_88 (fun v25 v25l v25u v25w => ?_)
      exact go_lv rfl ((key 17).2.1 v25  (by omega) (by omega) (by omega))
    ·
      refine go_aload_n (pc := 74) rfl dX8_wayOf_74 ?_
      refine gi_getF (pc := 75) (q := 98) hv fL_X8_92 rfl (Nat.le_of_ble_eq_true rfl) rfl (hv.rf (by decide)) dX8_wayOf_75 ?_
      refine go_iload_n (pc := 78) rfl dX8_wayOf_78 ?_
      refine gi_iald (pc := 79) (lo := -1) (hi := 39) (len := 80) hv e5 rfl (by omega) (by omega) (fun _ => rfl) dX8_wayOf_79 (fun v26 v26l v26u v26w => ?_)
      refine go_goto (pc := 80) (tgt := 89) (by decide) dX8_wayOf_80 ?_
      exact go_lv rfl ((key 17).2.1 v26  (by omega) (by omega) (by omega))
  by_cases q27 : v8.toInt = 5
  ·
    refine go_tableIn (pc := 15) (tgt := 55) (off := 40) (by rw [show (v8 : Int32).toInt = v8.toInt from (ti_rfl v8)]; omega) (by rw [show (v8 : Int32).toInt = v8.toInt from (ti_rfl v8)]; omega) (by rw [show (v8 : Int32).toInt = v8.toInt from (ti_rfl v8), q27]; rfl) (by decide) dX8_wayOf_15 ?_
    refine go_iload_n (pc := 55) rfl dX8_wayOf_55 ?_
    refine gf_if_ne (pc := 56) (tgt := 63) (ti_rfl a3) (by decide) dX8_wayOf_56 (fun q28 => ?_) (fun q28 => ?_)
    ·
      refine go_aload_n (pc := 63) rfl dX8_wayOf_63 ?_
      refine gi_getF (pc := 64) (q := 95) hv fL_X8_83 rfl (Nat.le_of_ble_eq_true rfl) rfl (hv.rf (by decide)) dX8_wayOf_64 ?_
      refine go_iload_n (pc := 67) rfl dX8_wayOf_67 ?_
      refine gi_iald (pc := 68) (lo := -1) (hi := 39) (len := 80) hv e5 rfl (by omega) (by omega) (fun _ => rfl) dX8_wayOf_68 (fun v29 v29l v29u v29w => ?_)
      exact go_lv rfl ((key 17).1 v29  (by omega) (by omega) (by omega))
    ·
      refine go_iconst (pc := 59) (v := (-1)) (by decide) dX8_wayOf_59 ?_
      refine go_goto (pc := 60) (tgt := 69) (by decide) dX8_wayOf_60 ?_
      have z30 : ((-1) : Int32).toInt = (-1) := (ti_c (v := (-1)) (a := (-1)) (by decide))
      exact go_lv rfl ((key 17).1 (-1)  (by omega) (by omega) (by omega))
  refine go_tableOut (pc := 15) (tgt := 123) (by rw [show (v8 : Int32).toInt = v8.toInt from (ti_rfl v8)]; omega) (by decide) dX8_wayOf_15 ?_
  refine go_iload_n (pc := 123) rfl dX8_wayOf_123 ?_
  refine gf_if_ne (pc := 124) (tgt := 136) (ti_rfl a3) (by decide) dX8_wayOf_124 (fun q31 => ?_) (fun q31 => ?_)
  ·
    refine go_bipush (pc := 136) (v := (-2)) (by decide) dX8_wayOf_136 ?_
    have z32 : ((-2) : Int32).toInt = (-2) := (ti_c (v := (-2)) (a := (-2)) (by decide))
    exact go_lv rfl ((key 17).2.2.2 (-2)  (by omega) (by omega) (by omega))
  ·
    refine go_aload_n (pc := 127) rfl dX8_wayOf_127 ?_
    refine gi_getF (pc := 128) (q := 95) hv fL_X8_83 rfl (Nat.le_of_ble_eq_true rfl) rfl (hv.rf (by decide)) dX8_wayOf_128 ?_
    refine go_iload_n (pc := 131) rfl dX8_wayOf_131 ?_
    refine gi_iald (pc := 132) (lo := -1) (hi := 39) (len := 80) hv e5 rfl (by omega) (by omega) (fun _ => rfl) dX8_wayOf_132 (fun v33 v33l v33u v33w => ?_)
    refine go_goto (pc := 133) (tgt := 138) (by decide) dX8_wayOf_133 ?_
    exact go_lv rfl ((key 17).2.2.2 v33  (by omega) (by omega) (by omega))
set_option maxHeartbeats 4000000 in
set_option maxRecDepth 100000 in
theorem s_X8_may (l : Launch) (d : Nat) {P : PP} {h : HP} (hv : Iv P h) (c2 : Nat) (hc2 : c2 = 101 ∨ c2 = 102) : Mt l yX8_may cX8_may 4 (some .int) (d + 1) [.ref 70, .ref c2] h 0 0 (fun r h' => ∃ v : Int32, r = some (.int v) ∧ -2147483648 ≤ v.toInt ∧ v.toInt ≤ 2147483647 ∧ h = h') := by
  refine Mt_iv hv (by decide) (Nat.le_of_ble_eq_true rfl) ?_
  show Go l RX8 cX8_may 4 (g_rm (d + 1) 0 0) "may" (some .int) 117 0 0 (fun _ _ => True) (fun r h' => ∃ v : Int32, r = some (.int v) ∧ -2147483648 ≤ v.toInt ∧ v.toInt ≤ 2147483647 ∧ h = h') 0 0 [(0, .ref 70), (1, .ref c2)] [] h
  have key : ∀ n : Nat, (∀ (l1 : Nat) (l2 : Int32) (l3 : Int32), (l1 = 101 ∨ l1 = 102) → 0 ≤ l3.toInt → l3.toInt ≤ 5 → (4 * (5 - l3.toInt) + 3 : Int) < n → Go l RX8 cX8_may 4 (g_rm (d + 1) 0 0) "may" (some .int) 117 0 0 (fun _ _ => True) (fun r h' => ∃ v : Int32, r = some (.int v) ∧ -2147483648 ≤ v.toInt ∧ v.toInt ≤ 2147483647 ∧ h = h') 0 4 [(0, .ref 70), (1, .ref l1), (2, .int l2), (3, .int l3)] [] h) ∧ (∀ (l1 : Nat) (l3 : Int32) (s0 : Int32) (s1 : Int32), (l1 = 101 ∨ l1 = 102) → 0 ≤ l3.toInt → l3.toInt ≤ 4 → (4 * (5 - l3.toInt) + 2 : Int) < n → Go l RX8 cX8_may 4 (g_rm (d + 1) 0 0) "may" (some .int) 117 0 0 (fun _ _ => True) (fun r h' => ∃ v : Int32, r = some (.int v) ∧ -2147483648 ≤ v.toInt ∧ v.toInt ≤ 2147483647 ∧ h = h') 0 38 [(0, .ref 70), (1, .ref l1), (3, .int l3)] [.int s0, .int s1] h) := by
    intro n
    induction n with
    | zero => exact ⟨(by intros; omega), (by intros; omega)⟩
    | succ n ih =>
      refine ⟨?_, ?_⟩
      ·
        intro l1 l2 l3 hl1 l3l l3u hm
        refine go_iload_n (pc := 4) rfl dX8_may_4 ?_
        refine go_aload_n (pc := 5) rfl dX8_may_5 ?_
        refine gi_getF (pc := 6) (q := 76) hv fL_X8_26 rfl (Nat.le_of_ble_eq_true rfl) rfl (hv.rf (by decide)) dX8_may_6 ?_
        refine go_aload_n (pc := 9) rfl dX8_may_9 ?_
        refine gi_get (pc := 10) (lo := 0) (hi := 1) hv fL_X8_228 rfl (Nat.le_of_ble_eq_true rfl) rfl rfl dX8_may_10 (fun v1 v1l v1u v1w => ?_)
        refine gi_iald (pc := 13) (lo := 0) (hi := 5) (len := 2) hv (ti_rfl v1) rfl (by omega) (by omega) (fun _ => rfl) dX8_may_13 (fun v2 v2l v2u v2w => ?_)
        refine gf_icmp_ge (pc := 14) (tgt := 46) (ti_rfl l3) (ti_rfl v2) (by decide) dX8_may_14 (fun q3 => ?_) (fun q3 => ?_)
        ·
          refine go_iload_n (pc := 46) rfl dX8_may_46 ?_
          exact gi_iret (pc := 47) (ti_rfl l2) ⟨_, rfl, (ti_lo _), (ti_hi _), rfl⟩ hv dX8_may_47
        ·
          refine go_iload_n (pc := 17) rfl dX8_may_17 ?_
          refine go_aload_n (pc := 18) rfl dX8_may_18 ?_
          refine go_iconst (pc := 19) (v := 5) (by decide) dX8_may_19 ?_
          refine go_aload_n (pc := 20) rfl dX8_may_20 ?_
          refine gi_get (pc := 21) (lo := 0) (hi := 1) hv fL_X8_228 rfl (Nat.le_of_ble_eq_true rfl) rfl rfl dX8_may_21 (fun v4 v4l v4u v4w => ?_)
          have v4r : v1 = h.2.1 70 29 := v1w
          have v4q : TI v4 v1.toInt := by rw [v4w.trans v4r.symm]; exact (ti_rfl v1)
          refine gf_imul (pc := 24) (ti_c (v := 5) (a := 5) (by decide)) v4q (by omega) (by omega) dX8_may_24 (fun v5 e6 => ?_)
          refine go_iload_n (pc := 25) rfl dX8_may_25 ?_
          refine gf_iadd (pc := 26) e6 (ti_rfl l3) (by omega) (by omega) dX8_may_26 (fun v7 e8 => ?_)
          refine gi_zald (pc := 27) (lo := 0) (hi := 1) (len := 10) hv e8 (by rcases hl1 with rfl | rfl <;> rfl) (by omega) (by omega) (fun _ => by rcases hl1 with rfl | rfl <;> rfl) dX8_may_27 (fun v9 v9l v9u v9w => ?_)
          refine gf_if_eq (pc := 28) (tgt := 37) (ti_rfl v9) (by decide) dX8_may_28 (fun q10 => ?_) (fun q10 => ?_)
          ·
            refine go_iconst (pc := 37) (v := 0) (by decide) dX8_may_37 ?_
            have z11 : (0 : Int32).toInt = 0 := (ti_c (v := 0) (a := 0) (by decide))
            exact go_lv rfl (ih.2 l1 l3 0 l2  hl1 (by omega) (by omega) (by omega))
          ·
            refine go_iconst (pc := 31) (v := 1) (by decide) dX8_may_31 ?_
            refine go_iload_n (pc := 32) rfl dX8_may_32 ?_
            refine gu_ishl (pc := 33) dX8_may_33 (fun v12 => ?_)
            refine go_goto (pc := 34) (tgt := 38) (by decide) dX8_may_34 ?_
            exact go_lv rfl (ih.2 l1 l3 v12 l2  hl1 (by omega) (by omega) (by omega))
      ·
        intro l1 l3 s0 s1 hl1 l3l l3u hm
        refine gu_ior (pc := 38) dX8_may_38 (fun v13 => ?_)
        refine go_istore_n (pc := 39) (Nat.le_of_ble_eq_true rfl) dX8_may_39 (go_lv (lv2 := [(0, .ref 70), (1, .ref l1), (2, .int v13), (3, .int l3)]) rfl ?_)
        refine gf_iinc (pc := 40) (Nat.le_of_ble_eq_true rfl) rfl (ti_rfl l3) (ti_c (by decide)) (by omega) (by omega) dX8_may_40 (fun v14 e15 => ?_)
        refine go_lv (lv2 := [(0, .ref 70), (1, .ref l1), (2, .int v13), (3, .int v14)]) rfl ?_
        refine go_goto (pc := 43) (tgt := 4) (by decide) dX8_may_43 ?_
        have z16 : (v14 : Int32).toInt = (l3.toInt + 1) := e15
        exact go_lv rfl (ih.1 l1 v13 v14  hl1 (by omega) (by omega) (by omega))
  refine go_iconst (pc := 0) (v := 0) (by decide) dX8_may_0 ?_
  refine go_istore_n (pc := 1) (Nat.le_of_ble_eq_true rfl) dX8_may_1 (go_lv (lv2 := [(0, .ref 70), (1, .ref c2), (2, .int 0)]) rfl ?_)
  refine go_iconst (pc := 2) (v := 0) (by decide) dX8_may_2 ?_
  refine go_istore_n (pc := 3) (Nat.le_of_ble_eq_true rfl) dX8_may_3 (go_lv (lv2 := [(0, .ref 70), (1, .ref c2), (2, .int 0), (3, .int 0)]) rfl ?_)
  have z17 : (0 : Int32).toInt = 0 := (ti_c (v := 0) (a := 0) (by decide))
  have z18 : (0 : Int32).toInt = 0 := (ti_c (v := 0) (a := 0) (by decide))
  exact go_lv rfl ((key 41).1 c2 0 0  hc2 (by omega) (by omega) (by omega))
set_option maxHeartbeats 4000000 in
set_option maxRecDepth 100000 in
theorem s_X8_count (l : Launch) (d : Nat) {P : PP} {h : HP} (hv : Iv P h) (a2 : Int32) : Mt l yX8_count cX8_count 2 (some .int) (d + 4) [.ref 70, .int a2] h 0 0 (fun r h' => ∃ v : Int32, r = some (.int v) ∧ -2147483648 ≤ v.toInt ∧ v.toInt ≤ 2147483647 ∧ Iv (gs P) h') := by
  refine Mt_iv hv (by decide) (Nat.le_of_ble_eq_true rfl) ?_
  show Go l RX8 cX8_count 2 (g_rm (d + 4) 0 0) "count" (some .int) 117 0 0 (fun _ _ => True) (fun r h' => ∃ v : Int32, r = some (.int v) ∧ -2147483648 ≤ v.toInt ∧ v.toInt ≤ 2147483647 ∧ Iv (gs P) h') 0 0 [(0, .ref 70), (1, .int a2)] [] h
  have key : ∀ n : Nat, (∀ (s0 : Int32) (hx : HP), Iv (gs P) hx → 0 ≤ s0.toInt → s0.toInt ≤ 40 → (1 : Int) < n → Go l RX8 cX8_count 2 (g_rm (d + 4) 0 0) "count" (some .int) 117 0 0 (fun _ _ => True) (fun r h' => ∃ v : Int32, r = some (.int v) ∧ -2147483648 ≤ v.toInt ∧ v.toInt ≤ 2147483647 ∧ Iv (gs P) h') 0 68 [] [.int s0] hx) ∧ (∀ (s0 : Int32) (hx : HP), Iv (gs P) hx → 0 ≤ s0.toInt → s0.toInt ≤ 5 → (2 : Int) < n → Go l RX8 cX8_count 2 (g_rm (d + 4) 0 0) "count" (some .int) 117 0 0 (fun _ _ => True) (fun r h' => ∃ v : Int32, r = some (.int v) ∧ -2147483648 ≤ v.toInt ∧ v.toInt ≤ 2147483647 ∧ Iv (gs P) h') 0 89 [] [.int s0] hx) ∧ (∀ (s0 : Int32) (hx : HP), Iv (gs P) hx → (3 : Int) < n → Go l RX8 cX8_count 2 (g_rm (d + 4) 0 0) "count" (some .int) 117 0 0 (fun _ _ => True) (fun r h' => ∃ v : Int32, r = some (.int v) ∧ -2147483648 ≤ v.toInt ∧ v.toInt ≤ 2147483647 ∧ Iv (gs P) h') 0 105 [] [.int s0] hx) ∧ (∀ (s0 : Int32) (hx : HP), Iv (gs P) hx → (4 : Int) < n → Go l RX8 cX8_count 2 (g_rm (d + 4) 0 0) "count" (some .int) 117 0 0 (fun _ _ => True) (fun r h' => ∃ v : Int32, r = some (.int v) ∧ -2147483648 ≤ v.toInt ∧ v.toInt ≤ 2147483647 ∧ Iv (gs P) h') 0 125 [] [.int s0] hx) ∧ (∀ (s0 : Int32) (hx : HP), Iv (gs P) hx → (5 : Int) < n → Go l RX8 cX8_count 2 (g_rm (d + 4) 0 0) "count" (some .int) 117 0 0 (fun _ _ => True) (fun r h' => ∃ v : Int32, r = some (.int v) ∧ -2147483648 ≤ v.toInt ∧ v.toInt ≤ 2147483647 ∧ Iv (gs P) h') 0 145 [] [.int s0] hx) := by
    intro n
    induction n with
    | zero => exact ⟨(by intros; omega), (by intros; omega), (by intros; omega), (by intros; omega), (by intros; omega)⟩
    | succ n ih =>
      refine ⟨?_, ?_, ?_, ?_, ?_⟩
      ·
        intro s0 hx hvx s0l s0u hm
        exact gi_iret (pc := 68) (ti_rfl s0) ⟨_, rfl, (ti_lo _), (ti_hi _), hvx⟩ hvx dX8_count_68
      ·
        intro s0 hx hvx s0l s0u hm
        exact gi_iret (pc := 89) (ti_rfl s0) ⟨_, rfl, (ti_lo _), (ti_hi _), hvx⟩ hvx dX8_count_89
      ·
        intro s0 hx hvx hm
        exact gi_iret (pc := 105) (ti_rfl s0) ⟨_, rfl, (ti_lo _), (ti_hi _), hvx⟩ hvx dX8_count_105
      ·
        intro s0 hx hvx hm
        exact gi_iret (pc := 125) (ti_rfl s0) ⟨_, rfl, (ti_lo _), (ti_hi _), hvx⟩ hvx dX8_count_125
      ·
        intro s0 hx hvx hm
        exact gi_iret (pc := 145) (ti_rfl s0) ⟨_, rfl, (ti_lo _), (ti_hi _), hvx⟩ hvx dX8_count_145
  refine go_aload_n (pc := 0) rfl dX8_count_0 ?_
  refine go_aload_n (pc := 1) rfl dX8_count_1 ?_
  refine gi_get (pc := 2) (lo := 0) (hi := 1) hv fL_X8_228 rfl (Nat.le_of_ble_eq_true rfl) rfl rfl dX8_count_2 (fun v1 v1l v1u v1w => ?_)
  refine gi_putS (pc := 5) hv v1w (fP_X8_187 _) dX8_count_5 (fun h2 hv2 hv2e => ?_)
  refine go_iload_n (pc := 8) rfl dX8_count_8 ?_
  by_cases q3 : a2.toInt = 0
  ·
    refine go_tableIn (pc := 9) (tgt := 48) (off := 39) (by rw [show (a2 : Int32).toInt = a2.toInt from (ti_rfl a2)]; omega) (by rw [show (a2 : Int32).toInt = a2.toInt from (ti_rfl a2)]; omega) (by rw [show (a2 : Int32).toInt = a2.toInt from (ti_rfl a2), q3]; rfl) (by decide) dX8_count_9 ?_
    refine go_aload_n (pc := 48) rfl dX8_count_48 ?_
    refine gi_get (pc := 49) (lo := 0) (hi := 1) hv2 fL_X8_243 rfl (Nat.le_of_ble_eq_true rfl) rfl rfl dX8_count_49 (fun v4 v4l v4u v4w => ?_)
    refine gf_if_eq (pc := 52) (tgt := 67) (ti_rfl v4) (by decide) dX8_count_52 (fun q5 => ?_) (fun q5 => ?_)
    ·
      refine go_iconst (pc := 67) (v := 0) (by decide) dX8_count_67 ?_
      have z6 : (0 : Int32).toInt = 0 := (ti_c (v := 0) (a := 0) (by decide))
      exact go_lv rfl ((key 18).1 0 h2 hv2 (by omega) (by omega) (by omega))
    ·
      refine go_aload_n (pc := 55) rfl dX8_count_55 ?_
      refine gi_getF (pc := 56) (q := 75) hv2 fL_X8_23 rfl (Nat.le_of_ble_eq_true rfl) rfl (hv2.rf (by decide)) dX8_count_56 ?_
      refine go_aload_n (pc := 59) rfl dX8_count_59 ?_
      refine gi_get (pc := 60) (lo := 0) (hi := 1) hv2 fL_X8_228 rfl (Nat.le_of_ble_eq_true rfl) rfl rfl dX8_count_60 (fun v7 v7l v7u v7w => ?_)
      refine gi_iald (pc := 63) (lo := 0) (hi := 40) (len := 2) hv2 (ti_rfl v7) rfl (by omega) (by omega) (fun _ => rfl) dX8_count_63 (fun v8 v8l v8u v8w => ?_)
      refine go_goto (pc := 64) (tgt := 68) (by decide) dX8_count_64 ?_
      exact go_lv rfl ((key 18).1 v8 h2 hv2 (by omega) (by omega) (by omega))
  by_cases q9 : a2.toInt = 1
  ·
    refine go_tableIn (pc := 9) (tgt := 69) (off := 60) (by rw [show (a2 : Int32).toInt = a2.toInt from (ti_rfl a2)]; omega) (by rw [show (a2 : Int32).toInt = a2.toInt from (ti_rfl a2)]; omega) (by rw [show (a2 : Int32).toInt = a2.toInt from (ti_rfl a2), q9]; rfl) (by decide) dX8_count_9 ?_
    refine go_aload_n (pc := 69) rfl dX8_count_69 ?_
    refine gi_get (pc := 70) (lo := 0) (hi := 1) hv2 fL_X8_243 rfl (Nat.le_of_ble_eq_true rfl) rfl rfl dX8_count_70 (fun v10 v10l v10u v10w => ?_)
    refine gf_if_eq (pc := 73) (tgt := 88) (ti_rfl v10) (by decide) dX8_count_73 (fun q11 => ?_) (fun q11 => ?_)
    ·
      refine go_iconst (pc := 88) (v := 0) (by decide) dX8_count_88 ?_
      have z12 : (0 : Int32).toInt = 0 := (ti_c (v := 0) (a := 0) (by decide))
      exact go_lv rfl ((key 18).2.1 0 h2 hv2 (by omega) (by omega) (by omega))
    ·
      refine go_aload_n (pc := 76) rfl dX8_count_76 ?_
      refine gi_getF (pc := 77) (q := 76) hv2 fL_X8_26 rfl (Nat.le_of_ble_eq_true rfl) rfl (hv2.rf (by decide)) dX8_count_77 ?_
      refine go_aload_n (pc := 80) rfl dX8_count_80 ?_
      refine gi_get (pc := 81) (lo := 0) (hi := 1) hv2 fL_X8_228 rfl (Nat.le_of_ble_eq_true rfl) rfl rfl dX8_count_81 (fun v13 v13l v13u v13w => ?_)
      refine gi_iald (pc := 84) (lo := 0) (hi := 5) (len := 2) hv2 (ti_rfl v13) rfl (by omega) (by omega) (fun _ => rfl) dX8_count_84 (fun v14 v14l v14u v14w => ?_)
      refine go_goto (pc := 85) (tgt := 89) (by decide) dX8_count_85 ?_
      exact go_lv rfl ((key 18).2.1 v14 h2 hv2 (by omega) (by omega) (by omega))
  by_cases q15 : a2.toInt = 2
  ·
    refine go_tableIn (pc := 9) (tgt := 90) (off := 81) (by rw [show (a2 : Int32).toInt = a2.toInt from (ti_rfl a2)]; omega) (by rw [show (a2 : Int32).toInt = a2.toInt from (ti_rfl a2)]; omega) (by rw [show (a2 : Int32).toInt = a2.toInt from (ti_rfl a2), q15]; rfl) (by decide) dX8_count_9 ?_
    refine go_aload_n (pc := 90) rfl dX8_count_90 ?_
    refine gi_get (pc := 91) (lo := 0) (hi := 1) hv2 fL_X8_243 rfl (Nat.le_of_ble_eq_true rfl) rfl rfl dX8_count_91 (fun v16 v16l v16u v16w => ?_)
    refine gf_if_eq (pc := 94) (tgt := 104) (ti_rfl v16) (by decide) dX8_count_94 (fun q17 => ?_) (fun q17 => ?_)
    ·
      refine go_iconst (pc := 104) (v := 0) (by decide) dX8_count_104 ?_
      have z18 : (0 : Int32).toInt = 0 := (ti_c (v := 0) (a := 0) (by decide))
      exact go_lv rfl ((key 18).2.2.1 0 h2 hv2  (by omega))
    ·
      refine go_aload_n (pc := 97) rfl dX8_count_97 ?_
      refine go_invV (pc := 98) (sl := 0) (s_X8_calls l (d + 0) hv2 ) mL_X8_382 iM_X8_calls sM_X8_calls (hv2.sh rfl) rfl rfl rfl (Nat.le_of_ble_eq_true rfl) (show d + 0 + 3 + 1 ≤ d + 4 by omega) (show 8 + (3 + 11) + 40 * (d + 0 + 3) ≤ 40 * (d + 4) by omega) (g_c0 hv2.ln) (Nat.le_of_ble_eq_true rfl) dX8_count_98 ?_
      intro r h19 hq _
      obtain ⟨v20, rfl, v20l, v20u, rfl⟩ := hq
      refine go_goto (pc := 101) (tgt := 105) (by decide) dX8_count_101 ?_
      exact go_lv rfl ((key 18).2.2.1 v20 h2 hv2  (by omega))
  by_cases q21 : a2.toInt = 3
  ·
    refine go_tableIn (pc := 9) (tgt := 106) (off := 97) (by rw [show (a2 : Int32).toInt = a2.toInt from (ti_rfl a2)]; omega) (by rw [show (a2 : Int32).toInt = a2.toInt from (ti_rfl a2)]; omega) (by rw [show (a2 : Int32).toInt = a2.toInt from (ti_rfl a2), q21]; rfl) (by decide) dX8_count_9 ?_
    refine go_aload_n (pc := 106) rfl dX8_count_106 ?_
    refine gi_get (pc := 107) (lo := 0) (hi := 1) hv2 fL_X8_243 rfl (Nat.le_of_ble_eq_true rfl) rfl rfl dX8_count_107 (fun v22 v22l v22u v22w => ?_)
    refine gf_if_eq (pc := 110) (tgt := 124) (ti_rfl v22) (by decide) dX8_count_110 (fun q23 => ?_) (fun q23 => ?_)
    ·
      refine go_iconst (pc := 124) (v := 0) (by decide) dX8_count_124 ?_
      have z24 : (0 : Int32).toInt = 0 := (ti_c (v := 0) (a := 0) (by decide))
      exact go_lv rfl ((key 18).2.2.2.1 0 h2 hv2  (by omega))
    ·
      refine go_aload_n (pc := 113) rfl dX8_count_113 ?_
      refine go_aload_n (pc := 114) rfl dX8_count_114 ?_
      refine gi_getF (pc := 115) (q := 102) hv2 fL_X8_105 rfl (Nat.le_of_ble_eq_true rfl) rfl (hv2.rf (by decide)) dX8_count_115 ?_
      refine go_invV (pc := 118) (sl := 0) (s_X8_may l (d + 2) hv2 102 (by decide)) mL_X8_385 iM_X8_may sM_X8_may (hv2.sh rfl) rfl rfl rfl (Nat.le_of_ble_eq_true rfl) (show d + 2 + 1 + 1 ≤ d + 4 by omega) (show 8 + (4 + 11) + 40 * (d + 2 + 1) ≤ 40 * (d + 4) by omega) (g_c0 hv2.ln) (Nat.le_of_ble_eq_true rfl) dX8_count_118 ?_
      intro r h25 hq _
      obtain ⟨v26, rfl, v26l, v26u, rfl⟩ := hq
      refine go_goto (pc := 121) (tgt := 125) (by decide) dX8_count_121 ?_
      exact go_lv rfl ((key 18).2.2.2.1 v26 h2 hv2  (by omega))
  by_cases q27 : a2.toInt = 4
  ·
    refine go_tableIn (pc := 9) (tgt := 126) (off := 117) (by rw [show (a2 : Int32).toInt = a2.toInt from (ti_rfl a2)]; omega) (by rw [show (a2 : Int32).toInt = a2.toInt from (ti_rfl a2)]; omega) (by rw [show (a2 : Int32).toInt = a2.toInt from (ti_rfl a2), q27]; rfl) (by decide) dX8_count_9 ?_
    refine go_aload_n (pc := 126) rfl dX8_count_126 ?_
    refine gi_get (pc := 127) (lo := 0) (hi := 1) hv2 fL_X8_243 rfl (Nat.le_of_ble_eq_true rfl) rfl rfl dX8_count_127 (fun v28 v28l v28u v28w => ?_)
    refine gf_if_eq (pc := 130) (tgt := 144) (ti_rfl v28) (by decide) dX8_count_130 (fun q29 => ?_) (fun q29 => ?_)
    ·
      refine go_iconst (pc := 144) (v := 0) (by decide) dX8_count_144 ?_
      have z30 : (0 : Int32).toInt = 0 := (ti_c (v := 0) (a := 0) (by decide))
      exact go_lv rfl ((key 18).2.2.2.2 0 h2 hv2  (by omega))
    ·
      refine go_aload_n (pc := 133) rfl dX8_count_133 ?_
      refine go_aload_n (pc := 134) rfl dX8_count_134 ?_
      refine gi_getF (pc := 135) (q := 101) hv2 fL_X8_101 rfl (Nat.le_of_ble_eq_true rfl) rfl (hv2.rf (by decide)) dX8_count_135 ?_
      refine go_invV (pc := 138) (sl := 0) (s_X8_may l (d + 2) hv2 101 (by decide)) mL_X8_385 iM_X8_may sM_X8_may (hv2.sh rfl) rfl rfl rfl (Nat.le_of_ble_eq_true rfl) (show d + 2 + 1 + 1 ≤ d + 4 by omega) (show 8 + (4 + 11) + 40 * (d + 2 + 1) ≤ 40 * (d + 4) by omega) (g_c0 hv2.ln) (Nat.le_of_ble_eq_true rfl) dX8_count_138 ?_
      intro r h31 hq _
      obtain ⟨v32, rfl, v32l, v32u, rfl⟩ := hq
      refine go_goto (pc := 141) (tgt := 145) (by decide) dX8_count_141 ?_
      exact go_lv rfl ((key 18).2.2.2.2 v32 h2 hv2  (by omega))
  by_cases q33 : a2.toInt = 5
  ·
    refine go_tableIn (pc := 9) (tgt := 146) (off := 137) (by rw [show (a2 : Int32).toInt = a2.toInt from (ti_rfl a2)]; omega) (by rw [show (a2 : Int32).toInt = a2.toInt from (ti_rfl a2)]; omega) (by rw [show (a2 : Int32).toInt = a2.toInt from (ti_rfl a2), q33]; rfl) (by decide) dX8_count_9 ?_
    refine go_aload_n (pc := 146) rfl dX8_count_146 ?_
    refine gi_get (pc := 147) (lo := 0) (hi := 500) hv2 fL_X8_151 rfl (Nat.le_of_ble_eq_true rfl) rfl rfl dX8_count_147 (fun v34 v34l v34u v34w => ?_)
    have v34p : v34.toInt = P.2.1.toInt := by rw [v34w]; exact congrArg Int32.toInt hv2.t1
    exact gi_iret (pc := 150) (ti_rfl v34) ⟨_, rfl, (ti_lo _), (ti_hi _), hv2⟩ hv2 dX8_count_150
  refine go_tableOut (pc := 9) (tgt := 151) (by rw [show (a2 : Int32).toInt = a2.toInt from (ti_rfl a2)]; omega) (by decide) dX8_count_9 ?_
  refine go_iconst (pc := 151) (v := (-1)) (by decide) dX8_count_151 ?_
  exact gi_iret (pc := 152) (ti_c (v := (-1)) (a := (-1)) (by decide)) ⟨_, rfl, (ti_lo _), (ti_hi _), hv2⟩ hv2 dX8_count_152
