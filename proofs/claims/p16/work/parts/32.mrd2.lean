theorem dX8_readEnd_0 : decode cX8_readEnd 0 = .ok (.aload_n 0, 1) := by decide +kernel
theorem dX8_readEnd_1 : decode cX8_readEnd 1 = .ok (.iload_n 1, 1) := by decide +kernel
theorem dX8_readEnd_2 : decode cX8_readEnd 2 = .ok (.iconst 0, 1) := by decide +kernel
theorem dX8_readEnd_3 : decode cX8_readEnd 3 = .ok (.invokevirtual 218, 3) := by decide +kernel
theorem dX8_readEnd_6 : decode cX8_readEnd 6 = .ok (.aload_n 0, 1) := by decide +kernel
theorem dX8_readEnd_7 : decode cX8_readEnd 7 = .ok (.bipush 59, 2) := by decide +kernel
theorem dX8_readEnd_9 : decode cX8_readEnd 9 = .ok (.invokevirtual 198, 3) := by decide +kernel
theorem dX8_readEnd_12 : decode cX8_readEnd 12 = .ok (.return_, 1) := by decide +kernel
theorem dX8_readSet_0 : decode cX8_readSet 0 = .ok (.aload_n 0, 1) := by decide +kernel
theorem dX8_readSet_1 : decode cX8_readSet 1 = .ok (.bipush 61, 2) := by decide +kernel
theorem dX8_readSet_3 : decode cX8_readSet 3 = .ok (.invokevirtual 198, 3) := by decide +kernel
theorem dX8_readSet_6 : decode cX8_readSet 6 = .ok (.aload_n 0, 1) := by decide +kernel
theorem dX8_readSet_7 : decode cX8_readSet 7 = .ok (.invokevirtual 172, 3) := by decide +kernel
theorem dX8_readSet_10 : decode cX8_readSet 10 = .ok (.ifCond .eq 90, 3) := by decide +kernel
theorem dX8_readSet_13 : decode cX8_readSet 13 = .ok (.iload_n 2, 1) := by decide +kernel
theorem dX8_readSet_14 : decode cX8_readSet 14 = .ok (.bipush 6, 2) := by decide +kernel
theorem dX8_readSet_16 : decode cX8_readSet 16 = .ok (.if_icmp .ge 84, 3) := by decide +kernel
theorem dX8_readSet_19 : decode cX8_readSet 19 = .ok (.aload_n 0, 1) := by decide +kernel
theorem dX8_readSet_20 : decode cX8_readSet 20 = .ok (.invokevirtual 176, 3) := by decide +kernel
theorem dX8_readSet_23 : decode cX8_readSet 23 = .ok (.bipush 65, 2) := by decide +kernel
theorem dX8_readSet_25 : decode cX8_readSet 25 = .ok (.bipush 69, 2) := by decide +kernel
theorem dX8_readSet_27 : decode cX8_readSet 27 = .ok (.invokestatic 159, 3) := by decide +kernel
theorem dX8_readSet_30 : decode cX8_readSet 30 = .ok (.ifCond .eq 70, 3) := by decide +kernel
theorem dX8_readSet_33 : decode cX8_readSet 33 = .ok (.aload_n 0, 1) := by decide +kernel
theorem dX8_readSet_34 : decode cX8_readSet 34 = .ok (.getfield 29, 3) := by decide +kernel
theorem dX8_readSet_37 : decode cX8_readSet 37 = .ok (.iload_n 1, 1) := by decide +kernel
theorem dX8_readSet_38 : decode cX8_readSet 38 = .ok (.iconst 1, 1) := by decide +kernel
theorem dX8_readSet_39 : decode cX8_readSet 39 = .ok (.iastore, 1) := by decide +kernel
theorem dX8_readSet_40 : decode cX8_readSet 40 = .ok (.aload_n 0, 1) := by decide +kernel
theorem dX8_readSet_41 : decode cX8_readSet 41 = .ok (.getfield 50, 3) := by decide +kernel
theorem dX8_readSet_44 : decode cX8_readSet 44 = .ok (.iload_n 1, 1) := by decide +kernel
theorem dX8_readSet_45 : decode cX8_readSet 45 = .ok (.aload_n 0, 1) := by decide +kernel
theorem dX8_readSet_46 : decode cX8_readSet 46 = .ok (.invokevirtual 176, 3) := by decide +kernel
theorem dX8_readSet_49 : decode cX8_readSet 49 = .ok (.bipush 65, 2) := by decide +kernel
theorem dX8_readSet_51 : decode cX8_readSet 51 = .ok (.isub, 1) := by decide +kernel
theorem dX8_readSet_52 : decode cX8_readSet 52 = .ok (.iastore, 1) := by decide +kernel
theorem dX8_readSet_53 : decode cX8_readSet 53 = .ok (.aload_n 0, 1) := by decide +kernel
theorem dX8_readSet_54 : decode cX8_readSet 54 = .ok (.dup, 1) := by decide +kernel
theorem dX8_readSet_55 : decode cX8_readSet 55 = .ok (.getfield 163, 3) := by decide +kernel
theorem dX8_readSet_58 : decode cX8_readSet 58 = .ok (.iconst 1, 1) := by decide +kernel
theorem dX8_readSet_59 : decode cX8_readSet 59 = .ok (.iadd, 1) := by decide +kernel
theorem dX8_readSet_60 : decode cX8_readSet 60 = .ok (.putfield 163, 3) := by decide +kernel
theorem dX8_readSet_63 : decode cX8_readSet 63 = .ok (.aload_n 0, 1) := by decide +kernel
theorem dX8_readSet_64 : decode cX8_readSet 64 = .ok (.bipush 40, 2) := by decide +kernel
theorem dX8_readSet_66 : decode cX8_readSet 66 = .ok (.invokevirtual 198, 3) := by decide +kernel
theorem dX8_readSet_69 : decode cX8_readSet 69 = .ok (.aload_n 0, 1) := by decide +kernel
theorem dX8_readSet_70 : decode cX8_readSet 70 = .ok (.iload_n 1, 1) := by decide +kernel
theorem dX8_readSet_71 : decode cX8_readSet 71 = .ok (.iconst 0, 1) := by decide +kernel
theorem dX8_readSet_72 : decode cX8_readSet 72 = .ok (.invokevirtual 218, 3) := by decide +kernel
theorem dX8_readSet_75 : decode cX8_readSet 75 = .ok (.aload_n 0, 1) := by decide +kernel
theorem dX8_readSet_76 : decode cX8_readSet 76 = .ok (.bipush 44, 2) := by decide +kernel
theorem dX8_readSet_78 : decode cX8_readSet 78 = .ok (.invokevirtual 198, 3) := by decide +kernel
theorem dX8_readSet_81 : decode cX8_readSet 81 = .ok (.aload_n 0, 1) := by decide +kernel
theorem dX8_readSet_82 : decode cX8_readSet 82 = .ok (.iload_n 1, 1) := by decide +kernel
theorem dX8_readSet_83 : decode cX8_readSet 83 = .ok (.iconst 1, 1) := by decide +kernel
theorem dX8_readSet_84 : decode cX8_readSet 84 = .ok (.invokevirtual 218, 3) := by decide +kernel
theorem dX8_readSet_87 : decode cX8_readSet 87 = .ok (.aload_n 0, 1) := by decide +kernel
theorem dX8_readSet_88 : decode cX8_readSet 88 = .ok (.bipush 41, 2) := by decide +kernel
theorem dX8_readSet_90 : decode cX8_readSet 90 = .ok (.invokevirtual 198, 3) := by decide +kernel
theorem dX8_readSet_93 : decode cX8_readSet 93 = .ok (.aload_n 0, 1) := by decide +kernel
theorem dX8_readSet_94 : decode cX8_readSet 94 = .ok (.bipush 59, 2) := by decide +kernel
theorem dX8_readSet_96 : decode cX8_readSet 96 = .ok (.invokevirtual 198, 3) := by decide +kernel
theorem dX8_readSet_99 : decode cX8_readSet 99 = .ok (.return_, 1) := by decide +kernel
theorem dX8_readSet_100 : decode cX8_readSet 100 = .ok (.aload_n 0, 1) := by decide +kernel
theorem dX8_readSet_101 : decode cX8_readSet 101 = .ok (.iload_n 1, 1) := by decide +kernel
theorem dX8_readSet_102 : decode cX8_readSet 102 = .ok (.iconst 0, 1) := by decide +kernel
theorem dX8_readSet_103 : decode cX8_readSet 103 = .ok (.invokevirtual 218, 3) := by decide +kernel
theorem dX8_readSet_106 : decode cX8_readSet 106 = .ok (.aload_n 0, 1) := by decide +kernel
theorem dX8_readSet_107 : decode cX8_readSet 107 = .ok (.invokevirtual 172, 3) := by decide +kernel
theorem dX8_readSet_110 : decode cX8_readSet 110 = .ok (.ifCond .eq 39, 3) := by decide +kernel
theorem dX8_readSet_113 : decode cX8_readSet 113 = .ok (.aload_n 0, 1) := by decide +kernel
theorem dX8_readSet_114 : decode cX8_readSet 114 = .ok (.invokevirtual 176, 3) := by decide +kernel
theorem dX8_readSet_117 : decode cX8_readSet 117 = .ok (.invokestatic 220, 3) := by decide +kernel
theorem dX8_readSet_120 : decode cX8_readSet 120 = .ok (.ifCond .eq 29, 3) := by decide +kernel
theorem dX8_readSet_123 : decode cX8_readSet 123 = .ok (.aload_n 0, 1) := by decide +kernel
theorem dX8_readSet_124 : decode cX8_readSet 124 = .ok (.getfield 47, 3) := by decide +kernel
theorem dX8_readSet_127 : decode cX8_readSet 127 = .ok (.iload_n 1, 1) := by decide +kernel
theorem dX8_readSet_128 : decode cX8_readSet 128 = .ok (.aload_n 0, 1) := by decide +kernel
theorem dX8_readSet_129 : decode cX8_readSet 129 = .ok (.invokevirtual 176, 3) := by decide +kernel
theorem dX8_readSet_132 : decode cX8_readSet 132 = .ok (.iastore, 1) := by decide +kernel
theorem dX8_readSet_133 : decode cX8_readSet 133 = .ok (.aload_n 0, 1) := by decide +kernel
theorem dX8_readSet_134 : decode cX8_readSet 134 = .ok (.dup, 1) := by decide +kernel
theorem dX8_readSet_135 : decode cX8_readSet 135 = .ok (.getfield 163, 3) := by decide +kernel
theorem dX8_readSet_138 : decode cX8_readSet 138 = .ok (.iconst 1, 1) := by decide +kernel
theorem dX8_readSet_139 : decode cX8_readSet 139 = .ok (.iadd, 1) := by decide +kernel
theorem dX8_readSet_140 : decode cX8_readSet 140 = .ok (.putfield 163, 3) := by decide +kernel
theorem dX8_readSet_143 : decode cX8_readSet 143 = .ok (.aload_n 0, 1) := by decide +kernel
theorem dX8_readSet_144 : decode cX8_readSet 144 = .ok (.iload_n 1, 1) := by decide +kernel
theorem dX8_readSet_145 : decode cX8_readSet 145 = .ok (.iconst 1, 1) := by decide +kernel
theorem dX8_readSet_146 : decode cX8_readSet 146 = .ok (.invokevirtual 218, 3) := by decide +kernel
theorem dX8_readSet_149 : decode cX8_readSet 149 = .ok (.aload_n 0, 1) := by decide +kernel
theorem dX8_readSet_150 : decode cX8_readSet 150 = .ok (.bipush 59, 2) := by decide +kernel
theorem dX8_readSet_152 : decode cX8_readSet 152 = .ok (.invokevirtual 198, 3) := by decide +kernel
theorem dX8_readSet_155 : decode cX8_readSet 155 = .ok (.return_, 1) := by decide +kernel
