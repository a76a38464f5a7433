theorem dX8_must_0 : decode cX8_must 0 = .ok (.aload_n 0, 1) := by decide +kernel
theorem dX8_must_1 : decode cX8_must 1 = .ok (.invokevirtual 172, 3) := by decide +kernel
theorem dX8_must_4 : decode cX8_must 4 = .ok (.ifCond .ne 4, 3) := by decide +kernel
theorem dX8_must_7 : decode cX8_must 7 = .ok (.return_, 1) := by decide +kernel
theorem dX8_must_8 : decode cX8_must 8 = .ok (.aload_n 0, 1) := by decide +kernel
theorem dX8_must_9 : decode cX8_must 9 = .ok (.invokevirtual 176, 3) := by decide +kernel
theorem dX8_must_12 : decode cX8_must 12 = .ok (.iload_n 1, 1) := by decide +kernel
theorem dX8_must_13 : decode cX8_must 13 = .ok (.if_icmp .ne 16, 3) := by decide +kernel
theorem dX8_must_16 : decode cX8_must 16 = .ok (.aload_n 0, 1) := by decide +kernel
theorem dX8_must_17 : decode cX8_must 17 = .ok (.dup, 1) := by decide +kernel
theorem dX8_must_18 : decode cX8_must 18 = .ok (.getfield 163, 3) := by decide +kernel
theorem dX8_must_21 : decode cX8_must 21 = .ok (.iconst 1, 1) := by decide +kernel
theorem dX8_must_22 : decode cX8_must 22 = .ok (.iadd, 1) := by decide +kernel
theorem dX8_must_23 : decode cX8_must 23 = .ok (.putfield 163, 3) := by decide +kernel
theorem dX8_must_26 : decode cX8_must 26 = .ok (.goto 8, 3) := by decide +kernel
theorem dX8_must_29 : decode cX8_must 29 = .ok (.aload_n 0, 1) := by decide +kernel
theorem dX8_must_30 : decode cX8_must 30 = .ok (.iconst 1, 1) := by decide +kernel
theorem dX8_must_31 : decode cX8_must 31 = .ok (.invokevirtual 180, 3) := by decide +kernel
theorem dX8_must_34 : decode cX8_must 34 = .ok (.return_, 1) := by decide +kernel
theorem dX8_nameHere_0 : decode cX8_nameHere 0 = .ok (.aload_n 0, 1) := by decide +kernel
theorem dX8_nameHere_1 : decode cX8_nameHere 1 = .ok (.invokevirtual 176, 3) := by decide +kernel
theorem dX8_nameHere_4 : decode cX8_nameHere 4 = .ok (.istore_n 2, 1) := by decide +kernel
theorem dX8_nameHere_5 : decode cX8_nameHere 5 = .ok (.iload_n 2, 1) := by decide +kernel
theorem dX8_nameHere_6 : decode cX8_nameHere 6 = .ok (.bipush 97, 2) := by decide +kernel
theorem dX8_nameHere_8 : decode cX8_nameHere 8 = .ok (.bipush 102, 2) := by decide +kernel
theorem dX8_nameHere_10 : decode cX8_nameHere 10 = .ok (.invokestatic 159, 3) := by decide +kernel
theorem dX8_nameHere_13 : decode cX8_nameHere 13 = .ok (.ifCond .eq 8, 3) := by decide +kernel
theorem dX8_nameHere_16 : decode cX8_nameHere 16 = .ok (.iload_n 2, 1) := by decide +kernel
theorem dX8_nameHere_17 : decode cX8_nameHere 17 = .ok (.bipush 97, 2) := by decide +kernel
theorem dX8_nameHere_19 : decode cX8_nameHere 19 = .ok (.isub, 1) := by decide +kernel
theorem dX8_nameHere_20 : decode cX8_nameHere 20 = .ok (.ireturn, 1) := by decide +kernel
theorem dX8_nameHere_21 : decode cX8_nameHere 21 = .ok (.iload_n 1, 1) := by decide +kernel
theorem dX8_nameHere_22 : decode cX8_nameHere 22 = .ok (.ifCond .eq 24, 3) := by decide +kernel
theorem dX8_nameHere_25 : decode cX8_nameHere 25 = .ok (.iload_n 2, 1) := by decide +kernel
theorem dX8_nameHere_26 : decode cX8_nameHere 26 = .ok (.bipush 119, 2) := by decide +kernel
theorem dX8_nameHere_28 : decode cX8_nameHere 28 = .ok (.bipush 122, 2) := by decide +kernel
theorem dX8_nameHere_30 : decode cX8_nameHere 30 = .ok (.invokestatic 159, 3) := by decide +kernel
theorem dX8_nameHere_33 : decode cX8_nameHere 33 = .ok (.ifCond .eq 13, 3) := by decide +kernel
theorem dX8_nameHere_36 : decode cX8_nameHere 36 = .ok (.bipush 6, 2) := by decide +kernel
theorem dX8_nameHere_38 : decode cX8_nameHere 38 = .ok (.iload_n 2, 1) := by decide +kernel
theorem dX8_nameHere_39 : decode cX8_nameHere 39 = .ok (.iadd, 1) := by decide +kernel
theorem dX8_nameHere_40 : decode cX8_nameHere 40 = .ok (.bipush 119, 2) := by decide +kernel
theorem dX8_nameHere_42 : decode cX8_nameHere 42 = .ok (.isub, 1) := by decide +kernel
theorem dX8_nameHere_43 : decode cX8_nameHere 43 = .ok (.goto 4, 3) := by decide +kernel
theorem dX8_nameHere_46 : decode cX8_nameHere 46 = .ok (.iconst (-1), 1) := by decide +kernel
theorem dX8_nameHere_47 : decode cX8_nameHere 47 = .ok (.ireturn, 1) := by decide +kernel
theorem dX8_newBlock_0 : decode cX8_newBlock 0 = .ok (.aload_n 0, 1) := by decide +kernel
theorem dX8_newBlock_1 : decode cX8_newBlock 1 = .ok (.invokevirtual 172, 3) := by decide +kernel
theorem dX8_newBlock_4 : decode cX8_newBlock 4 = .ok (.ifCond .eq 17, 3) := by decide +kernel
theorem dX8_newBlock_7 : decode cX8_newBlock 7 = .ok (.aload_n 0, 1) := by decide +kernel
theorem dX8_newBlock_8 : decode cX8_newBlock 8 = .ok (.invokevirtual 176, 3) := by decide +kernel
theorem dX8_newBlock_11 : decode cX8_newBlock 11 = .ok (.bipush 123, 2) := by decide +kernel
theorem dX8_newBlock_13 : decode cX8_newBlock 13 = .ok (.if_icmp .eq 8, 3) := by decide +kernel
theorem dX8_newBlock_16 : decode cX8_newBlock 16 = .ok (.aload_n 0, 1) := by decide +kernel
theorem dX8_newBlock_17 : decode cX8_newBlock 17 = .ok (.iconst 1, 1) := by decide +kernel
theorem dX8_newBlock_18 : decode cX8_newBlock 18 = .ok (.invokevirtual 180, 3) := by decide +kernel
theorem dX8_newBlock_21 : decode cX8_newBlock 21 = .ok (.aload_n 0, 1) := by decide +kernel
theorem dX8_newBlock_22 : decode cX8_newBlock 22 = .ok (.invokevirtual 172, 3) := by decide +kernel
theorem dX8_newBlock_25 : decode cX8_newBlock 25 = .ok (.ifCond .eq 14, 3) := by decide +kernel
theorem dX8_newBlock_28 : decode cX8_newBlock 28 = .ok (.iload_n 2, 1) := by decide +kernel
theorem dX8_newBlock_29 : decode cX8_newBlock 29 = .ok (.bipush 6, 2) := by decide +kernel
theorem dX8_newBlock_31 : decode cX8_newBlock 31 = .ok (.if_icmp .le 8, 3) := by decide +kernel
theorem dX8_newBlock_34 : decode cX8_newBlock 34 = .ok (.aload_n 0, 1) := by decide +kernel
theorem dX8_newBlock_35 : decode cX8_newBlock 35 = .ok (.iconst 4, 1) := by decide +kernel
theorem dX8_newBlock_36 : decode cX8_newBlock 36 = .ok (.invokevirtual 180, 3) := by decide +kernel
theorem dX8_newBlock_39 : decode cX8_newBlock 39 = .ok (.aload_n 0, 1) := by decide +kernel
theorem dX8_newBlock_40 : decode cX8_newBlock 40 = .ok (.invokevirtual 172, 3) := by decide +kernel
theorem dX8_newBlock_43 : decode cX8_newBlock 43 = .ok (.ifCond .ne 5, 3) := by decide +kernel
theorem dX8_newBlock_46 : decode cX8_newBlock 46 = .ok (.iconst 0, 1) := by decide +kernel
theorem dX8_newBlock_47 : decode cX8_newBlock 47 = .ok (.ireturn, 1) := by decide +kernel
theorem dX8_newBlock_48 : decode cX8_newBlock 48 = .ok (.sipush 280, 3) := by decide +kernel
theorem dX8_newBlock_51 : decode cX8_newBlock 51 = .ok (.aload_n 0, 1) := by decide +kernel
theorem dX8_newBlock_52 : decode cX8_newBlock 52 = .ok (.getfield 187, 3) := by decide +kernel
theorem dX8_newBlock_55 : decode cX8_newBlock 55 = .ok (.imul, 1) := by decide +kernel
theorem dX8_newBlock_56 : decode cX8_newBlock 56 = .ok (.aload_n 0, 1) := by decide +kernel
theorem dX8_newBlock_57 : decode cX8_newBlock 57 = .ok (.getfield 20, 3) := by decide +kernel
theorem dX8_newBlock_60 : decode cX8_newBlock 60 = .ok (.aload_n 0, 1) := by decide +kernel
theorem dX8_newBlock_61 : decode cX8_newBlock 61 = .ok (.getfield 187, 3) := by decide +kernel
theorem dX8_newBlock_64 : decode cX8_newBlock 64 = .ok (.iaload, 1) := by decide +kernel
theorem dX8_newBlock_65 : decode cX8_newBlock 65 = .ok (.iadd, 1) := by decide +kernel
theorem dX8_newBlock_66 : decode cX8_newBlock 66 = .ok (.istore_n 3, 1) := by decide +kernel
theorem dX8_newBlock_67 : decode cX8_newBlock 67 = .ok (.aload_n 0, 1) := by decide +kernel
theorem dX8_newBlock_68 : decode cX8_newBlock 68 = .ok (.getfield 20, 3) := by decide +kernel
theorem dX8_newBlock_71 : decode cX8_newBlock 71 = .ok (.aload_n 0, 1) := by decide +kernel
theorem dX8_newBlock_72 : decode cX8_newBlock 72 = .ok (.getfield 187, 3) := by decide +kernel
theorem dX8_newBlock_75 : decode cX8_newBlock 75 = .ok (.dup2, 1) := by decide +kernel
theorem dX8_newBlock_76 : decode cX8_newBlock 76 = .ok (.iaload, 1) := by decide +kernel
theorem dX8_newBlock_77 : decode cX8_newBlock 77 = .ok (.iconst 1, 1) := by decide +kernel
theorem dX8_newBlock_78 : decode cX8_newBlock 78 = .ok (.iadd, 1) := by decide +kernel
theorem dX8_newBlock_79 : decode cX8_newBlock 79 = .ok (.iastore, 1) := by decide +kernel
theorem dX8_newBlock_80 : decode cX8_newBlock 80 = .ok (.aload_n 0, 1) := by decide +kernel
theorem dX8_newBlock_81 : decode cX8_newBlock 81 = .ok (.getfield 68, 3) := by decide +kernel
theorem dX8_newBlock_84 : decode cX8_newBlock 84 = .ok (.iload_n 3, 1) := by decide +kernel
theorem dX8_newBlock_85 : decode cX8_newBlock 85 = .ok (.iconst (-1), 1) := by decide +kernel
theorem dX8_newBlock_86 : decode cX8_newBlock 86 = .ok (.iastore, 1) := by decide +kernel
theorem dX8_newBlock_87 : decode cX8_newBlock 87 = .ok (.aload_n 0, 1) := by decide +kernel
theorem dX8_newBlock_88 : decode cX8_newBlock 88 = .ok (.getfield 71, 3) := by decide +kernel
theorem dX8_newBlock_91 : decode cX8_newBlock 91 = .ok (.iload_n 3, 1) := by decide +kernel
theorem dX8_newBlock_92 : decode cX8_newBlock 92 = .ok (.iconst (-1), 1) := by decide +kernel
theorem dX8_newBlock_93 : decode cX8_newBlock 93 = .ok (.iastore, 1) := by decide +kernel
theorem dX8_newBlock_94 : decode cX8_newBlock 94 = .ok (.aload_n 0, 1) := by decide +kernel
theorem dX8_newBlock_95 : decode cX8_newBlock 95 = .ok (.getfield 74, 3) := by decide +kernel
theorem dX8_newBlock_98 : decode cX8_newBlock 98 = .ok (.iload_n 3, 1) := by decide +kernel
theorem dX8_newBlock_99 : decode cX8_newBlock 99 = .ok (.iload_n 1, 1) := by decide +kernel
theorem dX8_newBlock_100 : decode cX8_newBlock 100 = .ok (.iastore, 1) := by decide +kernel
theorem dX8_newBlock_101 : decode cX8_newBlock 101 = .ok (.aload_n 0, 1) := by decide +kernel
theorem dX8_newBlock_102 : decode cX8_newBlock 102 = .ok (.dup, 1) := by decide +kernel
theorem dX8_newBlock_103 : decode cX8_newBlock 103 = .ok (.getfield 163, 3) := by decide +kernel
theorem dX8_newBlock_106 : decode cX8_newBlock 106 = .ok (.iconst 1, 1) := by decide +kernel
theorem dX8_newBlock_107 : decode cX8_newBlock 107 = .ok (.iadd, 1) := by decide +kernel
theorem dX8_newBlock_108 : decode cX8_newBlock 108 = .ok (.putfield 163, 3) := by decide +kernel
theorem dX8_newBlock_111 : decode cX8_newBlock 111 = .ok (.iload_n 3, 1) := by decide +kernel
theorem dX8_newBlock_112 : decode cX8_newBlock 112 = .ok (.ireturn, 1) := by decide +kernel
theorem dX8_operand_0 : decode cX8_operand 0 = .ok (.aload_n 0, 1) := by decide +kernel
theorem dX8_operand_1 : decode cX8_operand 1 = .ok (.invokevirtual 172, 3) := by decide +kernel
theorem dX8_operand_4 : decode cX8_operand 4 = .ok (.ifCond .ne 4, 3) := by decide +kernel
theorem dX8_operand_7 : decode cX8_operand 7 = .ok (.return_, 1) := by decide +kernel
theorem dX8_operand_8 : decode cX8_operand 8 = .ok (.aload_n 0, 1) := by decide +kernel
theorem dX8_operand_9 : decode cX8_operand 9 = .ok (.iconst 1, 1) := by decide +kernel
theorem dX8_operand_10 : decode cX8_operand 10 = .ok (.invokevirtual 183, 3) := by decide +kernel
theorem dX8_operand_13 : decode cX8_operand 13 = .ok (.istore_n 3, 1) := by decide +kernel
theorem dX8_operand_14 : decode cX8_operand 14 = .ok (.aload_n 0, 1) := by decide +kernel
theorem dX8_operand_15 : decode cX8_operand 15 = .ok (.invokevirtual 176, 3) := by decide +kernel
theorem dX8_operand_18 : decode cX8_operand 18 = .ok (.istore 4, 2) := by decide +kernel
theorem dX8_operand_20 : decode cX8_operand 20 = .ok (.iload_n 3, 1) := by decide +kernel
theorem dX8_operand_21 : decode cX8_operand 21 = .ok (.iconst (-1), 1) := by decide +kernel
theorem dX8_operand_22 : decode cX8_operand 22 = .ok (.if_icmp .eq 29, 3) := by decide +kernel
theorem dX8_operand_25 : decode cX8_operand 25 = .ok (.aload_n 0, 1) := by decide +kernel
theorem dX8_operand_26 : decode cX8_operand 26 = .ok (.getfield 65, 3) := by decide +kernel
theorem dX8_operand_29 : decode cX8_operand 29 = .ok (.iconst 2, 1) := by decide +kernel
theorem dX8_operand_30 : decode cX8_operand 30 = .ok (.iload_n 1, 1) := by decide +kernel
theorem dX8_operand_31 : decode cX8_operand 31 = .ok (.imul, 1) := by decide +kernel
theorem dX8_operand_32 : decode cX8_operand 32 = .ok (.iload_n 2, 1) := by decide +kernel
theorem dX8_operand_33 : decode cX8_operand 33 = .ok (.iadd, 1) := by decide +kernel
theorem dX8_operand_34 : decode cX8_operand 34 = .ok (.sipush 1000, 3) := by decide +kernel
theorem dX8_operand_37 : decode cX8_operand 37 = .ok (.iload_n 3, 1) := by decide +kernel
theorem dX8_operand_38 : decode cX8_operand 38 = .ok (.iadd, 1) := by decide +kernel
theorem dX8_operand_39 : decode cX8_operand 39 = .ok (.iastore, 1) := by decide +kernel
theorem dX8_operand_40 : decode cX8_operand 40 = .ok (.aload_n 0, 1) := by decide +kernel
theorem dX8_operand_41 : decode cX8_operand 41 = .ok (.dup, 1) := by decide +kernel
theorem dX8_operand_42 : decode cX8_operand 42 = .ok (.getfield 163, 3) := by decide +kernel
theorem dX8_operand_45 : decode cX8_operand 45 = .ok (.iconst 1, 1) := by decide +kernel
theorem dX8_operand_46 : decode cX8_operand 46 = .ok (.iadd, 1) := by decide +kernel
theorem dX8_operand_47 : decode cX8_operand 47 = .ok (.putfield 163, 3) := by decide +kernel
theorem dX8_operand_50 : decode cX8_operand 50 = .ok (.return_, 1) := by decide +kernel
theorem dX8_operand_51 : decode cX8_operand 51 = .ok (.iload 4, 2) := by decide +kernel
theorem dX8_operand_53 : decode cX8_operand 53 = .ok (.bipush 48, 2) := by decide +kernel
theorem dX8_operand_55 : decode cX8_operand 55 = .ok (.bipush 57, 2) := by decide +kernel
theorem dX8_operand_57 : decode cX8_operand 57 = .ok (.invokestatic 159, 3) := by decide +kernel
theorem dX8_operand_60 : decode cX8_operand 60 = .ok (.ifCond .ne 9, 3) := by decide +kernel
theorem dX8_operand_63 : decode cX8_operand 63 = .ok (.aload_n 0, 1) := by decide +kernel
theorem dX8_operand_64 : decode cX8_operand 64 = .ok (.iconst 1, 1) := by decide +kernel
theorem dX8_operand_65 : decode cX8_operand 65 = .ok (.invokevirtual 180, 3) := by decide +kernel
theorem dX8_operand_68 : decode cX8_operand 68 = .ok (.return_, 1) := by decide +kernel
theorem dX8_operand_69 : decode cX8_operand 69 = .ok (.iconst 0, 1) := by decide +kernel
theorem dX8_operand_70 : decode cX8_operand 70 = .ok (.istore 5, 2) := by decide +kernel
theorem dX8_operand_72 : decode cX8_operand 72 = .ok (.aload_n 0, 1) := by decide +kernel
theorem dX8_operand_73 : decode cX8_operand 73 = .ok (.getfield 163, 3) := by decide +kernel
theorem dX8_operand_76 : decode cX8_operand 76 = .ok (.istore 6, 2) := by decide +kernel
theorem dX8_operand_78 : decode cX8_operand 78 = .ok (.iload 6, 2) := by decide +kernel
theorem dX8_operand_80 : decode cX8_operand 80 = .ok (.aload_n 0, 1) := by decide +kernel
theorem dX8_operand_81 : decode cX8_operand 81 = .ok (.getfield 166, 3) := by decide +kernel
theorem dX8_operand_84 : decode cX8_operand 84 = .ok (.if_icmp .ge 60, 3) := by decide +kernel
theorem dX8_operand_87 : decode cX8_operand 87 = .ok (.aload_n 0, 1) := by decide +kernel
theorem dX8_operand_88 : decode cX8_operand 88 = .ok (.getfield 13, 3) := by decide +kernel
theorem dX8_operand_91 : decode cX8_operand 91 = .ok (.iload 6, 2) := by decide +kernel
theorem dX8_operand_93 : decode cX8_operand 93 = .ok (.baload, 1) := by decide +kernel
theorem dX8_operand_94 : decode cX8_operand 94 = .ok (.bipush 48, 2) := by decide +kernel
theorem dX8_operand_96 : decode cX8_operand 96 = .ok (.bipush 57, 2) := by decide +kernel
theorem dX8_operand_98 : decode cX8_operand 98 = .ok (.invokestatic 159, 3) := by decide +kernel
theorem dX8_operand_101 : decode cX8_operand 101 = .ok (.ifCond .eq 43, 3) := by decide +kernel
theorem dX8_operand_104 : decode cX8_operand 104 = .ok (.iload 6, 2) := by decide +kernel
theorem dX8_operand_106 : decode cX8_operand 106 = .ok (.aload_n 0, 1) := by decide +kernel
theorem dX8_operand_107 : decode cX8_operand 107 = .ok (.getfield 163, 3) := by decide +kernel
theorem dX8_operand_110 : decode cX8_operand 110 = .ok (.isub, 1) := by decide +kernel
theorem dX8_operand_111 : decode cX8_operand 111 = .ok (.iconst 4, 1) := by decide +kernel
theorem dX8_operand_112 : decode cX8_operand 112 = .ok (.if_icmp .ge 22, 3) := by decide +kernel
theorem dX8_operand_115 : decode cX8_operand 115 = .ok (.bipush 10, 2) := by decide +kernel
theorem dX8_operand_117 : decode cX8_operand 117 = .ok (.iload 5, 2) := by decide +kernel
theorem dX8_operand_119 : decode cX8_operand 119 = .ok (.imul, 1) := by decide +kernel
theorem dX8_operand_120 : decode cX8_operand 120 = .ok (.aload_n 0, 1) := by decide +kernel
theorem dX8_operand_121 : decode cX8_operand 121 = .ok (.getfield 13, 3) := by decide +kernel
theorem dX8_operand_124 : decode cX8_operand 124 = .ok (.iload 6, 2) := by decide +kernel
theorem dX8_operand_126 : decode cX8_operand 126 = .ok (.baload, 1) := by decide +kernel
theorem dX8_operand_127 : decode cX8_operand 127 = .ok (.iadd, 1) := by decide +kernel
theorem dX8_operand_128 : decode cX8_operand 128 = .ok (.bipush 48, 2) := by decide +kernel
theorem dX8_operand_130 : decode cX8_operand 130 = .ok (.isub, 1) := by decide +kernel
theorem dX8_operand_131 : decode cX8_operand 131 = .ok (.goto 5, 3) := by decide +kernel
theorem dX8_operand_134 : decode cX8_operand 134 = .ok (.iload 5, 2) := by decide +kernel
theorem dX8_operand_136 : decode cX8_operand 136 = .ok (.istore 5, 2) := by decide +kernel
theorem dX8_operand_138 : decode cX8_operand 138 = .ok (.iinc 6 1, 3) := by decide +kernel
theorem dX8_operand_141 : decode cX8_operand 141 = .ok (.goto (-63), 3) := by decide +kernel
theorem dX8_operand_144 : decode cX8_operand 144 = .ok (.iload 6, 2) := by decide +kernel
theorem dX8_operand_146 : decode cX8_operand 146 = .ok (.aload_n 0, 1) := by decide +kernel
theorem dX8_operand_147 : decode cX8_operand 147 = .ok (.getfield 163, 3) := by decide +kernel
theorem dX8_operand_150 : decode cX8_operand 150 = .ok (.isub, 1) := by decide +kernel
theorem dX8_operand_151 : decode cX8_operand 151 = .ok (.iconst 3, 1) := by decide +kernel
theorem dX8_operand_152 : decode cX8_operand 152 = .ok (.if_icmp .le 8, 3) := by decide +kernel
theorem dX8_operand_155 : decode cX8_operand 155 = .ok (.aload_n 0, 1) := by decide +kernel
theorem dX8_operand_156 : decode cX8_operand 156 = .ok (.iconst 2, 1) := by decide +kernel
theorem dX8_operand_157 : decode cX8_operand 157 = .ok (.invokevirtual 180, 3) := by decide +kernel
theorem dX8_operand_160 : decode cX8_operand 160 = .ok (.aload_n 0, 1) := by decide +kernel
theorem dX8_operand_161 : decode cX8_operand 161 = .ok (.getfield 65, 3) := by decide +kernel
theorem dX8_operand_164 : decode cX8_operand 164 = .ok (.iconst 2, 1) := by decide +kernel
theorem dX8_operand_165 : decode cX8_operand 165 = .ok (.iload_n 1, 1) := by decide +kernel
theorem dX8_operand_166 : decode cX8_operand 166 = .ok (.imul, 1) := by decide +kernel
theorem dX8_operand_167 : decode cX8_operand 167 = .ok (.iload_n 2, 1) := by decide +kernel
theorem dX8_operand_168 : decode cX8_operand 168 = .ok (.iadd, 1) := by decide +kernel
theorem dX8_operand_169 : decode cX8_operand 169 = .ok (.iload 5, 2) := by decide +kernel
theorem dX8_operand_171 : decode cX8_operand 171 = .ok (.iastore, 1) := by decide +kernel
theorem dX8_operand_172 : decode cX8_operand 172 = .ok (.aload_n 0, 1) := by decide +kernel
theorem dX8_operand_173 : decode cX8_operand 173 = .ok (.invokevirtual 172, 3) := by decide +kernel
theorem dX8_operand_176 : decode cX8_operand 176 = .ok (.ifCond .eq 9, 3) := by decide +kernel
theorem dX8_operand_179 : decode cX8_operand 179 = .ok (.aload_n 0, 1) := by decide +kernel
theorem dX8_operand_180 : decode cX8_operand 180 = .ok (.iload 6, 2) := by decide +kernel
theorem dX8_operand_182 : decode cX8_operand 182 = .ok (.putfield 163, 3) := by decide +kernel
theorem dX8_operand_185 : decode cX8_operand 185 = .ok (.return_, 1) := by decide +kernel
