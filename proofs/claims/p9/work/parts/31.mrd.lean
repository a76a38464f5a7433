theorem dX8_must_0 : decode cX8_must 0 = .ok (.aload_n 0, 1) := by decide +kernel
theorem dX8_must_1 : decode cX8_must 1 = .ok (.invokevirtual 172, 3) := by decide +kernel
theorem dX8_must_4 : decode cX8_must 4 = .ok (.ifCond .ne 4, 3) := by decide +kernel
theorem dX8_must_7 : decode cX8_must 7 = .ok (.return_, 1) := by decide +kernel
theorem dX8_must_8 : decode cX8_must 8 = .ok (.aload_n 0, 1) := by decide +kernel
theorem dX8_must_9 : decode cX8_must 9 = .ok (.invokevirtual 176, 3) := by decide +kernel
theorem dX8_must_12 : decode cX8_must 12 = .ok (.iload_n 1, 1) := by decide +kernel
theorem dX8_must_13 : decode cX8_must 13 = .ok (.if_icmp .ne 16, 3) := by decide +kernel
theorem dX8_must_16 : decode cX8_must 16 = .ok (.aload_n 0, 1) := by decide +kernel
theorem dX8_must_17 : decode cX8_must 17 = .ok (.dup, 1) := by decide +kernel
theorem dX8_must_18 : decode cX8_must 18 = .ok (.getfield 163, 3) := by decide +kernel
theorem dX8_must_21 : decode cX8_must 21 = .ok (.iconst 1, 1) := by decide +kernel
theorem dX8_must_22 : decode cX8_must 22 = .ok (.iadd, 1) := by decide +kernel
theorem dX8_must_23 : decode cX8_must 23 = .ok (.putfield 163, 3) := by decide +kernel
theorem dX8_must_26 : decode cX8_must 26 = .ok (.goto 8, 3) := by decide +kernel
theorem dX8_must_29 : decode cX8_must 29 = .ok (.aload_n 0, 1) := by decide +kernel
theorem dX8_must_30 : decode cX8_must 30 = .ok (.iconst 1, 1) := by decide +kernel
theorem dX8_must_31 : decode cX8_must 31 = .ok (.invokevirtual 180, 3) := by decide +kernel
theorem dX8_must_34 : decode cX8_must 34 = .ok (.return_, 1) := by decide +kernel
theorem dX8_nameHere_0 : decode cX8_nameHere 0 = .ok (.aload_n 0, 1) := by decide +kernel
theorem dX8_nameHere_1 : decode cX8_nameHere 1 = .ok (.invokevirtual 176, 3) := by decide +kernel
theorem dX8_nameHere_4 : decode cX8_nameHere 4 = .ok (.istore_n 2, 1) := by decide +kernel
theorem dX8_nameHere_5 : decode cX8_nameHere 5 = .ok (.iload_n 2, 1) := by decide +kernel
theorem dX8_nameHere_6 : decode cX8_nameHere 6 = .ok (.bipush 97, 2) := by decide +kernel
theorem dX8_nameHere_8 : decode cX8_nameHere 8 = .ok (.bipush 102, 2) := by decide +kernel
theorem dX8_nameHere_10 : decode cX8_nameHere 10 = .ok (.invokestatic 159, 3) := by decide +kernel
theorem dX8_nameHere_13 : decode cX8_nameHere 13 = .ok (.ifCond .eq 8, 3) := by decide +kernel
theorem dX8_nameHere_16 : decode cX8_nameHere 16 = .ok (.iload_n 2, 1) := by decide +kernel
theorem dX8_nameHere_17 : decode cX8_nameHere 17 = .ok (.bipush 97, 2) := by decide +kernel
theorem dX8_nameHere_19 : decode cX8_nameHere 19 = .ok (.isub, 1) := by decide +kernel
theorem dX8_nameHere_20 : decode cX8_nameHere 20 = .ok (.ireturn, 1) := by decide +kernel
theorem dX8_nameHere_21 : decode cX8_nameHere 21 = .ok (.iload_n 1, 1) := by decide +kernel
theorem dX8_nameHere_22 : decode cX8_nameHere 22 = .ok (.ifCond .eq 24, 3) := by decide +kernel
theorem dX8_nameHere_25 : decode cX8_nameHere 25 = .ok (.iload_n 2, 1) := by decide +kernel
theorem dX8_nameHere_26 : decode cX8_nameHere 26 = .ok (.bipush 119, 2) := by decide +kernel
theorem dX8_nameHere_28 : decode cX8_nameHere 28 = .ok (.bipush 122, 2) := by decide +kernel
theorem dX8_nameHere_30 : decode cX8_nameHere 30 = .ok (.invokestatic 159, 3) := by decide +kernel
theorem dX8_nameHere_33 : decode cX8_nameHere 33 = .ok (.ifCond .eq 13, 3) := by decide +kernel
theorem dX8_nameHere_36 : decode cX8_nameHere 36 = .ok (.bipush 6, 2) := by decide +kernel
theorem dX8_nameHere_38 : decode cX8_nameHere 38 = .ok (.iload_n 2, 1) := by decide +kernel
theorem dX8_nameHere_39 : decode cX8_nameHere 39 = .ok (.iadd, 1) := by decide +kernel
theorem dX8_nameHere_40 : decode cX8_nameHere 40 = .ok (.bipush 119, 2) := by decide +kernel
theorem dX8_nameHere_42 : decode cX8_nameHere 42 = .ok (.isub, 1) := by decide +kernel
theorem dX8_nameHere_43 : decode cX8_nameHere 43 = .ok (.goto 4, 3) := by decide +kernel
theorem dX8_nameHere_46 : decode cX8_nameHere 46 = .ok (.iconst (-1), 1) := by decide +kernel
theorem dX8_nameHere_47 : decode cX8_nameHere 47 = .ok (.ireturn, 1) := by decide +kernel
theorem dX8_newBlock_0 : decode cX8_newBlock 0 = .ok (.aload_n 0, 1) := by decide +kernel
theorem dX8_newBlock_1 : decode cX8_newBlock 1 = .ok (.invokevirtual 172, 3) := by decide +kernel
theorem dX8_newBlock_4 : decode cX8_newBlock 4 = .ok (.ifCond .eq 17, 3) := by decide +kernel
theorem dX8_newBlock_7 : decode cX8_newBlock 7 = .ok (.aload_n 0, 1) := by decide +kernel
theorem dX8_newBlock_8 : decode cX8_newBlock 8 = .ok (.invokevirtual 176, 3) := by decide +kernel
theorem dX8_newBlock_11 : decode cX8_newBlock 11 = .ok (.bipush 123, 2) := by decide +kernel
theorem dX8_newBlock_13 : decode cX8_newBlock 13 = .ok (.if_icmp .eq 8, 3) := by decide +kernel
theorem dX8_newBlock_16 : decode cX8_newBlock 16 = .ok (.aload_n 0, 1) := by decide +kernel
theorem dX8_newBlock_17 : decode cX8_newBlock 17 = .ok (.iconst 1, 1) := by decide +kernel
theorem dX8_newBlock_18 : decode cX8_newBlock 18 = .ok (.invokevirtual 180, 3) := by decide +kernel
theorem dX8_newBlock_21 : decode cX8_newBlock 21 = .ok (.aload_n 0, 1) := by decide +kernel
theorem dX8_newBlock_22 : decode cX8_newBlock 22 = .ok (.invokevirtual 172, 3) := by decide +kernel
theorem dX8_newBlock_25 : decode cX8_newBlock 25 = .ok (.ifCond .eq 14, 3) := by decide +kernel
theorem dX8_newBlock_28 : decode cX8_newBlock 28 = .ok (.iload_n 2, 1) := by decide +kernel
theorem dX8_newBlock_29 : decode cX8_newBlock 29 = .ok (.bipush 6, 2) := by decide +kernel
theorem dX8_newBlock_31 : decode cX8_newBlock 31 = .ok (.if_icmp .le 8, 3) := by decide +kernel
theorem dX8_newBlock_34 : decode cX8_newBlock 34 = .ok (.aload_n 0, 1) := by decide +kernel
theorem dX8_newBlock_35 : decode cX8_newBlock 35 = .ok (.iconst 4, 1) := by decide +kernel
theorem dX8_newBlock_36 : decode cX8_newBlock 36 = .ok (.invokevirtual 180, 3) := by decide +kernel
theorem dX8_newBlock_39 : decode cX8_newBlock 39 = .ok (.aload_n 0, 1) := by decide +kernel
theorem dX8_newBlock_40 : decode cX8_newBlock 40 = .ok (.invokevirtual 172, 3) := by decide +kernel
theorem dX8_newBlock_43 : decode cX8_newBlock 43 = .ok (.ifCond .ne 5, 3) := by decide +kernel
theorem dX8_newBlock_46 : decode cX8_newBlock 46 = .ok (.iconst 0, 1) := by decide +kernel
theorem dX8_newBlock_47 : decode cX8_newBlock 47 = .ok (.ireturn, 1) := by decide +kernel
theorem dX8_newBlock_48 : decode cX8_newBlock 48 = .ok (.sipush 280, 3) := by decide +kernel
theorem dX8_newBlock_51 : decode cX8_newBlock 51 = .ok (.aload_n 0, 1) := by decide +kernel
theorem dX8_newBlock_52 : decode cX8_newBlock 52 = .ok (.getfield 187, 3) := by decide +kernel
theorem dX8_newBlock_55 : decode cX8_newBlock 55 = .ok (.imul, 1) := by decide +kernel
theorem dX8_newBlock_56 : decode cX8_newBlock 56 = .ok (.aload_n 0, 1) := by decide +kernel
theorem dX8_newBlock_57 : decode cX8_newBlock 57 = .ok (.getfield 20, 3) := by decide +kernel
theorem dX8_newBlock_60 : decode cX8_newBlock 60 = .ok (.aload_n 0, 1) := by decide +kernel
theorem dX8_newBlock_61 : decode cX8_newBlock 61 = .ok (.getfield 187, 3) := by decide +kernel
theorem dX8_newBlock_64 : decode cX8_newBlock 64 = .ok (.iaload, 1) := by decide +kernel
theorem dX8_newBlock_65 : decode cX8_newBlock 65 = .ok (.iadd, 1) := by decide +kernel
theorem dX8_newBlock_66 : decode cX8_newBlock 66 = .ok (.istore_n 3, 1) := by decide +kernel
theorem dX8_newBlock_67 : decode cX8_newBlock 67 = .ok (.aload_n 0, 1) := by decide +kernel
theorem dX8_newBlock_68 : decode cX8_newBlock 68 = .ok (.getfield 20, 3) := by decide +kernel
theorem dX8_newBlock_71 : decode cX8_newBlock 71 = .ok (.aload_n 0, 1) := by decide +kernel
theorem dX8_newBlock_72 : decode cX8_newBlock 72 = .ok (.getfield 187, 3) := by decide +kernel
theorem dX8_newBlock_75 : decode cX8_newBlock 75 = .ok (.dup2, 1) := by decide +kernel
theorem dX8_newBlock_76 : decode cX8_newBlock 76 = .ok (.iaload, 1) := by decide +kernel
theorem dX8_newBlock_77 : decode cX8_newBlock 77 = .ok (.iconst 1, 1) := by decide +kernel
theorem dX8_newBlock_78 : decode cX8_newBlock 78 = .ok (.iadd, 1) := by decide +kernel
theorem dX8_newBlock_79 : decode cX8_newBlock 79 = .ok (.iastore, 1) := by decide +kernel
theorem dX8_newBlock_80 : decode cX8_newBlock 80 = .ok (.aload_n 0, 1) := by decide +kernel
theorem dX8_newBlock_81 : decode cX8_newBlock 81 = .ok (.getfield 68, 3) := by decide +kernel
theorem dX8_newBlock_84 : decode cX8_newBlock 84 = .ok (.iload_n 3, 1) := by decide +kernel
theorem dX8_newBlock_85 : decode cX8_newBlock 85 = .ok (.iconst (-1), 1) := by decide +kernel
theorem dX8_newBlock_86 : decode cX8_newBlock 86 = .ok (.iastore, 1) := by decide +kernel
theorem dX8_newBlock_87 : decode cX8_newBlock 87 = .ok (.aload_n 0, 1) := by decide +kernel
theorem dX8_newBlock_88 : decode cX8_newBlock 88 = .ok (.getfield 71, 3) := by decide +kernel
theorem dX8_newBlock_91 : decode cX8_newBlock 91 = .ok (.iload_n 3, 1) := by decide +kernel
theorem dX8_newBlock_92 : decode cX8_newBlock 92 = .ok (.iconst (-1), 1) := by decide +kernel
theorem dX8_newBlock_93 : decode cX8_newBlock 93 = .ok (.iastore, 1) := by decide +kernel
theorem dX8_newBlock_94 : decode cX8_newBlock 94 = .ok (.aload_n 0, 1) := by decide +kernel
theorem dX8_newBlock_95 : decode cX8_newBlock 95 = .ok (.getfield 74, 3) := by decide +kernel
theorem dX8_newBlock_98 : decode cX8_newBlock 98 = .ok (.iload_n 3, 1) := by decide +kernel
theorem dX8_newBlock_99 : decode cX8_newBlock 99 = .ok (.iload_n 1, 1) := by decide +kernel
theorem dX8_newBlock_100 : decode cX8_newBlock 100 = .ok (.iastore, 1) := by decide +kernel
theorem dX8_newBlock_101 : decode cX8_newBlock 101 = .ok (.aload_n 0, 1) := by decide +kernel
theorem dX8_newBlock_102 : decode cX8_newBlock 102 = .ok (.dup, 1) := by decide +kernel
theorem dX8_newBlock_103 : decode cX8_newBlock 103 = .ok (.getfield 163, 3) := by decide +kernel
theorem dX8_newBlock_106 : decode cX8_newBlock 106 = .ok (.iconst 1, 1) := by decide +kernel
theorem dX8_newBlock_107 : decode cX8_newBlock 107 = .ok (.iadd, 1) := by decide +kernel
theorem dX8_newBlock_108 : decode cX8_newBlock 108 = .ok (.putfield 163, 3) := by decide +kernel
theorem dX8_newBlock_111 : decode cX8_newBlock 111 = .ok (.iload_n 3, 1) := by decide +kernel
theorem dX8_newBlock_112 : decode cX8_newBlock 112 = .ok (.ireturn, 1) := by decide +kernel
theorem dX8_operand_0 : decode cX8_operand 0 = .ok (.aload_n 0, 1) := by decide +kernel
theorem dX8_operand_1 : decode cX8_operand 1 = .ok (.invokevirtual 172, 3) := by decide +kernel
theorem dX8_operand_4 : decode cX8_operand 4 = .ok (.ifCond .ne 4, 3) := by decide +kernel
theorem dX8_operand_7 : decode cX8_operand 7 = .ok (.return_, 1) := by decide +kernel
theorem dX8_operand_8 : decode cX8_operand 8 = .ok (.aload_n 0, 1) := by decide +kernel
theorem dX8_operand_9 : decode cX8_operand 9 = .ok (.iconst 1, 1) := by decide +kernel
theorem dX8_operand_10 : decode cX8_operand 10 = .ok (.invokevirtual 183, 3) := by decide +kernel
theorem dX8_operand_13 : decode cX8_operand 13 = .ok (.istore_n 3, 1) := by decide +kernel
theorem dX8_operand_14 : decode cX8_operand 14 = .ok (.aload_n 0, 1) := by decide +kernel
theorem dX8_operand_15 : decode cX8_operand 15 = .ok (.invokevirtual 176, 3) := by decide +kernel
theorem dX8_operand_18 : decode cX8_operand 18 = .ok (.istore 4, 2) := by decide +kernel
theorem dX8_operand_20 : decode cX8_operand 20 = .ok (.iload_n 3, 1) := by decide +kernel
theorem dX8_operand_21 : decode cX8_operand 21 = .ok (.iconst (-1), 1) := by decide +kernel
theorem dX8_operand_22 : decode cX8_operand 22 = .ok (.if_icmp .eq 29, 3) := by decide +kernel
theorem dX8_operand_25 : decode cX8_operand 25 = .ok (.aload_n 0, 1) := by decide +kernel
theorem dX8_operand_26 : decode cX8_operand 26 = .ok (.getfield 65, 3) := by decide +kernel
theorem dX8_operand_29 : decode cX8_operand 29 = .ok (.iconst 2, 1) := by decide +kernel
theorem dX8_operand_30 : decode cX8_operand 30 = .ok (.iload_n 1, 1) := by decide +kernel
theorem dX8_operand_31 : decode cX8_operand 31 = .ok (.imul, 1) := by decide +kernel
theorem dX8_operand_32 : decode cX8_operand 32 = .ok (.iload_n 2, 1) := by decide +kernel
theorem dX8_operand_33 : decode cX8_operand 33 = .ok (.iadd, 1) := by decide +kernel
theorem dX8_operand_34 : decode cX8_operand 34 = .ok (.sipush 1000, 3) := by decide +kernel
theorem dX8_operand_37 : decode cX8_operand 37 = .ok (.iload_n 3, 1) := by decide +kernel
theorem dX8_operand_38 : decode cX8_operand 38 = .ok (.iadd, 1) := by decide +kernel
theorem dX8_operand_39 : decode cX8_operand 39 = .ok (.iastore, 1) := by decide +kernel
theorem dX8_operand_40 : decode cX8_operand 40 = .ok (.aload_n 0, 1) := by decide +kernel
theorem dX8_operand_41 : decode cX8_operand 41 = .ok (.dup, 1) := by decide +kernel
theorem dX8_operand_42 : decode cX8_operand 42 = .ok (.getfield 163, 3) := by decide +kernel
theorem dX8_operand_45 : decode cX8_operand 45 = .ok (.iconst 1, 1) := by decide +kernel
theorem dX8_operand_46 : decode cX8_operand 46 = .ok (.iadd, 1) := by decide +kernel
theorem dX8_operand_47 : decode cX8_operand 47 = .ok (.putfield 163, 3) := by decide +kernel
theorem dX8_operand_50 : decode cX8_operand 50 = .ok (.return_, 1) := by decide +kernel
theorem dX8_operand_51 : decode cX8_operand 51 = .ok (.iload 4, 2) := by decide +kernel
theorem dX8_operand_53 : decode cX8_operand 53 = .ok (.bipush 48, 2) := by decide +kernel
theorem dX8_operand_55 : decode cX8_operand 55 = .ok (.bipush 57, 2) := by decide +kernel
theorem dX8_operand_57 : decode cX8_operand 57 = .ok (.invokestatic 159, 3) := by decide +kernel
theorem dX8_operand_60 : decode cX8_operand 60 = .ok (.ifCond .ne 9, 3) := by decide +kernel
theorem dX8_operand_63 : decode cX8_operand 63 = .ok (.aload_n 0, 1) := by decide +kernel
theorem dX8_operand_64 : decode cX8_operand 64 = .ok (.iconst 1, 1) := by decide +kernel
theorem dX8_operand_65 : decode cX8_operand 65 = .ok (.invokevirtual 180, 3) := by decide +kernel
theorem dX8_operand_68 : decode cX8_operand 68 = .ok (.return_, 1) := by decide +kernel
theorem dX8_operand_69 : decode cX8_operand 69 = .ok (.iconst 0, 1) := by decide +kernel
theorem dX8_operand_70 : decode cX8_operand 70 = .ok (.istore 5, 2) := by decide +kernel
theorem dX8_operand_72 : decode cX8_operand 72 = .ok (.aload_n 0, 1) := by decide +kernel
theorem dX8_operand_73 : decode cX8_operand 73 = .ok (.getfield 163, 3) := by decide +kernel
theorem dX8_operand_76 : decode cX8_operand 76 = .ok (.istore 6, 2) := by decide +kernel
theorem dX8_operand_78 : decode cX8_operand 78 = .ok (.iload 6, 2) := by decide +kernel
theorem dX8_operand_80 : decode cX8_operand 80 = .ok (.aload_n 0, 1) := by decide +kernel
theorem dX8_operand_81 : decode cX8_operand 81 = .ok (.getfield 166, 3) := by decide +kernel
theorem dX8_operand_84 : decode cX8_operand 84 = .ok (.if_icmp .ge 60, 3) := by decide +kernel
theorem dX8_operand_87 : decode cX8_operand 87 = .ok (.aload_n 0, 1) := by decide +kernel
theorem dX8_operand_88 : decode cX8_operand 88 = .ok (.getfield 13, 3) := by decide +kernel
theorem dX8_operand_91 : decode cX8_operand 91 = .ok (.iload 6, 2) := by decide +kernel
theorem dX8_operand_93 : decode cX8_operand 93 = .ok (.baload, 1) := by decide +kernel
theorem dX8_operand_94 : decode cX8_operand 94 = .ok (.bipush 48, 2) := by decide +kernel
theorem dX8_operand_96 : decode cX8_operand 96 = .ok (.bipush 57, 2) := by decide +kernel
theorem dX8_operand_98 : decode cX8_operand 98 = .ok (.invokestatic 159, 3) := by decide +kernel
theorem dX8_operand_101 : decode cX8_operand 101 = .ok (.ifCond .eq 43, 3) := by decide +kernel
theorem dX8_operand_104 : decode cX8_operand 104 = .ok (.iload 6, 2) := by decide +kernel
theorem dX8_operand_106 : decode cX8_operand 106 = .ok (.aload_n 0, 1) := by decide +kernel
theorem dX8_operand_107 : decode cX8_operand 107 = .ok (.getfield 163, 3) := by decide +kernel
theorem dX8_operand_110 : decode cX8_operand 110 = .ok (.isub, 1) := by decide +kernel
theorem dX8_operand_111 : decode cX8_operand 111 = .ok (.iconst 4, 1) := by decide +kernel
theorem dX8_operand_112 : decode cX8_operand 112 = .ok (.if_icmp .ge 22, 3) := by decide +kernel
theorem dX8_operand_115 : decode cX8_operand 115 = .ok (.bipush 10, 2) := by decide +kernel
theorem dX8_operand_117 : decode cX8_operand 117 = .ok (.iload 5, 2) := by decide +kernel
theorem dX8_operand_119 : decode cX8_operand 119 = .ok (.imul, 1) := by decide +kernel
theorem dX8_operand_120 : decode cX8_operand 120 = .ok (.aload_n 0, 1) := by decide +kernel
theorem dX8_operand_121 : decode cX8_operand 121 = .ok (.getfield 13, 3) := by decide +kernel
theorem dX8_operand_124 : decode cX8_operand 124 = .ok (.iload 6, 2) := by decide +kernel
theorem dX8_operand_126 : decode cX8_operand 126 = .ok (.baload, 1) := by decide +kernel
theorem dX8_operand_127 : decode cX8_operand 127 = .ok (.iadd, 1) := by decide +kernel
theorem dX8_operand_128 : decode cX8_operand 128 = .ok (.bipush 48, 2) := by decide +kernel
theorem dX8_operand_130 : decode cX8_operand 130 = .ok (.isub, 1) := by decide +kernel
theorem dX8_operand_131 : decode cX8_operand 131 = .ok (.goto 5, 3) := by decide +kernel
theorem dX8_operand_134 : decode cX8_operand 134 = .ok (.iload 5, 2) := by decide +kernel
theorem dX8_operand_136 : decode cX8_operand 136 = .ok (.istore 5, 2) := by decide +kernel
theorem dX8_operand_138 : decode cX8_operand 138 = .ok (.iinc 6 1, 3) := by decide +kernel
theorem dX8_operand_141 : decode cX8_operand 141 = .ok (.goto (-63), 3) := by decide +kernel
theorem dX8_operand_144 : decode cX8_operand 144 = .ok (.iload 6, 2) := by decide +kernel
theorem dX8_operand_146 : decode cX8_operand 146 = .ok (.aload_n 0, 1) := by decide +kernel
theorem dX8_operand_147 : decode cX8_operand 147 = .ok (.getfield 163, 3) := by decide +kernel
theorem dX8_operand_150 : decode cX8_operand 150 = .ok (.isub, 1) := by decide +kernel
theorem dX8_operand_151 : decode cX8_operand 151 = .ok (.iconst 3, 1) := by decide +kernel
theorem dX8_operand_152 : decode cX8_operand 152 = .ok (.if_icmp .le 8, 3) := by decide +kernel
theorem dX8_operand_155 : decode cX8_operand 155 = .ok (.aload_n 0, 1) := by decide +kernel
theorem dX8_operand_156 : decode cX8_operand 156 = .ok (.iconst 2, 1) := by decide +kernel
theorem dX8_operand_157 : decode cX8_operand 157 = .ok (.invokevirtual 180, 3) := by decide +kernel
theorem dX8_operand_160 : decode cX8_operand 160 = .ok (.aload_n 0, 1) := by decide +kernel
theorem dX8_operand_161 : decode cX8_operand 161 = .ok (.getfield 65, 3) := by decide +kernel
theorem dX8_operand_164 : decode cX8_operand 164 = .ok (.iconst 2, 1) := by decide +kernel
theorem dX8_operand_165 : decode cX8_operand 165 = .ok (.iload_n 1, 1) := by decide +kernel
theorem dX8_operand_166 : decode cX8_operand 166 = .ok (.imul, 1) := by decide +kernel
theorem dX8_operand_167 : decode cX8_operand 167 = .ok (.iload_n 2, 1) := by decide +kernel
theorem dX8_operand_168 : decode cX8_operand 168 = .ok (.iadd, 1) := by decide +kernel
theorem dX8_operand_169 : decode cX8_operand 169 = .ok (.iload 5, 2) := by decide +kernel
theorem dX8_operand_171 : decode cX8_operand 171 = .ok (.iastore, 1) := by decide +kernel
theorem dX8_operand_172 : decode cX8_operand 172 = .ok (.aload_n 0, 1) := by decide +kernel
theorem dX8_operand_173 : decode cX8_operand 173 = .ok (.invokevirtual 172, 3) := by decide +kernel
theorem dX8_operand_176 : decode cX8_operand 176 = .ok (.ifCond .eq 9, 3) := by decide +kernel
theorem dX8_operand_179 : decode cX8_operand 179 = .ok (.aload_n 0, 1) := by decide +kernel
theorem dX8_operand_180 : decode cX8_operand 180 = .ok (.iload 6, 2) := by decide +kernel
theorem dX8_operand_182 : decode cX8_operand 182 = .ok (.putfield 163, 3) := by decide +kernel
theorem dX8_operand_185 : decode cX8_operand 185 = .ok (.return_, 1) := by decide +kernel
set_option maxHeartbeats 4000000 in
set_option maxRecDepth 100000 in
theorem s_X8_must (l : Launch) (d : Nat) {P : PP} {h : HP} (hv : Iv P h) (a2 : Int32) (a2l : 0 ≤ a2.toInt) (a2u : a2.toInt ≤ 255) : Mt l yX8_must cX8_must 2 none (d + 2) [.ref 70, .int a2] h 0 0 (fun r h' => r = none ∧ Iv P h' ∧ ((h'.2.1 70 5).toInt = 0 → (h.2.1 70 5).toInt = 0) ∧ ((h.2.1 70 4).toInt ≤ (h'.2.1 70 4).toInt) ∧ ((h'.2.1 70 5).toInt = 0 → (h.2.1 70 4).toInt + 1 ≤ (h'.2.1 70 4).toInt)) := by
  refine Mt_iv hv (by decide) (Nat.le_of_ble_eq_true rfl) ?_
  show Go l RX8 cX8_must 2 (g_rm (d + 2) 0 0) "must" none 117 0 0 (fun _ _ => True) (fun r h' => r = none ∧ Iv P h' ∧ ((h'.2.1 70 5).toInt = 0 → (h.2.1 70 5).toInt = 0) ∧ ((h.2.1 70 4).toInt ≤ (h'.2.1 70 4).toInt) ∧ ((h'.2.1 70 5).toInt = 0 → (h.2.1 70 4).toInt + 1 ≤ (h'.2.1 70 4).toInt)) 0 0 [(0, .ref 70), (1, .int a2)] [] h
  refine go_aload_n (pc := 0) rfl dX8_must_0 ?_
  refine go_invV (pc := 1) (sl := 0) (s_X8_isGood l (d + 0) hv ) mL_X8_172 iM_X8_isGood sM_X8_isGood (hv.sh rfl) rfl rfl rfl (Nat.le_of_ble_eq_true rfl) (show d + 0 + 1 + 1 ≤ d + 2 by omega) (show 8 + (1 + 11) + 40 * (d + 0 + 1) ≤ 40 * (d + 2) by omega) (g_c0 hv.ln) (Nat.le_of_ble_eq_true rfl) dX8_must_1 ?_
  intro r h1 hq _
  obtain ⟨v4, rfl, v4l, v4u, rfl, f2, f3⟩ := hq
  refine gf_if_ne (pc := 4) (tgt := 8) (ti_rfl v4) (by decide) dX8_must_4 (fun q5 => ?_) (fun q5 => ?_)
  ·
    refine go_aload_n (pc := 8) rfl dX8_must_8 ?_
    have g6 : (0 : Int) ≤ (h.2.1 70 4).toInt := (hv.2.1 70 4).1
    have g7 : (h.2.1 70 4).toInt ≤ 500 := (hv.2.1 70 4).2
    have g8 : (-2147483648 : Int) ≤ (h.2.1 70 5).toInt := (hv.2.1 70 5).1
    have g9 : (h.2.1 70 5).toInt ≤ 2147483647 := (hv.2.1 70 5).2
    refine go_invV (pc := 9) (sl := 0) (s_X8_here l (d + 0) hv ) mL_X8_176 iM_X8_here sM_X8_here (hv.sh rfl) rfl rfl rfl (Nat.le_of_ble_eq_true rfl) (show d + 0 + 1 + 1 ≤ d + 2 by omega) (show 8 + (1 + 11) + 40 * (d + 0 + 1) ≤ 40 * (d + 2) by omega) (g_c0 hv.ln) (Nat.le_of_ble_eq_true rfl) dX8_must_9 ?_
    intro r h10 hq _
    obtain ⟨v15, rfl, v15l, v15u, hv10, f11, f12, f13, f14⟩ := hq
    obtain ⟨u16, u16w⟩ : ∃ v : Int32, v = h10.2.1 70 4 := ⟨_, rfl⟩
    have u16e : (h10.2.1 70 4).toInt = u16.toInt := by rw [u16w]
    have u16l : 0 ≤ u16.toInt := by rw [u16w]; exact (hv10.2.1 70 4).1
    have u16u : u16.toInt ≤ 500 := by rw [u16w]; exact (hv10.2.1 70 4).2
    obtain ⟨u17, u17w⟩ : ∃ v : Int32, v = h10.2.1 70 5 := ⟨_, rfl⟩
    have u17e : (h10.2.1 70 5).toInt = u17.toInt := by rw [u17w]
    have u17l : -2147483648 ≤ u17.toInt := by rw [u17w]; exact (hv10.2.1 70 5).1
    have u17u : u17.toInt ≤ 2147483647 := by rw [u17w]; exact (hv10.2.1 70 5).2
    refine go_iload_n (pc := 12) rfl dX8_must_12 ?_
    refine gf_icmp_ne (pc := 13) (tgt := 29) (ti_rfl v15) (ti_rfl a2) (by decide) dX8_must_13 (fun q18 => ?_) (fun q18 => ?_)
    ·
      refine go_aload_n (pc := 29) rfl dX8_must_29 ?_
      refine go_iconst (pc := 30) (v := 1) (by decide) dX8_must_30 ?_
      have g19 : (0 : Int) ≤ (h10.2.1 70 4).toInt := (hv10.2.1 70 4).1
      have g20 : (h10.2.1 70 4).toInt ≤ 500 := (hv10.2.1 70 4).2
      have g21 : (-2147483648 : Int) ≤ (h10.2.1 70 5).toInt := (hv10.2.1 70 5).1
      have g22 : (h10.2.1 70 5).toInt ≤ 2147483647 := (hv10.2.1 70 5).2
      have g23 : (h10.2.1 70 4).toInt = u16.toInt := by rw [← (show u16 = h10.2.1 70 4 from u16w)] <;> exact (ti_rfl u16)
      have g24 : (h10.2.1 70 5).toInt = u17.toInt := by rw [← (show u17 = h10.2.1 70 5 from u17w)] <;> exact (ti_rfl u17)
      refine go_invV (pc := 31) (sl := 0) (s_X8_fails l (d + 0) hv10 1 (by rw [show (1 : Int32).toInt = 1 from (ti_c (v := 1) (a := 1) (by decide))]; omega) (by rw [show (1 : Int32).toInt = 1 from (ti_c (v := 1) (a := 1) (by decide))]; omega)) mL_X8_180 iM_X8_fails sM_X8_fails (hv10.sh rfl) rfl rfl rfl (Nat.le_of_ble_eq_true rfl) (show d + 0 + 1 + 1 ≤ d + 2 by omega) (show 8 + (2 + 11) + 40 * (d + 0 + 1) ≤ 40 * (d + 2) by omega) (g_c0 hv10.ln) (Nat.le_of_ble_eq_true rfl) dX8_must_31 ?_
      intro r h25 hq _
      obtain ⟨rfl, hv25, f26, f27⟩ := hq
      try rw [show (1 : Int32).toInt = 1 from (ti_c (v := 1) (a := 1) (by decide))] at f26
      try rw [show (1 : Int32).toInt = 1 from (ti_c (v := 1) (a := 1) (by decide))] at f27
      obtain ⟨u28, u28w⟩ : ∃ v : Int32, v = h25.2.1 70 4 := ⟨_, rfl⟩
      have u28e : (h25.2.1 70 4).toInt = u28.toInt := by rw [u28w]
      have u28l : 0 ≤ u28.toInt := by rw [u28w]; exact (hv25.2.1 70 4).1
      have u28u : u28.toInt ≤ 500 := by rw [u28w]; exact (hv25.2.1 70 4).2
      obtain ⟨u29, u29w⟩ : ∃ v : Int32, v = h25.2.1 70 5 := ⟨_, rfl⟩
      have u29e : (h25.2.1 70 5).toInt = u29.toInt := by rw [u29w]
      have u29l : -2147483648 ≤ u29.toInt := by rw [u29w]; exact (hv25.2.1 70 5).1
      have u29u : u29.toInt ≤ 2147483647 := by rw [u29w]; exact (hv25.2.1 70 5).2
      have g30 : (0 : Int) ≤ (h25.2.1 70 4).toInt := (hv25.2.1 70 4).1
      have g31 : (h25.2.1 70 4).toInt ≤ 500 := (hv25.2.1 70 4).2
      have g32 : (-2147483648 : Int) ≤ (h25.2.1 70 5).toInt := (hv25.2.1 70 5).1
      have g33 : (h25.2.1 70 5).toInt ≤ 2147483647 := (hv25.2.1 70 5).2
      have g34 : (h25.2.1 70 4).toInt = u28.toInt := by rw [← (show u28 = h25.2.1 70 4 from u28w)] <;> exact (ti_rfl u28)
      have g35 : (h25.2.1 70 5).toInt = u29.toInt := by rw [← (show u29 = h25.2.1 70 5 from u29w)] <;> exact (ti_rfl u29)
      exact gi_vret (pc := 34) ⟨rfl, hv25, (by omega), (by omega), (by omega)⟩ hv25 dX8_must_34
    ·
      refine go_aload_n (pc := 16) rfl dX8_must_16 ?_
      refine go_dup (pc := 17) rfl dX8_must_17 ?_
      refine gi_get (pc := 18) (lo := 0) (hi := 500) hv10 fL_X8_163 rfl (Nat.le_of_ble_eq_true rfl) rfl rfl dX8_must_18 (fun v36 v36l v36u v36w => ?_)
      have v36r : u16 = h10.2.1 70 4 := u16w
      have v36q : TI v36 u16.toInt := by rw [v36w.trans v36r.symm]; exact (ti_rfl u16)
      refine go_iconst (pc := 21) (v := 1) (by decide) dX8_must_21 ?_
      refine gf_iadd (pc := 22) v36q (ti_c (v := 1) (a := 1) (by decide)) (by omega) (by omega) dX8_must_22 (fun v37 e38 => ?_)
      refine gi_put (pc := 23) (lo := 0) (hi := 500) hv10 e38 (fP_X8_163 _) rfl (Nat.le_of_ble_eq_true rfl) rfl rfl (by omega) (by omega) rfl rfl (by decide) (by decide) (by decide) (by decide) dX8_must_23 (fun h39 hv39 hv39e => ?_)
      refine go_goto (pc := 26) (tgt := 34) (by decide) dX8_must_26 ?_
      have g40 : (0 : Int) ≤ (h39.2.1 70 4).toInt := (hv39.2.1 70 4).1
      have g41 : (h39.2.1 70 4).toInt ≤ 500 := (hv39.2.1 70 4).2
      have g42 : (-2147483648 : Int) ≤ (h39.2.1 70 5).toInt := (hv39.2.1 70 5).1
      have g43 : (h39.2.1 70 5).toInt ≤ 2147483647 := (hv39.2.1 70 5).2
      have g44 : (h39.2.1 70 5).toInt = u17.toInt := by rw [← (show u17 = h39.2.1 70 5 from (show u17 = h39.2.1 70 5 from by rw [hv39e]; exact (g_iI rfl u17w.symm).symm))] <;> exact (ti_rfl u17)
      have g45 : (h39.2.1 70 4).toInt = (u16.toInt + 1) := by rw [← (show v37 = h39.2.1 70 4 from (show v37 = h39.2.1 70 4 from by rw [hv39e]; exact g_iS.symm))] <;> exact e38
      exact gi_vret (pc := 34) ⟨rfl, hv39, (by omega), (by omega), (by omega)⟩ hv39 dX8_must_34
  ·
    have g46 : (0 : Int) ≤ (h.2.1 70 4).toInt := (hv.2.1 70 4).1
    have g47 : (h.2.1 70 4).toInt ≤ 500 := (hv.2.1 70 4).2
    have g48 : (-2147483648 : Int) ≤ (h.2.1 70 5).toInt := (hv.2.1 70 5).1
    have g49 : (h.2.1 70 5).toInt ≤ 2147483647 := (hv.2.1 70 5).2
    exact gi_vret (pc := 7) ⟨rfl, hv, (by omega), (by omega), (by omega)⟩ hv dX8_must_7
set_option maxHeartbeats 4000000 in
set_option maxRecDepth 100000 in
theorem s_X8_nameHere (l : Launch) (d : Nat) {P : PP} {h : HP} (hv : Iv P h) (a2 : Int32) (a2l : 0 ≤ a2.toInt) (a2u : a2.toInt ≤ 1) : Mt l yX8_nameHere cX8_nameHere 3 (some .int) (d + 2) [.ref 70, .int a2] h 0 0 (fun r h' => ∃ v : Int32, r = some (.int v) ∧ -1 ≤ v.toInt ∧ v.toInt ≤ 9 ∧ Iv P h' ∧ (0 ≤ v.toInt → (h'.2.1 70 4).toInt ≤ 499) ∧ (a2.toInt = 0 → v.toInt ≤ 5) ∧ ((h.2.1 70 4).toInt ≤ (h'.2.1 70 4).toInt) ∧ ((h'.2.1 70 5).toInt = (h.2.1 70 5).toInt) ∧ (0 ≤ v.toInt → ∃ c0, NS h' c0)) := by
  refine Mt_iv hv (by decide) (Nat.le_of_ble_eq_true rfl) ?_
  show Go l RX8 cX8_nameHere 3 (g_rm (d + 2) 0 0) "nameHere" (some .int) 117 0 0 (fun _ _ => True) (fun r h' => ∃ v : Int32, r = some (.int v) ∧ -1 ≤ v.toInt ∧ v.toInt ≤ 9 ∧ Iv P h' ∧ (0 ≤ v.toInt → (h'.2.1 70 4).toInt ≤ 499) ∧ (a2.toInt = 0 → v.toInt ≤ 5) ∧ ((h.2.1 70 4).toInt ≤ (h'.2.1 70 4).toInt) ∧ ((h'.2.1 70 5).toInt = (h.2.1 70 5).toInt) ∧ (0 ≤ v.toInt → ∃ c0, NS h' c0)) 0 0 [(0, .ref 70), (1, .int a2)] [] h
  refine go_aload_n (pc := 0) rfl dX8_nameHere_0 ?_
  have g1 : (0 : Int) ≤ (h.2.1 70 4).toInt := (hv.2.1 70 4).1
  have g2 : (h.2.1 70 4).toInt ≤ 500 := (hv.2.1 70 4).2
  have g3 : (-2147483648 : Int) ≤ (h.2.1 70 5).toInt := (hv.2.1 70 5).1
  have g4 : (h.2.1 70 5).toInt ≤ 2147483647 := (hv.2.1 70 5).2
  refine go_invV (pc := 1) (sl := 0) (s_X8_here l (d + 0) hv ) mL_X8_176 iM_X8_here sM_X8_here (hv.sh rfl) rfl rfl rfl (Nat.le_of_ble_eq_true rfl) (show d + 0 + 1 + 1 ≤ d + 2 by omega) (show 8 + (1 + 11) + 40 * (d + 0 + 1) ≤ 40 * (d + 2) by omega) (g_c0 hv.ln) (Nat.le_of_ble_eq_true rfl) dX8_nameHere_1 ?_
  intro r h5 hq _
  obtain ⟨v10, rfl, v10l, v10u, hv5, f6, f7, f8, f9⟩ := hq
  obtain ⟨u11, u11w⟩ : ∃ v : Int32, v = h5.2.1 70 4 := ⟨_, rfl⟩
  have u11e : (h5.2.1 70 4).toInt = u11.toInt := by rw [u11w]
  have u11l : 0 ≤ u11.toInt := by rw [u11w]; exact (hv5.2.1 70 4).1
  have u11u : u11.toInt ≤ 500 := by rw [u11w]; exact (hv5.2.1 70 4).2
  obtain ⟨u12, u12w⟩ : ∃ v : Int32, v = h5.2.1 70 5 := ⟨_, rfl⟩
  have u12e : (h5.2.1 70 5).toInt = u12.toInt := by rw [u12w]
  have u12l : -2147483648 ≤ u12.toInt := by rw [u12w]; exact (hv5.2.1 70 5).1
  have u12u : u12.toInt ≤ 2147483647 := by rw [u12w]; exact (hv5.2.1 70 5).2
  refine go_istore_n (pc := 4) (Nat.le_of_ble_eq_true rfl) dX8_nameHere_4 (go_lv (lv2 := [(0, .ref 70), (1, .int a2), (2, .int v10)]) rfl ?_)
  refine go_iload_n (pc := 5) rfl dX8_nameHere_5 ?_
  refine go_bipush (pc := 6) (v := 97) (by decide) dX8_nameHere_6 ?_
  refine go_bipush (pc := 8) (v := 102) (by decide) dX8_nameHere_8 ?_
  refine go_invS (pc := 10) (sl := 0) (s_X8_isIn l (d + 0) hv5 v10 97 102) mL_X8_159 iM_X8_isIn rfl rfl (Nat.le_of_ble_eq_true rfl) (show d + 0 + 1 + 1 ≤ d + 2 by omega) (show 8 + (3 + 11) + 40 * (d + 0 + 1) ≤ 40 * (d + 2) by omega) (g_c0 hv5.ln) (Nat.le_of_ble_eq_true rfl) dX8_nameHere_10 ?_
  intro r h13 hq _
  obtain ⟨v16, rfl, v16l, v16u, rfl, f14, f15⟩ := hq
  try rw [show (97 : Int32).toInt = 97 from (ti_c (v := 97) (a := 97) (by decide))] at f14
  try rw [show (102 : Int32).toInt = 102 from (ti_c (v := 102) (a := 102) (by decide))] at f14
  try rw [show (97 : Int32).toInt = 97 from (ti_c (v := 97) (a := 97) (by decide))] at f15
  try rw [show (102 : Int32).toInt = 102 from (ti_c (v := 102) (a := 102) (by decide))] at f15
  refine gf_if_eq (pc := 13) (tgt := 21) (ti_rfl v16) (by decide) dX8_nameHere_13 (fun q17 => ?_) (fun q17 => ?_)
  ·
    refine go_iload_n (pc := 21) rfl dX8_nameHere_21 ?_
    refine gf_if_eq (pc := 22) (tgt := 46) (ti_rfl a2) (by decide) dX8_nameHere_22 (fun q18 => ?_) (fun q18 => ?_)
    ·
      refine go_iconst (pc := 46) (v := (-1)) (by decide) dX8_nameHere_46 ?_
      have g19 : (0 : Int) ≤ (h5.2.1 70 4).toInt := (hv5.2.1 70 4).1
      have g20 : (h5.2.1 70 4).toInt ≤ 500 := (hv5.2.1 70 4).2
      have g21 : (-2147483648 : Int) ≤ (h5.2.1 70 5).toInt := (hv5.2.1 70 5).1
      have g22 : (h5.2.1 70 5).toInt ≤ 2147483647 := (hv5.2.1 70 5).2
      have g23 : (h5.2.1 70 4).toInt = u11.toInt := by rw [← (show u11 = h5.2.1 70 4 from u11w)] <;> exact (ti_rfl u11)
      have g24 : (h5.2.1 70 5).toInt = u12.toInt := by rw [← (show u12 = h5.2.1 70 5 from u12w)] <;> exact (ti_rfl u12)
      exact gi_iret (pc := 47) (ti_c (v := (-1)) (a := (-1)) (by decide)) ⟨_, rfl, (by rw [show ((-1) : Int32).toInt = (-1) from (ti_c (v := (-1)) (a := (-1)) (by decide))]; omega), (by rw [show ((-1) : Int32).toInt = (-1) from (ti_c (v := (-1)) (a := (-1)) (by decide))]; omega), hv5, (by rw [show ((-1) : Int32).toInt = (-1) from (ti_c (v := (-1)) (a := (-1)) (by decide))]; omega), (by rw [show ((-1) : Int32).toInt = (-1) from (ti_c (v := (-1)) (a := (-1)) (by decide))]; omega), (by omega), (by omega), (fun q => absurd q (by decide))⟩ hv5 dX8_nameHere_47
    ·
      refine go_iload_n (pc := 25) rfl dX8_nameHere_25 ?_
      refine go_bipush (pc := 26) (v := 119) (by decide) dX8_nameHere_26 ?_
      refine go_bipush (pc := 28) (v := 122) (by decide) dX8_nameHere_28 ?_
      refine go_invS (pc := 30) (sl := 0) (s_X8_isIn l (d + 0) hv5 v10 119 122) mL_X8_159 iM_X8_isIn rfl rfl (Nat.le_of_ble_eq_true rfl) (show d + 0 + 1 + 1 ≤ d + 2 by omega) (show 8 + (3 + 11) + 40 * (d + 0 + 1) ≤ 40 * (d + 2) by omega) (g_c0 hv5.ln) (Nat.le_of_ble_eq_true rfl) dX8_nameHere_30 ?_
      intro r h25 hq _
      obtain ⟨v28, rfl, v28l, v28u, rfl, f26, f27⟩ := hq
      try rw [show (119 : Int32).toInt = 119 from (ti_c (v := 119) (a := 119) (by decide))] at f26
      try rw [show (122 : Int32).toInt = 122 from (ti_c (v := 122) (a := 122) (by decide))] at f26
      try rw [show (119 : Int32).toInt = 119 from (ti_c (v := 119) (a := 119) (by decide))] at f27
      try rw [show (122 : Int32).toInt = 122 from (ti_c (v := 122) (a := 122) (by decide))] at f27
      refine gf_if_eq (pc := 33) (tgt := 46) (ti_rfl v28) (by decide) dX8_nameHere_33 (fun q29 => ?_) (fun q29 => ?_)
      ·
        refine go_iconst (pc := 46) (v := (-1)) (by decide) dX8_nameHere_46 ?_
        have g30 : (0 : Int) ≤ (h5.2.1 70 4).toInt := (hv5.2.1 70 4).1
        have g31 : (h5.2.1 70 4).toInt ≤ 500 := (hv5.2.1 70 4).2
        have g32 : (-2147483648 : Int) ≤ (h5.2.1 70 5).toInt := (hv5.2.1 70 5).1
        have g33 : (h5.2.1 70 5).toInt ≤ 2147483647 := (hv5.2.1 70 5).2
        have g34 : (h5.2.1 70 4).toInt = u11.toInt := by rw [← (show u11 = h5.2.1 70 4 from u11w)] <;> exact (ti_rfl u11)
        have g35 : (h5.2.1 70 5).toInt = u12.toInt := by rw [← (show u12 = h5.2.1 70 5 from u12w)] <;> exact (ti_rfl u12)
        exact gi_iret (pc := 47) (ti_c (v := (-1)) (a := (-1)) (by decide)) ⟨_, rfl, (by rw [show ((-1) : Int32).toInt = (-1) from (ti_c (v := (-1)) (a := (-1)) (by decide))]; omega), (by rw [show ((-1) : Int32).toInt = (-1) from (ti_c (v := (-1)) (a := (-1)) (by decide))]; omega), hv5, (by rw [show ((-1) : Int32).toInt = (-1) from (ti_c (v := (-1)) (a := (-1)) (by decide))]; omega), (by rw [show ((-1) : Int32).toInt = (-1) from (ti_c (v := (-1)) (a := (-1)) (by decide))]; omega), (by omega), (by omega), (fun q => absurd q (by decide))⟩ hv5 dX8_nameHere_47
      ·
        refine go_bipush (pc := 36) (v := 6) (by decide) dX8_nameHere_36 ?_
        refine go_iload_n (pc := 38) rfl dX8_nameHere_38 ?_
        refine gf_iadd (pc := 39) (ti_c (v := 6) (a := 6) (by decide)) (ti_rfl v10) (by omega) (by omega) dX8_nameHere_39 (fun v36 e37 => ?_)
        refine go_bipush (pc := 40) (v := 119) (by decide) dX8_nameHere_40 ?_
        refine gf_isub (pc := 42) e37 (ti_c (v := 119) (a := 119) (by decide)) (by omega) (by omega) dX8_nameHere_42 (fun v38 e39 => ?_)
        refine go_goto (pc := 43) (tgt := 47) (by decide) dX8_nameHere_43 ?_
        have g40 : (0 : Int) ≤ (h5.2.1 70 4).toInt := (hv5.2.1 70 4).1
        have g41 : (h5.2.1 70 4).toInt ≤ 500 := (hv5.2.1 70 4).2
        have g42 : (-2147483648 : Int) ≤ (h5.2.1 70 5).toInt := (hv5.2.1 70 5).1
        have g43 : (h5.2.1 70 5).toInt ≤ 2147483647 := (hv5.2.1 70 5).2
        have g44 : (h5.2.1 70 4).toInt = u11.toInt := by rw [← (show u11 = h5.2.1 70 4 from u11w)] <;> exact (ti_rfl u11)
        have g45 : (h5.2.1 70 5).toInt = u12.toInt := by rw [← (show u12 = h5.2.1 70 5 from u12w)] <;> exact (ti_rfl u12)
        exact gi_iret (pc := 47) e39 ⟨_, rfl, (by rw [show (v38 : Int32).toInt = ((6 + v10.toInt) - 119) from e39]; omega), (by rw [show (v38 : Int32).toInt = ((6 + v10.toInt) - 119) from e39]; omega), hv5, (by rw [show (v38 : Int32).toInt = ((6 + v10.toInt) - 119) from e39]; omega), (by rw [show (v38 : Int32).toInt = ((6 + v10.toInt) - 119) from e39]; omega), (by omega), (by omega), (fun _ => ⟨_, f9 (by omega)⟩)⟩ hv5 dX8_nameHere_47
  ·
    refine go_iload_n (pc := 16) rfl dX8_nameHere_16 ?_
    refine go_bipush (pc := 17) (v := 97) (by decide) dX8_nameHere_17 ?_
    refine gf_isub (pc := 19) (ti_rfl v10) (ti_c (v := 97) (a := 97) (by decide)) (by omega) (by omega) dX8_nameHere_19 (fun v46 e47 => ?_)
    have g48 : (0 : Int) ≤ (h5.2.1 70 4).toInt := (hv5.2.1 70 4).1
    have g49 : (h5.2.1 70 4).toInt ≤ 500 := (hv5.2.1 70 4).2
    have g50 : (-2147483648 : Int) ≤ (h5.2.1 70 5).toInt := (hv5.2.1 70 5).1
    have g51 : (h5.2.1 70 5).toInt ≤ 2147483647 := (hv5.2.1 70 5).2
    have g52 : (h5.2.1 70 4).toInt = u11.toInt := by rw [← (show u11 = h5.2.1 70 4 from u11w)] <;> exact (ti_rfl u11)
    have g53 : (h5.2.1 70 5).toInt = u12.toInt := by rw [← (show u12 = h5.2.1 70 5 from u12w)] <;> exact (ti_rfl u12)
    exact gi_iret (pc := 20) e47 ⟨_, rfl, (by rw [show (v46 : Int32).toInt = (v10.toInt - 97) from e47]; omega), (by rw [show (v46 : Int32).toInt = (v10.toInt - 97) from e47]; omega), hv5, (by rw [show (v46 : Int32).toInt = (v10.toInt - 97) from e47]; omega), (by rw [show (v46 : Int32).toInt = (v10.toInt - 97) from e47]; omega), (by omega), (by omega), (fun _ => ⟨_, f9 (by omega)⟩)⟩ hv5 dX8_nameHere_20
set_option maxHeartbeats 4000000 in
set_option maxRecDepth 100000 in
theorem s_X8_operand (l : Launch) (d : Nat) {P : PP} {h : HP} (hv : Iv P h) (a2 : Int32) (a2l : 0 ≤ a2.toInt) (a2u : a2.toInt ≤ 259) (a3 : Int32) (a3l : 0 ≤ a3.toInt) (a3u : a3.toInt ≤ 1) (hi : 130 * (h.2.1 70 6).toInt ≤ a2.toInt ∧ a2.toInt < 130 * (h.2.1 70 6).toInt + 130) : Mt l yX8_operand cX8_operand 7 none (d + 3) [.ref 70, .int a2, .int a3] h 0 0 (fun r h' => r = none ∧ (∃ Q : PP, Iv Q h' ∧ MW P Q) ∧ ((h'.2.1 70 5).toInt = 0 → (h.2.1 70 5).toInt = 0) ∧ ((h.2.1 70 4).toInt ≤ (h'.2.1 70 4).toInt) ∧ ((h'.2.1 70 5).toInt = 0 → OP h.2.1 h'.2.1) ∧ (V h'.2.1 73 (h.2.1 70 6).toInt = V h.2.1 73 (h.2.1 70 6).toInt) ∧ (V h'.2.1 74 (h.2.1 70 6).toInt = V h.2.1 74 (h.2.1 70 6).toInt) ∧ (V h'.2.1 75 (h.2.1 70 6).toInt = V h.2.1 75 (h.2.1 70 6).toInt) ∧ (KP h.2.1 h'.2.1) ∧ (OH h.2.1 h'.2.1 (h.2.1 70 6).toInt) ∧ (CKF h.2.1 → CKF h'.2.1)) := by
  refine Mt_iv hv (by decide) (Nat.le_of_ble_eq_true rfl) ?_
  show Go l RX8 cX8_operand 7 (g_rm (d + 3) 0 0) "operand" none 117 0 0 (fun _ _ => True) (fun r h' => r = none ∧ (∃ Q : PP, Iv Q h' ∧ MW P Q) ∧ ((h'.2.1 70 5).toInt = 0 → (h.2.1 70 5).toInt = 0) ∧ ((h.2.1 70 4).toInt ≤ (h'.2.1 70 4).toInt) ∧ ((h'.2.1 70 5).toInt = 0 → OP h.2.1 h'.2.1) ∧ (V h'.2.1 73 (h.2.1 70 6).toInt = V h.2.1 73 (h.2.1 70 6).toInt) ∧ (V h'.2.1 74 (h.2.1 70 6).toInt = V h.2.1 74 (h.2.1 70 6).toInt) ∧ (V h'.2.1 75 (h.2.1 70 6).toInt = V h.2.1 75 (h.2.1 70 6).toInt) ∧ (KP h.2.1 h'.2.1) ∧ (OH h.2.1 h'.2.1 (h.2.1 70 6).toInt) ∧ (CKF h.2.1 → CKF h'.2.1)) 0 0 [(0, .ref 70), (1, .int a2), (2, .int a3)] [] h
  obtain ⟨S, hS⟩ : ∃ S : Int, S = (h.2.1 70 6).toInt := ⟨_, rfl⟩
  have S0 : 0 ≤ S := by rw [hS]; exact (hv.2.1 70 6).1
  have S1 : S ≤ 1 := by rw [hS]; exact (hv.2.1 70 6).2
  have oh : OH h.2.1 h.2.1 S := OH.rfl _ _
  have ck : CKF h.2.1 → CKF h.2.1 := id
  have kp : KP h.2.1 h.2.1 := KP.rfl _
  rw [← hS] at hi
  have key : ∀ n : Nat, (∀ (l1 : Int32) (l2 : Int32) (l5 : Int32) (l6 : Int32) (Qx : PP) (hx : HP), Iv Qx hx → MW P Qx → 0 ≤ l1.toInt → l1.toInt ≤ 259 → 0 ≤ l2.toInt → l2.toInt ≤ 1 → 0 ≤ l5.toInt → l5.toInt ≤ 11115 → 0 ≤ l6.toInt → l6.toInt ≤ 500 → (VE h.2.1 hx.2.1) → (l1.toInt = a2.toInt) → (l2.toInt = a3.toInt) → (l5.toInt ≤ 9999) → ((hx.2.1 70 5).toInt = 0) → ((h.2.1 70 5).toInt = 0) → ((h.2.1 70 4).toInt ≤ (hx.2.1 70 4).toInt) → ((hx.2.1 70 4).toInt ≤ l6.toInt) → (l6.toInt = (hx.2.1 70 4).toInt → l5.toInt = 0) → (l6.toInt = (hx.2.1 70 4).toInt + 1 → l5.toInt ≤ 9) → (l6.toInt = (hx.2.1 70 4).toInt + 2 → l5.toInt ≤ 99) → (l6.toInt = (hx.2.1 70 4).toInt + 3 → l5.toInt ≤ 999) → OH h.2.1 hx.2.1 S → (CKF h.2.1 → CKF hx.2.1) → KP h.2.1 hx.2.1 → (0 : Int) ≤ (hx.2.1 70 3).toInt → (hx.2.1 70 3).toInt ≤ 500 → (0 : Int) ≤ (hx.2.1 70 4).toInt → (hx.2.1 70 4).toInt ≤ 500 → (-2147483648 : Int) ≤ (hx.2.1 70 5).toInt → (hx.2.1 70 5).toInt ≤ 2147483647 → (3 * (500 - l6.toInt) + 2 : Int) < n → Go l RX8 cX8_operand 7 (g_rm (d + 3) 0 0) "operand" none 117 0 0 (fun _ _ => True) (fun r h' => r = none ∧ (∃ Q : PP, Iv Q h' ∧ MW P Q) ∧ ((h'.2.1 70 5).toInt = 0 → (h.2.1 70 5).toInt = 0) ∧ ((h.2.1 70 4).toInt ≤ (h'.2.1 70 4).toInt) ∧ ((h'.2.1 70 5).toInt = 0 → OP h.2.1 h'.2.1) ∧ (V h'.2.1 73 (h.2.1 70 6).toInt = V h.2.1 73 (h.2.1 70 6).toInt) ∧ (V h'.2.1 74 (h.2.1 70 6).toInt = V h.2.1 74 (h.2.1 70 6).toInt) ∧ (V h'.2.1 75 (h.2.1 70 6).toInt = V h.2.1 75 (h.2.1 70 6).toInt) ∧ (KP h.2.1 h'.2.1) ∧ (OH h.2.1 h'.2.1 (h.2.1 70 6).toInt) ∧ (CKF h.2.1 → CKF h'.2.1)) 0 78 [(0, .ref 70), (1, .int l1), (2, .int l2), (5, .int l5), (6, .int l6)] [] hx) := by
    intro n
    induction n with
    | zero => exact (by intros; omega)
    | succ n ih =>
      refine ?_
      ·
        intro l1 l2 l5 l6 Qx hx hvx sqx l1l l1u l2l l2u l5l l5u l6l l6u x0 x1 x2 x3 x4 x5 x6 x7 x8 x9 x10 x11 ohx ckx kpx y0l y0u y1l y1u y2l y2u hm
        have xve := x0
        have n73_x : V hx.2.1 73 S = V h.2.1 73 S := x0.v (by omega) (by omega)
        have n74_x : V hx.2.1 74 S = V h.2.1 74 S := x0.v (by omega) (by omega)
        have n75_x : V hx.2.1 75 S = V h.2.1 75 S := x0.v (by omega) (by omega)
        refine go_iload (pc := 78) rfl dX8_operand_78 ?_
        refine go_aload_n (pc := 80) rfl dX8_operand_80 ?_
        refine gi_get (pc := 81) (lo := 0) (hi := 500) hvx fL_X8_166 rfl (Nat.le_of_ble_eq_true rfl) rfl rfl dX8_operand_81 (fun v1 v1l v1u v1w => ?_)
        have g2 : (hx.2.1 70 3).toInt = v1.toInt := by rw [v1w]
        refine gf_icmp_ge (pc := 84) (tgt := 144) (ti_rfl l6) (ti_rfl v1) (by decide) dX8_operand_84 (fun q3 => ?_) (fun q3 => ?_)
        ·
          refine go_iload (pc := 144) rfl dX8_operand_144 ?_
          refine go_aload_n (pc := 146) rfl dX8_operand_146 ?_
          refine gi_get (pc := 147) (lo := 0) (hi := 500) hvx fL_X8_163 rfl (Nat.le_of_ble_eq_true rfl) rfl rfl dX8_operand_147 (fun v4 v4l v4u v4w => ?_)
          have g5 : (hx.2.1 70 4).toInt = v4.toInt := by rw [v4w]
          refine gf_isub (pc := 150) (ti_rfl l6) (ti_rfl v4) (by omega) (by omega) dX8_operand_150 (fun v6 e7 => ?_)
          refine go_iconst (pc := 151) (v := 3) (by decide) dX8_operand_151 ?_
          refine gf_icmp_le (pc := 152) (tgt := 160) e7 (ti_c (v := 3) (a := 3) (by decide)) (by decide) dX8_operand_152 (fun q8 => ?_) (fun q8 => ?_)
          ·
            refine go_aload_n (pc := 160) rfl dX8_operand_160 ?_
            refine gi_getF (pc := 161) (q := 89) hvx fL_X8_65 rfl (Nat.le_of_ble_eq_true rfl) rfl (hvx.rf (by decide)) dX8_operand_161 ?_
            refine go_iconst (pc := 164) (v := 2) (by decide) dX8_operand_164 ?_
            refine go_iload_n (pc := 165) rfl dX8_operand_165 ?_
            refine gf_imul (pc := 166) (ti_c (v := 2) (a := 2) (by decide)) (ti_rfl l1) (by omega) (by omega) dX8_operand_166 (fun v9 e10 => ?_)
            refine go_iload_n (pc := 167) rfl dX8_operand_167 ?_
            refine gf_iadd (pc := 168) e10 (ti_rfl l2) (by omega) (by omega) dX8_operand_168 (fun v11 e12 => ?_)
            refine go_iload (pc := 169) rfl dX8_operand_169 ?_
            refine gi_fst (pc := 171) (lo := 0) (hi := 9999) (len := 520) hvx e12 (ti_rfl l5) rfl (by omega) (by omega) (fun _ => rfl) (by omega) (by omega) (by omega) dX8_operand_171 (fun h13 hv13 hv13e => ?_)
            refine go_aload_n (pc := 172) rfl dX8_operand_172 ?_
            refine go_invV (pc := 173) (sl := 0) (s_X8_isGood l (d + 1) hv13 ) mL_X8_172 iM_X8_isGood sM_X8_isGood (hv13.sh rfl) rfl rfl rfl (Nat.le_of_ble_eq_true rfl) (show d + 1 + 1 + 1 ≤ d + 3 by omega) (show 8 + (1 + 11) + 40 * (d + 1 + 1) ≤ 40 * (d + 3) by omega) (g_c0 hv13.ln) (Nat.le_of_ble_eq_true rfl) dX8_operand_173 ?_
            intro r h14 hq _
            obtain ⟨v17, rfl, v17l, v17u, rfl, f15, f16⟩ := hq
            have E13 : h13.2.1 = (w1 hx.2.1 89 (((2 * l1.toInt) + l2.toInt)) (l5 : Int32)) := by
              rw [hv13e]
              rfl
            have oh13 : OH h.2.1 h13.2.1 S := by rw [E13]; exact (ohx.trans (OH.w 260 rfl (by omega) (by omega) (by omega) (by omega)))
            have kp13 : KP h.2.1 h13.2.1 := by rw [E13]; exact (kpx.trans (KP.w (by omega)))
            have n73_13 : V h13.2.1 73 S = V hx.2.1 73 S := by rw [E13, V_ne (by omega)]
            have n74_13 : V h13.2.1 74 S = V hx.2.1 74 S := by rw [E13, V_ne (by omega)]
            have n75_13 : V h13.2.1 75 S = V hx.2.1 75 S := by rw [E13, V_ne (by omega)]
            have ck13 : CKF h.2.1 → CKF h13.2.1 := fun z => by rw [E13]; exact (CKF.w (by omega) (ckx z))
            refine gf_if_eq (pc := 176) (tgt := 185) (ti_rfl v17) (by decide) dX8_operand_176 (fun q18 => ?_) (fun q18 => ?_)
            ·
              have g19 : (0 : Int) ≤ (h13.2.1 70 3).toInt := (hv13.2.1 70 3).1
              have g20 : (h13.2.1 70 3).toInt ≤ 500 := (hv13.2.1 70 3).2
              have g21 : (0 : Int) ≤ (h13.2.1 70 4).toInt := (hv13.2.1 70 4).1
              have g22 : (h13.2.1 70 4).toInt ≤ 500 := (hv13.2.1 70 4).2
              have g23 : (-2147483648 : Int) ≤ (h13.2.1 70 5).toInt := (hv13.2.1 70 5).1
              have g24 : (h13.2.1 70 5).toInt ≤ 2147483647 := (hv13.2.1 70 5).2
              have g25 : (h13.2.1 70 3).toInt = v1.toInt := by rw [← (show v1 = h13.2.1 70 3 from (show v1 = h13.2.1 70 3 from by rw [hv13e]; exact (g_iI rfl v1w.symm).symm))] <;> exact (ti_rfl v1)
              have g26 : (h13.2.1 70 4).toInt = v4.toInt := by rw [← (show v4 = h13.2.1 70 4 from (show v4 = h13.2.1 70 4 from by rw [hv13e]; exact (g_iI rfl v4w.symm).symm))] <;> exact (ti_rfl v4)
              have pp27 : (h13.2.1 70 5).toInt = 0 → (h.2.1 70 5).toInt = 0 := (by omega)
              have pp28 : (h.2.1 70 4).toInt ≤ (h13.2.1 70 4).toInt := (by omega)
              have pp29 : (h13.2.1 70 5).toInt = 0 → OP h.2.1 h13.2.1 := (fun hg => ((OP.ve xve).trans (by rw [E13]; exact ((OP.rfl _).trans (OP.w9 (by rw [show (l5 : Int32).toInt = l5.toInt from (ti_rfl l5)]; omega))))))
              have pp30 : V h13.2.1 73 S = V h.2.1 73 S := (by omega)
              have pp31 : V h13.2.1 74 S = V h.2.1 74 S := (by omega)
              have pp32 : V h13.2.1 75 S = V h.2.1 75 S := (by omega)
              subst hS
              exact gi_vret (pc := 185) ⟨rfl, ⟨_, hv13, (MW.trans sqx (MW.mz _ _))⟩, pp27, pp28, pp29, pp30, pp31, pp32, kp13, oh13, ck13⟩ hv13 dX8_operand_185
            ·
              refine go_aload_n (pc := 179) rfl dX8_operand_179 ?_
              refine go_iload (pc := 180) rfl dX8_operand_180 ?_
              refine gi_put (pc := 182) (lo := 0) (hi := 500) hv13 (ti_rfl l6) (fP_X8_163 _) rfl (Nat.le_of_ble_eq_true rfl) rfl rfl (by omega) (by omega) rfl rfl (by decide) (by decide) (by decide) (by decide) dX8_operand_182 (fun h33 hv33 hv33e => ?_)
              have ve33 : VE h13.2.1 h33.2.1 := VE.of hv13 hv33
              have oh33 : OH h.2.1 h33.2.1 S := oh13.trans (OH.of hv13 hv33 S)
              have kp33 : KP h.2.1 h33.2.1 := kp13.trans (KP.ve ve33)
              have ck33 : CKF h.2.1 → CKF h33.2.1 := fun z => CKF.ve ve33 (ck13 z)
              have n73_33 : V h33.2.1 73 S = V h13.2.1 73 S := ve33.v (by omega) (by omega)
              have n74_33 : V h33.2.1 74 S = V h13.2.1 74 S := ve33.v (by omega) (by omega)
              have n75_33 : V h33.2.1 75 S = V h13.2.1 75 S := ve33.v (by omega) (by omega)
              have g34 : (0 : Int) ≤ (h33.2.1 70 3).toInt := (hv33.2.1 70 3).1
              have g35 : (h33.2.1 70 3).toInt ≤ 500 := (hv33.2.1 70 3).2
              have g36 : (0 : Int) ≤ (h33.2.1 70 4).toInt := (hv33.2.1 70 4).1
              have g37 : (h33.2.1 70 4).toInt ≤ 500 := (hv33.2.1 70 4).2
              have g38 : (-2147483648 : Int) ≤ (h33.2.1 70 5).toInt := (hv33.2.1 70 5).1
              have g39 : (h33.2.1 70 5).toInt ≤ 2147483647 := (hv33.2.1 70 5).2
              have g40 : (h33.2.1 70 3).toInt = v1.toInt := by rw [← (show v1 = h33.2.1 70 3 from (show v1 = h33.2.1 70 3 from by rw [hv33e]; exact (g_iI rfl (show v1 = h13.2.1 70 3 from by rw [hv13e]; exact (g_iI rfl v1w.symm).symm).symm).symm))] <;> exact (ti_rfl v1)
              have g41 : (h33.2.1 70 4).toInt = l6.toInt := by rw [← (show l6 = h33.2.1 70 4 from (show l6 = h33.2.1 70 4 from by rw [hv33e]; exact g_iS.symm))] <;> exact (ti_rfl l6)
              have pp42 : (h33.2.1 70 5).toInt = 0 → (h.2.1 70 5).toInt = 0 := (by omega)
              have pp43 : (h.2.1 70 4).toInt ≤ (h33.2.1 70 4).toInt := (by omega)
              have pp44 : (h33.2.1 70 5).toInt = 0 → OP h.2.1 h33.2.1 := (fun hg => (((OP.ve xve).trans (by rw [E13]; exact ((OP.rfl _).trans (OP.w9 (by rw [show (l5 : Int32).toInt = l5.toInt from (ti_rfl l5)]; omega))))).trans (OP.ve ve33)))
              have pp45 : V h33.2.1 73 S = V h.2.1 73 S := (by omega)
              have pp46 : V h33.2.1 74 S = V h.2.1 74 S := (by omega)
              have pp47 : V h33.2.1 75 S = V h.2.1 75 S := (by omega)
              subst hS
              exact gi_vret (pc := 185) ⟨rfl, ⟨_, hv33, (MW.trans sqx (MW.mz _ _))⟩, pp42, pp43, pp44, pp45, pp46, pp47, kp33, oh33, ck33⟩ hv33 dX8_operand_185
          ·
            refine go_aload_n (pc := 155) rfl dX8_operand_155 ?_
            refine go_iconst (pc := 156) (v := 2) (by decide) dX8_operand_156 ?_
            have g48 : (0 : Int) ≤ (hx.2.1 70 3).toInt := (hvx.2.1 70 3).1
            have g49 : (hx.2.1 70 3).toInt ≤ 500 := (hvx.2.1 70 3).2
            have g50 : (0 : Int) ≤ (hx.2.1 70 4).toInt := (hvx.2.1 70 4).1
            have g51 : (hx.2.1 70 4).toInt ≤ 500 := (hvx.2.1 70 4).2
            have g52 : (-2147483648 : Int) ≤ (hx.2.1 70 5).toInt := (hvx.2.1 70 5).1
            have g53 : (hx.2.1 70 5).toInt ≤ 2147483647 := (hvx.2.1 70 5).2
            have g54 : (hx.2.1 70 3).toInt = v1.toInt := by rw [← (show v1 = hx.2.1 70 3 from v1w)] <;> exact (ti_rfl v1)
            have g55 : (hx.2.1 70 4).toInt = v4.toInt := by rw [← (show v4 = hx.2.1 70 4 from v4w)] <;> exact (ti_rfl v4)
            refine go_invV (pc := 157) (sl := 0) (s_X8_fails l (d + 1) hvx 2 (by rw [show (2 : Int32).toInt = 2 from (ti_c (v := 2) (a := 2) (by decide))]; omega) (by rw [show (2 : Int32).toInt = 2 from (ti_c (v := 2) (a := 2) (by decide))]; omega)) mL_X8_180 iM_X8_fails sM_X8_fails (hvx.sh rfl) rfl rfl rfl (Nat.le_of_ble_eq_true rfl) (show d + 1 + 1 + 1 ≤ d + 3 by omega) (show 8 + (2 + 11) + 40 * (d + 1 + 1) ≤ 40 * (d + 3) by omega) (g_c0 hvx.ln) (Nat.le_of_ble_eq_true rfl) dX8_operand_157 ?_
            intro r h56 hq _
            obtain ⟨rfl, hv56, f57, f58⟩ := hq
            try rw [show (2 : Int32).toInt = 2 from (ti_c (v := 2) (a := 2) (by decide))] at f57
            try rw [show (2 : Int32).toInt = 2 from (ti_c (v := 2) (a := 2) (by decide))] at f58
            have ve56 : VE hx.2.1 h56.2.1 := VE.of hvx hv56
            have oh56 : OH h.2.1 h56.2.1 S := ohx.trans (OH.of hvx hv56 S)
            have kp56 : KP h.2.1 h56.2.1 := kpx.trans (KP.ve ve56)
            have ck56 : CKF h.2.1 → CKF h56.2.1 := fun z => CKF.ve ve56 (ckx z)
            have n73_56 : V h56.2.1 73 S = V hx.2.1 73 S := ve56.v (by omega) (by omega)
            have n74_56 : V h56.2.1 74 S = V hx.2.1 74 S := ve56.v (by omega) (by omega)
            have n75_56 : V h56.2.1 75 S = V hx.2.1 75 S := ve56.v (by omega) (by omega)
            obtain ⟨u59, u59w⟩ : ∃ v : Int32, v = h56.2.1 70 3 := ⟨_, rfl⟩
            have u59e : (h56.2.1 70 3).toInt = u59.toInt := by rw [u59w]
            have u59l : 0 ≤ u59.toInt := by rw [u59w]; exact (hv56.2.1 70 3).1
            have u59u : u59.toInt ≤ 500 := by rw [u59w]; exact (hv56.2.1 70 3).2
            obtain ⟨u60, u60w⟩ : ∃ v : Int32, v = h56.2.1 70 4 := ⟨_, rfl⟩
            have u60e : (h56.2.1 70 4).toInt = u60.toInt := by rw [u60w]
            have u60l : 0 ≤ u60.toInt := by rw [u60w]; exact (hv56.2.1 70 4).1
            have u60u : u60.toInt ≤ 500 := by rw [u60w]; exact (hv56.2.1 70 4).2
            obtain ⟨u61, u61w⟩ : ∃ v : Int32, v = h56.2.1 70 5 := ⟨_, rfl⟩
            have u61e : (h56.2.1 70 5).toInt = u61.toInt := by rw [u61w]
            have u61l : -2147483648 ≤ u61.toInt := by rw [u61w]; exact (hv56.2.1 70 5).1
            have u61u : u61.toInt ≤ 2147483647 := by rw [u61w]; exact (hv56.2.1 70 5).2
            refine go_aload_n (pc := 160) rfl dX8_operand_160 ?_
            refine gi_getF (pc := 161) (q := 89) hv56 fL_X8_65 rfl (Nat.le_of_ble_eq_true rfl) rfl (hv56.rf (by decide)) dX8_operand_161 ?_
            refine go_iconst (pc := 164) (v := 2) (by decide) dX8_operand_164 ?_
            refine go_iload_n (pc := 165) rfl dX8_operand_165 ?_
            refine gf_imul (pc := 166) (ti_c (v := 2) (a := 2) (by decide)) (ti_rfl l1) (by omega) (by omega) dX8_operand_166 (fun v62 e63 => ?_)
            refine go_iload_n (pc := 167) rfl dX8_operand_167 ?_
            refine gf_iadd (pc := 168) e63 (ti_rfl l2) (by omega) (by omega) dX8_operand_168 (fun v64 e65 => ?_)
            refine go_iload (pc := 169) rfl dX8_operand_169 ?_
            refine gi_fst (pc := 171) (lo := 0) (hi := 9999) (len := 520) hv56 e65 (ti_rfl l5) rfl (by omega) (by omega) (fun _ => rfl) (by omega) (by omega) (by omega) dX8_operand_171 (fun h66 hv66 hv66e => ?_)
            refine go_aload_n (pc := 172) rfl dX8_operand_172 ?_
            refine go_invV (pc := 173) (sl := 0) (s_X8_isGood l (d + 1) hv66 ) mL_X8_172 iM_X8_isGood sM_X8_isGood (hv66.sh rfl) rfl rfl rfl (Nat.le_of_ble_eq_true rfl) (show d + 1 + 1 + 1 ≤ d + 3 by omega) (show 8 + (1 + 11) + 40 * (d + 1 + 1) ≤ 40 * (d + 3) by omega) (g_c0 hv66.ln) (Nat.le_of_ble_eq_true rfl) dX8_operand_173 ?_
            intro r h67 hq _
            obtain ⟨v70, rfl, v70l, v70u, rfl, f68, f69⟩ := hq
            have E66 : h66.2.1 = (w1 h56.2.1 89 (((2 * l1.toInt) + l2.toInt)) (l5 : Int32)) := by
              rw [hv66e]
              rfl
            have oh66 : OH h.2.1 h66.2.1 S := by rw [E66]; exact (oh56.trans (OH.w 260 rfl (by omega) (by omega) (by omega) (by omega)))
            have kp66 : KP h.2.1 h66.2.1 := by rw [E66]; exact (kp56.trans (KP.w (by omega)))
            have n73_66 : V h66.2.1 73 S = V h56.2.1 73 S := by rw [E66, V_ne (by omega)]
            have n74_66 : V h66.2.1 74 S = V h56.2.1 74 S := by rw [E66, V_ne (by omega)]
            have n75_66 : V h66.2.1 75 S = V h56.2.1 75 S := by rw [E66, V_ne (by omega)]
            have ck66 : CKF h.2.1 → CKF h66.2.1 := fun z => by rw [E66]; exact (CKF.w (by omega) (ck56 z))
            refine gf_if_eq (pc := 176) (tgt := 185) (ti_rfl v70) (by decide) dX8_operand_176 (fun q71 => ?_) (fun q71 => ?_)
            ·
              have g72 : (0 : Int) ≤ (h66.2.1 70 3).toInt := (hv66.2.1 70 3).1
              have g73 : (h66.2.1 70 3).toInt ≤ 500 := (hv66.2.1 70 3).2
              have g74 : (0 : Int) ≤ (h66.2.1 70 4).toInt := (hv66.2.1 70 4).1
              have g75 : (h66.2.1 70 4).toInt ≤ 500 := (hv66.2.1 70 4).2
              have g76 : (-2147483648 : Int) ≤ (h66.2.1 70 5).toInt := (hv66.2.1 70 5).1
              have g77 : (h66.2.1 70 5).toInt ≤ 2147483647 := (hv66.2.1 70 5).2
              have g78 : (h66.2.1 70 3).toInt = u59.toInt := by rw [← (show u59 = h66.2.1 70 3 from (show u59 = h66.2.1 70 3 from by rw [hv66e]; exact (g_iI rfl u59w.symm).symm))] <;> exact (ti_rfl u59)
              have g79 : (h66.2.1 70 4).toInt = u60.toInt := by rw [← (show u60 = h66.2.1 70 4 from (show u60 = h66.2.1 70 4 from by rw [hv66e]; exact (g_iI rfl u60w.symm).symm))] <;> exact (ti_rfl u60)
              have g80 : (h66.2.1 70 5).toInt = u61.toInt := by rw [← (show u61 = h66.2.1 70 5 from (show u61 = h66.2.1 70 5 from by rw [hv66e]; exact (g_iI rfl u61w.symm).symm))] <;> exact (ti_rfl u61)
              have pp81 : (h66.2.1 70 5).toInt = 0 → (h.2.1 70 5).toInt = 0 := (by omega)
              have pp82 : (h.2.1 70 4).toInt ≤ (h66.2.1 70 4).toInt := (by omega)
              have pp83 : (h66.2.1 70 5).toInt = 0 → OP h.2.1 h66.2.1 := (fun hg => (((OP.ve xve).trans (OP.ve ve56)).trans (by rw [E66]; exact ((OP.rfl _).trans (OP.w9 (by rw [show (l5 : Int32).toInt = l5.toInt from (ti_rfl l5)]; omega))))))
              have pp84 : V h66.2.1 73 S = V h.2.1 73 S := (by omega)
              have pp85 : V h66.2.1 74 S = V h.2.1 74 S := (by omega)
              have pp86 : V h66.2.1 75 S = V h.2.1 75 S := (by omega)
              subst hS
              exact gi_vret (pc := 185) ⟨rfl, ⟨_, hv66, (MW.trans sqx (MW.mz _ _))⟩, pp81, pp82, pp83, pp84, pp85, pp86, kp66, oh66, ck66⟩ hv66 dX8_operand_185
            ·
              refine go_aload_n (pc := 179) rfl dX8_operand_179 ?_
              refine go_iload (pc := 180) rfl dX8_operand_180 ?_
              refine gi_put (pc := 182) (lo := 0) (hi := 500) hv66 (ti_rfl l6) (fP_X8_163 _) rfl (Nat.le_of_ble_eq_true rfl) rfl rfl (by omega) (by omega) rfl rfl (by decide) (by decide) (by decide) (by decide) dX8_operand_182 (fun h87 hv87 hv87e => ?_)
              have ve87 : VE h66.2.1 h87.2.1 := VE.of hv66 hv87
              have oh87 : OH h.2.1 h87.2.1 S := oh66.trans (OH.of hv66 hv87 S)
              have kp87 : KP h.2.1 h87.2.1 := kp66.trans (KP.ve ve87)
              have ck87 : CKF h.2.1 → CKF h87.2.1 := fun z => CKF.ve ve87 (ck66 z)
              have n73_87 : V h87.2.1 73 S = V h66.2.1 73 S := ve87.v (by omega) (by omega)
              have n74_87 : V h87.2.1 74 S = V h66.2.1 74 S := ve87.v (by omega) (by omega)
              have n75_87 : V h87.2.1 75 S = V h66.2.1 75 S := ve87.v (by omega) (by omega)
              have g88 : (0 : Int) ≤ (h87.2.1 70 3).toInt := (hv87.2.1 70 3).1
              have g89 : (h87.2.1 70 3).toInt ≤ 500 := (hv87.2.1 70 3).2
              have g90 : (0 : Int) ≤ (h87.2.1 70 4).toInt := (hv87.2.1 70 4).1
              have g91 : (h87.2.1 70 4).toInt ≤ 500 := (hv87.2.1 70 4).2
              have g92 : (-2147483648 : Int) ≤ (h87.2.1 70 5).toInt := (hv87.2.1 70 5).1
              have g93 : (h87.2.1 70 5).toInt ≤ 2147483647 := (hv87.2.1 70 5).2
              have g94 : (h87.2.1 70 3).toInt = u59.toInt := by rw [← (show u59 = h87.2.1 70 3 from (show u59 = h87.2.1 70 3 from by rw [hv87e]; exact (g_iI rfl (show u59 = h66.2.1 70 3 from by rw [hv66e]; exact (g_iI rfl u59w.symm).symm).symm).symm))] <;> exact (ti_rfl u59)
              have g95 : (h87.2.1 70 5).toInt = u61.toInt := by rw [← (show u61 = h87.2.1 70 5 from (show u61 = h87.2.1 70 5 from by rw [hv87e]; exact (g_iI rfl (show u61 = h66.2.1 70 5 from by rw [hv66e]; exact (g_iI rfl u61w.symm).symm).symm).symm))] <;> exact (ti_rfl u61)
              have g96 : (h87.2.1 70 4).toInt = l6.toInt := by rw [← (show l6 = h87.2.1 70 4 from (show l6 = h87.2.1 70 4 from by rw [hv87e]; exact g_iS.symm))] <;> exact (ti_rfl l6)
              have pp97 : (h87.2.1 70 5).toInt = 0 → (h.2.1 70 5).toInt = 0 := (by omega)
              have pp98 : (h.2.1 70 4).toInt ≤ (h87.2.1 70 4).toInt := (by omega)
              have pp99 : (h87.2.1 70 5).toInt = 0 → OP h.2.1 h87.2.1 := (fun hg => ((((OP.ve xve).trans (OP.ve ve56)).trans (by rw [E66]; exact ((OP.rfl _).trans (OP.w9 (by rw [show (l5 : Int32).toInt = l5.toInt from (ti_rfl l5)]; omega))))).trans (OP.ve ve87)))
              have pp100 : V h87.2.1 73 S = V h.2.1 73 S := (by omega)
              have pp101 : V h87.2.1 74 S = V h.2.1 74 S := (by omega)
              have pp102 : V h87.2.1 75 S = V h.2.1 75 S := (by omega)
              subst hS
              exact gi_vret (pc := 185) ⟨rfl, ⟨_, hv87, (MW.trans sqx (MW.mz _ _))⟩, pp97, pp98, pp99, pp100, pp101, pp102, kp87, oh87, ck87⟩ hv87 dX8_operand_185
        ·
          refine go_aload_n (pc := 87) rfl dX8_operand_87 ?_
          refine gi_getF (pc := 88) (q := 72) hvx fL_X8_13 rfl (Nat.le_of_ble_eq_true rfl) rfl (hvx.rf (by decide)) dX8_operand_88 ?_
          refine go_iload (pc := 91) rfl dX8_operand_91 ?_
          refine gi_bald (pc := 93) (lo := -128) (hi := 127) (len := 500) hvx (ti_rfl l6) rfl (by omega) (by omega) (fun _ => rfl) dX8_operand_93 (fun v103 v103l v103u v103w => ?_)
          refine go_bipush (pc := 94) (v := 48) (by decide) dX8_operand_94 ?_
          refine go_bipush (pc := 96) (v := 57) (by decide) dX8_operand_96 ?_
          refine go_invS (pc := 98) (sl := 0) (s_X8_isIn l (d + 1) hvx v103 48 57) mL_X8_159 iM_X8_isIn rfl rfl (Nat.le_of_ble_eq_true rfl) (show d + 1 + 1 + 1 ≤ d + 3 by omega) (show 8 + (3 + 11) + 40 * (d + 1 + 1) ≤ 40 * (d + 3) by omega) (g_c0 hvx.ln) (Nat.le_of_ble_eq_true rfl) dX8_operand_98 ?_
          intro r h104 hq _
          obtain ⟨v107, rfl, v107l, v107u, rfl, f105, f106⟩ := hq
          try rw [show (48 : Int32).toInt = 48 from (ti_c (v := 48) (a := 48) (by decide))] at f105
          try rw [show (57 : Int32).toInt = 57 from (ti_c (v := 57) (a := 57) (by decide))] at f105
          try rw [show (48 : Int32).toInt = 48 from (ti_c (v := 48) (a := 48) (by decide))] at f106
          try rw [show (57 : Int32).toInt = 57 from (ti_c (v := 57) (a := 57) (by decide))] at f106
          refine gf_if_eq (pc := 101) (tgt := 144) (ti_rfl v107) (by decide) dX8_operand_101 (fun q108 => ?_) (fun q108 => ?_)
          ·
            refine go_iload (pc := 144) rfl dX8_operand_144 ?_
            refine go_aload_n (pc := 146) rfl dX8_operand_146 ?_
            refine gi_get (pc := 147) (lo := 0) (hi := 500) hvx fL_X8_163 rfl (Nat.le_of_ble_eq_true rfl) rfl rfl dX8_operand_147 (fun v109 v109l v109u v109w => ?_)
            have g110 : (hx.2.1 70 4).toInt = v109.toInt := by rw [v109w]
            refine gf_isub (pc := 150) (ti_rfl l6) (ti_rfl v109) (by omega) (by omega) dX8_operand_150 (fun v111 e112 => ?_)
            refine go_iconst (pc := 151) (v := 3) (by decide) dX8_operand_151 ?_
            refine gf_icmp_le (pc := 152) (tgt := 160) e112 (ti_c (v := 3) (a := 3) (by decide)) (by decide) dX8_operand_152 (fun q113 => ?_) (fun q113 => ?_)
            ·
              refine go_aload_n (pc := 160) rfl dX8_operand_160 ?_
              refine gi_getF (pc := 161) (q := 89) hvx fL_X8_65 rfl (Nat.le_of_ble_eq_true rfl) rfl (hvx.rf (by decide)) dX8_operand_161 ?_
              refine go_iconst (pc := 164) (v := 2) (by decide) dX8_operand_164 ?_
              refine go_iload_n (pc := 165) rfl dX8_operand_165 ?_
              refine gf_imul (pc := 166) (ti_c (v := 2) (a := 2) (by decide)) (ti_rfl l1) (by omega) (by omega) dX8_operand_166 (fun v114 e115 => ?_)
              refine go_iload_n (pc := 167) rfl dX8_operand_167 ?_
              refine gf_iadd (pc := 168) e115 (ti_rfl l2) (by omega) (by omega) dX8_operand_168 (fun v116 e117 => ?_)
              refine go_iload (pc := 169) rfl dX8_operand_169 ?_
              refine gi_fst (pc := 171) (lo := 0) (hi := 9999) (len := 520) hvx e117 (ti_rfl l5) rfl (by omega) (by omega) (fun _ => rfl) (by omega) (by omega) (by omega) dX8_operand_171 (fun h118 hv118 hv118e => ?_)
              refine go_aload_n (pc := 172) rfl dX8_operand_172 ?_
              refine go_invV (pc := 173) (sl := 0) (s_X8_isGood l (d + 1) hv118 ) mL_X8_172 iM_X8_isGood sM_X8_isGood (hv118.sh rfl) rfl rfl rfl (Nat.le_of_ble_eq_true rfl) (show d + 1 + 1 + 1 ≤ d + 3 by omega) (show 8 + (1 + 11) + 40 * (d + 1 + 1) ≤ 40 * (d + 3) by omega) (g_c0 hv118.ln) (Nat.le_of_ble_eq_true rfl) dX8_operand_173 ?_
              intro r h119 hq _
              obtain ⟨v122, rfl, v122l, v122u, rfl, f120, f121⟩ := hq
              have E118 : h118.2.1 = (w1 hx.2.1 89 (((2 * l1.toInt) + l2.toInt)) (l5 : Int32)) := by
                rw [hv118e]
                rfl
              have oh118 : OH h.2.1 h118.2.1 S := by rw [E118]; exact (ohx.trans (OH.w 260 rfl (by omega) (by omega) (by omega) (by omega)))
              have kp118 : KP h.2.1 h118.2.1 := by rw [E118]; exact (kpx.trans (KP.w (by omega)))
              have n73_118 : V h118.2.1 73 S = V hx.2.1 73 S := by rw [E118, V_ne (by omega)]
              have n74_118 : V h118.2.1 74 S = V hx.2.1 74 S := by rw [E118, V_ne (by omega)]
              have n75_118 : V h118.2.1 75 S = V hx.2.1 75 S := by rw [E118, V_ne (by omega)]
              have ck118 : CKF h.2.1 → CKF h118.2.1 := fun z => by rw [E118]; exact (CKF.w (by omega) (ckx z))
              refine gf_if_eq (pc := 176) (tgt := 185) (ti_rfl v122) (by decide) dX8_operand_176 (fun q123 => ?_) (fun q123 => ?_)
              ·
                have g124 : (0 : Int) ≤ (h118.2.1 70 3).toInt := (hv118.2.1 70 3).1
                have g125 : (h118.2.1 70 3).toInt ≤ 500 := (hv118.2.1 70 3).2
                have g126 : (0 : Int) ≤ (h118.2.1 70 4).toInt := (hv118.2.1 70 4).1
                have g127 : (h118.2.1 70 4).toInt ≤ 500 := (hv118.2.1 70 4).2
                have g128 : (-2147483648 : Int) ≤ (h118.2.1 70 5).toInt := (hv118.2.1 70 5).1
                have g129 : (h118.2.1 70 5).toInt ≤ 2147483647 := (hv118.2.1 70 5).2
                have g130 : (h118.2.1 70 3).toInt = v1.toInt := by rw [← (show v1 = h118.2.1 70 3 from (show v1 = h118.2.1 70 3 from by rw [hv118e]; exact (g_iI rfl v1w.symm).symm))] <;> exact (ti_rfl v1)
                have g131 : (h118.2.1 70 4).toInt = v109.toInt := by rw [← (show v109 = h118.2.1 70 4 from (show v109 = h118.2.1 70 4 from by rw [hv118e]; exact (g_iI rfl v109w.symm).symm))] <;> exact (ti_rfl v109)
                have pp132 : (h118.2.1 70 5).toInt = 0 → (h.2.1 70 5).toInt = 0 := (by omega)
                have pp133 : (h.2.1 70 4).toInt ≤ (h118.2.1 70 4).toInt := (by omega)
                have pp134 : (h118.2.1 70 5).toInt = 0 → OP h.2.1 h118.2.1 := (fun hg => ((OP.ve xve).trans (by rw [E118]; exact ((OP.rfl _).trans (OP.w9 (by rw [show (l5 : Int32).toInt = l5.toInt from (ti_rfl l5)]; omega))))))
                have pp135 : V h118.2.1 73 S = V h.2.1 73 S := (by omega)
                have pp136 : V h118.2.1 74 S = V h.2.1 74 S := (by omega)
                have pp137 : V h118.2.1 75 S = V h.2.1 75 S := (by omega)
                subst hS
                exact gi_vret (pc := 185) ⟨rfl, ⟨_, hv118, (MW.trans sqx (MW.mz _ _))⟩, pp132, pp133, pp134, pp135, pp136, pp137, kp118, oh118, ck118⟩ hv118 dX8_operand_185
              ·
                refine go_aload_n (pc := 179) rfl dX8_operand_179 ?_
                refine go_iload (pc := 180) rfl dX8_operand_180 ?_
                refine gi_put (pc := 182) (lo := 0) (hi := 500) hv118 (ti_rfl l6) (fP_X8_163 _) rfl (Nat.le_of_ble_eq_true rfl) rfl rfl (by omega) (by omega) rfl rfl (by decide) (by decide) (by decide) (by decide) dX8_operand_182 (fun h138 hv138 hv138e => ?_)
                have ve138 : VE h118.2.1 h138.2.1 := VE.of hv118 hv138
                have oh138 : OH h.2.1 h138.2.1 S := oh118.trans (OH.of hv118 hv138 S)
                have kp138 : KP h.2.1 h138.2.1 := kp118.trans (KP.ve ve138)
                have ck138 : CKF h.2.1 → CKF h138.2.1 := fun z => CKF.ve ve138 (ck118 z)
                have n73_138 : V h138.2.1 73 S = V h118.2.1 73 S := ve138.v (by omega) (by omega)
                have n74_138 : V h138.2.1 74 S = V h118.2.1 74 S := ve138.v (by omega) (by omega)
                have n75_138 : V h138.2.1 75 S = V h118.2.1 75 S := ve138.v (by omega) (by omega)
                have g139 : (0 : Int) ≤ (h138.2.1 70 3).toInt := (hv138.2.1 70 3).1
                have g140 : (h138.2.1 70 3).toInt ≤ 500 := (hv138.2.1 70 3).2
                have g141 : (0 : Int) ≤ (h138.2.1 70 4).toInt := (hv138.2.1 70 4).1
                have g142 : (h138.2.1 70 4).toInt ≤ 500 := (hv138.2.1 70 4).2
                have g143 : (-2147483648 : Int) ≤ (h138.2.1 70 5).toInt := (hv138.2.1 70 5).1
                have g144 : (h138.2.1 70 5).toInt ≤ 2147483647 := (hv138.2.1 70 5).2
                have g145 : (h138.2.1 70 3).toInt = v1.toInt := by rw [← (show v1 = h138.2.1 70 3 from (show v1 = h138.2.1 70 3 from by rw [hv138e]; exact (g_iI rfl (show v1 = h118.2.1 70 3 from by rw [hv118e]; exact (g_iI rfl v1w.symm).symm).symm).symm))] <;> exact (ti_rfl v1)
                have g146 : (h138.2.1 70 4).toInt = l6.toInt := by rw [← (show l6 = h138.2.1 70 4 from (show l6 = h138.2.1 70 4 from by rw [hv138e]; exact g_iS.symm))] <;> exact (ti_rfl l6)
                have pp147 : (h138.2.1 70 5).toInt = 0 → (h.2.1 70 5).toInt = 0 := (by omega)
                have pp148 : (h.2.1 70 4).toInt ≤ (h138.2.1 70 4).toInt := (by omega)
                have pp149 : (h138.2.1 70 5).toInt = 0 → OP h.2.1 h138.2.1 := (fun hg => (((OP.ve xve).trans (by rw [E118]; exact ((OP.rfl _).trans (OP.w9 (by rw [show (l5 : Int32).toInt = l5.toInt from (ti_rfl l5)]; omega))))).trans (OP.ve ve138)))
                have pp150 : V h138.2.1 73 S = V h.2.1 73 S := (by omega)
                have pp151 : V h138.2.1 74 S = V h.2.1 74 S := (by omega)
                have pp152 : V h138.2.1 75 S = V h.2.1 75 S := (by omega)
                subst hS
                exact gi_vret (pc := 185) ⟨rfl, ⟨_, hv138, (MW.trans sqx (MW.mz _ _))⟩, pp147, pp148, pp149, pp150, pp151, pp152, kp138, oh138, ck138⟩ hv138 dX8_operand_185
            ·
              refine go_aload_n (pc := 155) rfl dX8_operand_155 ?_
              refine go_iconst (pc := 156) (v := 2) (by decide) dX8_operand_156 ?_
              have g153 : (0 : Int) ≤ (hx.2.1 70 3).toInt := (hvx.2.1 70 3).1
              have g154 : (hx.2.1 70 3).toInt ≤ 500 := (hvx.2.1 70 3).2
              have g155 : (0 : Int) ≤ (hx.2.1 70 4).toInt := (hvx.2.1 70 4).1
              have g156 : (hx.2.1 70 4).toInt ≤ 500 := (hvx.2.1 70 4).2
              have g157 : (-2147483648 : Int) ≤ (hx.2.1 70 5).toInt := (hvx.2.1 70 5).1
              have g158 : (hx.2.1 70 5).toInt ≤ 2147483647 := (hvx.2.1 70 5).2
              have g159 : (hx.2.1 70 3).toInt = v1.toInt := by rw [← (show v1 = hx.2.1 70 3 from v1w)] <;> exact (ti_rfl v1)
              have g160 : (hx.2.1 70 4).toInt = v109.toInt := by rw [← (show v109 = hx.2.1 70 4 from v109w)] <;> exact (ti_rfl v109)
              refine go_invV (pc := 157) (sl := 0) (s_X8_fails l (d + 1) hvx 2 (by rw [show (2 : Int32).toInt = 2 from (ti_c (v := 2) (a := 2) (by decide))]; omega) (by rw [show (2 : Int32).toInt = 2 from (ti_c (v := 2) (a := 2) (by decide))]; omega)) mL_X8_180 iM_X8_fails sM_X8_fails (hvx.sh rfl) rfl rfl rfl (Nat.le_of_ble_eq_true rfl) (show d + 1 + 1 + 1 ≤ d + 3 by omega) (show 8 + (2 + 11) + 40 * (d + 1 + 1) ≤ 40 * (d + 3) by omega) (g_c0 hvx.ln) (Nat.le_of_ble_eq_true rfl) dX8_operand_157 ?_
              intro r h161 hq _
              obtain ⟨rfl, hv161, f162, f163⟩ := hq
              try rw [show (2 : Int32).toInt = 2 from (ti_c (v := 2) (a := 2) (by decide))] at f162
              try rw [show (2 : Int32).toInt = 2 from (ti_c (v := 2) (a := 2) (by decide))] at f163
              have ve161 : VE hx.2.1 h161.2.1 := VE.of hvx hv161
              have oh161 : OH h.2.1 h161.2.1 S := ohx.trans (OH.of hvx hv161 S)
              have kp161 : KP h.2.1 h161.2.1 := kpx.trans (KP.ve ve161)
              have ck161 : CKF h.2.1 → CKF h161.2.1 := fun z => CKF.ve ve161 (ckx z)
              have n73_161 : V h161.2.1 73 S = V hx.2.1 73 S := ve161.v (by omega) (by omega)
              have n74_161 : V h161.2.1 74 S = V hx.2.1 74 S := ve161.v (by omega) (by omega)
              have n75_161 : V h161.2.1 75 S = V hx.2.1 75 S := ve161.v (by omega) (by omega)
              obtain ⟨u164, u164w⟩ : ∃ v : Int32, v = h161.2.1 70 3 := ⟨_, rfl⟩
              have u164e : (h161.2.1 70 3).toInt = u164.toInt := by rw [u164w]
              have u164l : 0 ≤ u164.toInt := by rw [u164w]; exact (hv161.2.1 70 3).1
              have u164u : u164.toInt ≤ 500 := by rw [u164w]; exact (hv161.2.1 70 3).2
              obtain ⟨u165, u165w⟩ : ∃ v : Int32, v = h161.2.1 70 4 := ⟨_, rfl⟩
              have u165e : (h161.2.1 70 4).toInt = u165.toInt := by rw [u165w]
              have u165l : 0 ≤ u165.toInt := by rw [u165w]; exact (hv161.2.1 70 4).1
              have u165u : u165.toInt ≤ 500 := by rw [u165w]; exact (hv161.2.1 70 4).2
              obtain ⟨u166, u166w⟩ : ∃ v : Int32, v = h161.2.1 70 5 := ⟨_, rfl⟩
              have u166e : (h161.2.1 70 5).toInt = u166.toInt := by rw [u166w]
              have u166l : -2147483648 ≤ u166.toInt := by rw [u166w]; exact (hv161.2.1 70 5).1
              have u166u : u166.toInt ≤ 2147483647 := by rw [u166w]; exact (hv161.2.1 70 5).2
              refine go_aload_n (pc := 160) rfl dX8_operand_160 ?_
              refine gi_getF (pc := 161) (q := 89) hv161 fL_X8_65 rfl (Nat.le_of_ble_eq_true rfl) rfl (hv161.rf (by decide)) dX8_operand_161 ?_
              refine go_iconst (pc := 164) (v := 2) (by decide) dX8_operand_164 ?_
              refine go_iload_n (pc := 165) rfl dX8_operand_165 ?_
              refine gf_imul (pc := 166) (ti_c (v := 2) (a := 2) (by decide)) (ti_rfl l1) (by omega) (by omega) dX8_operand_166 (fun v167 e168 => ?_)
              refine go_iload_n (pc := 167) rfl dX8_operand_167 ?_
              refine gf_iadd (pc := 168) e168 (ti_rfl l2) (by omega) (by omega) dX8_operand_168 (fun v169 e170 => ?_)
              refine go_iload (pc := 169) rfl dX8_operand_169 ?_
              refine gi_fst (pc := 171) (lo := 0) (hi := 9999) (len := 520) hv161 e170 (ti_rfl l5) rfl (by omega) (by omega) (fun _ => rfl) (by omega) (by omega) (by omega) dX8_operand_171 (fun h171 hv171 hv171e => ?_)
              refine go_aload_n (pc := 172) rfl dX8_operand_172 ?_
              refine go_invV (pc := 173) (sl := 0) (s_X8_isGood l (d + 1) hv171 ) mL_X8_172 iM_X8_isGood sM_X8_isGood (hv171.sh rfl) rfl rfl rfl (Nat.le_of_ble_eq_true rfl) (show d + 1 + 1 + 1 ≤ d + 3 by omega) (show 8 + (1 + 11) + 40 * (d + 1 + 1) ≤ 40 * (d + 3) by omega) (g_c0 hv171.ln) (Nat.le_of_ble_eq_true rfl) dX8_operand_173 ?_
              intro r h172 hq _
              obtain ⟨v175, rfl, v175l, v175u, rfl, f173, f174⟩ := hq
              have E171 : h171.2.1 = (w1 h161.2.1 89 (((2 * l1.toInt) + l2.toInt)) (l5 : Int32)) := by
                rw [hv171e]
                rfl
              have oh171 : OH h.2.1 h171.2.1 S := by rw [E171]; exact (oh161.trans (OH.w 260 rfl (by omega) (by omega) (by omega) (by omega)))
              have kp171 : KP h.2.1 h171.2.1 := by rw [E171]; exact (kp161.trans (KP.w (by omega)))
              have n73_171 : V h171.2.1 73 S = V h161.2.1 73 S := by rw [E171, V_ne (by omega)]
              have n74_171 : V h171.2.1 74 S = V h161.2.1 74 S := by rw [E171, V_ne (by omega)]
              have n75_171 : V h171.2.1 75 S = V h161.2.1 75 S := by rw [E171, V_ne (by omega)]
              have ck171 : CKF h.2.1 → CKF h171.2.1 := fun z => by rw [E171]; exact (CKF.w (by omega) (ck161 z))
              refine gf_if_eq (pc := 176) (tgt := 185) (ti_rfl v175) (by decide) dX8_operand_176 (fun q176 => ?_) (fun q176 => ?_)
              ·
                have g177 : (0 : Int) ≤ (h171.2.1 70 3).toInt := (hv171.2.1 70 3).1
                have g178 : (h171.2.1 70 3).toInt ≤ 500 := (hv171.2.1 70 3).2
                have g179 : (0 : Int) ≤ (h171.2.1 70 4).toInt := (hv171.2.1 70 4).1
                have g180 : (h171.2.1 70 4).toInt ≤ 500 := (hv171.2.1 70 4).2
                have g181 : (-2147483648 : Int) ≤ (h171.2.1 70 5).toInt := (hv171.2.1 70 5).1
                have g182 : (h171.2.1 70 5).toInt ≤ 2147483647 := (hv171.2.1 70 5).2
                have g183 : (h171.2.1 70 3).toInt = u164.toInt := by rw [← (show u164 = h171.2.1 70 3 from (show u164 = h171.2.1 70 3 from by rw [hv171e]; exact (g_iI rfl u164w.symm).symm))] <;> exact (ti_rfl u164)
                have g184 : (h171.2.1 70 4).toInt = u165.toInt := by rw [← (show u165 = h171.2.1 70 4 from (show u165 = h171.2.1 70 4 from by rw [hv171e]; exact (g_iI rfl u165w.symm).symm))] <;> exact (ti_rfl u165)
                have g185 : (h171.2.1 70 5).toInt = u166.toInt := by rw [← (show u166 = h171.2.1 70 5 from (show u166 = h171.2.1 70 5 from by rw [hv171e]; exact (g_iI rfl u166w.symm).symm))] <;> exact (ti_rfl u166)
                have pp186 : (h171.2.1 70 5).toInt = 0 → (h.2.1 70 5).toInt = 0 := (by omega)
                have pp187 : (h.2.1 70 4).toInt ≤ (h171.2.1 70 4).toInt := (by omega)
                have pp188 : (h171.2.1 70 5).toInt = 0 → OP h.2.1 h171.2.1 := (fun hg => (((OP.ve xve).trans (OP.ve ve161)).trans (by rw [E171]; exact ((OP.rfl _).trans (OP.w9 (by rw [show (l5 : Int32).toInt = l5.toInt from (ti_rfl l5)]; omega))))))
                have pp189 : V h171.2.1 73 S = V h.2.1 73 S := (by omega)
                have pp190 : V h171.2.1 74 S = V h.2.1 74 S := (by omega)
                have pp191 : V h171.2.1 75 S = V h.2.1 75 S := (by omega)
                subst hS
                exact gi_vret (pc := 185) ⟨rfl, ⟨_, hv171, (MW.trans sqx (MW.mz _ _))⟩, pp186, pp187, pp188, pp189, pp190, pp191, kp171, oh171, ck171⟩ hv171 dX8_operand_185
              ·
                refine go_aload_n (pc := 179) rfl dX8_operand_179 ?_
                refine go_iload (pc := 180) rfl dX8_operand_180 ?_
                refine gi_put (pc := 182) (lo := 0) (hi := 500) hv171 (ti_rfl l6) (fP_X8_163 _) rfl (Nat.le_of_ble_eq_true rfl) rfl rfl (by omega) (by omega) rfl rfl (by decide) (by decide) (by decide) (by decide) dX8_operand_182 (fun h192 hv192 hv192e => ?_)
                have ve192 : VE h171.2.1 h192.2.1 := VE.of hv171 hv192
                have oh192 : OH h.2.1 h192.2.1 S := oh171.trans (OH.of hv171 hv192 S)
                have kp192 : KP h.2.1 h192.2.1 := kp171.trans (KP.ve ve192)
                have ck192 : CKF h.2.1 → CKF h192.2.1 := fun z => CKF.ve ve192 (ck171 z)
                have n73_192 : V h192.2.1 73 S = V h171.2.1 73 S := ve192.v (by omega) (by omega)
                have n74_192 : V h192.2.1 74 S = V h171.2.1 74 S := ve192.v (by omega) (by omega)
                have n75_192 : V h192.2.1 75 S = V h171.2.1 75 S := ve192.v (by omega) (by omega)
                have g193 : (0 : Int) ≤ (h192.2.1 70 3).toInt := (hv192.2.1 70 3).1
                have g194 : (h192.2.1 70 3).toInt ≤ 500 := (hv192.2.1 70 3).2
                have g195 : (0 : Int) ≤ (h192.2.1 70 4).toInt := (hv192.2.1 70 4).1
                have g196 : (h192.2.1 70 4).toInt ≤ 500 := (hv192.2.1 70 4).2
                have g197 : (-2147483648 : Int) ≤ (h192.2.1 70 5).toInt := (hv192.2.1 70 5).1
                have g198 : (h192.2.1 70 5).toInt ≤ 2147483647 := (hv192.2.1 70 5).2
                have g199 : (h192.2.1 70 3).toInt = u164.toInt := by rw [← (show u164 = h192.2.1 70 3 from (show u164 = h192.2.1 70 3 from by rw [hv192e]; exact (g_iI rfl (show u164 = h171.2.1 70 3 from by rw [hv171e]; exact (g_iI rfl u164w.symm).symm).symm).symm))] <;> exact (ti_rfl u164)
                have g200 : (h192.2.1 70 5).toInt = u166.toInt := by rw [← (show u166 = h192.2.1 70 5 from (show u166 = h192.2.1 70 5 from by rw [hv192e]; exact (g_iI rfl (show u166 = h171.2.1 70 5 from by rw [hv171e]; exact (g_iI rfl u166w.symm).symm).symm).symm))] <;> exact (ti_rfl u166)
                have g201 : (h192.2.1 70 4).toInt = l6.toInt := by rw [← (show l6 = h192.2.1 70 4 from (show l6 = h192.2.1 70 4 from by rw [hv192e]; exact g_iS.symm))] <;> exact (ti_rfl l6)
                have pp202 : (h192.2.1 70 5).toInt = 0 → (h.2.1 70 5).toInt = 0 := (by omega)
                have pp203 : (h.2.1 70 4).toInt ≤ (h192.2.1 70 4).toInt := (by omega)
                have pp204 : (h192.2.1 70 5).toInt = 0 → OP h.2.1 h192.2.1 := (fun hg => ((((OP.ve xve).trans (OP.ve ve161)).trans (by rw [E171]; exact ((OP.rfl _).trans (OP.w9 (by rw [show (l5 : Int32).toInt = l5.toInt from (ti_rfl l5)]; omega))))).trans (OP.ve ve192)))
                have pp205 : V h192.2.1 73 S = V h.2.1 73 S := (by omega)
                have pp206 : V h192.2.1 74 S = V h.2.1 74 S := (by omega)
                have pp207 : V h192.2.1 75 S = V h.2.1 75 S := (by omega)
                subst hS
                exact gi_vret (pc := 185) ⟨rfl, ⟨_, hv192, (MW.trans sqx (MW.mz _ _))⟩, pp202, pp203, pp204, pp205, pp206, pp207, kp192, oh192, ck192⟩ hv192 dX8_operand_185
          ·
            refine go_iload (pc := 104) rfl dX8_operand_104 ?_
            refine go_aload_n (pc := 106) rfl dX8_operand_106 ?_
            refine gi_get (pc := 107) (lo := 0) (hi := 500) hvx fL_X8_163 rfl (Nat.le_of_ble_eq_true rfl) rfl rfl dX8_operand_107 (fun v208 v208l v208u v208w => ?_)
            have g209 : (hx.2.1 70 4).toInt = v208.toInt := by rw [v208w]
            refine gf_isub (pc := 110) (ti_rfl l6) (ti_rfl v208) (by omega) (by omega) dX8_operand_110 (fun v210 e211 => ?_)
            refine go_iconst (pc := 111) (v := 4) (by decide) dX8_operand_111 ?_
            refine gf_icmp_ge (pc := 112) (tgt := 134) e211 (ti_c (v := 4) (a := 4) (by decide)) (by decide) dX8_operand_112 (fun q212 => ?_) (fun q212 => ?_)
            ·
              refine go_iload (pc := 134) rfl dX8_operand_134 ?_
              refine go_istore (pc := 136) (Nat.le_of_ble_eq_true rfl) dX8_operand_136 (go_lv (lv2 := [(0, .ref 70), (1, .int l1), (2, .int l2), (5, .int l5), (6, .int l6)]) rfl ?_)
              refine gf_iinc (pc := 138) (Nat.le_of_ble_eq_true rfl) rfl (ti_rfl l6) (ti_c (by decide)) (by omega) (by omega) dX8_operand_138 (fun v213 e214 => ?_)
              refine go_lv (lv2 := [(0, .ref 70), (1, .int l1), (2, .int l2), (5, .int l5), (6, .int v213)]) rfl ?_
              refine go_goto (pc := 141) (tgt := 78) (by decide) dX8_operand_141 ?_
              have z215 : (v213 : Int32).toInt = (l6.toInt + 1) := e214
              have g216 : (0 : Int) ≤ (hx.2.1 70 3).toInt := (hvx.2.1 70 3).1
              have g217 : (hx.2.1 70 3).toInt ≤ 500 := (hvx.2.1 70 3).2
              have g218 : (0 : Int) ≤ (hx.2.1 70 4).toInt := (hvx.2.1 70 4).1
              have g219 : (hx.2.1 70 4).toInt ≤ 500 := (hvx.2.1 70 4).2
              have g220 : (-2147483648 : Int) ≤ (hx.2.1 70 5).toInt := (hvx.2.1 70 5).1
              have g221 : (hx.2.1 70 5).toInt ≤ 2147483647 := (hvx.2.1 70 5).2
              have g222 : (hx.2.1 70 3).toInt = v1.toInt := by rw [← (show v1 = hx.2.1 70 3 from v1w)] <;> exact (ti_rfl v1)
              have g223 : (hx.2.1 70 4).toInt = v208.toInt := by rw [← (show v208 = hx.2.1 70 4 from v208w)] <;> exact (ti_rfl v208)
              exact go_lv rfl (ih l1 l2 l5 v213 _ hx hvx sqx (by omega) (by omega) (by omega) (by omega) (by omega) (by omega) (by omega) (by omega) xve (by omega) (by omega) (by omega) (by omega) (by omega) (by omega) (by omega) (by omega) (by omega) (by omega) (by omega) ohx ckx kpx (by omega) (by omega) (by omega) (by omega) (by omega) (by omega) (by omega))
            ·
              have k224 : l5.toInt ≤ 999 := by omega
              refine go_bipush (pc := 115) (v := 10) (by decide) dX8_operand_115 ?_
              refine go_iload (pc := 117) rfl dX8_operand_117 ?_
              refine gf_imul (pc := 119) (ti_c (v := 10) (a := 10) (by decide)) (ti_rfl l5) (by omega) (by omega) dX8_operand_119 (fun v225 e226 => ?_)
              refine go_aload_n (pc := 120) rfl dX8_operand_120 ?_
              refine gi_getF (pc := 121) (q := 72) hvx fL_X8_13 rfl (Nat.le_of_ble_eq_true rfl) rfl (hvx.rf (by decide)) dX8_operand_121 ?_
              refine go_iload (pc := 124) rfl dX8_operand_124 ?_
              refine gi_bald (pc := 126) (lo := -128) (hi := 127) (len := 500) hvx (ti_rfl l6) rfl (by omega) (by omega) (fun _ => rfl) dX8_operand_126 (fun v227 v227l v227u v227w => ?_)
              have k228 : v227 = v103 := by rw [v227w, v103w]
              have k229 : v227.toInt = v103.toInt := by rw [v227w, v103w]
              have k230 : 48 ≤ v227.toInt := by omega
              have k231 : v227.toInt ≤ 57 := by omega
              refine gf_iadd (pc := 127) e226 (ti_rfl v227) (by omega) (by omega) dX8_operand_127 (fun v232 e233 => ?_)
              refine go_bipush (pc := 128) (v := 48) (by decide) dX8_operand_128 ?_
              refine gf_isub (pc := 130) e233 (ti_c (v := 48) (a := 48) (by decide)) (by omega) (by omega) dX8_operand_130 (fun v234 e235 => ?_)
              refine go_goto (pc := 131) (tgt := 136) (by decide) dX8_operand_131 ?_
              refine go_istore (pc := 136) (Nat.le_of_ble_eq_true rfl) dX8_operand_136 (go_lv (lv2 := [(0, .ref 70), (1, .int l1), (2, .int l2), (5, .int v234), (6, .int l6)]) rfl ?_)
              refine gf_iinc (pc := 138) (Nat.le_of_ble_eq_true rfl) rfl (ti_rfl l6) (ti_c (by decide)) (by omega) (by omega) dX8_operand_138 (fun v236 e237 => ?_)
              refine go_lv (lv2 := [(0, .ref 70), (1, .int l1), (2, .int l2), (5, .int v234), (6, .int v236)]) rfl ?_
              refine go_goto (pc := 141) (tgt := 78) (by decide) dX8_operand_141 ?_
              have z238 : (v234 : Int32).toInt = (((10 * l5.toInt) + v227.toInt) - 48) := e235
              have z239 : (v236 : Int32).toInt = (l6.toInt + 1) := e237
              have g240 : (0 : Int) ≤ (hx.2.1 70 3).toInt := (hvx.2.1 70 3).1
              have g241 : (hx.2.1 70 3).toInt ≤ 500 := (hvx.2.1 70 3).2
              have g242 : (0 : Int) ≤ (hx.2.1 70 4).toInt := (hvx.2.1 70 4).1
              have g243 : (hx.2.1 70 4).toInt ≤ 500 := (hvx.2.1 70 4).2
              have g244 : (-2147483648 : Int) ≤ (hx.2.1 70 5).toInt := (hvx.2.1 70 5).1
              have g245 : (hx.2.1 70 5).toInt ≤ 2147483647 := (hvx.2.1 70 5).2
              have g246 : (hx.2.1 70 3).toInt = v1.toInt := by rw [← (show v1 = hx.2.1 70 3 from v1w)] <;> exact (ti_rfl v1)
              have g247 : (hx.2.1 70 4).toInt = v208.toInt := by rw [← (show v208 = hx.2.1 70 4 from v208w)] <;> exact (ti_rfl v208)
              exact go_lv rfl (ih l1 l2 v234 v236 _ hx hvx sqx (by omega) (by omega) (by omega) (by omega) (by omega) (by omega) (by omega) (by omega) xve (by omega) (by omega) (by omega) (by omega) (by omega) (by omega) (by omega) (by omega) (by omega) (by omega) (by omega) ohx ckx kpx (by omega) (by omega) (by omega) (by omega) (by omega) (by omega) (by omega))
  refine go_aload_n (pc := 0) rfl dX8_operand_0 ?_
  refine go_invV (pc := 1) (sl := 0) (s_X8_isGood l (d + 1) hv ) mL_X8_172 iM_X8_isGood sM_X8_isGood (hv.sh rfl) rfl rfl rfl (Nat.le_of_ble_eq_true rfl) (show d + 1 + 1 + 1 ≤ d + 3 by omega) (show 8 + (1 + 11) + 40 * (d + 1 + 1) ≤ 40 * (d + 3) by omega) (g_c0 hv.ln) (Nat.le_of_ble_eq_true rfl) dX8_operand_1 ?_
  intro r h248 hq _
  obtain ⟨v251, rfl, v251l, v251u, rfl, f249, f250⟩ := hq
  refine gf_if_ne (pc := 4) (tgt := 8) (ti_rfl v251) (by decide) dX8_operand_4 (fun q252 => ?_) (fun q252 => ?_)
  ·
    refine go_aload_n (pc := 8) rfl dX8_operand_8 ?_
    refine go_iconst (pc := 9) (v := 1) (by decide) dX8_operand_9 ?_
    have g253 : (0 : Int) ≤ (h.2.1 70 3).toInt := (hv.2.1 70 3).1
    have g254 : (h.2.1 70 3).toInt ≤ 500 := (hv.2.1 70 3).2
    have g255 : (0 : Int) ≤ (h.2.1 70 4).toInt := (hv.2.1 70 4).1
    have g256 : (h.2.1 70 4).toInt ≤ 500 := (hv.2.1 70 4).2
    have g257 : (-2147483648 : Int) ≤ (h.2.1 70 5).toInt := (hv.2.1 70 5).1
    have g258 : (h.2.1 70 5).toInt ≤ 2147483647 := (hv.2.1 70 5).2
    refine go_invV (pc := 10) (sl := 0) (s_X8_nameHere l (d + 0) hv 1 (by rw [show (1 : Int32).toInt = 1 from (ti_c (v := 1) (a := 1) (by decide))]; omega) (by rw [show (1 : Int32).toInt = 1 from (ti_c (v := 1) (a := 1) (by decide))]; omega)) mL_X8_183 iM_X8_nameHere sM_X8_nameHere (hv.sh rfl) rfl rfl rfl (Nat.le_of_ble_eq_true rfl) (show d + 0 + 2 + 1 ≤ d + 3 by omega) (show 8 + (3 + 11) + 40 * (d + 0 + 2) ≤ 40 * (d + 3) by omega) (g_c0 hv.ln) (Nat.le_of_ble_eq_true rfl) dX8_operand_10 ?_
    intro r h259 hq _
    obtain ⟨v265, rfl, v265l, v265u, hv259, f260, f261, f262, f263, f264⟩ := hq
    try rw [show (1 : Int32).toInt = 1 from (ti_c (v := 1) (a := 1) (by decide))] at f260
    try rw [show (1 : Int32).toInt = 1 from (ti_c (v := 1) (a := 1) (by decide))] at f261
    try rw [show (1 : Int32).toInt = 1 from (ti_c (v := 1) (a := 1) (by decide))] at f262
    try rw [show (1 : Int32).toInt = 1 from (ti_c (v := 1) (a := 1) (by decide))] at f263
    try rw [show (1 : Int32).toInt = 1 from (ti_c (v := 1) (a := 1) (by decide))] at f264
    have ve259 : VE h.2.1 h259.2.1 := VE.of hv hv259
    have oh259 : OH h.2.1 h259.2.1 S := oh.trans (OH.of hv hv259 S)
    have kp259 : KP h.2.1 h259.2.1 := kp.trans (KP.ve ve259)
    have ck259 : CKF h.2.1 → CKF h259.2.1 := fun z => CKF.ve ve259 (ck z)
    have n73_259 : V h259.2.1 73 S = V h.2.1 73 S := ve259.v (by omega) (by omega)
    have n74_259 : V h259.2.1 74 S = V h.2.1 74 S := ve259.v (by omega) (by omega)
    have n75_259 : V h259.2.1 75 S = V h.2.1 75 S := ve259.v (by omega) (by omega)
    obtain ⟨u266, u266w⟩ : ∃ v : Int32, v = h259.2.1 70 3 := ⟨_, rfl⟩
    have u266e : (h259.2.1 70 3).toInt = u266.toInt := by rw [u266w]
    have u266l : 0 ≤ u266.toInt := by rw [u266w]; exact (hv259.2.1 70 3).1
    have u266u : u266.toInt ≤ 500 := by rw [u266w]; exact (hv259.2.1 70 3).2
    obtain ⟨u267, u267w⟩ : ∃ v : Int32, v = h259.2.1 70 4 := ⟨_, rfl⟩
    have u267e : (h259.2.1 70 4).toInt = u267.toInt := by rw [u267w]
    have u267l : 0 ≤ u267.toInt := by rw [u267w]; exact (hv259.2.1 70 4).1
    have u267u : u267.toInt ≤ 500 := by rw [u267w]; exact (hv259.2.1 70 4).2
    obtain ⟨u268, u268w⟩ : ∃ v : Int32, v = h259.2.1 70 5 := ⟨_, rfl⟩
    have u268e : (h259.2.1 70 5).toInt = u268.toInt := by rw [u268w]
    have u268l : -2147483648 ≤ u268.toInt := by rw [u268w]; exact (hv259.2.1 70 5).1
    have u268u : u268.toInt ≤ 2147483647 := by rw [u268w]; exact (hv259.2.1 70 5).2
    refine go_istore_n (pc := 13) (Nat.le_of_ble_eq_true rfl) dX8_operand_13 (go_lv (lv2 := [(0, .ref 70), (1, .int a2), (2, .int a3), (3, .int v265)]) rfl ?_)
    refine go_aload_n (pc := 14) rfl dX8_operand_14 ?_
    by_cases q269 : 0 ≤ v265.toInt
    ·
      obtain ⟨c0, nsx⟩ := f264 (by omega)
      refine go_invV (pc := 15) (sl := 0) (s_X8_here_ns l (d + 1) hv259 nsx) mL_X8_176 iM_X8_here sM_X8_here (hv259.sh rfl) rfl rfl rfl (Nat.le_of_ble_eq_true rfl) (show d + 1 + 1 + 1 ≤ d + 3 by omega) (show 8 + (1 + 11) + 40 * (d + 1 + 1) ≤ 40 * (d + 3) by omega) (g_c0 hv259.ln) (Nat.le_of_ble_eq_true rfl) dX8_operand_15 ?_
      intro r h270 hq _
      obtain ⟨v272, rfl, v272l, v272u, rfl, f271⟩ := hq
      refine go_istore (pc := 18) (Nat.le_of_ble_eq_true rfl) dX8_operand_18 (go_lv (lv2 := [(0, .ref 70), (1, .int a2), (2, .int a3), (3, .int v265), (4, .int v272)]) rfl ?_)
      refine go_iload_n (pc := 20) rfl dX8_operand_20 ?_
      refine go_iconst (pc := 21) (v := (-1)) (by decide) dX8_operand_21 ?_
      refine gf_icmp_eq (pc := 22) (tgt := 51) (ti_rfl v265) (ti_c (v := (-1)) (a := (-1)) (by decide)) (by decide) dX8_operand_22 (fun q273 => False.elim (by omega)) (fun q273 => ?_)
      refine go_aload_n (pc := 25) rfl dX8_operand_25 ?_
      refine gi_getF (pc := 26) (q := 89) hv259 fL_X8_65 rfl (Nat.le_of_ble_eq_true rfl) rfl (hv259.rf (by decide)) dX8_operand_26 ?_
      refine go_iconst (pc := 29) (v := 2) (by decide) dX8_operand_29 ?_
      refine go_iload_n (pc := 30) rfl dX8_operand_30 ?_
      refine gf_imul (pc := 31) (ti_c (v := 2) (a := 2) (by decide)) (ti_rfl a2) (by omega) (by omega) dX8_operand_31 (fun v274 e275 => ?_)
      refine go_iload_n (pc := 32) rfl dX8_operand_32 ?_
      refine gf_iadd (pc := 33) e275 (ti_rfl a3) (by omega) (by omega) dX8_operand_33 (fun v276 e277 => ?_)
      refine go_sipush (pc := 34) (v := 1000) (by decide) dX8_operand_34 ?_
      refine go_iload_n (pc := 37) rfl dX8_operand_37 ?_
      refine gf_iadd (pc := 38) (ti_c (v := 1000) (a := 1000) (by decide)) (ti_rfl v265) (by omega) (by omega) dX8_operand_38 (fun v278 e279 => ?_)
      refine gi_fst (pc := 39) (lo := 0) (hi := 9999) (len := 520) hv259 e277 e279 rfl (by omega) (by omega) (fun _ => rfl) (by omega) (by omega) (by omega) dX8_operand_39 (fun h280 hv280 hv280e => ?_)
      refine go_aload_n (pc := 40) rfl dX8_operand_40 ?_
      refine go_dup (pc := 41) rfl dX8_operand_41 ?_
      refine gi_get (pc := 42) (lo := 0) (hi := 500) hv280 fL_X8_163 rfl (Nat.le_of_ble_eq_true rfl) rfl rfl dX8_operand_42 (fun v281 v281l v281u v281w => ?_)
      have v281r : u267 = h280.2.1 70 4 := (show u267 = h280.2.1 70 4 from by rw [hv280e]; exact (g_iI rfl u267w.symm).symm)
      have v281q : TI v281 u267.toInt := by rw [v281w.trans v281r.symm]; exact (ti_rfl u267)
      refine go_iconst (pc := 45) (v := 1) (by decide) dX8_operand_45 ?_
      refine gf_iadd (pc := 46) v281q (ti_c (v := 1) (a := 1) (by decide)) (by omega) (by omega) dX8_operand_46 (fun v282 e283 => ?_)
      have E280 : h280.2.1 = (w1 h259.2.1 89 (((2 * a2.toInt) + a3.toInt)) (v278 : Int32)) := by
        rw [hv280e]
        rfl
      have oh280 : OH h.2.1 h280.2.1 S := by rw [E280]; exact (oh259.trans (OH.w 260 rfl (by omega) (by omega) (by omega) (by omega)))
      have kp280 : KP h.2.1 h280.2.1 := by rw [E280]; exact (kp259.trans (KP.w (by omega)))
      have n73_280 : V h280.2.1 73 S = V h259.2.1 73 S := by rw [E280, V_ne (by omega)]
      have n74_280 : V h280.2.1 74 S = V h259.2.1 74 S := by rw [E280, V_ne (by omega)]
      have n75_280 : V h280.2.1 75 S = V h259.2.1 75 S := by rw [E280, V_ne (by omega)]
      have ck280 : CKF h.2.1 → CKF h280.2.1 := fun z => by rw [E280]; exact (CKF.w (by omega) (ck259 z))
      refine gi_put (pc := 47) (lo := 0) (hi := 500) hv280 e283 (fP_X8_163 _) rfl (Nat.le_of_ble_eq_true rfl) rfl rfl (by omega) (by omega) rfl rfl (by decide) (by decide) (by decide) (by decide) dX8_operand_47 (fun h284 hv284 hv284e => ?_)
      have ve284 : VE h280.2.1 h284.2.1 := VE.of hv280 hv284
      have oh284 : OH h.2.1 h284.2.1 S := oh280.trans (OH.of hv280 hv284 S)
      have kp284 : KP h.2.1 h284.2.1 := kp280.trans (KP.ve ve284)
      have ck284 : CKF h.2.1 → CKF h284.2.1 := fun z => CKF.ve ve284 (ck280 z)
      have n73_284 : V h284.2.1 73 S = V h280.2.1 73 S := ve284.v (by omega) (by omega)
      have n74_284 : V h284.2.1 74 S = V h280.2.1 74 S := ve284.v (by omega) (by omega)
      have n75_284 : V h284.2.1 75 S = V h280.2.1 75 S := ve284.v (by omega) (by omega)
      have g285 : (0 : Int) ≤ (h284.2.1 70 3).toInt := (hv284.2.1 70 3).1
      have g286 : (h284.2.1 70 3).toInt ≤ 500 := (hv284.2.1 70 3).2
      have g287 : (0 : Int) ≤ (h284.2.1 70 4).toInt := (hv284.2.1 70 4).1
      have g288 : (h284.2.1 70 4).toInt ≤ 500 := (hv284.2.1 70 4).2
      have g289 : (-2147483648 : Int) ≤ (h284.2.1 70 5).toInt := (hv284.2.1 70 5).1
      have g290 : (h284.2.1 70 5).toInt ≤ 2147483647 := (hv284.2.1 70 5).2
      have g291 : (h284.2.1 70 3).toInt = u266.toInt := by rw [← (show u266 = h284.2.1 70 3 from (show u266 = h284.2.1 70 3 from by rw [hv284e]; exact (g_iI rfl (show u266 = h280.2.1 70 3 from by rw [hv280e]; exact (g_iI rfl u266w.symm).symm).symm).symm))] <;> exact (ti_rfl u266)
      have g292 : (h284.2.1 70 5).toInt = u268.toInt := by rw [← (show u268 = h284.2.1 70 5 from (show u268 = h284.2.1 70 5 from by rw [hv284e]; exact (g_iI rfl (show u268 = h280.2.1 70 5 from by rw [hv280e]; exact (g_iI rfl u268w.symm).symm).symm).symm))] <;> exact (ti_rfl u268)
      have g293 : (h284.2.1 70 4).toInt = (u267.toInt + 1) := by rw [← (show v282 = h284.2.1 70 4 from (show v282 = h284.2.1 70 4 from by rw [hv284e]; exact g_iS.symm))] <;> exact e283
      have pp294 : (h284.2.1 70 5).toInt = 0 → (h.2.1 70 5).toInt = 0 := (by omega)
      have pp295 : (h.2.1 70 4).toInt ≤ (h284.2.1 70 4).toInt := (by omega)
      have pp296 : (h284.2.1 70 5).toInt = 0 → OP h.2.1 h284.2.1 := (fun hg => ((((OP.rfl _).trans (OP.ve ve259)).trans (by rw [E280]; exact ((OP.rfl _).trans (OP.w9 (by rw [show (v278 : Int32).toInt = (1000 + v265.toInt) from e279]; omega))))).trans (OP.ve ve284)))
      have pp297 : V h284.2.1 73 S = V h.2.1 73 S := (by omega)
      have pp298 : V h284.2.1 74 S = V h.2.1 74 S := (by omega)
      have pp299 : V h284.2.1 75 S = V h.2.1 75 S := (by omega)
      subst hS
      exact gi_vret (pc := 50) ⟨rfl, ⟨_, hv284, (MW.mz _ _)⟩, pp294, pp295, pp296, pp297, pp298, pp299, kp284, oh284, ck284⟩ hv284 dX8_operand_50
    ·
      have g300 : (0 : Int) ≤ (h259.2.1 70 3).toInt := (hv259.2.1 70 3).1
      have g301 : (h259.2.1 70 3).toInt ≤ 500 := (hv259.2.1 70 3).2
      have g302 : (0 : Int) ≤ (h259.2.1 70 4).toInt := (hv259.2.1 70 4).1
      have g303 : (h259.2.1 70 4).toInt ≤ 500 := (hv259.2.1 70 4).2
      have g304 : (-2147483648 : Int) ≤ (h259.2.1 70 5).toInt := (hv259.2.1 70 5).1
      have g305 : (h259.2.1 70 5).toInt ≤ 2147483647 := (hv259.2.1 70 5).2
      have g306 : (h259.2.1 70 3).toInt = u266.toInt := by rw [← (show u266 = h259.2.1 70 3 from u266w)] <;> exact (ti_rfl u266)
      have g307 : (h259.2.1 70 4).toInt = u267.toInt := by rw [← (show u267 = h259.2.1 70 4 from u267w)] <;> exact (ti_rfl u267)
      have g308 : (h259.2.1 70 5).toInt = u268.toInt := by rw [← (show u268 = h259.2.1 70 5 from u268w)] <;> exact (ti_rfl u268)
      refine go_invV (pc := 15) (sl := 0) (s_X8_here l (d + 1) hv259 ) mL_X8_176 iM_X8_here sM_X8_here (hv259.sh rfl) rfl rfl rfl (Nat.le_of_ble_eq_true rfl) (show d + 1 + 1 + 1 ≤ d + 3 by omega) (show 8 + (1 + 11) + 40 * (d + 1 + 1) ≤ 40 * (d + 3) by omega) (g_c0 hv259.ln) (Nat.le_of_ble_eq_true rfl) dX8_operand_15 ?_
      intro r h309 hq _
      obtain ⟨v314, rfl, v314l, v314u, hv309, f310, f311, f312, f313⟩ := hq
      have ve309 : VE h259.2.1 h309.2.1 := VE.of hv259 hv309
      have oh309 : OH h.2.1 h309.2.1 S := oh259.trans (OH.of hv259 hv309 S)
      have kp309 : KP h.2.1 h309.2.1 := kp259.trans (KP.ve ve309)
      have ck309 : CKF h.2.1 → CKF h309.2.1 := fun z => CKF.ve ve309 (ck259 z)
      have n73_309 : V h309.2.1 73 S = V h259.2.1 73 S := ve309.v (by omega) (by omega)
      have n74_309 : V h309.2.1 74 S = V h259.2.1 74 S := ve309.v (by omega) (by omega)
      have n75_309 : V h309.2.1 75 S = V h259.2.1 75 S := ve309.v (by omega) (by omega)
      obtain ⟨u315, u315w⟩ : ∃ v : Int32, v = h309.2.1 70 3 := ⟨_, rfl⟩
      have u315e : (h309.2.1 70 3).toInt = u315.toInt := by rw [u315w]
      have u315l : 0 ≤ u315.toInt := by rw [u315w]; exact (hv309.2.1 70 3).1
      have u315u : u315.toInt ≤ 500 := by rw [u315w]; exact (hv309.2.1 70 3).2
      obtain ⟨u316, u316w⟩ : ∃ v : Int32, v = h309.2.1 70 4 := ⟨_, rfl⟩
      have u316e : (h309.2.1 70 4).toInt = u316.toInt := by rw [u316w]
      have u316l : 0 ≤ u316.toInt := by rw [u316w]; exact (hv309.2.1 70 4).1
      have u316u : u316.toInt ≤ 500 := by rw [u316w]; exact (hv309.2.1 70 4).2
      obtain ⟨u317, u317w⟩ : ∃ v : Int32, v = h309.2.1 70 5 := ⟨_, rfl⟩
      have u317e : (h309.2.1 70 5).toInt = u317.toInt := by rw [u317w]
      have u317l : -2147483648 ≤ u317.toInt := by rw [u317w]; exact (hv309.2.1 70 5).1
      have u317u : u317.toInt ≤ 2147483647 := by rw [u317w]; exact (hv309.2.1 70 5).2
      refine go_istore (pc := 18) (Nat.le_of_ble_eq_true rfl) dX8_operand_18 (go_lv (lv2 := [(0, .ref 70), (1, .int a2), (2, .int a3), (3, .int v265), (4, .int v314)]) rfl ?_)
      refine go_iload_n (pc := 20) rfl dX8_operand_20 ?_
      refine go_iconst (pc := 21) (v := (-1)) (by decide) dX8_operand_21 ?_
      refine gf_icmp_eq (pc := 22) (tgt := 51) (ti_rfl v265) (ti_c (v := (-1)) (a := (-1)) (by decide)) (by decide) dX8_operand_22 (fun q318 => ?_) (fun q318 => False.elim (by omega))
      refine go_iload (pc := 51) rfl dX8_operand_51 ?_
      refine go_bipush (pc := 53) (v := 48) (by decide) dX8_operand_53 ?_
      refine go_bipush (pc := 55) (v := 57) (by decide) dX8_operand_55 ?_
      refine go_invS (pc := 57) (sl := 0) (s_X8_isIn l (d + 1) hv309 v314 48 57) mL_X8_159 iM_X8_isIn rfl rfl (Nat.le_of_ble_eq_true rfl) (show d + 1 + 1 + 1 ≤ d + 3 by omega) (show 8 + (3 + 11) + 40 * (d + 1 + 1) ≤ 40 * (d + 3) by omega) (g_c0 hv309.ln) (Nat.le_of_ble_eq_true rfl) dX8_operand_57 ?_
      intro r h319 hq _
      obtain ⟨v322, rfl, v322l, v322u, rfl, f320, f321⟩ := hq
      try rw [show (48 : Int32).toInt = 48 from (ti_c (v := 48) (a := 48) (by decide))] at f320
      try rw [show (57 : Int32).toInt = 57 from (ti_c (v := 57) (a := 57) (by decide))] at f320
      try rw [show (48 : Int32).toInt = 48 from (ti_c (v := 48) (a := 48) (by decide))] at f321
      try rw [show (57 : Int32).toInt = 57 from (ti_c (v := 57) (a := 57) (by decide))] at f321
      refine gf_if_ne (pc := 60) (tgt := 69) (ti_rfl v322) (by decide) dX8_operand_60 (fun q323 => ?_) (fun q323 => ?_)
      ·
        refine go_iconst (pc := 69) (v := 0) (by decide) dX8_operand_69 ?_
        refine go_istore (pc := 70) (Nat.le_of_ble_eq_true rfl) dX8_operand_70 (go_lv (lv2 := [(0, .ref 70), (1, .int a2), (2, .int a3), (3, .int v265), (4, .int v314), (5, .int 0)]) rfl ?_)
        refine go_aload_n (pc := 72) rfl dX8_operand_72 ?_
        refine gi_get (pc := 73) (lo := 0) (hi := 500) hv309 fL_X8_163 rfl (Nat.le_of_ble_eq_true rfl) rfl rfl dX8_operand_73 (fun v324 v324l v324u v324w => ?_)
        have v324r : u316 = h309.2.1 70 4 := u316w
        have v324q : TI v324 u316.toInt := by rw [v324w.trans v324r.symm]; exact (ti_rfl u316)
        refine go_istore (pc := 76) (Nat.le_of_ble_eq_true rfl) dX8_operand_76 (go_lv (lv2 := [(0, .ref 70), (1, .int a2), (2, .int a3), (3, .int v265), (4, .int v314), (5, .int 0), (6, .int v324)]) rfl ?_)
        have z325 : (0 : Int32).toInt = 0 := (ti_c (v := 0) (a := 0) (by decide))
        have z326 : (v324 : Int32).toInt = u316.toInt := v324q
        have g327 : (0 : Int) ≤ (h309.2.1 70 3).toInt := (hv309.2.1 70 3).1
        have g328 : (h309.2.1 70 3).toInt ≤ 500 := (hv309.2.1 70 3).2
        have g329 : (0 : Int) ≤ (h309.2.1 70 4).toInt := (hv309.2.1 70 4).1
        have g330 : (h309.2.1 70 4).toInt ≤ 500 := (hv309.2.1 70 4).2
        have g331 : (-2147483648 : Int) ≤ (h309.2.1 70 5).toInt := (hv309.2.1 70 5).1
        have g332 : (h309.2.1 70 5).toInt ≤ 2147483647 := (hv309.2.1 70 5).2
        have g333 : (h309.2.1 70 3).toInt = u315.toInt := by rw [← (show u315 = h309.2.1 70 3 from u315w)] <;> exact (ti_rfl u315)
        have g334 : (h309.2.1 70 4).toInt = u316.toInt := by rw [← (show u316 = h309.2.1 70 4 from u316w)] <;> exact (ti_rfl u316)
        have g335 : (h309.2.1 70 5).toInt = u317.toInt := by rw [← (show u317 = h309.2.1 70 5 from u317w)] <;> exact (ti_rfl u317)
        exact go_lv rfl ((key 1519) a2 a3 0 v324 _ h309 hv309 (MW.rfl _) (by omega) (by omega) (by omega) (by omega) (by omega) (by omega) (by omega) (by omega) (ve259.trans ve309) (by omega) (by omega) (by omega) (by omega) (by omega) (by omega) (by omega) (by omega) (by omega) (by omega) (by omega) oh309 ck309 kp309 (by omega) (by omega) (by omega) (by omega) (by omega) (by omega) (by omega))
      ·
        refine go_aload_n (pc := 63) rfl dX8_operand_63 ?_
        refine go_iconst (pc := 64) (v := 1) (by decide) dX8_operand_64 ?_
        have g336 : (0 : Int) ≤ (h309.2.1 70 3).toInt := (hv309.2.1 70 3).1
        have g337 : (h309.2.1 70 3).toInt ≤ 500 := (hv309.2.1 70 3).2
        have g338 : (0 : Int) ≤ (h309.2.1 70 4).toInt := (hv309.2.1 70 4).1
        have g339 : (h309.2.1 70 4).toInt ≤ 500 := (hv309.2.1 70 4).2
        have g340 : (-2147483648 : Int) ≤ (h309.2.1 70 5).toInt := (hv309.2.1 70 5).1
        have g341 : (h309.2.1 70 5).toInt ≤ 2147483647 := (hv309.2.1 70 5).2
        have g342 : (h309.2.1 70 3).toInt = u315.toInt := by rw [← (show u315 = h309.2.1 70 3 from u315w)] <;> exact (ti_rfl u315)
        have g343 : (h309.2.1 70 4).toInt = u316.toInt := by rw [← (show u316 = h309.2.1 70 4 from u316w)] <;> exact (ti_rfl u316)
        have g344 : (h309.2.1 70 5).toInt = u317.toInt := by rw [← (show u317 = h309.2.1 70 5 from u317w)] <;> exact (ti_rfl u317)
        refine go_invV (pc := 65) (sl := 0) (s_X8_fails l (d + 1) hv309 1 (by rw [show (1 : Int32).toInt = 1 from (ti_c (v := 1) (a := 1) (by decide))]; omega) (by rw [show (1 : Int32).toInt = 1 from (ti_c (v := 1) (a := 1) (by decide))]; omega)) mL_X8_180 iM_X8_fails sM_X8_fails (hv309.sh rfl) rfl rfl rfl (Nat.le_of_ble_eq_true rfl) (show d + 1 + 1 + 1 ≤ d + 3 by omega) (show 8 + (2 + 11) + 40 * (d + 1 + 1) ≤ 40 * (d + 3) by omega) (g_c0 hv309.ln) (Nat.le_of_ble_eq_true rfl) dX8_operand_65 ?_
        intro r h345 hq _
        obtain ⟨rfl, hv345, f346, f347⟩ := hq
        try rw [show (1 : Int32).toInt = 1 from (ti_c (v := 1) (a := 1) (by decide))] at f346
        try rw [show (1 : Int32).toInt = 1 from (ti_c (v := 1) (a := 1) (by decide))] at f347
        have ve345 : VE h309.2.1 h345.2.1 := VE.of hv309 hv345
        have oh345 : OH h.2.1 h345.2.1 S := oh309.trans (OH.of hv309 hv345 S)
        have kp345 : KP h.2.1 h345.2.1 := kp309.trans (KP.ve ve345)
        have ck345 : CKF h.2.1 → CKF h345.2.1 := fun z => CKF.ve ve345 (ck309 z)
        have n73_345 : V h345.2.1 73 S = V h309.2.1 73 S := ve345.v (by omega) (by omega)
        have n74_345 : V h345.2.1 74 S = V h309.2.1 74 S := ve345.v (by omega) (by omega)
        have n75_345 : V h345.2.1 75 S = V h309.2.1 75 S := ve345.v (by omega) (by omega)
        obtain ⟨u348, u348w⟩ : ∃ v : Int32, v = h345.2.1 70 3 := ⟨_, rfl⟩
        have u348e : (h345.2.1 70 3).toInt = u348.toInt := by rw [u348w]
        have u348l : 0 ≤ u348.toInt := by rw [u348w]; exact (hv345.2.1 70 3).1
        have u348u : u348.toInt ≤ 500 := by rw [u348w]; exact (hv345.2.1 70 3).2
        obtain ⟨u349, u349w⟩ : ∃ v : Int32, v = h345.2.1 70 4 := ⟨_, rfl⟩
        have u349e : (h345.2.1 70 4).toInt = u349.toInt := by rw [u349w]
        have u349l : 0 ≤ u349.toInt := by rw [u349w]; exact (hv345.2.1 70 4).1
        have u349u : u349.toInt ≤ 500 := by rw [u349w]; exact (hv345.2.1 70 4).2
        obtain ⟨u350, u350w⟩ : ∃ v : Int32, v = h345.2.1 70 5 := ⟨_, rfl⟩
        have u350e : (h345.2.1 70 5).toInt = u350.toInt := by rw [u350w]
        have u350l : -2147483648 ≤ u350.toInt := by rw [u350w]; exact (hv345.2.1 70 5).1
        have u350u : u350.toInt ≤ 2147483647 := by rw [u350w]; exact (hv345.2.1 70 5).2
        have g351 : (0 : Int) ≤ (h345.2.1 70 3).toInt := (hv345.2.1 70 3).1
        have g352 : (h345.2.1 70 3).toInt ≤ 500 := (hv345.2.1 70 3).2
        have g353 : (0 : Int) ≤ (h345.2.1 70 4).toInt := (hv345.2.1 70 4).1
        have g354 : (h345.2.1 70 4).toInt ≤ 500 := (hv345.2.1 70 4).2
        have g355 : (-2147483648 : Int) ≤ (h345.2.1 70 5).toInt := (hv345.2.1 70 5).1
        have g356 : (h345.2.1 70 5).toInt ≤ 2147483647 := (hv345.2.1 70 5).2
        have g357 : (h345.2.1 70 3).toInt = u348.toInt := by rw [← (show u348 = h345.2.1 70 3 from u348w)] <;> exact (ti_rfl u348)
        have g358 : (h345.2.1 70 4).toInt = u349.toInt := by rw [← (show u349 = h345.2.1 70 4 from u349w)] <;> exact (ti_rfl u349)
        have g359 : (h345.2.1 70 5).toInt = u350.toInt := by rw [← (show u350 = h345.2.1 70 5 from u350w)] <;> exact (ti_rfl u350)
        have pp360 : (h345.2.1 70 5).toInt = 0 → (h.2.1 70 5).toInt = 0 := (by omega)
        have pp361 : (h.2.1 70 4).toInt ≤ (h345.2.1 70 4).toInt := (by omega)
        have pp362 : (h345.2.1 70 5).toInt = 0 → OP h.2.1 h345.2.1 := (fun hg => ((((OP.rfl _).trans (OP.ve ve259)).trans (OP.ve ve309)).trans (OP.ve ve345)))
        have pp363 : V h345.2.1 73 S = V h.2.1 73 S := (by omega)
        have pp364 : V h345.2.1 74 S = V h.2.1 74 S := (by omega)
        have pp365 : V h345.2.1 75 S = V h.2.1 75 S := (by omega)
        subst hS
        exact gi_vret (pc := 68) ⟨rfl, ⟨_, hv345, (MW.rfl _)⟩, pp360, pp361, pp362, pp363, pp364, pp365, kp345, oh345, ck345⟩ hv345 dX8_operand_68
  ·
    have g366 : (0 : Int) ≤ (h.2.1 70 3).toInt := (hv.2.1 70 3).1
    have g367 : (h.2.1 70 3).toInt ≤ 500 := (hv.2.1 70 3).2
    have g368 : (0 : Int) ≤ (h.2.1 70 4).toInt := (hv.2.1 70 4).1
    have g369 : (h.2.1 70 4).toInt ≤ 500 := (hv.2.1 70 4).2
    have g370 : (-2147483648 : Int) ≤ (h.2.1 70 5).toInt := (hv.2.1 70 5).1
    have g371 : (h.2.1 70 5).toInt ≤ 2147483647 := (hv.2.1 70 5).2
    have pp372 : (h.2.1 70 5).toInt = 0 → (h.2.1 70 5).toInt = 0 := (by omega)
    have pp373 : (h.2.1 70 4).toInt ≤ (h.2.1 70 4).toInt := (by omega)
    have pp374 : (h.2.1 70 5).toInt = 0 → OP h.2.1 h.2.1 := (fun hg => (OP.rfl _))
    have pp375 : V h.2.1 73 S = V h.2.1 73 S := (by omega)
    have pp376 : V h.2.1 74 S = V h.2.1 74 S := (by omega)
    have pp377 : V h.2.1 75 S = V h.2.1 75 S := (by omega)
    subst hS
    exact gi_vret (pc := 7) ⟨rfl, ⟨_, hv, (MW.rfl _)⟩, pp372, pp373, pp374, pp375, pp376, pp377, kp, oh, ck⟩ hv dX8_operand_7
set_option maxHeartbeats 4000000 in
set_option maxRecDepth 100000 in
theorem s_X8_newBlock (l : Launch) (d : Nat) {P : PP} {h : HP} (hv : Iv P h) (a2 : Int32) (a2l : -1 ≤ a2.toInt) (a2u : a2.toInt ≤ 259) (a3 : Int32) (a3l : 0 ≤ a3.toInt) (a3u : a3.toInt ≤ 7) (hb : (h.2.1 70 5).toInt = 0 → 2 * V h.2.1 74 (h.2.1 70 6).toInt ≤ (h.2.1 70 4).toInt + a3.toInt) : Mt l yX8_newBlock cX8_newBlock 4 (some .int) (d + 2) [.ref 70, .int a2, .int a3] h 0 0 (fun r h' => ∃ v : Int32, r = some (.int v) ∧ 0 ≤ v.toInt ∧ v.toInt ≤ 559 ∧ (∃ Q : PP, Iv Q h' ∧ MW P Q) ∧ ((h'.2.1 70 5).toInt = 0 → (h.2.1 70 5).toInt = 0) ∧ ((h.2.1 70 4).toInt ≤ (h'.2.1 70 4).toInt) ∧ ((h'.2.1 70 5).toInt = 0 → (h.2.1 70 4).toInt + 1 ≤ (h'.2.1 70 4).toInt ∧ a3.toInt ≤ 6 ∧ V h'.2.1 74 (h.2.1 70 6).toInt = V h.2.1 74 (h.2.1 70 6).toInt + 1) ∧ (V h'.2.1 73 (h.2.1 70 6).toInt = V h.2.1 73 (h.2.1 70 6).toInt) ∧ (V h'.2.1 75 (h.2.1 70 6).toInt = V h.2.1 75 (h.2.1 70 6).toInt) ∧ ((h'.2.1 70 5).toInt = 0 → ∀ d : Int, LI h.2.1 h'.2.1 (h.2.1 70 6).toInt a2.toInt d v.toInt) ∧ (KP h.2.1 h'.2.1) ∧ (OH h.2.1 h'.2.1 (h.2.1 70 6).toInt) ∧ (CKF h.2.1 → CKF h'.2.1)) := by
  refine Mt_iv hv (by decide) (Nat.le_of_ble_eq_true rfl) ?_
  show Go l RX8 cX8_newBlock 4 (g_rm (d + 2) 0 0) "newBlock" (some .int) 117 0 0 (fun _ _ => True) (fun r h' => ∃ v : Int32, r = some (.int v) ∧ 0 ≤ v.toInt ∧ v.toInt ≤ 559 ∧ (∃ Q : PP, Iv Q h' ∧ MW P Q) ∧ ((h'.2.1 70 5).toInt = 0 → (h.2.1 70 5).toInt = 0) ∧ ((h.2.1 70 4).toInt ≤ (h'.2.1 70 4).toInt) ∧ ((h'.2.1 70 5).toInt = 0 → (h.2.1 70 4).toInt + 1 ≤ (h'.2.1 70 4).toInt ∧ a3.toInt ≤ 6 ∧ V h'.2.1 74 (h.2.1 70 6).toInt = V h.2.1 74 (h.2.1 70 6).toInt + 1) ∧ (V h'.2.1 73 (h.2.1 70 6).toInt = V h.2.1 73 (h.2.1 70 6).toInt) ∧ (V h'.2.1 75 (h.2.1 70 6).toInt = V h.2.1 75 (h.2.1 70 6).toInt) ∧ ((h'.2.1 70 5).toInt = 0 → ∀ d : Int, LI h.2.1 h'.2.1 (h.2.1 70 6).toInt a2.toInt d v.toInt) ∧ (KP h.2.1 h'.2.1) ∧ (OH h.2.1 h'.2.1 (h.2.1 70 6).toInt) ∧ (CKF h.2.1 → CKF h'.2.1)) 0 0 [(0, .ref 70), (1, .int a2), (2, .int a3)] [] h
  obtain ⟨S, hS⟩ : ∃ S : Int, S = (h.2.1 70 6).toInt := ⟨_, rfl⟩
  have S0 : 0 ≤ S := by rw [hS]; exact (hv.2.1 70 6).1
  have S1 : S ≤ 1 := by rw [hS]; exact (hv.2.1 70 6).2
  have oh : OH h.2.1 h.2.1 S := OH.rfl _ _
  have ck : CKF h.2.1 → CKF h.2.1 := id
  have kp : KP h.2.1 h.2.1 := KP.rfl _
  rw [← hS] at hb
  refine go_aload_n (pc := 0) rfl dX8_newBlock_0 ?_
  refine go_invV (pc := 1) (sl := 0) (s_X8_isGood l (d + 0) hv ) mL_X8_172 iM_X8_isGood sM_X8_isGood (hv.sh rfl) rfl rfl rfl (Nat.le_of_ble_eq_true rfl) (show d + 0 + 1 + 1 ≤ d + 2 by omega) (show 8 + (1 + 11) + 40 * (d + 0 + 1) ≤ 40 * (d + 2) by omega) (g_c0 hv.ln) (Nat.le_of_ble_eq_true rfl) dX8_newBlock_1 ?_
  intro r h1 hq _
  obtain ⟨v4, rfl, v4l, v4u, rfl, f2, f3⟩ := hq
  refine gf_if_eq (pc := 4) (tgt := 21) (ti_rfl v4) (by decide) dX8_newBlock_4 (fun q5 => ?_) (fun q5 => ?_)
  ·
    refine go_aload_n (pc := 21) rfl dX8_newBlock_21 ?_
    refine go_invV (pc := 22) (sl := 0) (s_X8_isGood l (d + 0) hv ) mL_X8_172 iM_X8_isGood sM_X8_isGood (hv.sh rfl) rfl rfl rfl (Nat.le_of_ble_eq_true rfl) (show d + 0 + 1 + 1 ≤ d + 2 by omega) (show 8 + (1 + 11) + 40 * (d + 0 + 1) ≤ 40 * (d + 2) by omega) (g_c0 hv.ln) (Nat.le_of_ble_eq_true rfl) dX8_newBlock_22 ?_
    intro r h6 hq _
    obtain ⟨v9, rfl, v9l, v9u, rfl, f7, f8⟩ := hq
    refine gf_if_eq (pc := 25) (tgt := 39) (ti_rfl v9) (by decide) dX8_newBlock_25 (fun q10 => ?_) (fun q10 => ?_)
    ·
      refine go_aload_n (pc := 39) rfl dX8_newBlock_39 ?_
      refine go_invV (pc := 40) (sl := 0) (s_X8_isGood l (d + 0) hv ) mL_X8_172 iM_X8_isGood sM_X8_isGood (hv.sh rfl) rfl rfl rfl (Nat.le_of_ble_eq_true rfl) (show d + 0 + 1 + 1 ≤ d + 2 by omega) (show 8 + (1 + 11) + 40 * (d + 0 + 1) ≤ 40 * (d + 2) by omega) (g_c0 hv.ln) (Nat.le_of_ble_eq_true rfl) dX8_newBlock_40 ?_
      intro r h11 hq _
      obtain ⟨v14, rfl, v14l, v14u, rfl, f12, f13⟩ := hq
      refine gf_if_ne (pc := 43) (tgt := 48) (ti_rfl v14) (by decide) dX8_newBlock_43 (fun q15 => ?_) (fun q15 => ?_)
      ·
        refine go_sipush (pc := 48) (v := 280) (by decide) dX8_newBlock_48 ?_
        refine go_aload_n (pc := 51) rfl dX8_newBlock_51 ?_
        refine gi_get (pc := 52) (lo := 0) (hi := 1) hv fL_X8_187 rfl (Nat.le_of_ble_eq_true rfl) rfl rfl dX8_newBlock_52 (fun v16 v16l v16u v16w => ?_)
        have v16S : v16.toInt = S := by rw [v16w]; exact (congrArg Int32.toInt oh.side).trans hS.symm
        refine gf_imul (pc := 55) (ti_c (v := 280) (a := 280) (by decide)) (ti_rfl v16) (by omega) (by omega) dX8_newBlock_55 (fun v17 e18 => ?_)
        refine go_aload_n (pc := 56) rfl dX8_newBlock_56 ?_
        refine gi_getF (pc := 57) (q := 74) hv fL_X8_20 rfl (Nat.le_of_ble_eq_true rfl) rfl (hv.rf (by decide)) dX8_newBlock_57 ?_
        refine go_aload_n (pc := 60) rfl dX8_newBlock_60 ?_
        refine gi_get (pc := 61) (lo := 0) (hi := 1) hv fL_X8_187 rfl (Nat.le_of_ble_eq_true rfl) rfl rfl dX8_newBlock_61 (fun v19 v19l v19u v19w => ?_)
        have v19r : v16 = h.2.1 70 6 := v16w
        have v19q : TI v19 v16.toInt := by rw [v19w.trans v19r.symm]; exact (ti_rfl v16)
        refine gi_iald (pc := 64) (lo := 0) (hi := 280) (len := 2) hv v19q rfl (by omega) (by omega) (fun _ => rfl) dX8_newBlock_64 (fun v20 v20l v20u v20w => ?_)
        have v20V : v20.toInt = V h.2.1 74 S := by rw [v20w, v16S]; rfl
        refine gf_iadd (pc := 65) e18 (ti_rfl v20) (by omega) (by omega) dX8_newBlock_65 (fun v21 e22 => ?_)
        refine go_istore_n (pc := 66) (Nat.le_of_ble_eq_true rfl) dX8_newBlock_66 (go_lv (lv2 := [(0, .ref 70), (1, .int a2), (2, .int a3), (3, .int v21)]) rfl ?_)
        refine go_aload_n (pc := 67) rfl dX8_newBlock_67 ?_
        refine gi_getF (pc := 68) (q := 74) hv fL_X8_20 rfl (Nat.le_of_ble_eq_true rfl) rfl (hv.rf (by decide)) dX8_newBlock_68 ?_
        refine go_aload_n (pc := 71) rfl dX8_newBlock_71 ?_
        refine gi_get (pc := 72) (lo := 0) (hi := 1) hv fL_X8_187 rfl (Nat.le_of_ble_eq_true rfl) rfl rfl dX8_newBlock_72 (fun v23 v23l v23u v23w => ?_)
        have v23r : v16 = h.2.1 70 6 := v16w
        have v23q : TI v23 v16.toInt := by rw [v23w.trans v23r.symm]; exact (ti_rfl v16)
        refine go_dup2 (pc := 75) rfl rfl dX8_newBlock_75 ?_
        refine gi_iald (pc := 76) (lo := 0) (hi := 280) (len := 2) hv v23q rfl (by omega) (by omega) (fun _ => rfl) dX8_newBlock_76 (fun v24 v24l v24u v24w => ?_)
        have v24V : v24.toInt = V h.2.1 74 S := by rw [v24w, v16S]; rfl
        refine go_iconst (pc := 77) (v := 1) (by decide) dX8_newBlock_77 ?_
        refine gf_iadd (pc := 78) (ti_rfl v24) (ti_c (v := 1) (a := 1) (by decide)) (by omega) (by omega) dX8_newBlock_78 (fun v25 e26 => ?_)
        refine gi_fst (pc := 79) (lo := 0) (hi := 280) (len := 2) hv v23q e26 rfl (by omega) (by omega) (fun _ => rfl) (by omega) (by omega) (by omega) dX8_newBlock_79 (fun h27 hv27 hv27e => ?_)
        refine go_aload_n (pc := 80) rfl dX8_newBlock_80 ?_
        refine gi_getF (pc := 81) (q := 90) hv27 fL_X8_68 rfl (Nat.le_of_ble_eq_true rfl) rfl (hv27.rf (by decide)) dX8_newBlock_81 ?_
        refine go_iload_n (pc := 84) rfl dX8_newBlock_84 ?_
        refine go_iconst (pc := 85) (v := (-1)) (by decide) dX8_newBlock_85 ?_
        refine gi_fst (pc := 86) (lo := -1) (hi := 259) (len := 560) hv27 e22 (ti_c (v := (-1)) (a := (-1)) (by decide)) rfl (by omega) (by omega) (fun _ => rfl) (by omega) (by omega) (by omega) dX8_newBlock_86 (fun h28 hv28 hv28e => ?_)
        refine go_aload_n (pc := 87) rfl dX8_newBlock_87 ?_
        refine gi_getF (pc := 88) (q := 91) hv28 fL_X8_71 rfl (Nat.le_of_ble_eq_true rfl) rfl (hv28.rf (by decide)) dX8_newBlock_88 ?_
        refine go_iload_n (pc := 91) rfl dX8_newBlock_91 ?_
        refine go_iconst (pc := 92) (v := (-1)) (by decide) dX8_newBlock_92 ?_
        refine gi_fst (pc := 93) (lo := -1) (hi := 259) (len := 560) hv28 e22 (ti_c (v := (-1)) (a := (-1)) (by decide)) rfl (by omega) (by omega) (fun _ => rfl) (by omega) (by omega) (by omega) dX8_newBlock_93 (fun h29 hv29 hv29e => ?_)
        refine go_aload_n (pc := 94) rfl dX8_newBlock_94 ?_
        refine gi_getF (pc := 95) (q := 92) hv29 fL_X8_74 rfl (Nat.le_of_ble_eq_true rfl) rfl (hv29.rf (by decide)) dX8_newBlock_95 ?_
        refine go_iload_n (pc := 98) rfl dX8_newBlock_98 ?_
        refine go_iload_n (pc := 99) rfl dX8_newBlock_99 ?_
        refine gi_fst (pc := 100) (lo := -1) (hi := 259) (len := 560) hv29 e22 (ti_rfl a2) rfl (by omega) (by omega) (fun _ => rfl) (by omega) (by omega) (by omega) dX8_newBlock_100 (fun h30 hv30 hv30e => ?_)
        refine go_aload_n (pc := 101) rfl dX8_newBlock_101 ?_
        refine go_dup (pc := 102) rfl dX8_newBlock_102 ?_
        refine gi_get (pc := 103) (lo := 0) (hi := 500) hv30 fL_X8_163 rfl (Nat.le_of_ble_eq_true rfl) rfl rfl dX8_newBlock_103 (fun v31 v31l v31u v31w => ?_)
        have g32 : (h30.2.1 70 4).toInt = v31.toInt := by rw [v31w]
        refine go_iconst (pc := 106) (v := 1) (by decide) dX8_newBlock_106 ?_
        refine gf_iadd (pc := 107) (ti_rfl v31) (ti_c (v := 1) (a := 1) (by decide)) (by omega) (by omega) dX8_newBlock_107 (fun v33 e34 => ?_)
        have E30 : h30.2.1 = (w1 (w1 (w1 (w1 h.2.1 74 S (v25 : Int32)) 90 (((280 * S) + v20.toInt)) ((-1) : Int32)) 91 (((280 * S) + v20.toInt)) ((-1) : Int32)) 92 (((280 * S) + v20.toInt)) (a2 : Int32)) := by
          rw [hv30e, hv29e, hv28e, hv27e]
          rw [v16S]
          rfl
        have oh30 : OH h.2.1 h30.2.1 S := by rw [E30]; exact ((((oh.trans (OH.w 1 rfl (by omega) (by omega) (by omega) (by omega))).trans (OH.w 280 rfl (by omega) (by omega) (by omega) (by omega))).trans (OH.w 280 rfl (by omega) (by omega) (by omega) (by omega))).trans (OH.w 280 rfl (by omega) (by omega) (by omega) (by omega)))
        have kp30 : KP h.2.1 h30.2.1 := by rw [E30]; exact ((((kp.trans (KP.w (by omega))).trans (KP.w (by omega))).trans (KP.w (by omega))).trans (KP.w (by omega)))
        have n73_30 : V h30.2.1 73 S = V h.2.1 73 S := by rw [E30, V_ne (by omega), V_ne (by omega), V_ne (by omega), V_ne (by omega)]
        have n74_30 : V h30.2.1 74 S = (v24.toInt + 1) := by rw [E30, V_ne (by omega), V_ne (by omega), V_ne (by omega), V_eq]; exact e26
        have n75_30 : V h30.2.1 75 S = V h.2.1 75 S := by rw [E30, V_ne (by omega), V_ne (by omega), V_ne (by omega), V_ne (by omega)]
        have ck30 : CKF h.2.1 → CKF h30.2.1 := fun z => by rw [E30]; exact (CKF.w (by omega) (CKF.w (by omega) (CKF.w (by omega) (CKF.w (by omega) (ck z)))))
        refine gi_put (pc := 108) (lo := 0) (hi := 500) hv30 e34 (fP_X8_163 _) rfl (Nat.le_of_ble_eq_true rfl) rfl rfl (by omega) (by omega) rfl rfl (by decide) (by decide) (by decide) (by decide) dX8_newBlock_108 (fun h35 hv35 hv35e => ?_)
        have ve35 : VE h30.2.1 h35.2.1 := VE.of hv30 hv35
        have oh35 : OH h.2.1 h35.2.1 S := oh30.trans (OH.of hv30 hv35 S)
        have kp35 : KP h.2.1 h35.2.1 := kp30.trans (KP.ve ve35)
        have ck35 : CKF h.2.1 → CKF h35.2.1 := fun z => CKF.ve ve35 (ck30 z)
        have n73_35 : V h35.2.1 73 S = V h30.2.1 73 S := ve35.v (by omega) (by omega)
        have n74_35 : V h35.2.1 74 S = V h30.2.1 74 S := ve35.v (by omega) (by omega)
        have n75_35 : V h35.2.1 75 S = V h30.2.1 75 S := ve35.v (by omega) (by omega)
        refine go_iload_n (pc := 111) rfl dX8_newBlock_111 ?_
        have g36 : (0 : Int) ≤ (h35.2.1 70 4).toInt := (hv35.2.1 70 4).1
        have g37 : (h35.2.1 70 4).toInt ≤ 500 := (hv35.2.1 70 4).2
        have g38 : (-2147483648 : Int) ≤ (h35.2.1 70 5).toInt := (hv35.2.1 70 5).1
        have g39 : (h35.2.1 70 5).toInt ≤ 2147483647 := (hv35.2.1 70 5).2
        have g40 : (h35.2.1 70 4).toInt = (v31.toInt + 1) := by rw [← (show v33 = h35.2.1 70 4 from (show v33 = h35.2.1 70 4 from by rw [hv35e]; exact g_iS.symm))] <;> exact e34
        have z42 : (v21 : Int32).toInt = ((280 * v16.toInt) + v20.toInt) := e22
        have pp41 : (h35.2.1 70 5).toInt = 0 → (h.2.1 70 5).toInt = 0 := (by omega)
        have z44 : (v21 : Int32).toInt = ((280 * v16.toInt) + v20.toInt) := e22
        have pp43 : (h.2.1 70 4).toInt ≤ (h35.2.1 70 4).toInt := (by omega)
        have z46 : (v21 : Int32).toInt = ((280 * v16.toInt) + v20.toInt) := e22
        have pp45 : (h35.2.1 70 5).toInt = 0 → (h.2.1 70 4).toInt + 1 ≤ (h35.2.1 70 4).toInt ∧ a3.toInt ≤ 6 ∧ V h35.2.1 74 S = V h.2.1 74 S + 1 := (by omega)
        have z48 : (v21 : Int32).toInt = ((280 * v16.toInt) + v20.toInt) := e22
        have pp47 : V h35.2.1 73 S = V h.2.1 73 S := (by omega)
        have z50 : (v21 : Int32).toInt = ((280 * v16.toInt) + v20.toInt) := e22
        have pp49 : V h35.2.1 75 S = V h.2.1 75 S := (by omega)
        have zz : (v21 : Int32).toInt = ((280 * v16.toInt) + v20.toInt) := e22
        have zy : (v25 : Int32).toInt = (v24.toInt + 1) := e26
        have pp51 : (h35.2.1 70 5).toInt = 0 → ∀ d : Int, LI h.2.1 h35.2.1 S a2.toInt d (v21 : Int32).toInt := (fun hg d => by rw [show (v21 : Int32).toInt = ((280 * S) + v20.toInt) from (by omega)]; exact LI.ve0 (VE.rfl _) (LI.init (x := (v25 : Int32)) (y := ((-1) : Int32)) (z := ((-1) : Int32)) (w := (a2 : Int32)) S0 (by rw [← E30]; exact ve35) (by omega) (by omega) (by decide) (by decide) rfl))
        subst hS
        exact gi_iret (pc := 112) e22 ⟨_, rfl, (by rw [show (v21 : Int32).toInt = ((280 * v16.toInt) + v20.toInt) from e22]; omega), (by rw [show (v21 : Int32).toInt = ((280 * v16.toInt) + v20.toInt) from e22]; omega), ⟨_, hv35, (MW.trans (MW.trans (MW.trans (MW.mz _ _) (MW.mz _ _)) (MW.mz _ _)) (MW.mz _ _))⟩, pp41, pp43, pp45, pp47, pp49, pp51, kp35, oh35, ck35⟩ hv35 dX8_newBlock_112
      ·
        refine go_iconst (pc := 46) (v := 0) (by decide) dX8_newBlock_46 ?_
        have g52 : (0 : Int) ≤ (h.2.1 70 4).toInt := (hv.2.1 70 4).1
        have g53 : (h.2.1 70 4).toInt ≤ 500 := (hv.2.1 70 4).2
        have g54 : (-2147483648 : Int) ≤ (h.2.1 70 5).toInt := (hv.2.1 70 5).1
        have g55 : (h.2.1 70 5).toInt ≤ 2147483647 := (hv.2.1 70 5).2
        have z57 : (0 : Int32).toInt = 0 := (ti_c (v := 0) (a := 0) (by decide))
        have pp56 : (h.2.1 70 5).toInt = 0 → (h.2.1 70 5).toInt = 0 := (by omega)
        have z59 : (0 : Int32).toInt = 0 := (ti_c (v := 0) (a := 0) (by decide))
        have pp58 : (h.2.1 70 4).toInt ≤ (h.2.1 70 4).toInt := (by omega)
        have z61 : (0 : Int32).toInt = 0 := (ti_c (v := 0) (a := 0) (by decide))
        have pp60 : (h.2.1 70 5).toInt = 0 → (h.2.1 70 4).toInt + 1 ≤ (h.2.1 70 4).toInt ∧ a3.toInt ≤ 6 ∧ V h.2.1 74 S = V h.2.1 74 S + 1 := (by omega)
        have z63 : (0 : Int32).toInt = 0 := (ti_c (v := 0) (a := 0) (by decide))
        have pp62 : V h.2.1 73 S = V h.2.1 73 S := (by omega)
        have z65 : (0 : Int32).toInt = 0 := (ti_c (v := 0) (a := 0) (by decide))
        have pp64 : V h.2.1 75 S = V h.2.1 75 S := (by omega)
        have pp66 : (h.2.1 70 5).toInt = 0 → ∀ d : Int, LI h.2.1 h.2.1 S a2.toInt d (0 : Int32).toInt := (fun hg => absurd hg (by omega))
        subst hS
        exact gi_iret (pc := 47) (ti_c (v := 0) (a := 0) (by decide)) ⟨_, rfl, (by rw [show (0 : Int32).toInt = 0 from (ti_c (v := 0) (a := 0) (by decide))]; omega), (by rw [show (0 : Int32).toInt = 0 from (ti_c (v := 0) (a := 0) (by decide))]; omega), ⟨_, hv, (MW.rfl _)⟩, pp56, pp58, pp60, pp62, pp64, pp66, kp, oh, ck⟩ hv dX8_newBlock_47
    ·
      refine go_iload_n (pc := 28) rfl dX8_newBlock_28 ?_
      refine go_bipush (pc := 29) (v := 6) (by decide) dX8_newBlock_29 ?_
      refine gf_icmp_le (pc := 31) (tgt := 39) (ti_rfl a3) (ti_c (v := 6) (a := 6) (by decide)) (by decide) dX8_newBlock_31 (fun q67 => ?_) (fun q67 => ?_)
      ·
        refine go_aload_n (pc := 39) rfl dX8_newBlock_39 ?_
        refine go_invV (pc := 40) (sl := 0) (s_X8_isGood l (d + 0) hv ) mL_X8_172 iM_X8_isGood sM_X8_isGood (hv.sh rfl) rfl rfl rfl (Nat.le_of_ble_eq_true rfl) (show d + 0 + 1 + 1 ≤ d + 2 by omega) (show 8 + (1 + 11) + 40 * (d + 0 + 1) ≤ 40 * (d + 2) by omega) (g_c0 hv.ln) (Nat.le_of_ble_eq_true rfl) dX8_newBlock_40 ?_
        intro r h68 hq _
        obtain ⟨v71, rfl, v71l, v71u, rfl, f69, f70⟩ := hq
        refine gf_if_ne (pc := 43) (tgt := 48) (ti_rfl v71) (by decide) dX8_newBlock_43 (fun q72 => ?_) (fun q72 => ?_)
        ·
          refine go_sipush (pc := 48) (v := 280) (by decide) dX8_newBlock_48 ?_
          refine go_aload_n (pc := 51) rfl dX8_newBlock_51 ?_
          refine gi_get (pc := 52) (lo := 0) (hi := 1) hv fL_X8_187 rfl (Nat.le_of_ble_eq_true rfl) rfl rfl dX8_newBlock_52 (fun v73 v73l v73u v73w => ?_)
          have v73S : v73.toInt = S := by rw [v73w]; exact (congrArg Int32.toInt oh.side).trans hS.symm
          refine gf_imul (pc := 55) (ti_c (v := 280) (a := 280) (by decide)) (ti_rfl v73) (by omega) (by omega) dX8_newBlock_55 (fun v74 e75 => ?_)
          refine go_aload_n (pc := 56) rfl dX8_newBlock_56 ?_
          refine gi_getF (pc := 57) (q := 74) hv fL_X8_20 rfl (Nat.le_of_ble_eq_true rfl) rfl (hv.rf (by decide)) dX8_newBlock_57 ?_
          refine go_aload_n (pc := 60) rfl dX8_newBlock_60 ?_
          refine gi_get (pc := 61) (lo := 0) (hi := 1) hv fL_X8_187 rfl (Nat.le_of_ble_eq_true rfl) rfl rfl dX8_newBlock_61 (fun v76 v76l v76u v76w => ?_)
          have v76r : v73 = h.2.1 70 6 := v73w
          have v76q : TI v76 v73.toInt := by rw [v76w.trans v76r.symm]; exact (ti_rfl v73)
          refine gi_iald (pc := 64) (lo := 0) (hi := 280) (len := 2) hv v76q rfl (by omega) (by omega) (fun _ => rfl) dX8_newBlock_64 (fun v77 v77l v77u v77w => ?_)
          have v77V : v77.toInt = V h.2.1 74 S := by rw [v77w, v73S]; rfl
          refine gf_iadd (pc := 65) e75 (ti_rfl v77) (by omega) (by omega) dX8_newBlock_65 (fun v78 e79 => ?_)
          refine go_istore_n (pc := 66) (Nat.le_of_ble_eq_true rfl) dX8_newBlock_66 (go_lv (lv2 := [(0, .ref 70), (1, .int a2), (2, .int a3), (3, .int v78)]) rfl ?_)
          refine go_aload_n (pc := 67) rfl dX8_newBlock_67 ?_
          refine gi_getF (pc := 68) (q := 74) hv fL_X8_20 rfl (Nat.le_of_ble_eq_true rfl) rfl (hv.rf (by decide)) dX8_newBlock_68 ?_
          refine go_aload_n (pc := 71) rfl dX8_newBlock_71 ?_
          refine gi_get (pc := 72) (lo := 0) (hi := 1) hv fL_X8_187 rfl (Nat.le_of_ble_eq_true rfl) rfl rfl dX8_newBlock_72 (fun v80 v80l v80u v80w => ?_)
          have v80r : v73 = h.2.1 70 6 := v73w
          have v80q : TI v80 v73.toInt := by rw [v80w.trans v80r.symm]; exact (ti_rfl v73)
          refine go_dup2 (pc := 75) rfl rfl dX8_newBlock_75 ?_
          refine gi_iald (pc := 76) (lo := 0) (hi := 280) (len := 2) hv v80q rfl (by omega) (by omega) (fun _ => rfl) dX8_newBlock_76 (fun v81 v81l v81u v81w => ?_)
          have v81V : v81.toInt = V h.2.1 74 S := by rw [v81w, v73S]; rfl
          refine go_iconst (pc := 77) (v := 1) (by decide) dX8_newBlock_77 ?_
          refine gf_iadd (pc := 78) (ti_rfl v81) (ti_c (v := 1) (a := 1) (by decide)) (by omega) (by omega) dX8_newBlock_78 (fun v82 e83 => ?_)
          refine gi_fst (pc := 79) (lo := 0) (hi := 280) (len := 2) hv v80q e83 rfl (by omega) (by omega) (fun _ => rfl) (by omega) (by omega) (by omega) dX8_newBlock_79 (fun h84 hv84 hv84e => ?_)
          refine go_aload_n (pc := 80) rfl dX8_newBlock_80 ?_
          refine gi_getF (pc := 81) (q := 90) hv84 fL_X8_68 rfl (Nat.le_of_ble_eq_true rfl) rfl (hv84.rf (by decide)) dX8_newBlock_81 ?_
          refine go_iload_n (pc := 84) rfl dX8_newBlock_84 ?_
          refine go_iconst (pc := 85) (v := (-1)) (by decide) dX8_newBlock_85 ?_
          refine gi_fst (pc := 86) (lo := -1) (hi := 259) (len := 560) hv84 e79 (ti_c (v := (-1)) (a := (-1)) (by decide)) rfl (by omega) (by omega) (fun _ => rfl) (by omega) (by omega) (by omega) dX8_newBlock_86 (fun h85 hv85 hv85e => ?_)
          refine go_aload_n (pc := 87) rfl dX8_newBlock_87 ?_
          refine gi_getF (pc := 88) (q := 91) hv85 fL_X8_71 rfl (Nat.le_of_ble_eq_true rfl) rfl (hv85.rf (by decide)) dX8_newBlock_88 ?_
          refine go_iload_n (pc := 91) rfl dX8_newBlock_91 ?_
          refine go_iconst (pc := 92) (v := (-1)) (by decide) dX8_newBlock_92 ?_
          refine gi_fst (pc := 93) (lo := -1) (hi := 259) (len := 560) hv85 e79 (ti_c (v := (-1)) (a := (-1)) (by decide)) rfl (by omega) (by omega) (fun _ => rfl) (by omega) (by omega) (by omega) dX8_newBlock_93 (fun h86 hv86 hv86e => ?_)
          refine go_aload_n (pc := 94) rfl dX8_newBlock_94 ?_
          refine gi_getF (pc := 95) (q := 92) hv86 fL_X8_74 rfl (Nat.le_of_ble_eq_true rfl) rfl (hv86.rf (by decide)) dX8_newBlock_95 ?_
          refine go_iload_n (pc := 98) rfl dX8_newBlock_98 ?_
          refine go_iload_n (pc := 99) rfl dX8_newBlock_99 ?_
          refine gi_fst (pc := 100) (lo := -1) (hi := 259) (len := 560) hv86 e79 (ti_rfl a2) rfl (by omega) (by omega) (fun _ => rfl) (by omega) (by omega) (by omega) dX8_newBlock_100 (fun h87 hv87 hv87e => ?_)
          refine go_aload_n (pc := 101) rfl dX8_newBlock_101 ?_
          refine go_dup (pc := 102) rfl dX8_newBlock_102 ?_
          refine gi_get (pc := 103) (lo := 0) (hi := 500) hv87 fL_X8_163 rfl (Nat.le_of_ble_eq_true rfl) rfl rfl dX8_newBlock_103 (fun v88 v88l v88u v88w => ?_)
          have g89 : (h87.2.1 70 4).toInt = v88.toInt := by rw [v88w]
          refine go_iconst (pc := 106) (v := 1) (by decide) dX8_newBlock_106 ?_
          refine gf_iadd (pc := 107) (ti_rfl v88) (ti_c (v := 1) (a := 1) (by decide)) (by omega) (by omega) dX8_newBlock_107 (fun v90 e91 => ?_)
          have E87 : h87.2.1 = (w1 (w1 (w1 (w1 h.2.1 74 S (v82 : Int32)) 90 (((280 * S) + v77.toInt)) ((-1) : Int32)) 91 (((280 * S) + v77.toInt)) ((-1) : Int32)) 92 (((280 * S) + v77.toInt)) (a2 : Int32)) := by
            rw [hv87e, hv86e, hv85e, hv84e]
            rw [v73S]
            rfl
          have oh87 : OH h.2.1 h87.2.1 S := by rw [E87]; exact ((((oh.trans (OH.w 1 rfl (by omega) (by omega) (by omega) (by omega))).trans (OH.w 280 rfl (by omega) (by omega) (by omega) (by omega))).trans (OH.w 280 rfl (by omega) (by omega) (by omega) (by omega))).trans (OH.w 280 rfl (by omega) (by omega) (by omega) (by omega)))
          have kp87 : KP h.2.1 h87.2.1 := by rw [E87]; exact ((((kp.trans (KP.w (by omega))).trans (KP.w (by omega))).trans (KP.w (by omega))).trans (KP.w (by omega)))
          have n73_87 : V h87.2.1 73 S = V h.2.1 73 S := by rw [E87, V_ne (by omega), V_ne (by omega), V_ne (by omega), V_ne (by omega)]
          have n74_87 : V h87.2.1 74 S = (v81.toInt + 1) := by rw [E87, V_ne (by omega), V_ne (by omega), V_ne (by omega), V_eq]; exact e83
          have n75_87 : V h87.2.1 75 S = V h.2.1 75 S := by rw [E87, V_ne (by omega), V_ne (by omega), V_ne (by omega), V_ne (by omega)]
          have ck87 : CKF h.2.1 → CKF h87.2.1 := fun z => by rw [E87]; exact (CKF.w (by omega) (CKF.w (by omega) (CKF.w (by omega) (CKF.w (by omega) (ck z)))))
          refine gi_put (pc := 108) (lo := 0) (hi := 500) hv87 e91 (fP_X8_163 _) rfl (Nat.le_of_ble_eq_true rfl) rfl rfl (by omega) (by omega) rfl rfl (by decide) (by decide) (by decide) (by decide) dX8_newBlock_108 (fun h92 hv92 hv92e => ?_)
          have ve92 : VE h87.2.1 h92.2.1 := VE.of hv87 hv92
          have oh92 : OH h.2.1 h92.2.1 S := oh87.trans (OH.of hv87 hv92 S)
          have kp92 : KP h.2.1 h92.2.1 := kp87.trans (KP.ve ve92)
          have ck92 : CKF h.2.1 → CKF h92.2.1 := fun z => CKF.ve ve92 (ck87 z)
          have n73_92 : V h92.2.1 73 S = V h87.2.1 73 S := ve92.v (by omega) (by omega)
          have n74_92 : V h92.2.1 74 S = V h87.2.1 74 S := ve92.v (by omega) (by omega)
          have n75_92 : V h92.2.1 75 S = V h87.2.1 75 S := ve92.v (by omega) (by omega)
          refine go_iload_n (pc := 111) rfl dX8_newBlock_111 ?_
          have g93 : (0 : Int) ≤ (h92.2.1 70 4).toInt := (hv92.2.1 70 4).1
          have g94 : (h92.2.1 70 4).toInt ≤ 500 := (hv92.2.1 70 4).2
          have g95 : (-2147483648 : Int) ≤ (h92.2.1 70 5).toInt := (hv92.2.1 70 5).1
          have g96 : (h92.2.1 70 5).toInt ≤ 2147483647 := (hv92.2.1 70 5).2
          have g97 : (h92.2.1 70 4).toInt = (v88.toInt + 1) := by rw [← (show v90 = h92.2.1 70 4 from (show v90 = h92.2.1 70 4 from by rw [hv92e]; exact g_iS.symm))] <;> exact e91
          have z99 : (v78 : Int32).toInt = ((280 * v73.toInt) + v77.toInt) := e79
          have pp98 : (h92.2.1 70 5).toInt = 0 → (h.2.1 70 5).toInt = 0 := (by omega)
          have z101 : (v78 : Int32).toInt = ((280 * v73.toInt) + v77.toInt) := e79
          have pp100 : (h.2.1 70 4).toInt ≤ (h92.2.1 70 4).toInt := (by omega)
          have z103 : (v78 : Int32).toInt = ((280 * v73.toInt) + v77.toInt) := e79
          have pp102 : (h92.2.1 70 5).toInt = 0 → (h.2.1 70 4).toInt + 1 ≤ (h92.2.1 70 4).toInt ∧ a3.toInt ≤ 6 ∧ V h92.2.1 74 S = V h.2.1 74 S + 1 := (by omega)
          have z105 : (v78 : Int32).toInt = ((280 * v73.toInt) + v77.toInt) := e79
          have pp104 : V h92.2.1 73 S = V h.2.1 73 S := (by omega)
          have z107 : (v78 : Int32).toInt = ((280 * v73.toInt) + v77.toInt) := e79
          have pp106 : V h92.2.1 75 S = V h.2.1 75 S := (by omega)
          have zz : (v78 : Int32).toInt = ((280 * v73.toInt) + v77.toInt) := e79
          have zy : (v82 : Int32).toInt = (v81.toInt + 1) := e83
          have pp108 : (h92.2.1 70 5).toInt = 0 → ∀ d : Int, LI h.2.1 h92.2.1 S a2.toInt d (v78 : Int32).toInt := (fun hg d => by rw [show (v78 : Int32).toInt = ((280 * S) + v77.toInt) from (by omega)]; exact LI.ve0 (VE.rfl _) (LI.init (x := (v82 : Int32)) (y := ((-1) : Int32)) (z := ((-1) : Int32)) (w := (a2 : Int32)) S0 (by rw [← E87]; exact ve92) (by omega) (by omega) (by decide) (by decide) rfl))
          subst hS
          exact gi_iret (pc := 112) e79 ⟨_, rfl, (by rw [show (v78 : Int32).toInt = ((280 * v73.toInt) + v77.toInt) from e79]; omega), (by rw [show (v78 : Int32).toInt = ((280 * v73.toInt) + v77.toInt) from e79]; omega), ⟨_, hv92, (MW.trans (MW.trans (MW.trans (MW.mz _ _) (MW.mz _ _)) (MW.mz _ _)) (MW.mz _ _))⟩, pp98, pp100, pp102, pp104, pp106, pp108, kp92, oh92, ck92⟩ hv92 dX8_newBlock_112
        ·
          refine go_iconst (pc := 46) (v := 0) (by decide) dX8_newBlock_46 ?_
          have g109 : (0 : Int) ≤ (h.2.1 70 4).toInt := (hv.2.1 70 4).1
          have g110 : (h.2.1 70 4).toInt ≤ 500 := (hv.2.1 70 4).2
          have g111 : (-2147483648 : Int) ≤ (h.2.1 70 5).toInt := (hv.2.1 70 5).1
          have g112 : (h.2.1 70 5).toInt ≤ 2147483647 := (hv.2.1 70 5).2
          have z114 : (0 : Int32).toInt = 0 := (ti_c (v := 0) (a := 0) (by decide))
          have pp113 : (h.2.1 70 5).toInt = 0 → (h.2.1 70 5).toInt = 0 := (by omega)
          have z116 : (0 : Int32).toInt = 0 := (ti_c (v := 0) (a := 0) (by decide))
          have pp115 : (h.2.1 70 4).toInt ≤ (h.2.1 70 4).toInt := (by omega)
          have z118 : (0 : Int32).toInt = 0 := (ti_c (v := 0) (a := 0) (by decide))
          have pp117 : (h.2.1 70 5).toInt = 0 → (h.2.1 70 4).toInt + 1 ≤ (h.2.1 70 4).toInt ∧ a3.toInt ≤ 6 ∧ V h.2.1 74 S = V h.2.1 74 S + 1 := (by omega)
          have z120 : (0 : Int32).toInt = 0 := (ti_c (v := 0) (a := 0) (by decide))
          have pp119 : V h.2.1 73 S = V h.2.1 73 S := (by omega)
          have z122 : (0 : Int32).toInt = 0 := (ti_c (v := 0) (a := 0) (by decide))
          have pp121 : V h.2.1 75 S = V h.2.1 75 S := (by omega)
          have pp123 : (h.2.1 70 5).toInt = 0 → ∀ d : Int, LI h.2.1 h.2.1 S a2.toInt d (0 : Int32).toInt := (fun hg => absurd hg (by omega))
          subst hS
          exact gi_iret (pc := 47) (ti_c (v := 0) (a := 0) (by decide)) ⟨_, rfl, (by rw [show (0 : Int32).toInt = 0 from (ti_c (v := 0) (a := 0) (by decide))]; omega), (by rw [show (0 : Int32).toInt = 0 from (ti_c (v := 0) (a := 0) (by decide))]; omega), ⟨_, hv, (MW.rfl _)⟩, pp113, pp115, pp117, pp119, pp121, pp123, kp, oh, ck⟩ hv dX8_newBlock_47
      ·
        refine go_aload_n (pc := 34) rfl dX8_newBlock_34 ?_
        refine go_iconst (pc := 35) (v := 4) (by decide) dX8_newBlock_35 ?_
        have g124 : (0 : Int) ≤ (h.2.1 70 4).toInt := (hv.2.1 70 4).1
        have g125 : (h.2.1 70 4).toInt ≤ 500 := (hv.2.1 70 4).2
        have g126 : (-2147483648 : Int) ≤ (h.2.1 70 5).toInt := (hv.2.1 70 5).1
        have g127 : (h.2.1 70 5).toInt ≤ 2147483647 := (hv.2.1 70 5).2
        refine go_invV (pc := 36) (sl := 0) (s_X8_fails l (d + 0) hv 4 (by rw [show (4 : Int32).toInt = 4 from (ti_c (v := 4) (a := 4) (by decide))]; omega) (by rw [show (4 : Int32).toInt = 4 from (ti_c (v := 4) (a := 4) (by decide))]; omega)) mL_X8_180 iM_X8_fails sM_X8_fails (hv.sh rfl) rfl rfl rfl (Nat.le_of_ble_eq_true rfl) (show d + 0 + 1 + 1 ≤ d + 2 by omega) (show 8 + (2 + 11) + 40 * (d + 0 + 1) ≤ 40 * (d + 2) by omega) (g_c0 hv.ln) (Nat.le_of_ble_eq_true rfl) dX8_newBlock_36 ?_
        intro r h128 hq _
        obtain ⟨rfl, hv128, f129, f130⟩ := hq
        try rw [show (4 : Int32).toInt = 4 from (ti_c (v := 4) (a := 4) (by decide))] at f129
        try rw [show (4 : Int32).toInt = 4 from (ti_c (v := 4) (a := 4) (by decide))] at f130
        have ve128 : VE h.2.1 h128.2.1 := VE.of hv hv128
        have oh128 : OH h.2.1 h128.2.1 S := oh.trans (OH.of hv hv128 S)
        have kp128 : KP h.2.1 h128.2.1 := kp.trans (KP.ve ve128)
        have ck128 : CKF h.2.1 → CKF h128.2.1 := fun z => CKF.ve ve128 (ck z)
        have n73_128 : V h128.2.1 73 S = V h.2.1 73 S := ve128.v (by omega) (by omega)
        have n74_128 : V h128.2.1 74 S = V h.2.1 74 S := ve128.v (by omega) (by omega)
        have n75_128 : V h128.2.1 75 S = V h.2.1 75 S := ve128.v (by omega) (by omega)
        obtain ⟨u131, u131w⟩ : ∃ v : Int32, v = h128.2.1 70 4 := ⟨_, rfl⟩
        have u131e : (h128.2.1 70 4).toInt = u131.toInt := by rw [u131w]
        have u131l : 0 ≤ u131.toInt := by rw [u131w]; exact (hv128.2.1 70 4).1
        have u131u : u131.toInt ≤ 500 := by rw [u131w]; exact (hv128.2.1 70 4).2
        obtain ⟨u132, u132w⟩ : ∃ v : Int32, v = h128.2.1 70 5 := ⟨_, rfl⟩
        have u132e : (h128.2.1 70 5).toInt = u132.toInt := by rw [u132w]
        have u132l : -2147483648 ≤ u132.toInt := by rw [u132w]; exact (hv128.2.1 70 5).1
        have u132u : u132.toInt ≤ 2147483647 := by rw [u132w]; exact (hv128.2.1 70 5).2
        refine go_aload_n (pc := 39) rfl dX8_newBlock_39 ?_
        refine go_invV (pc := 40) (sl := 0) (s_X8_isGood l (d + 0) hv128 ) mL_X8_172 iM_X8_isGood sM_X8_isGood (hv128.sh rfl) rfl rfl rfl (Nat.le_of_ble_eq_true rfl) (show d + 0 + 1 + 1 ≤ d + 2 by omega) (show 8 + (1 + 11) + 40 * (d + 0 + 1) ≤ 40 * (d + 2) by omega) (g_c0 hv128.ln) (Nat.le_of_ble_eq_true rfl) dX8_newBlock_40 ?_
        intro r h133 hq _
        obtain ⟨v136, rfl, v136l, v136u, rfl, f134, f135⟩ := hq
        refine gf_if_ne (pc := 43) (tgt := 48) (ti_rfl v136) (by decide) dX8_newBlock_43 (fun q137 => ?_) (fun q137 => ?_)
        ·
          refine go_sipush (pc := 48) (v := 280) (by decide) dX8_newBlock_48 ?_
          refine go_aload_n (pc := 51) rfl dX8_newBlock_51 ?_
          refine gi_get (pc := 52) (lo := 0) (hi := 1) hv128 fL_X8_187 rfl (Nat.le_of_ble_eq_true rfl) rfl rfl dX8_newBlock_52 (fun v138 v138l v138u v138w => ?_)
          have v138S : v138.toInt = S := by rw [v138w]; exact (congrArg Int32.toInt oh128.side).trans hS.symm
          refine gf_imul (pc := 55) (ti_c (v := 280) (a := 280) (by decide)) (ti_rfl v138) (by omega) (by omega) dX8_newBlock_55 (fun v139 e140 => ?_)
          refine go_aload_n (pc := 56) rfl dX8_newBlock_56 ?_
          refine gi_getF (pc := 57) (q := 74) hv128 fL_X8_20 rfl (Nat.le_of_ble_eq_true rfl) rfl (hv128.rf (by decide)) dX8_newBlock_57 ?_
          refine go_aload_n (pc := 60) rfl dX8_newBlock_60 ?_
          refine gi_get (pc := 61) (lo := 0) (hi := 1) hv128 fL_X8_187 rfl (Nat.le_of_ble_eq_true rfl) rfl rfl dX8_newBlock_61 (fun v141 v141l v141u v141w => ?_)
          have v141r : v138 = h128.2.1 70 6 := v138w
          have v141q : TI v141 v138.toInt := by rw [v141w.trans v141r.symm]; exact (ti_rfl v138)
          refine gi_iald (pc := 64) (lo := 0) (hi := 280) (len := 2) hv128 v141q rfl (by omega) (by omega) (fun _ => rfl) dX8_newBlock_64 (fun v142 v142l v142u v142w => ?_)
          have v142V : v142.toInt = V h128.2.1 74 S := by rw [v142w, v138S]; rfl
          refine gf_iadd (pc := 65) e140 (ti_rfl v142) (by omega) (by omega) dX8_newBlock_65 (fun v143 e144 => ?_)
          refine go_istore_n (pc := 66) (Nat.le_of_ble_eq_true rfl) dX8_newBlock_66 (go_lv (lv2 := [(0, .ref 70), (1, .int a2), (2, .int a3), (3, .int v143)]) rfl ?_)
          refine go_aload_n (pc := 67) rfl dX8_newBlock_67 ?_
          refine gi_getF (pc := 68) (q := 74) hv128 fL_X8_20 rfl (Nat.le_of_ble_eq_true rfl) rfl (hv128.rf (by decide)) dX8_newBlock_68 ?_
          refine go_aload_n (pc := 71) rfl dX8_newBlock_71 ?_
          refine gi_get (pc := 72) (lo := 0) (hi := 1) hv128 fL_X8_187 rfl (Nat.le_of_ble_eq_true rfl) rfl rfl dX8_newBlock_72 (fun v145 v145l v145u v145w => ?_)
          have v145r : v138 = h128.2.1 70 6 := v138w
          have v145q : TI v145 v138.toInt := by rw [v145w.trans v145r.symm]; exact (ti_rfl v138)
          refine go_dup2 (pc := 75) rfl rfl dX8_newBlock_75 ?_
          refine gi_iald (pc := 76) (lo := 0) (hi := 280) (len := 2) hv128 v145q rfl (by omega) (by omega) (fun _ => rfl) dX8_newBlock_76 (fun v146 v146l v146u v146w => ?_)
          have v146V : v146.toInt = V h128.2.1 74 S := by rw [v146w, v138S]; rfl
          refine go_iconst (pc := 77) (v := 1) (by decide) dX8_newBlock_77 ?_
          refine gf_iadd (pc := 78) (ti_rfl v146) (ti_c (v := 1) (a := 1) (by decide)) (by omega) (by omega) dX8_newBlock_78 (fun v147 e148 => ?_)
          refine gi_fst (pc := 79) (lo := 0) (hi := 280) (len := 2) hv128 v145q e148 rfl (by omega) (by omega) (fun _ => rfl) (by omega) (by omega) (by omega) dX8_newBlock_79 (fun h149 hv149 hv149e => ?_)
          refine go_aload_n (pc := 80) rfl dX8_newBlock_80 ?_
          refine gi_getF (pc := 81) (q := 90) hv149 fL_X8_68 rfl (Nat.le_of_ble_eq_true rfl) rfl (hv149.rf (by decide)) dX8_newBlock_81 ?_
          refine go_iload_n (pc := 84) rfl dX8_newBlock_84 ?_
          refine go_iconst (pc := 85) (v := (-1)) (by decide) dX8_newBlock_85 ?_
          refine gi_fst (pc := 86) (lo := -1) (hi := 259) (len := 560) hv149 e144 (ti_c (v := (-1)) (a := (-1)) (by decide)) rfl (by omega) (by omega) (fun _ => rfl) (by omega) (by omega) (by omega) dX8_newBlock_86 (fun h150 hv150 hv150e => ?_)
          refine go_aload_n (pc := 87) rfl dX8_newBlock_87 ?_
          refine gi_getF (pc := 88) (q := 91) hv150 fL_X8_71 rfl (Nat.le_of_ble_eq_true rfl) rfl (hv150.rf (by decide)) dX8_newBlock_88 ?_
          refine go_iload_n (pc := 91) rfl dX8_newBlock_91 ?_
          refine go_iconst (pc := 92) (v := (-1)) (by decide) dX8_newBlock_92 ?_
          refine gi_fst (pc := 93) (lo := -1) (hi := 259) (len := 560) hv150 e144 (ti_c (v := (-1)) (a := (-1)) (by decide)) rfl (by omega) (by omega) (fun _ => rfl) (by omega) (by omega) (by omega) dX8_newBlock_93 (fun h151 hv151 hv151e => ?_)
          refine go_aload_n (pc := 94) rfl dX8_newBlock_94 ?_
          refine gi_getF (pc := 95) (q := 92) hv151 fL_X8_74 rfl (Nat.le_of_ble_eq_true rfl) rfl (hv151.rf (by decide)) dX8_newBlock_95 ?_
          refine go_iload_n (pc := 98) rfl dX8_newBlock_98 ?_
          refine go_iload_n (pc := 99) rfl dX8_newBlock_99 ?_
          refine gi_fst (pc := 100) (lo := -1) (hi := 259) (len := 560) hv151 e144 (ti_rfl a2) rfl (by omega) (by omega) (fun _ => rfl) (by omega) (by omega) (by omega) dX8_newBlock_100 (fun h152 hv152 hv152e => ?_)
          refine go_aload_n (pc := 101) rfl dX8_newBlock_101 ?_
          refine go_dup (pc := 102) rfl dX8_newBlock_102 ?_
          refine gi_get (pc := 103) (lo := 0) (hi := 500) hv152 fL_X8_163 rfl (Nat.le_of_ble_eq_true rfl) rfl rfl dX8_newBlock_103 (fun v153 v153l v153u v153w => ?_)
          have v153r : u131 = h152.2.1 70 4 := (show u131 = h152.2.1 70 4 from by rw [hv152e]; exact (g_iI rfl (show u131 = h151.2.1 70 4 from by rw [hv151e]; exact (g_iI rfl (show u131 = h150.2.1 70 4 from by rw [hv150e]; exact (g_iI rfl (show u131 = h149.2.1 70 4 from by rw [hv149e]; exact (g_iI rfl u131w.symm).symm).symm).symm).symm).symm).symm).symm)
          have v153q : TI v153 u131.toInt := by rw [v153w.trans v153r.symm]; exact (ti_rfl u131)
          refine go_iconst (pc := 106) (v := 1) (by decide) dX8_newBlock_106 ?_
          refine gf_iadd (pc := 107) v153q (ti_c (v := 1) (a := 1) (by decide)) (by omega) (by omega) dX8_newBlock_107 (fun v154 e155 => ?_)
          have E152 : h152.2.1 = (w1 (w1 (w1 (w1 h128.2.1 74 S (v147 : Int32)) 90 (((280 * S) + v142.toInt)) ((-1) : Int32)) 91 (((280 * S) + v142.toInt)) ((-1) : Int32)) 92 (((280 * S) + v142.toInt)) (a2 : Int32)) := by
            rw [hv152e, hv151e, hv150e, hv149e]
            rw [v138S]
            rfl
          have oh152 : OH h.2.1 h152.2.1 S := by rw [E152]; exact ((((oh128.trans (OH.w 1 rfl (by omega) (by omega) (by omega) (by omega))).trans (OH.w 280 rfl (by omega) (by omega) (by omega) (by omega))).trans (OH.w 280 rfl (by omega) (by omega) (by omega) (by omega))).trans (OH.w 280 rfl (by omega) (by omega) (by omega) (by omega)))
          have kp152 : KP h.2.1 h152.2.1 := by rw [E152]; exact ((((kp128.trans (KP.w (by omega))).trans (KP.w (by omega))).trans (KP.w (by omega))).trans (KP.w (by omega)))
          have n73_152 : V h152.2.1 73 S = V h128.2.1 73 S := by rw [E152, V_ne (by omega), V_ne (by omega), V_ne (by omega), V_ne (by omega)]
          have n74_152 : V h152.2.1 74 S = (v146.toInt + 1) := by rw [E152, V_ne (by omega), V_ne (by omega), V_ne (by omega), V_eq]; exact e148
          have n75_152 : V h152.2.1 75 S = V h128.2.1 75 S := by rw [E152, V_ne (by omega), V_ne (by omega), V_ne (by omega), V_ne (by omega)]
          have ck152 : CKF h.2.1 → CKF h152.2.1 := fun z => by rw [E152]; exact (CKF.w (by omega) (CKF.w (by omega) (CKF.w (by omega) (CKF.w (by omega) (ck128 z)))))
          refine gi_put (pc := 108) (lo := 0) (hi := 500) hv152 e155 (fP_X8_163 _) rfl (Nat.le_of_ble_eq_true rfl) rfl rfl (by omega) (by omega) rfl rfl (by decide) (by decide) (by decide) (by decide) dX8_newBlock_108 (fun h156 hv156 hv156e => ?_)
          have ve156 : VE h152.2.1 h156.2.1 := VE.of hv152 hv156
          have oh156 : OH h.2.1 h156.2.1 S := oh152.trans (OH.of hv152 hv156 S)
          have kp156 : KP h.2.1 h156.2.1 := kp152.trans (KP.ve ve156)
          have ck156 : CKF h.2.1 → CKF h156.2.1 := fun z => CKF.ve ve156 (ck152 z)
          have n73_156 : V h156.2.1 73 S = V h152.2.1 73 S := ve156.v (by omega) (by omega)
          have n74_156 : V h156.2.1 74 S = V h152.2.1 74 S := ve156.v (by omega) (by omega)
          have n75_156 : V h156.2.1 75 S = V h152.2.1 75 S := ve156.v (by omega) (by omega)
          refine go_iload_n (pc := 111) rfl dX8_newBlock_111 ?_
          have g157 : (0 : Int) ≤ (h156.2.1 70 4).toInt := (hv156.2.1 70 4).1
          have g158 : (h156.2.1 70 4).toInt ≤ 500 := (hv156.2.1 70 4).2
          have g159 : (-2147483648 : Int) ≤ (h156.2.1 70 5).toInt := (hv156.2.1 70 5).1
          have g160 : (h156.2.1 70 5).toInt ≤ 2147483647 := (hv156.2.1 70 5).2
          have g161 : (h156.2.1 70 5).toInt = u132.toInt := by rw [← (show u132 = h156.2.1 70 5 from (show u132 = h156.2.1 70 5 from by rw [hv156e]; exact (g_iI rfl (show u132 = h152.2.1 70 5 from by rw [hv152e]; exact (g_iI rfl (show u132 = h151.2.1 70 5 from by rw [hv151e]; exact (g_iI rfl (show u132 = h150.2.1 70 5 from by rw [hv150e]; exact (g_iI rfl (show u132 = h149.2.1 70 5 from by rw [hv149e]; exact (g_iI rfl u132w.symm).symm).symm).symm).symm).symm).symm).symm).symm).symm))] <;> exact (ti_rfl u132)
          have g162 : (h156.2.1 70 4).toInt = (u131.toInt + 1) := by rw [← (show v154 = h156.2.1 70 4 from (show v154 = h156.2.1 70 4 from by rw [hv156e]; exact g_iS.symm))] <;> exact e155
          have z164 : (v143 : Int32).toInt = ((280 * v138.toInt) + v142.toInt) := e144
          have pp163 : (h156.2.1 70 5).toInt = 0 → (h.2.1 70 5).toInt = 0 := (by omega)
          have z166 : (v143 : Int32).toInt = ((280 * v138.toInt) + v142.toInt) := e144
          have pp165 : (h.2.1 70 4).toInt ≤ (h156.2.1 70 4).toInt := (by omega)
          have z168 : (v143 : Int32).toInt = ((280 * v138.toInt) + v142.toInt) := e144
          have pp167 : (h156.2.1 70 5).toInt = 0 → (h.2.1 70 4).toInt + 1 ≤ (h156.2.1 70 4).toInt ∧ a3.toInt ≤ 6 ∧ V h156.2.1 74 S = V h.2.1 74 S + 1 := (by omega)
          have z170 : (v143 : Int32).toInt = ((280 * v138.toInt) + v142.toInt) := e144
          have pp169 : V h156.2.1 73 S = V h.2.1 73 S := (by omega)
          have z172 : (v143 : Int32).toInt = ((280 * v138.toInt) + v142.toInt) := e144
          have pp171 : V h156.2.1 75 S = V h.2.1 75 S := (by omega)
          have zz : (v143 : Int32).toInt = ((280 * v138.toInt) + v142.toInt) := e144
          have zy : (v147 : Int32).toInt = (v146.toInt + 1) := e148
          have pp173 : (h156.2.1 70 5).toInt = 0 → ∀ d : Int, LI h.2.1 h156.2.1 S a2.toInt d (v143 : Int32).toInt := (fun hg d => by rw [show (v143 : Int32).toInt = ((280 * S) + v142.toInt) from (by omega)]; exact LI.ve0 ve128 (LI.init (x := (v147 : Int32)) (y := ((-1) : Int32)) (z := ((-1) : Int32)) (w := (a2 : Int32)) S0 (by rw [← E152]; exact ve156) (by omega) (by omega) (by decide) (by decide) rfl))
          subst hS
          exact gi_iret (pc := 112) e144 ⟨_, rfl, (by rw [show (v143 : Int32).toInt = ((280 * v138.toInt) + v142.toInt) from e144]; omega), (by rw [show (v143 : Int32).toInt = ((280 * v138.toInt) + v142.toInt) from e144]; omega), ⟨_, hv156, (MW.trans (MW.trans (MW.trans (MW.mz _ _) (MW.mz _ _)) (MW.mz _ _)) (MW.mz _ _))⟩, pp163, pp165, pp167, pp169, pp171, pp173, kp156, oh156, ck156⟩ hv156 dX8_newBlock_112
        ·
          refine go_iconst (pc := 46) (v := 0) (by decide) dX8_newBlock_46 ?_
          have g174 : (0 : Int) ≤ (h128.2.1 70 4).toInt := (hv128.2.1 70 4).1
          have g175 : (h128.2.1 70 4).toInt ≤ 500 := (hv128.2.1 70 4).2
          have g176 : (-2147483648 : Int) ≤ (h128.2.1 70 5).toInt := (hv128.2.1 70 5).1
          have g177 : (h128.2.1 70 5).toInt ≤ 2147483647 := (hv128.2.1 70 5).2
          have g178 : (h128.2.1 70 4).toInt = u131.toInt := by rw [← (show u131 = h128.2.1 70 4 from u131w)] <;> exact (ti_rfl u131)
          have g179 : (h128.2.1 70 5).toInt = u132.toInt := by rw [← (show u132 = h128.2.1 70 5 from u132w)] <;> exact (ti_rfl u132)
          have z181 : (0 : Int32).toInt = 0 := (ti_c (v := 0) (a := 0) (by decide))
          have pp180 : (h128.2.1 70 5).toInt = 0 → (h.2.1 70 5).toInt = 0 := (by omega)
          have z183 : (0 : Int32).toInt = 0 := (ti_c (v := 0) (a := 0) (by decide))
          have pp182 : (h.2.1 70 4).toInt ≤ (h128.2.1 70 4).toInt := (by omega)
          have z185 : (0 : Int32).toInt = 0 := (ti_c (v := 0) (a := 0) (by decide))
          have pp184 : (h128.2.1 70 5).toInt = 0 → (h.2.1 70 4).toInt + 1 ≤ (h128.2.1 70 4).toInt ∧ a3.toInt ≤ 6 ∧ V h128.2.1 74 S = V h.2.1 74 S + 1 := (by omega)
          have z187 : (0 : Int32).toInt = 0 := (ti_c (v := 0) (a := 0) (by decide))
          have pp186 : V h128.2.1 73 S = V h.2.1 73 S := (by omega)
          have z189 : (0 : Int32).toInt = 0 := (ti_c (v := 0) (a := 0) (by decide))
          have pp188 : V h128.2.1 75 S = V h.2.1 75 S := (by omega)
          have pp190 : (h128.2.1 70 5).toInt = 0 → ∀ d : Int, LI h.2.1 h128.2.1 S a2.toInt d (0 : Int32).toInt := (fun hg => absurd hg (by omega))
          subst hS
          exact gi_iret (pc := 47) (ti_c (v := 0) (a := 0) (by decide)) ⟨_, rfl, (by rw [show (0 : Int32).toInt = 0 from (ti_c (v := 0) (a := 0) (by decide))]; omega), (by rw [show (0 : Int32).toInt = 0 from (ti_c (v := 0) (a := 0) (by decide))]; omega), ⟨_, hv128, (MW.rfl _)⟩, pp180, pp182, pp184, pp186, pp188, pp190, kp128, oh128, ck128⟩ hv128 dX8_newBlock_47
  ·
    refine go_aload_n (pc := 7) rfl dX8_newBlock_7 ?_
    have g191 : (0 : Int) ≤ (h.2.1 70 4).toInt := (hv.2.1 70 4).1
    have g192 : (h.2.1 70 4).toInt ≤ 500 := (hv.2.1 70 4).2
    have g193 : (-2147483648 : Int) ≤ (h.2.1 70 5).toInt := (hv.2.1 70 5).1
    have g194 : (h.2.1 70 5).toInt ≤ 2147483647 := (hv.2.1 70 5).2
    refine go_invV (pc := 8) (sl := 0) (s_X8_here l (d + 0) hv ) mL_X8_176 iM_X8_here sM_X8_here (hv.sh rfl) rfl rfl rfl (Nat.le_of_ble_eq_true rfl) (show d + 0 + 1 + 1 ≤ d + 2 by omega) (show 8 + (1 + 11) + 40 * (d + 0 + 1) ≤ 40 * (d + 2) by omega) (g_c0 hv.ln) (Nat.le_of_ble_eq_true rfl) dX8_newBlock_8 ?_
    intro r h195 hq _
    obtain ⟨v200, rfl, v200l, v200u, hv195, f196, f197, f198, f199⟩ := hq
    have ve195 : VE h.2.1 h195.2.1 := VE.of hv hv195
    have oh195 : OH h.2.1 h195.2.1 S := oh.trans (OH.of hv hv195 S)
    have kp195 : KP h.2.1 h195.2.1 := kp.trans (KP.ve ve195)
    have ck195 : CKF h.2.1 → CKF h195.2.1 := fun z => CKF.ve ve195 (ck z)
    have n73_195 : V h195.2.1 73 S = V h.2.1 73 S := ve195.v (by omega) (by omega)
    have n74_195 : V h195.2.1 74 S = V h.2.1 74 S := ve195.v (by omega) (by omega)
    have n75_195 : V h195.2.1 75 S = V h.2.1 75 S := ve195.v (by omega) (by omega)
    obtain ⟨u201, u201w⟩ : ∃ v : Int32, v = h195.2.1 70 4 := ⟨_, rfl⟩
    have u201e : (h195.2.1 70 4).toInt = u201.toInt := by rw [u201w]
    have u201l : 0 ≤ u201.toInt := by rw [u201w]; exact (hv195.2.1 70 4).1
    have u201u : u201.toInt ≤ 500 := by rw [u201w]; exact (hv195.2.1 70 4).2
    obtain ⟨u202, u202w⟩ : ∃ v : Int32, v = h195.2.1 70 5 := ⟨_, rfl⟩
    have u202e : (h195.2.1 70 5).toInt = u202.toInt := by rw [u202w]
    have u202l : -2147483648 ≤ u202.toInt := by rw [u202w]; exact (hv195.2.1 70 5).1
    have u202u : u202.toInt ≤ 2147483647 := by rw [u202w]; exact (hv195.2.1 70 5).2
    refine go_bipush (pc := 11) (v := 123) (by decide) dX8_newBlock_11 ?_
    refine gf_icmp_eq (pc := 13) (tgt := 21) (ti_rfl v200) (ti_c (v := 123) (a := 123) (by decide)) (by decide) dX8_newBlock_13 (fun q203 => ?_) (fun q203 => ?_)
    ·
      refine go_aload_n (pc := 21) rfl dX8_newBlock_21 ?_
      refine go_invV (pc := 22) (sl := 0) (s_X8_isGood l (d + 0) hv195 ) mL_X8_172 iM_X8_isGood sM_X8_isGood (hv195.sh rfl) rfl rfl rfl (Nat.le_of_ble_eq_true rfl) (show d + 0 + 1 + 1 ≤ d + 2 by omega) (show 8 + (1 + 11) + 40 * (d + 0 + 1) ≤ 40 * (d + 2) by omega) (g_c0 hv195.ln) (Nat.le_of_ble_eq_true rfl) dX8_newBlock_22 ?_
      intro r h204 hq _
      obtain ⟨v207, rfl, v207l, v207u, rfl, f205, f206⟩ := hq
      refine gf_if_eq (pc := 25) (tgt := 39) (ti_rfl v207) (by decide) dX8_newBlock_25 (fun q208 => ?_) (fun q208 => ?_)
      ·
        refine go_aload_n (pc := 39) rfl dX8_newBlock_39 ?_
        refine go_invV (pc := 40) (sl := 0) (s_X8_isGood l (d + 0) hv195 ) mL_X8_172 iM_X8_isGood sM_X8_isGood (hv195.sh rfl) rfl rfl rfl (Nat.le_of_ble_eq_true rfl) (show d + 0 + 1 + 1 ≤ d + 2 by omega) (show 8 + (1 + 11) + 40 * (d + 0 + 1) ≤ 40 * (d + 2) by omega) (g_c0 hv195.ln) (Nat.le_of_ble_eq_true rfl) dX8_newBlock_40 ?_
        intro r h209 hq _
        obtain ⟨v212, rfl, v212l, v212u, rfl, f210, f211⟩ := hq
        refine gf_if_ne (pc := 43) (tgt := 48) (ti_rfl v212) (by decide) dX8_newBlock_43 (fun q213 => ?_) (fun q213 => ?_)
        ·
          refine go_sipush (pc := 48) (v := 280) (by decide) dX8_newBlock_48 ?_
          refine go_aload_n (pc := 51) rfl dX8_newBlock_51 ?_
          refine gi_get (pc := 52) (lo := 0) (hi := 1) hv195 fL_X8_187 rfl (Nat.le_of_ble_eq_true rfl) rfl rfl dX8_newBlock_52 (fun v214 v214l v214u v214w => ?_)
          have v214S : v214.toInt = S := by rw [v214w]; exact (congrArg Int32.toInt oh195.side).trans hS.symm
          refine gf_imul (pc := 55) (ti_c (v := 280) (a := 280) (by decide)) (ti_rfl v214) (by omega) (by omega) dX8_newBlock_55 (fun v215 e216 => ?_)
          refine go_aload_n (pc := 56) rfl dX8_newBlock_56 ?_
          refine gi_getF (pc := 57) (q := 74) hv195 fL_X8_20 rfl (Nat.le_of_ble_eq_true rfl) rfl (hv195.rf (by decide)) dX8_newBlock_57 ?_
          refine go_aload_n (pc := 60) rfl dX8_newBlock_60 ?_
          refine gi_get (pc := 61) (lo := 0) (hi := 1) hv195 fL_X8_187 rfl (Nat.le_of_ble_eq_true rfl) rfl rfl dX8_newBlock_61 (fun v217 v217l v217u v217w => ?_)
          have v217r : v214 = h195.2.1 70 6 := v214w
          have v217q : TI v217 v214.toInt := by rw [v217w.trans v217r.symm]; exact (ti_rfl v214)
          refine gi_iald (pc := 64) (lo := 0) (hi := 280) (len := 2) hv195 v217q rfl (by omega) (by omega) (fun _ => rfl) dX8_newBlock_64 (fun v218 v218l v218u v218w => ?_)
          have v218V : v218.toInt = V h195.2.1 74 S := by rw [v218w, v214S]; rfl
          refine gf_iadd (pc := 65) e216 (ti_rfl v218) (by omega) (by omega) dX8_newBlock_65 (fun v219 e220 => ?_)
          refine go_istore_n (pc := 66) (Nat.le_of_ble_eq_true rfl) dX8_newBlock_66 (go_lv (lv2 := [(0, .ref 70), (1, .int a2), (2, .int a3), (3, .int v219)]) rfl ?_)
          refine go_aload_n (pc := 67) rfl dX8_newBlock_67 ?_
          refine gi_getF (pc := 68) (q := 74) hv195 fL_X8_20 rfl (Nat.le_of_ble_eq_true rfl) rfl (hv195.rf (by decide)) dX8_newBlock_68 ?_
          refine go_aload_n (pc := 71) rfl dX8_newBlock_71 ?_
          refine gi_get (pc := 72) (lo := 0) (hi := 1) hv195 fL_X8_187 rfl (Nat.le_of_ble_eq_true rfl) rfl rfl dX8_newBlock_72 (fun v221 v221l v221u v221w => ?_)
          have v221r : v214 = h195.2.1 70 6 := v214w
          have v221q : TI v221 v214.toInt := by rw [v221w.trans v221r.symm]; exact (ti_rfl v214)
          refine go_dup2 (pc := 75) rfl rfl dX8_newBlock_75 ?_
          refine gi_iald (pc := 76) (lo := 0) (hi := 280) (len := 2) hv195 v221q rfl (by omega) (by omega) (fun _ => rfl) dX8_newBlock_76 (fun v222 v222l v222u v222w => ?_)
          have v222V : v222.toInt = V h195.2.1 74 S := by rw [v222w, v214S]; rfl
          refine go_iconst (pc := 77) (v := 1) (by decide) dX8_newBlock_77 ?_
          refine gf_iadd (pc := 78) (ti_rfl v222) (ti_c (v := 1) (a := 1) (by decide)) (by omega) (by omega) dX8_newBlock_78 (fun v223 e224 => ?_)
          refine gi_fst (pc := 79) (lo := 0) (hi := 280) (len := 2) hv195 v221q e224 rfl (by omega) (by omega) (fun _ => rfl) (by omega) (by omega) (by omega) dX8_newBlock_79 (fun h225 hv225 hv225e => ?_)
          refine go_aload_n (pc := 80) rfl dX8_newBlock_80 ?_
          refine gi_getF (pc := 81) (q := 90) hv225 fL_X8_68 rfl (Nat.le_of_ble_eq_true rfl) rfl (hv225.rf (by decide)) dX8_newBlock_81 ?_
          refine go_iload_n (pc := 84) rfl dX8_newBlock_84 ?_
          refine go_iconst (pc := 85) (v := (-1)) (by decide) dX8_newBlock_85 ?_
          refine gi_fst (pc := 86) (lo := -1) (hi := 259) (len := 560) hv225 e220 (ti_c (v := (-1)) (a := (-1)) (by decide)) rfl (by omega) (by omega) (fun _ => rfl) (by omega) (by omega) (by omega) dX8_newBlock_86 (fun h226 hv226 hv226e => ?_)
          refine go_aload_n (pc := 87) rfl dX8_newBlock_87 ?_
          refine gi_getF (pc := 88) (q := 91) hv226 fL_X8_71 rfl (Nat.le_of_ble_eq_true rfl) rfl (hv226.rf (by decide)) dX8_newBlock_88 ?_
          refine go_iload_n (pc := 91) rfl dX8_newBlock_91 ?_
          refine go_iconst (pc := 92) (v := (-1)) (by decide) dX8_newBlock_92 ?_
          refine gi_fst (pc := 93) (lo := -1) (hi := 259) (len := 560) hv226 e220 (ti_c (v := (-1)) (a := (-1)) (by decide)) rfl (by omega) (by omega) (fun _ => rfl) (by omega) (by omega) (by omega) dX8_newBlock_93 (fun h227 hv227 hv227e => ?_)
          refine go_aload_n (pc := 94) rfl dX8_newBlock_94 ?_
          refine gi_getF (pc := 95) (q := 92) hv227 fL_X8_74 rfl (Nat.le_of_ble_eq_true rfl) rfl (hv227.rf (by decide)) dX8_newBlock_95 ?_
          refine go_iload_n (pc := 98) rfl dX8_newBlock_98 ?_
          refine go_iload_n (pc := 99) rfl dX8_newBlock_99 ?_
          refine gi_fst (pc := 100) (lo := -1) (hi := 259) (len := 560) hv227 e220 (ti_rfl a2) rfl (by omega) (by omega) (fun _ => rfl) (by omega) (by omega) (by omega) dX8_newBlock_100 (fun h228 hv228 hv228e => ?_)
          refine go_aload_n (pc := 101) rfl dX8_newBlock_101 ?_
          refine go_dup (pc := 102) rfl dX8_newBlock_102 ?_
          refine gi_get (pc := 103) (lo := 0) (hi := 500) hv228 fL_X8_163 rfl (Nat.le_of_ble_eq_true rfl) rfl rfl dX8_newBlock_103 (fun v229 v229l v229u v229w => ?_)
          have v229r : u201 = h228.2.1 70 4 := (show u201 = h228.2.1 70 4 from by rw [hv228e]; exact (g_iI rfl (show u201 = h227.2.1 70 4 from by rw [hv227e]; exact (g_iI rfl (show u201 = h226.2.1 70 4 from by rw [hv226e]; exact (g_iI rfl (show u201 = h225.2.1 70 4 from by rw [hv225e]; exact (g_iI rfl u201w.symm).symm).symm).symm).symm).symm).symm).symm)
          have v229q : TI v229 u201.toInt := by rw [v229w.trans v229r.symm]; exact (ti_rfl u201)
          refine go_iconst (pc := 106) (v := 1) (by decide) dX8_newBlock_106 ?_
          refine gf_iadd (pc := 107) v229q (ti_c (v := 1) (a := 1) (by decide)) (by omega) (by omega) dX8_newBlock_107 (fun v230 e231 => ?_)
          have E228 : h228.2.1 = (w1 (w1 (w1 (w1 h195.2.1 74 S (v223 : Int32)) 90 (((280 * S) + v218.toInt)) ((-1) : Int32)) 91 (((280 * S) + v218.toInt)) ((-1) : Int32)) 92 (((280 * S) + v218.toInt)) (a2 : Int32)) := by
            rw [hv228e, hv227e, hv226e, hv225e]
            rw [v214S]
            rfl
          have oh228 : OH h.2.1 h228.2.1 S := by rw [E228]; exact ((((oh195.trans (OH.w 1 rfl (by omega) (by omega) (by omega) (by omega))).trans (OH.w 280 rfl (by omega) (by omega) (by omega) (by omega))).trans (OH.w 280 rfl (by omega) (by omega) (by omega) (by omega))).trans (OH.w 280 rfl (by omega) (by omega) (by omega) (by omega)))
          have kp228 : KP h.2.1 h228.2.1 := by rw [E228]; exact ((((kp195.trans (KP.w (by omega))).trans (KP.w (by omega))).trans (KP.w (by omega))).trans (KP.w (by omega)))
          have n73_228 : V h228.2.1 73 S = V h195.2.1 73 S := by rw [E228, V_ne (by omega), V_ne (by omega), V_ne (by omega), V_ne (by omega)]
          have n74_228 : V h228.2.1 74 S = (v222.toInt + 1) := by rw [E228, V_ne (by omega), V_ne (by omega), V_ne (by omega), V_eq]; exact e224
          have n75_228 : V h228.2.1 75 S = V h195.2.1 75 S := by rw [E228, V_ne (by omega), V_ne (by omega), V_ne (by omega), V_ne (by omega)]
          have ck228 : CKF h.2.1 → CKF h228.2.1 := fun z => by rw [E228]; exact (CKF.w (by omega) (CKF.w (by omega) (CKF.w (by omega) (CKF.w (by omega) (ck195 z)))))
          refine gi_put (pc := 108) (lo := 0) (hi := 500) hv228 e231 (fP_X8_163 _) rfl (Nat.le_of_ble_eq_true rfl) rfl rfl (by omega) (by omega) rfl rfl (by decide) (by decide) (by decide) (by decide) dX8_newBlock_108 (fun h232 hv232 hv232e => ?_)
          have ve232 : VE h228.2.1 h232.2.1 := VE.of hv228 hv232
          have oh232 : OH h.2.1 h232.2.1 S := oh228.trans (OH.of hv228 hv232 S)
          have kp232 : KP h.2.1 h232.2.1 := kp228.trans (KP.ve ve232)
          have ck232 : CKF h.2.1 → CKF h232.2.1 := fun z => CKF.ve ve232 (ck228 z)
          have n73_232 : V h232.2.1 73 S = V h228.2.1 73 S := ve232.v (by omega) (by omega)
          have n74_232 : V h232.2.1 74 S = V h228.2.1 74 S := ve232.v (by omega) (by omega)
          have n75_232 : V h232.2.1 75 S = V h228.2.1 75 S := ve232.v (by omega) (by omega)
          refine go_iload_n (pc := 111) rfl dX8_newBlock_111 ?_
          have g233 : (0 : Int) ≤ (h232.2.1 70 4).toInt := (hv232.2.1 70 4).1
          have g234 : (h232.2.1 70 4).toInt ≤ 500 := (hv232.2.1 70 4).2
          have g235 : (-2147483648 : Int) ≤ (h232.2.1 70 5).toInt := (hv232.2.1 70 5).1
          have g236 : (h232.2.1 70 5).toInt ≤ 2147483647 := (hv232.2.1 70 5).2
          have g237 : (h232.2.1 70 5).toInt = u202.toInt := by rw [← (show u202 = h232.2.1 70 5 from (show u202 = h232.2.1 70 5 from by rw [hv232e]; exact (g_iI rfl (show u202 = h228.2.1 70 5 from by rw [hv228e]; exact (g_iI rfl (show u202 = h227.2.1 70 5 from by rw [hv227e]; exact (g_iI rfl (show u202 = h226.2.1 70 5 from by rw [hv226e]; exact (g_iI rfl (show u202 = h225.2.1 70 5 from by rw [hv225e]; exact (g_iI rfl u202w.symm).symm).symm).symm).symm).symm).symm).symm).symm).symm))] <;> exact (ti_rfl u202)
          have g238 : (h232.2.1 70 4).toInt = (u201.toInt + 1) := by rw [← (show v230 = h232.2.1 70 4 from (show v230 = h232.2.1 70 4 from by rw [hv232e]; exact g_iS.symm))] <;> exact e231
          have z240 : (v219 : Int32).toInt = ((280 * v214.toInt) + v218.toInt) := e220
          have pp239 : (h232.2.1 70 5).toInt = 0 → (h.2.1 70 5).toInt = 0 := (by omega)
          have z242 : (v219 : Int32).toInt = ((280 * v214.toInt) + v218.toInt) := e220
          have pp241 : (h.2.1 70 4).toInt ≤ (h232.2.1 70 4).toInt := (by omega)
          have z244 : (v219 : Int32).toInt = ((280 * v214.toInt) + v218.toInt) := e220
          have pp243 : (h232.2.1 70 5).toInt = 0 → (h.2.1 70 4).toInt + 1 ≤ (h232.2.1 70 4).toInt ∧ a3.toInt ≤ 6 ∧ V h232.2.1 74 S = V h.2.1 74 S + 1 := (by omega)
          have z246 : (v219 : Int32).toInt = ((280 * v214.toInt) + v218.toInt) := e220
          have pp245 : V h232.2.1 73 S = V h.2.1 73 S := (by omega)
          have z248 : (v219 : Int32).toInt = ((280 * v214.toInt) + v218.toInt) := e220
          have pp247 : V h232.2.1 75 S = V h.2.1 75 S := (by omega)
          have zz : (v219 : Int32).toInt = ((280 * v214.toInt) + v218.toInt) := e220
          have zy : (v223 : Int32).toInt = (v222.toInt + 1) := e224
          have pp249 : (h232.2.1 70 5).toInt = 0 → ∀ d : Int, LI h.2.1 h232.2.1 S a2.toInt d (v219 : Int32).toInt := (fun hg d => by rw [show (v219 : Int32).toInt = ((280 * S) + v218.toInt) from (by omega)]; exact LI.ve0 ve195 (LI.init (x := (v223 : Int32)) (y := ((-1) : Int32)) (z := ((-1) : Int32)) (w := (a2 : Int32)) S0 (by rw [← E228]; exact ve232) (by omega) (by omega) (by decide) (by decide) rfl))
          subst hS
          exact gi_iret (pc := 112) e220 ⟨_, rfl, (by rw [show (v219 : Int32).toInt = ((280 * v214.toInt) + v218.toInt) from e220]; omega), (by rw [show (v219 : Int32).toInt = ((280 * v214.toInt) + v218.toInt) from e220]; omega), ⟨_, hv232, (MW.trans (MW.trans (MW.trans (MW.mz _ _) (MW.mz _ _)) (MW.mz _ _)) (MW.mz _ _))⟩, pp239, pp241, pp243, pp245, pp247, pp249, kp232, oh232, ck232⟩ hv232 dX8_newBlock_112
        ·
          refine go_iconst (pc := 46) (v := 0) (by decide) dX8_newBlock_46 ?_
          have g250 : (0 : Int) ≤ (h195.2.1 70 4).toInt := (hv195.2.1 70 4).1
          have g251 : (h195.2.1 70 4).toInt ≤ 500 := (hv195.2.1 70 4).2
          have g252 : (-2147483648 : Int) ≤ (h195.2.1 70 5).toInt := (hv195.2.1 70 5).1
          have g253 : (h195.2.1 70 5).toInt ≤ 2147483647 := (hv195.2.1 70 5).2
          have g254 : (h195.2.1 70 4).toInt = u201.toInt := by rw [← (show u201 = h195.2.1 70 4 from u201w)] <;> exact (ti_rfl u201)
          have g255 : (h195.2.1 70 5).toInt = u202.toInt := by rw [← (show u202 = h195.2.1 70 5 from u202w)] <;> exact (ti_rfl u202)
          have z257 : (0 : Int32).toInt = 0 := (ti_c (v := 0) (a := 0) (by decide))
          have pp256 : (h195.2.1 70 5).toInt = 0 → (h.2.1 70 5).toInt = 0 := (by omega)
          have z259 : (0 : Int32).toInt = 0 := (ti_c (v := 0) (a := 0) (by decide))
          have pp258 : (h.2.1 70 4).toInt ≤ (h195.2.1 70 4).toInt := (by omega)
          have z261 : (0 : Int32).toInt = 0 := (ti_c (v := 0) (a := 0) (by decide))
          have pp260 : (h195.2.1 70 5).toInt = 0 → (h.2.1 70 4).toInt + 1 ≤ (h195.2.1 70 4).toInt ∧ a3.toInt ≤ 6 ∧ V h195.2.1 74 S = V h.2.1 74 S + 1 := (by omega)
          have z263 : (0 : Int32).toInt = 0 := (ti_c (v := 0) (a := 0) (by decide))
          have pp262 : V h195.2.1 73 S = V h.2.1 73 S := (by omega)
          have z265 : (0 : Int32).toInt = 0 := (ti_c (v := 0) (a := 0) (by decide))
          have pp264 : V h195.2.1 75 S = V h.2.1 75 S := (by omega)
          have pp266 : (h195.2.1 70 5).toInt = 0 → ∀ d : Int, LI h.2.1 h195.2.1 S a2.toInt d (0 : Int32).toInt := (fun hg => absurd hg (by omega))
          subst hS
          exact gi_iret (pc := 47) (ti_c (v := 0) (a := 0) (by decide)) ⟨_, rfl, (by rw [show (0 : Int32).toInt = 0 from (ti_c (v := 0) (a := 0) (by decide))]; omega), (by rw [show (0 : Int32).toInt = 0 from (ti_c (v := 0) (a := 0) (by decide))]; omega), ⟨_, hv195, (MW.rfl _)⟩, pp256, pp258, pp260, pp262, pp264, pp266, kp195, oh195, ck195⟩ hv195 dX8_newBlock_47
      ·
        refine go_iload_n (pc := 28) rfl dX8_newBlock_28 ?_
        refine go_bipush (pc := 29) (v := 6) (by decide) dX8_newBlock_29 ?_
        refine gf_icmp_le (pc := 31) (tgt := 39) (ti_rfl a3) (ti_c (v := 6) (a := 6) (by decide)) (by decide) dX8_newBlock_31 (fun q267 => ?_) (fun q267 => ?_)
        ·
          refine go_aload_n (pc := 39) rfl dX8_newBlock_39 ?_
          refine go_invV (pc := 40) (sl := 0) (s_X8_isGood l (d + 0) hv195 ) mL_X8_172 iM_X8_isGood sM_X8_isGood (hv195.sh rfl) rfl rfl rfl (Nat.le_of_ble_eq_true rfl) (show d + 0 + 1 + 1 ≤ d + 2 by omega) (show 8 + (1 + 11) + 40 * (d + 0 + 1) ≤ 40 * (d + 2) by omega) (g_c0 hv195.ln) (Nat.le_of_ble_eq_true rfl) dX8_newBlock_40 ?_
          intro r h268 hq _
          obtain ⟨v271, rfl, v271l, v271u, rfl, f269, f270⟩ := hq
          refine gf_if_ne (pc := 43) (tgt := 48) (ti_rfl v271) (by decide) dX8_newBlock_43 (fun q272 => ?_) (fun q272 => ?_)
          ·
            refine go_sipush (pc := 48) (v := 280) (by decide) dX8_newBlock_48 ?_
            refine go_aload_n (pc := 51) rfl dX8_newBlock_51 ?_
            refine gi_get (pc := 52) (lo := 0) (hi := 1) hv195 fL_X8_187 rfl (Nat.le_of_ble_eq_true rfl) rfl rfl dX8_newBlock_52 (fun v273 v273l v273u v273w => ?_)
            have v273S : v273.toInt = S := by rw [v273w]; exact (congrArg Int32.toInt oh195.side).trans hS.symm
            refine gf_imul (pc := 55) (ti_c (v := 280) (a := 280) (by decide)) (ti_rfl v273) (by omega) (by omega) dX8_newBlock_55 (fun v274 e275 => ?_)
            refine go_aload_n (pc := 56) rfl dX8_newBlock_56 ?_
            refine gi_getF (pc := 57) (q := 74) hv195 fL_X8_20 rfl (Nat.le_of_ble_eq_true rfl) rfl (hv195.rf (by decide)) dX8_newBlock_57 ?_
            refine go_aload_n (pc := 60) rfl dX8_newBlock_60 ?_
            refine gi_get (pc := 61) (lo := 0) (hi := 1) hv195 fL_X8_187 rfl (Nat.le_of_ble_eq_true rfl) rfl rfl dX8_newBlock_61 (fun v276 v276l v276u v276w => ?_)
            have v276r : v273 = h195.2.1 70 6 := v273w
            have v276q : TI v276 v273.toInt := by rw [v276w.trans v276r.symm]; exact (ti_rfl v273)
            refine gi_iald (pc := 64) (lo := 0) (hi := 280) (len := 2) hv195 v276q rfl (by omega) (by omega) (fun _ => rfl) dX8_newBlock_64 (fun v277 v277l v277u v277w => ?_)
            have v277V : v277.toInt = V h195.2.1 74 S := by rw [v277w, v273S]; rfl
            refine gf_iadd (pc := 65) e275 (ti_rfl v277) (by omega) (by omega) dX8_newBlock_65 (fun v278 e279 => ?_)
            refine go_istore_n (pc := 66) (Nat.le_of_ble_eq_true rfl) dX8_newBlock_66 (go_lv (lv2 := [(0, .ref 70), (1, .int a2), (2, .int a3), (3, .int v278)]) rfl ?_)
            refine go_aload_n (pc := 67) rfl dX8_newBlock_67 ?_
            refine gi_getF (pc := 68) (q := 74) hv195 fL_X8_20 rfl (Nat.le_of_ble_eq_true rfl) rfl (hv195.rf (by decide)) dX8_newBlock_68 ?_
            refine go_aload_n (pc := 71) rfl dX8_newBlock_71 ?_
            refine gi_get (pc := 72) (lo := 0) (hi := 1) hv195 fL_X8_187 rfl (Nat.le_of_ble_eq_true rfl) rfl rfl dX8_newBlock_72 (fun v280 v280l v280u v280w => ?_)
            have v280r : v273 = h195.2.1 70 6 := v273w
            have v280q : TI v280 v273.toInt := by rw [v280w.trans v280r.symm]; exact (ti_rfl v273)
            refine go_dup2 (pc := 75) rfl rfl dX8_newBlock_75 ?_
            refine gi_iald (pc := 76) (lo := 0) (hi := 280) (len := 2) hv195 v280q rfl (by omega) (by omega) (fun _ => rfl) dX8_newBlock_76 (fun v281 v281l v281u v281w => ?_)
            have v281V : v281.toInt = V h195.2.1 74 S := by rw [v281w, v273S]; rfl
            refine go_iconst (pc := 77) (v := 1) (by decide) dX8_newBlock_77 ?_
            refine gf_iadd (pc := 78) (ti_rfl v281) (ti_c (v := 1) (a := 1) (by decide)) (by omega) (by omega) dX8_newBlock_78 (fun v282 e283 => ?_)
            refine gi_fst (pc := 79) (lo := 0) (hi := 280) (len := 2) hv195 v280q e283 rfl (by omega) (by omega) (fun _ => rfl) (by omega) (by omega) (by omega) dX8_newBlock_79 (fun h284 hv284 hv284e => ?_)
            refine go_aload_n (pc := 80) rfl dX8_newBlock_80 ?_
            refine gi_getF (pc := 81) (q := 90) hv284 fL_X8_68 rfl (Nat.le_of_ble_eq_true rfl) rfl (hv284.rf (by decide)) dX8_newBlock_81 ?_
            refine go_iload_n (pc := 84) rfl dX8_newBlock_84 ?_
            refine go_iconst (pc := 85) (v := (-1)) (by decide) dX8_newBlock_85 ?_
            refine gi_fst (pc := 86) (lo := -1) (hi := 259) (len := 560) hv284 e279 (ti_c (v := (-1)) (a := (-1)) (by decide)) rfl (by omega) (by omega) (fun _ => rfl) (by omega) (by omega) (by omega) dX8_newBlock_86 (fun h285 hv285 hv285e => ?_)
            refine go_aload_n (pc := 87) rfl dX8_newBlock_87 ?_
            refine gi_getF (pc := 88) (q := 91) hv285 fL_X8_71 rfl (Nat.le_of_ble_eq_true rfl) rfl (hv285.rf (by decide)) dX8_newBlock_88 ?_
            refine go_iload_n (pc := 91) rfl dX8_newBlock_91 ?_
            refine go_iconst (pc := 92) (v := (-1)) (by decide) dX8_newBlock_92 ?_
            refine gi_fst (pc := 93) (lo := -1) (hi := 259) (len := 560) hv285 e279 (ti_c (v := (-1)) (a := (-1)) (by decide)) rfl (by omega) (by omega) (fun _ => rfl) (by omega) (by omega) (by omega) dX8_newBlock_93 (fun h286 hv286 hv286e => ?_)
            refine go_aload_n (pc := 94) rfl dX8_newBlock_94 ?_
            refine gi_getF (pc := 95) (q := 92) hv286 fL_X8_74 rfl (Nat.le_of_ble_eq_true rfl) rfl (hv286.rf (by decide)) dX8_newBlock_95 ?_
            refine go_iload_n (pc := 98) rfl dX8_newBlock_98 ?_
            refine go_iload_n (pc := 99) rfl dX8_newBlock_99 ?_
            refine gi_fst (pc := 100) (lo := -1) (hi := 259) (len := 560) hv286 e279 (ti_rfl a2) rfl (by omega) (by omega) (fun _ => rfl) (by omega) (by omega) (by omega) dX8_newBlock_100 (fun h287 hv287 hv287e => ?_)
            refine go_aload_n (pc := 101) rfl dX8_newBlock_101 ?_
            refine go_dup (pc := 102) rfl dX8_newBlock_102 ?_
            refine gi_get (pc := 103) (lo := 0) (hi := 500) hv287 fL_X8_163 rfl (Nat.le_of_ble_eq_true rfl) rfl rfl dX8_newBlock_103 (fun v288 v288l v288u v288w => ?_)
            have v288r : u201 = h287.2.1 70 4 := (show u201 = h287.2.1 70 4 from by rw [hv287e]; exact (g_iI rfl (show u201 = h286.2.1 70 4 from by rw [hv286e]; exact (g_iI rfl (show u201 = h285.2.1 70 4 from by rw [hv285e]; exact (g_iI rfl (show u201 = h284.2.1 70 4 from by rw [hv284e]; exact (g_iI rfl u201w.symm).symm).symm).symm).symm).symm).symm).symm)
            have v288q : TI v288 u201.toInt := by rw [v288w.trans v288r.symm]; exact (ti_rfl u201)
            refine go_iconst (pc := 106) (v := 1) (by decide) dX8_newBlock_106 ?_
            refine gf_iadd (pc := 107) v288q (ti_c (v := 1) (a := 1) (by decide)) (by omega) (by omega) dX8_newBlock_107 (fun v289 e290 => ?_)
            have E287 : h287.2.1 = (w1 (w1 (w1 (w1 h195.2.1 74 S (v282 : Int32)) 90 (((280 * S) + v277.toInt)) ((-1) : Int32)) 91 (((280 * S) + v277.toInt)) ((-1) : Int32)) 92 (((280 * S) + v277.toInt)) (a2 : Int32)) := by
              rw [hv287e, hv286e, hv285e, hv284e]
              rw [v273S]
              rfl
            have oh287 : OH h.2.1 h287.2.1 S := by rw [E287]; exact ((((oh195.trans (OH.w 1 rfl (by omega) (by omega) (by omega) (by omega))).trans (OH.w 280 rfl (by omega) (by omega) (by omega) (by omega))).trans (OH.w 280 rfl (by omega) (by omega) (by omega) (by omega))).trans (OH.w 280 rfl (by omega) (by omega) (by omega) (by omega)))
            have kp287 : KP h.2.1 h287.2.1 := by rw [E287]; exact ((((kp195.trans (KP.w (by omega))).trans (KP.w (by omega))).trans (KP.w (by omega))).trans (KP.w (by omega)))
            have n73_287 : V h287.2.1 73 S = V h195.2.1 73 S := by rw [E287, V_ne (by omega), V_ne (by omega), V_ne (by omega), V_ne (by omega)]
            have n74_287 : V h287.2.1 74 S = (v281.toInt + 1) := by rw [E287, V_ne (by omega), V_ne (by omega), V_ne (by omega), V_eq]; exact e283
            have n75_287 : V h287.2.1 75 S = V h195.2.1 75 S := by rw [E287, V_ne (by omega), V_ne (by omega), V_ne (by omega), V_ne (by omega)]
            have ck287 : CKF h.2.1 → CKF h287.2.1 := fun z => by rw [E287]; exact (CKF.w (by omega) (CKF.w (by omega) (CKF.w (by omega) (CKF.w (by omega) (ck195 z)))))
            refine gi_put (pc := 108) (lo := 0) (hi := 500) hv287 e290 (fP_X8_163 _) rfl (Nat.le_of_ble_eq_true rfl) rfl rfl (by omega) (by omega) rfl rfl (by decide) (by decide) (by decide) (by decide) dX8_newBlock_108 (fun h291 hv291 hv291e => ?_)
            have ve291 : VE h287.2.1 h291.2.1 := VE.of hv287 hv291
            have oh291 : OH h.2.1 h291.2.1 S := oh287.trans (OH.of hv287 hv291 S)
            have kp291 : KP h.2.1 h291.2.1 := kp287.trans (KP.ve ve291)
            have ck291 : CKF h.2.1 → CKF h291.2.1 := fun z => CKF.ve ve291 (ck287 z)
            have n73_291 : V h291.2.1 73 S = V h287.2.1 73 S := ve291.v (by omega) (by omega)
            have n74_291 : V h291.2.1 74 S = V h287.2.1 74 S := ve291.v (by omega) (by omega)
            have n75_291 : V h291.2.1 75 S = V h287.2.1 75 S := ve291.v (by omega) (by omega)
            refine go_iload_n (pc := 111) rfl dX8_newBlock_111 ?_
            have g292 : (0 : Int) ≤ (h291.2.1 70 4).toInt := (hv291.2.1 70 4).1
            have g293 : (h291.2.1 70 4).toInt ≤ 500 := (hv291.2.1 70 4).2
            have g294 : (-2147483648 : Int) ≤ (h291.2.1 70 5).toInt := (hv291.2.1 70 5).1
            have g295 : (h291.2.1 70 5).toInt ≤ 2147483647 := (hv291.2.1 70 5).2
            have g296 : (h291.2.1 70 5).toInt = u202.toInt := by rw [← (show u202 = h291.2.1 70 5 from (show u202 = h291.2.1 70 5 from by rw [hv291e]; exact (g_iI rfl (show u202 = h287.2.1 70 5 from by rw [hv287e]; exact (g_iI rfl (show u202 = h286.2.1 70 5 from by rw [hv286e]; exact (g_iI rfl (show u202 = h285.2.1 70 5 from by rw [hv285e]; exact (g_iI rfl (show u202 = h284.2.1 70 5 from by rw [hv284e]; exact (g_iI rfl u202w.symm).symm).symm).symm).symm).symm).symm).symm).symm).symm))] <;> exact (ti_rfl u202)
            have g297 : (h291.2.1 70 4).toInt = (u201.toInt + 1) := by rw [← (show v289 = h291.2.1 70 4 from (show v289 = h291.2.1 70 4 from by rw [hv291e]; exact g_iS.symm))] <;> exact e290
            have z299 : (v278 : Int32).toInt = ((280 * v273.toInt) + v277.toInt) := e279
            have pp298 : (h291.2.1 70 5).toInt = 0 → (h.2.1 70 5).toInt = 0 := (by omega)
            have z301 : (v278 : Int32).toInt = ((280 * v273.toInt) + v277.toInt) := e279
            have pp300 : (h.2.1 70 4).toInt ≤ (h291.2.1 70 4).toInt := (by omega)
            have z303 : (v278 : Int32).toInt = ((280 * v273.toInt) + v277.toInt) := e279
            have pp302 : (h291.2.1 70 5).toInt = 0 → (h.2.1 70 4).toInt + 1 ≤ (h291.2.1 70 4).toInt ∧ a3.toInt ≤ 6 ∧ V h291.2.1 74 S = V h.2.1 74 S + 1 := (by omega)
            have z305 : (v278 : Int32).toInt = ((280 * v273.toInt) + v277.toInt) := e279
            have pp304 : V h291.2.1 73 S = V h.2.1 73 S := (by omega)
            have z307 : (v278 : Int32).toInt = ((280 * v273.toInt) + v277.toInt) := e279
            have pp306 : V h291.2.1 75 S = V h.2.1 75 S := (by omega)
            have zz : (v278 : Int32).toInt = ((280 * v273.toInt) + v277.toInt) := e279
            have zy : (v282 : Int32).toInt = (v281.toInt + 1) := e283
            have pp308 : (h291.2.1 70 5).toInt = 0 → ∀ d : Int, LI h.2.1 h291.2.1 S a2.toInt d (v278 : Int32).toInt := (fun hg d => by rw [show (v278 : Int32).toInt = ((280 * S) + v277.toInt) from (by omega)]; exact LI.ve0 ve195 (LI.init (x := (v282 : Int32)) (y := ((-1) : Int32)) (z := ((-1) : Int32)) (w := (a2 : Int32)) S0 (by rw [← E287]; exact ve291) (by omega) (by omega) (by decide) (by decide) rfl))
            subst hS
            exact gi_iret (pc := 112) e279 ⟨_, rfl, (by rw [show (v278 : Int32).toInt = ((280 * v273.toInt) + v277.toInt) from e279]; omega), (by rw [show (v278 : Int32).toInt = ((280 * v273.toInt) + v277.toInt) from e279]; omega), ⟨_, hv291, (MW.trans (MW.trans (MW.trans (MW.mz _ _) (MW.mz _ _)) (MW.mz _ _)) (MW.mz _ _))⟩, pp298, pp300, pp302, pp304, pp306, pp308, kp291, oh291, ck291⟩ hv291 dX8_newBlock_112
          ·
            refine go_iconst (pc := 46) (v := 0) (by decide) dX8_newBlock_46 ?_
            have g309 : (0 : Int) ≤ (h195.2.1 70 4).toInt := (hv195.2.1 70 4).1
            have g310 : (h195.2.1 70 4).toInt ≤ 500 := (hv195.2.1 70 4).2
            have g311 : (-2147483648 : Int) ≤ (h195.2.1 70 5).toInt := (hv195.2.1 70 5).1
            have g312 : (h195.2.1 70 5).toInt ≤ 2147483647 := (hv195.2.1 70 5).2
            have g313 : (h195.2.1 70 4).toInt = u201.toInt := by rw [← (show u201 = h195.2.1 70 4 from u201w)] <;> exact (ti_rfl u201)
            have g314 : (h195.2.1 70 5).toInt = u202.toInt := by rw [← (show u202 = h195.2.1 70 5 from u202w)] <;> exact (ti_rfl u202)
            have z316 : (0 : Int32).toInt = 0 := (ti_c (v := 0) (a := 0) (by decide))
            have pp315 : (h195.2.1 70 5).toInt = 0 → (h.2.1 70 5).toInt = 0 := (by omega)
            have z318 : (0 : Int32).toInt = 0 := (ti_c (v := 0) (a := 0) (by decide))
            have pp317 : (h.2.1 70 4).toInt ≤ (h195.2.1 70 4).toInt := (by omega)
            have z320 : (0 : Int32).toInt = 0 := (ti_c (v := 0) (a := 0) (by decide))
            have pp319 : (h195.2.1 70 5).toInt = 0 → (h.2.1 70 4).toInt + 1 ≤ (h195.2.1 70 4).toInt ∧ a3.toInt ≤ 6 ∧ V h195.2.1 74 S = V h.2.1 74 S + 1 := (by omega)
            have z322 : (0 : Int32).toInt = 0 := (ti_c (v := 0) (a := 0) (by decide))
            have pp321 : V h195.2.1 73 S = V h.2.1 73 S := (by omega)
            have z324 : (0 : Int32).toInt = 0 := (ti_c (v := 0) (a := 0) (by decide))
            have pp323 : V h195.2.1 75 S = V h.2.1 75 S := (by omega)
            have pp325 : (h195.2.1 70 5).toInt = 0 → ∀ d : Int, LI h.2.1 h195.2.1 S a2.toInt d (0 : Int32).toInt := (fun hg => absurd hg (by omega))
            subst hS
            exact gi_iret (pc := 47) (ti_c (v := 0) (a := 0) (by decide)) ⟨_, rfl, (by rw [show (0 : Int32).toInt = 0 from (ti_c (v := 0) (a := 0) (by decide))]; omega), (by rw [show (0 : Int32).toInt = 0 from (ti_c (v := 0) (a := 0) (by decide))]; omega), ⟨_, hv195, (MW.rfl _)⟩, pp315, pp317, pp319, pp321, pp323, pp325, kp195, oh195, ck195⟩ hv195 dX8_newBlock_47
        ·
          refine go_aload_n (pc := 34) rfl dX8_newBlock_34 ?_
          refine go_iconst (pc := 35) (v := 4) (by decide) dX8_newBlock_35 ?_
          have g326 : (0 : Int) ≤ (h195.2.1 70 4).toInt := (hv195.2.1 70 4).1
          have g327 : (h195.2.1 70 4).toInt ≤ 500 := (hv195.2.1 70 4).2
          have g328 : (-2147483648 : Int) ≤ (h195.2.1 70 5).toInt := (hv195.2.1 70 5).1
          have g329 : (h195.2.1 70 5).toInt ≤ 2147483647 := (hv195.2.1 70 5).2
          have g330 : (h195.2.1 70 4).toInt = u201.toInt := by rw [← (show u201 = h195.2.1 70 4 from u201w)] <;> exact (ti_rfl u201)
          have g331 : (h195.2.1 70 5).toInt = u202.toInt := by rw [← (show u202 = h195.2.1 70 5 from u202w)] <;> exact (ti_rfl u202)
          refine go_invV (pc := 36) (sl := 0) (s_X8_fails l (d + 0) hv195 4 (by rw [show (4 : Int32).toInt = 4 from (ti_c (v := 4) (a := 4) (by decide))]; omega) (by rw [show (4 : Int32).toInt = 4 from (ti_c (v := 4) (a := 4) (by decide))]; omega)) mL_X8_180 iM_X8_fails sM_X8_fails (hv195.sh rfl) rfl rfl rfl (Nat.le_of_ble_eq_true rfl) (show d + 0 + 1 + 1 ≤ d + 2 by omega) (show 8 + (2 + 11) + 40 * (d + 0 + 1) ≤ 40 * (d + 2) by omega) (g_c0 hv195.ln) (Nat.le_of_ble_eq_true rfl) dX8_newBlock_36 ?_
          intro r h332 hq _
          obtain ⟨rfl, hv332, f333, f334⟩ := hq
          try rw [show (4 : Int32).toInt = 4 from (ti_c (v := 4) (a := 4) (by decide))] at f333
          try rw [show (4 : Int32).toInt = 4 from (ti_c (v := 4) (a := 4) (by decide))] at f334
          have ve332 : VE h195.2.1 h332.2.1 := VE.of hv195 hv332
          have oh332 : OH h.2.1 h332.2.1 S := oh195.trans (OH.of hv195 hv332 S)
          have kp332 : KP h.2.1 h332.2.1 := kp195.trans (KP.ve ve332)
          have ck332 : CKF h.2.1 → CKF h332.2.1 := fun z => CKF.ve ve332 (ck195 z)
          have n73_332 : V h332.2.1 73 S = V h195.2.1 73 S := ve332.v (by omega) (by omega)
          have n74_332 : V h332.2.1 74 S = V h195.2.1 74 S := ve332.v (by omega) (by omega)
          have n75_332 : V h332.2.1 75 S = V h195.2.1 75 S := ve332.v (by omega) (by omega)
          obtain ⟨u335, u335w⟩ : ∃ v : Int32, v = h332.2.1 70 4 := ⟨_, rfl⟩
          have u335e : (h332.2.1 70 4).toInt = u335.toInt := by rw [u335w]
          have u335l : 0 ≤ u335.toInt := by rw [u335w]; exact (hv332.2.1 70 4).1
          have u335u : u335.toInt ≤ 500 := by rw [u335w]; exact (hv332.2.1 70 4).2
          obtain ⟨u336, u336w⟩ : ∃ v : Int32, v = h332.2.1 70 5 := ⟨_, rfl⟩
          have u336e : (h332.2.1 70 5).toInt = u336.toInt := by rw [u336w]
          have u336l : -2147483648 ≤ u336.toInt := by rw [u336w]; exact (hv332.2.1 70 5).1
          have u336u : u336.toInt ≤ 2147483647 := by rw [u336w]; exact (hv332.2.1 70 5).2
          refine go_aload_n (pc := 39) rfl dX8_newBlock_39 ?_
          refine go_invV (pc := 40) (sl := 0) (s_X8_isGood l (d + 0) hv332 ) mL_X8_172 iM_X8_isGood sM_X8_isGood (hv332.sh rfl) rfl rfl rfl (Nat.le_of_ble_eq_true rfl) (show d + 0 + 1 + 1 ≤ d + 2 by omega) (show 8 + (1 + 11) + 40 * (d + 0 + 1) ≤ 40 * (d + 2) by omega) (g_c0 hv332.ln) (Nat.le_of_ble_eq_true rfl) dX8_newBlock_40 ?_
          intro r h337 hq _
          obtain ⟨v340, rfl, v340l, v340u, rfl, f338, f339⟩ := hq
          refine gf_if_ne (pc := 43) (tgt := 48) (ti_rfl v340) (by decide) dX8_newBlock_43 (fun q341 => ?_) (fun q341 => ?_)
          ·
            refine go_sipush (pc := 48) (v := 280) (by decide) dX8_newBlock_48 ?_
            refine go_aload_n (pc := 51) rfl dX8_newBlock_51 ?_
            refine gi_get (pc := 52) (lo := 0) (hi := 1) hv332 fL_X8_187 rfl (Nat.le_of_ble_eq_true rfl) rfl rfl dX8_newBlock_52 (fun v342 v342l v342u v342w => ?_)
            have v342S : v342.toInt = S := by rw [v342w]; exact (congrArg Int32.toInt oh332.side).trans hS.symm
            refine gf_imul (pc := 55) (ti_c (v := 280) (a := 280) (by decide)) (ti_rfl v342) (by omega) (by omega) dX8_newBlock_55 (fun v343 e344 => ?_)
            refine go_aload_n (pc := 56) rfl dX8_newBlock_56 ?_
            refine gi_getF (pc := 57) (q := 74) hv332 fL_X8_20 rfl (Nat.le_of_ble_eq_true rfl) rfl (hv332.rf (by decide)) dX8_newBlock_57 ?_
            refine go_aload_n (pc := 60) rfl dX8_newBlock_60 ?_
            refine gi_get (pc := 61) (lo := 0) (hi := 1) hv332 fL_X8_187 rfl (Nat.le_of_ble_eq_true rfl) rfl rfl dX8_newBlock_61 (fun v345 v345l v345u v345w => ?_)
            have v345r : v342 = h332.2.1 70 6 := v342w
            have v345q : TI v345 v342.toInt := by rw [v345w.trans v345r.symm]; exact (ti_rfl v342)
            refine gi_iald (pc := 64) (lo := 0) (hi := 280) (len := 2) hv332 v345q rfl (by omega) (by omega) (fun _ => rfl) dX8_newBlock_64 (fun v346 v346l v346u v346w => ?_)
            have v346V : v346.toInt = V h332.2.1 74 S := by rw [v346w, v342S]; rfl
            refine gf_iadd (pc := 65) e344 (ti_rfl v346) (by omega) (by omega) dX8_newBlock_65 (fun v347 e348 => ?_)
            refine go_istore_n (pc := 66) (Nat.le_of_ble_eq_true rfl) dX8_newBlock_66 (go_lv (lv2 := [(0, .ref 70), (1, .int a2), (2, .int a3), (3, .int v347)]) rfl ?_)
            refine go_aload_n (pc := 67) rfl dX8_newBlock_67 ?_
            refine gi_getF (pc := 68) (q := 74) hv332 fL_X8_20 rfl (Nat.le_of_ble_eq_true rfl) rfl (hv332.rf (by decide)) dX8_newBlock_68 ?_
            refine go_aload_n (pc := 71) rfl dX8_newBlock_71 ?_
            refine gi_get (pc := 72) (lo := 0) (hi := 1) hv332 fL_X8_187 rfl (Nat.le_of_ble_eq_true rfl) rfl rfl dX8_newBlock_72 (fun v349 v349l v349u v349w => ?_)
            have v349r : v342 = h332.2.1 70 6 := v342w
            have v349q : TI v349 v342.toInt := by rw [v349w.trans v349r.symm]; exact (ti_rfl v342)
            refine go_dup2 (pc := 75) rfl rfl dX8_newBlock_75 ?_
            refine gi_iald (pc := 76) (lo := 0) (hi := 280) (len := 2) hv332 v349q rfl (by omega) (by omega) (fun _ => rfl) dX8_newBlock_76 (fun v350 v350l v350u v350w => ?_)
            have v350V : v350.toInt = V h332.2.1 74 S := by rw [v350w, v342S]; rfl
            refine go_iconst (pc := 77) (v := 1) (by decide) dX8_newBlock_77 ?_
            refine gf_iadd (pc := 78) (ti_rfl v350) (ti_c (v := 1) (a := 1) (by decide)) (by omega) (by omega) dX8_newBlock_78 (fun v351 e352 => ?_)
            refine gi_fst (pc := 79) (lo := 0) (hi := 280) (len := 2) hv332 v349q e352 rfl (by omega) (by omega) (fun _ => rfl) (by omega) (by omega) (by omega) dX8_newBlock_79 (fun h353 hv353 hv353e => ?_)
            refine go_aload_n (pc := 80) rfl dX8_newBlock_80 ?_
            refine gi_getF (pc := 81) (q := 90) hv353 fL_X8_68 rfl (Nat.le_of_ble_eq_true rfl) rfl (hv353.rf (by decide)) dX8_newBlock_81 ?_
            refine go_iload_n (pc := 84) rfl dX8_newBlock_84 ?_
            refine go_iconst (pc := 85) (v := (-1)) (by decide) dX8_newBlock_85 ?_
            refine gi_fst (pc := 86) (lo := -1) (hi := 259) (len := 560) hv353 e348 (ti_c (v := (-1)) (a := (-1)) (by decide)) rfl (by omega) (by omega) (fun _ => rfl) (by omega) (by omega) (by omega) dX8_newBlock_86 (fun h354 hv354 hv354e => ?_)
            refine go_aload_n (pc := 87) rfl dX8_newBlock_87 ?_
            refine gi_getF (pc := 88) (q := 91) hv354 fL_X8_71 rfl (Nat.le_of_ble_eq_true rfl) rfl (hv354.rf (by decide)) dX8_newBlock_88 ?_
            refine go_iload_n (pc := 91) rfl dX8_newBlock_91 ?_
            refine go_iconst (pc := 92) (v := (-1)) (by decide) dX8_newBlock_92 ?_
            refine gi_fst (pc := 93) (lo := -1) (hi := 259) (len := 560) hv354 e348 (ti_c (v := (-1)) (a := (-1)) (by decide)) rfl (by omega) (by omega) (fun _ => rfl) (by omega) (by omega) (by omega) dX8_newBlock_93 (fun h355 hv355 hv355e => ?_)
            refine go_aload_n (pc := 94) rfl dX8_newBlock_94 ?_
            refine gi_getF (pc := 95) (q := 92) hv355 fL_X8_74 rfl (Nat.le_of_ble_eq_true rfl) rfl (hv355.rf (by decide)) dX8_newBlock_95 ?_
            refine go_iload_n (pc := 98) rfl dX8_newBlock_98 ?_
            refine go_iload_n (pc := 99) rfl dX8_newBlock_99 ?_
            refine gi_fst (pc := 100) (lo := -1) (hi := 259) (len := 560) hv355 e348 (ti_rfl a2) rfl (by omega) (by omega) (fun _ => rfl) (by omega) (by omega) (by omega) dX8_newBlock_100 (fun h356 hv356 hv356e => ?_)
            refine go_aload_n (pc := 101) rfl dX8_newBlock_101 ?_
            refine go_dup (pc := 102) rfl dX8_newBlock_102 ?_
            refine gi_get (pc := 103) (lo := 0) (hi := 500) hv356 fL_X8_163 rfl (Nat.le_of_ble_eq_true rfl) rfl rfl dX8_newBlock_103 (fun v357 v357l v357u v357w => ?_)
            have v357r : u335 = h356.2.1 70 4 := (show u335 = h356.2.1 70 4 from by rw [hv356e]; exact (g_iI rfl (show u335 = h355.2.1 70 4 from by rw [hv355e]; exact (g_iI rfl (show u335 = h354.2.1 70 4 from by rw [hv354e]; exact (g_iI rfl (show u335 = h353.2.1 70 4 from by rw [hv353e]; exact (g_iI rfl u335w.symm).symm).symm).symm).symm).symm).symm).symm)
            have v357q : TI v357 u335.toInt := by rw [v357w.trans v357r.symm]; exact (ti_rfl u335)
            refine go_iconst (pc := 106) (v := 1) (by decide) dX8_newBlock_106 ?_
            refine gf_iadd (pc := 107) v357q (ti_c (v := 1) (a := 1) (by decide)) (by omega) (by omega) dX8_newBlock_107 (fun v358 e359 => ?_)
            have E356 : h356.2.1 = (w1 (w1 (w1 (w1 h332.2.1 74 S (v351 : Int32)) 90 (((280 * S) + v346.toInt)) ((-1) : Int32)) 91 (((280 * S) + v346.toInt)) ((-1) : Int32)) 92 (((280 * S) + v346.toInt)) (a2 : Int32)) := by
              rw [hv356e, hv355e, hv354e, hv353e]
              rw [v342S]
              rfl
            have oh356 : OH h.2.1 h356.2.1 S := by rw [E356]; exact ((((oh332.trans (OH.w 1 rfl (by omega) (by omega) (by omega) (by omega))).trans (OH.w 280 rfl (by omega) (by omega) (by omega) (by omega))).trans (OH.w 280 rfl (by omega) (by omega) (by omega) (by omega))).trans (OH.w 280 rfl (by omega) (by omega) (by omega) (by omega)))
            have kp356 : KP h.2.1 h356.2.1 := by rw [E356]; exact ((((kp332.trans (KP.w (by omega))).trans (KP.w (by omega))).trans (KP.w (by omega))).trans (KP.w (by omega)))
            have n73_356 : V h356.2.1 73 S = V h332.2.1 73 S := by rw [E356, V_ne (by omega), V_ne (by omega), V_ne (by omega), V_ne (by omega)]
            have n74_356 : V h356.2.1 74 S = (v350.toInt + 1) := by rw [E356, V_ne (by omega), V_ne (by omega), V_ne (by omega), V_eq]; exact e352
            have n75_356 : V h356.2.1 75 S = V h332.2.1 75 S := by rw [E356, V_ne (by omega), V_ne (by omega), V_ne (by omega), V_ne (by omega)]
            have ck356 : CKF h.2.1 → CKF h356.2.1 := fun z => by rw [E356]; exact (CKF.w (by omega) (CKF.w (by omega) (CKF.w (by omega) (CKF.w (by omega) (ck332 z)))))
            refine gi_put (pc := 108) (lo := 0) (hi := 500) hv356 e359 (fP_X8_163 _) rfl (Nat.le_of_ble_eq_true rfl) rfl rfl (by omega) (by omega) rfl rfl (by decide) (by decide) (by decide) (by decide) dX8_newBlock_108 (fun h360 hv360 hv360e => ?_)
            have ve360 : VE h356.2.1 h360.2.1 := VE.of hv356 hv360
            have oh360 : OH h.2.1 h360.2.1 S := oh356.trans (OH.of hv356 hv360 S)
            have kp360 : KP h.2.1 h360.2.1 := kp356.trans (KP.ve ve360)
            have ck360 : CKF h.2.1 → CKF h360.2.1 := fun z => CKF.ve ve360 (ck356 z)
            have n73_360 : V h360.2.1 73 S = V h356.2.1 73 S := ve360.v (by omega) (by omega)
            have n74_360 : V h360.2.1 74 S = V h356.2.1 74 S := ve360.v (by omega) (by omega)
            have n75_360 : V h360.2.1 75 S = V h356.2.1 75 S := ve360.v (by omega) (by omega)
            refine go_iload_n (pc := 111) rfl dX8_newBlock_111 ?_
            have g361 : (0 : Int) ≤ (h360.2.1 70 4).toInt := (hv360.2.1 70 4).1
            have g362 : (h360.2.1 70 4).toInt ≤ 500 := (hv360.2.1 70 4).2
            have g363 : (-2147483648 : Int) ≤ (h360.2.1 70 5).toInt := (hv360.2.1 70 5).1
            have g364 : (h360.2.1 70 5).toInt ≤ 2147483647 := (hv360.2.1 70 5).2
            have g365 : (h360.2.1 70 5).toInt = u336.toInt := by rw [← (show u336 = h360.2.1 70 5 from (show u336 = h360.2.1 70 5 from by rw [hv360e]; exact (g_iI rfl (show u336 = h356.2.1 70 5 from by rw [hv356e]; exact (g_iI rfl (show u336 = h355.2.1 70 5 from by rw [hv355e]; exact (g_iI rfl (show u336 = h354.2.1 70 5 from by rw [hv354e]; exact (g_iI rfl (show u336 = h353.2.1 70 5 from by rw [hv353e]; exact (g_iI rfl u336w.symm).symm).symm).symm).symm).symm).symm).symm).symm).symm))] <;> exact (ti_rfl u336)
            have g366 : (h360.2.1 70 4).toInt = (u335.toInt + 1) := by rw [← (show v358 = h360.2.1 70 4 from (show v358 = h360.2.1 70 4 from by rw [hv360e]; exact g_iS.symm))] <;> exact e359
            have z368 : (v347 : Int32).toInt = ((280 * v342.toInt) + v346.toInt) := e348
            have pp367 : (h360.2.1 70 5).toInt = 0 → (h.2.1 70 5).toInt = 0 := (by omega)
            have z370 : (v347 : Int32).toInt = ((280 * v342.toInt) + v346.toInt) := e348
            have pp369 : (h.2.1 70 4).toInt ≤ (h360.2.1 70 4).toInt := (by omega)
            have z372 : (v347 : Int32).toInt = ((280 * v342.toInt) + v346.toInt) := e348
            have pp371 : (h360.2.1 70 5).toInt = 0 → (h.2.1 70 4).toInt + 1 ≤ (h360.2.1 70 4).toInt ∧ a3.toInt ≤ 6 ∧ V h360.2.1 74 S = V h.2.1 74 S + 1 := (by omega)
            have z374 : (v347 : Int32).toInt = ((280 * v342.toInt) + v346.toInt) := e348
            have pp373 : V h360.2.1 73 S = V h.2.1 73 S := (by omega)
            have z376 : (v347 : Int32).toInt = ((280 * v342.toInt) + v346.toInt) := e348
            have pp375 : V h360.2.1 75 S = V h.2.1 75 S := (by omega)
            have zz : (v347 : Int32).toInt = ((280 * v342.toInt) + v346.toInt) := e348
            have zy : (v351 : Int32).toInt = (v350.toInt + 1) := e352
            have pp377 : (h360.2.1 70 5).toInt = 0 → ∀ d : Int, LI h.2.1 h360.2.1 S a2.toInt d (v347 : Int32).toInt := (fun hg d => by rw [show (v347 : Int32).toInt = ((280 * S) + v346.toInt) from (by omega)]; exact LI.ve0 (ve195.trans ve332) (LI.init (x := (v351 : Int32)) (y := ((-1) : Int32)) (z := ((-1) : Int32)) (w := (a2 : Int32)) S0 (by rw [← E356]; exact ve360) (by omega) (by omega) (by decide) (by decide) rfl))
            subst hS
            exact gi_iret (pc := 112) e348 ⟨_, rfl, (by rw [show (v347 : Int32).toInt = ((280 * v342.toInt) + v346.toInt) from e348]; omega), (by rw [show (v347 : Int32).toInt = ((280 * v342.toInt) + v346.toInt) from e348]; omega), ⟨_, hv360, (MW.trans (MW.trans (MW.trans (MW.mz _ _) (MW.mz _ _)) (MW.mz _ _)) (MW.mz _ _))⟩, pp367, pp369, pp371, pp373, pp375, pp377, kp360, oh360, ck360⟩ hv360 dX8_newBlock_112
          ·
            refine go_iconst (pc := 46) (v := 0) (by decide) dX8_newBlock_46 ?_
            have g378 : (0 : Int) ≤ (h332.2.1 70 4).toInt := (hv332.2.1 70 4).1
            have g379 : (h332.2.1 70 4).toInt ≤ 500 := (hv332.2.1 70 4).2
            have g380 : (-2147483648 : Int) ≤ (h332.2.1 70 5).toInt := (hv332.2.1 70 5).1
            have g381 : (h332.2.1 70 5).toInt ≤ 2147483647 := (hv332.2.1 70 5).2
            have g382 : (h332.2.1 70 4).toInt = u335.toInt := by rw [← (show u335 = h332.2.1 70 4 from u335w)] <;> exact (ti_rfl u335)
            have g383 : (h332.2.1 70 5).toInt = u336.toInt := by rw [← (show u336 = h332.2.1 70 5 from u336w)] <;> exact (ti_rfl u336)
            have z385 : (0 : Int32).toInt = 0 := (ti_c (v := 0) (a := 0) (by decide))
            have pp384 : (h332.2.1 70 5).toInt = 0 → (h.2.1 70 5).toInt = 0 := (by omega)
            have z387 : (0 : Int32).toInt = 0 := (ti_c (v := 0) (a := 0) (by decide))
            have pp386 : (h.2.1 70 4).toInt ≤ (h332.2.1 70 4).toInt := (by omega)
            have z389 : (0 : Int32).toInt = 0 := (ti_c (v := 0) (a := 0) (by decide))
            have pp388 : (h332.2.1 70 5).toInt = 0 → (h.2.1 70 4).toInt + 1 ≤ (h332.2.1 70 4).toInt ∧ a3.toInt ≤ 6 ∧ V h332.2.1 74 S = V h.2.1 74 S + 1 := (by omega)
            have z391 : (0 : Int32).toInt = 0 := (ti_c (v := 0) (a := 0) (by decide))
            have pp390 : V h332.2.1 73 S = V h.2.1 73 S := (by omega)
            have z393 : (0 : Int32).toInt = 0 := (ti_c (v := 0) (a := 0) (by decide))
            have pp392 : V h332.2.1 75 S = V h.2.1 75 S := (by omega)
            have pp394 : (h332.2.1 70 5).toInt = 0 → ∀ d : Int, LI h.2.1 h332.2.1 S a2.toInt d (0 : Int32).toInt := (fun hg => absurd hg (by omega))
            subst hS
            exact gi_iret (pc := 47) (ti_c (v := 0) (a := 0) (by decide)) ⟨_, rfl, (by rw [show (0 : Int32).toInt = 0 from (ti_c (v := 0) (a := 0) (by decide))]; omega), (by rw [show (0 : Int32).toInt = 0 from (ti_c (v := 0) (a := 0) (by decide))]; omega), ⟨_, hv332, (MW.rfl _)⟩, pp384, pp386, pp388, pp390, pp392, pp394, kp332, oh332, ck332⟩ hv332 dX8_newBlock_47
    ·
      refine go_aload_n (pc := 16) rfl dX8_newBlock_16 ?_
      refine go_iconst (pc := 17) (v := 1) (by decide) dX8_newBlock_17 ?_
      have g395 : (0 : Int) ≤ (h195.2.1 70 4).toInt := (hv195.2.1 70 4).1
      have g396 : (h195.2.1 70 4).toInt ≤ 500 := (hv195.2.1 70 4).2
      have g397 : (-2147483648 : Int) ≤ (h195.2.1 70 5).toInt := (hv195.2.1 70 5).1
      have g398 : (h195.2.1 70 5).toInt ≤ 2147483647 := (hv195.2.1 70 5).2
      have g399 : (h195.2.1 70 4).toInt = u201.toInt := by rw [← (show u201 = h195.2.1 70 4 from u201w)] <;> exact (ti_rfl u201)
      have g400 : (h195.2.1 70 5).toInt = u202.toInt := by rw [← (show u202 = h195.2.1 70 5 from u202w)] <;> exact (ti_rfl u202)
      refine go_invV (pc := 18) (sl := 0) (s_X8_fails l (d + 0) hv195 1 (by rw [show (1 : Int32).toInt = 1 from (ti_c (v := 1) (a := 1) (by decide))]; omega) (by rw [show (1 : Int32).toInt = 1 from (ti_c (v := 1) (a := 1) (by decide))]; omega)) mL_X8_180 iM_X8_fails sM_X8_fails (hv195.sh rfl) rfl rfl rfl (Nat.le_of_ble_eq_true rfl) (show d + 0 + 1 + 1 ≤ d + 2 by omega) (show 8 + (2 + 11) + 40 * (d + 0 + 1) ≤ 40 * (d + 2) by omega) (g_c0 hv195.ln) (Nat.le_of_ble_eq_true rfl) dX8_newBlock_18 ?_
      intro r h401 hq _
      obtain ⟨rfl, hv401, f402, f403⟩ := hq
      try rw [show (1 : Int32).toInt = 1 from (ti_c (v := 1) (a := 1) (by decide))] at f402
      try rw [show (1 : Int32).toInt = 1 from (ti_c (v := 1) (a := 1) (by decide))] at f403
      have ve401 : VE h195.2.1 h401.2.1 := VE.of hv195 hv401
      have oh401 : OH h.2.1 h401.2.1 S := oh195.trans (OH.of hv195 hv401 S)
      have kp401 : KP h.2.1 h401.2.1 := kp195.trans (KP.ve ve401)
      have ck401 : CKF h.2.1 → CKF h401.2.1 := fun z => CKF.ve ve401 (ck195 z)
      have n73_401 : V h401.2.1 73 S = V h195.2.1 73 S := ve401.v (by omega) (by omega)
      have n74_401 : V h401.2.1 74 S = V h195.2.1 74 S := ve401.v (by omega) (by omega)
      have n75_401 : V h401.2.1 75 S = V h195.2.1 75 S := ve401.v (by omega) (by omega)
      obtain ⟨u404, u404w⟩ : ∃ v : Int32, v = h401.2.1 70 4 := ⟨_, rfl⟩
      have u404e : (h401.2.1 70 4).toInt = u404.toInt := by rw [u404w]
      have u404l : 0 ≤ u404.toInt := by rw [u404w]; exact (hv401.2.1 70 4).1
      have u404u : u404.toInt ≤ 500 := by rw [u404w]; exact (hv401.2.1 70 4).2
      obtain ⟨u405, u405w⟩ : ∃ v : Int32, v = h401.2.1 70 5 := ⟨_, rfl⟩
      have u405e : (h401.2.1 70 5).toInt = u405.toInt := by rw [u405w]
      have u405l : -2147483648 ≤ u405.toInt := by rw [u405w]; exact (hv401.2.1 70 5).1
      have u405u : u405.toInt ≤ 2147483647 := by rw [u405w]; exact (hv401.2.1 70 5).2
      refine go_aload_n (pc := 21) rfl dX8_newBlock_21 ?_
      refine go_invV (pc := 22) (sl := 0) (s_X8_isGood l (d + 0) hv401 ) mL_X8_172 iM_X8_isGood sM_X8_isGood (hv401.sh rfl) rfl rfl rfl (Nat.le_of_ble_eq_true rfl) (show d + 0 + 1 + 1 ≤ d + 2 by omega) (show 8 + (1 + 11) + 40 * (d + 0 + 1) ≤ 40 * (d + 2) by omega) (g_c0 hv401.ln) (Nat.le_of_ble_eq_true rfl) dX8_newBlock_22 ?_
      intro r h406 hq _
      obtain ⟨v409, rfl, v409l, v409u, rfl, f407, f408⟩ := hq
      refine gf_if_eq (pc := 25) (tgt := 39) (ti_rfl v409) (by decide) dX8_newBlock_25 (fun q410 => ?_) (fun q410 => ?_)
      ·
        refine go_aload_n (pc := 39) rfl dX8_newBlock_39 ?_
        refine go_invV (pc := 40) (sl := 0) (s_X8_isGood l (d + 0) hv401 ) mL_X8_172 iM_X8_isGood sM_X8_isGood (hv401.sh rfl) rfl rfl rfl (Nat.le_of_ble_eq_true rfl) (show d + 0 + 1 + 1 ≤ d + 2 by omega) (show 8 + (1 + 11) + 40 * (d + 0 + 1) ≤ 40 * (d + 2) by omega) (g_c0 hv401.ln) (Nat.le_of_ble_eq_true rfl) dX8_newBlock_40 ?_
        intro r h411 hq _
        obtain ⟨v414, rfl, v414l, v414u, rfl, f412, f413⟩ := hq
        refine gf_if_ne (pc := 43) (tgt := 48) (ti_rfl v414) (by decide) dX8_newBlock_43 (fun q415 => ?_) (fun q415 => ?_)
        ·
          refine go_sipush (pc := 48) (v := 280) (by decide) dX8_newBlock_48 ?_
          refine go_aload_n (pc := 51) rfl dX8_newBlock_51 ?_
          refine gi_get (pc := 52) (lo := 0) (hi := 1) hv401 fL_X8_187 rfl (Nat.le_of_ble_eq_true rfl) rfl rfl dX8_newBlock_52 (fun v416 v416l v416u v416w => ?_)
          have v416S : v416.toInt = S := by rw [v416w]; exact (congrArg Int32.toInt oh401.side).trans hS.symm
          refine gf_imul (pc := 55) (ti_c (v := 280) (a := 280) (by decide)) (ti_rfl v416) (by omega) (by omega) dX8_newBlock_55 (fun v417 e418 => ?_)
          refine go_aload_n (pc := 56) rfl dX8_newBlock_56 ?_
          refine gi_getF (pc := 57) (q := 74) hv401 fL_X8_20 rfl (Nat.le_of_ble_eq_true rfl) rfl (hv401.rf (by decide)) dX8_newBlock_57 ?_
          refine go_aload_n (pc := 60) rfl dX8_newBlock_60 ?_
          refine gi_get (pc := 61) (lo := 0) (hi := 1) hv401 fL_X8_187 rfl (Nat.le_of_ble_eq_true rfl) rfl rfl dX8_newBlock_61 (fun v419 v419l v419u v419w => ?_)
          have v419r : v416 = h401.2.1 70 6 := v416w
          have v419q : TI v419 v416.toInt := by rw [v419w.trans v419r.symm]; exact (ti_rfl v416)
          refine gi_iald (pc := 64) (lo := 0) (hi := 280) (len := 2) hv401 v419q rfl (by omega) (by omega) (fun _ => rfl) dX8_newBlock_64 (fun v420 v420l v420u v420w => ?_)
          have v420V : v420.toInt = V h401.2.1 74 S := by rw [v420w, v416S]; rfl
          refine gf_iadd (pc := 65) e418 (ti_rfl v420) (by omega) (by omega) dX8_newBlock_65 (fun v421 e422 => ?_)
          refine go_istore_n (pc := 66) (Nat.le_of_ble_eq_true rfl) dX8_newBlock_66 (go_lv (lv2 := [(0, .ref 70), (1, .int a2), (2, .int a3), (3, .int v421)]) rfl ?_)
          refine go_aload_n (pc := 67) rfl dX8_newBlock_67 ?_
          refine gi_getF (pc := 68) (q := 74) hv401 fL_X8_20 rfl (Nat.le_of_ble_eq_true rfl) rfl (hv401.rf (by decide)) dX8_newBlock_68 ?_
          refine go_aload_n (pc := 71) rfl dX8_newBlock_71 ?_
          refine gi_get (pc := 72) (lo := 0) (hi := 1) hv401 fL_X8_187 rfl (Nat.le_of_ble_eq_true rfl) rfl rfl dX8_newBlock_72 (fun v423 v423l v423u v423w => ?_)
          have v423r : v416 = h401.2.1 70 6 := v416w
          have v423q : TI v423 v416.toInt := by rw [v423w.trans v423r.symm]; exact (ti_rfl v416)
          refine go_dup2 (pc := 75) rfl rfl dX8_newBlock_75 ?_
          refine gi_iald (pc := 76) (lo := 0) (hi := 280) (len := 2) hv401 v423q rfl (by omega) (by omega) (fun _ => rfl) dX8_newBlock_76 (fun v424 v424l v424u v424w => ?_)
          have v424V : v424.toInt = V h401.2.1 74 S := by rw [v424w, v416S]; rfl
          refine go_iconst (pc := 77) (v := 1) (by decide) dX8_newBlock_77 ?_
          refine gf_iadd (pc := 78) (ti_rfl v424) (ti_c (v := 1) (a := 1) (by decide)) (by omega) (by omega) dX8_newBlock_78 (fun v425 e426 => ?_)
          refine gi_fst (pc := 79) (lo := 0) (hi := 280) (len := 2) hv401 v423q e426 rfl (by omega) (by omega) (fun _ => rfl) (by omega) (by omega) (by omega) dX8_newBlock_79 (fun h427 hv427 hv427e => ?_)
          refine go_aload_n (pc := 80) rfl dX8_newBlock_80 ?_
          refine gi_getF (pc := 81) (q := 90) hv427 fL_X8_68 rfl (Nat.le_of_ble_eq_true rfl) rfl (hv427.rf (by decide)) dX8_newBlock_81 ?_
          refine go_iload_n (pc := 84) rfl dX8_newBlock_84 ?_
          refine go_iconst (pc := 85) (v := (-1)) (by decide) dX8_newBlock_85 ?_
          refine gi_fst (pc := 86) (lo := -1) (hi := 259) (len := 560) hv427 e422 (ti_c (v := (-1)) (a := (-1)) (by decide)) rfl (by omega) (by omega) (fun _ => rfl) (by omega) (by omega) (by omega) dX8_newBlock_86 (fun h428 hv428 hv428e => ?_)
          refine go_aload_n (pc := 87) rfl dX8_newBlock_87 ?_
          refine gi_getF (pc := 88) (q := 91) hv428 fL_X8_71 rfl (Nat.le_of_ble_eq_true rfl) rfl (hv428.rf (by decide)) dX8_newBlock_88 ?_
          refine go_iload_n (pc := 91) rfl dX8_newBlock_91 ?_
          refine go_iconst (pc := 92) (v := (-1)) (by decide) dX8_newBlock_92 ?_
          refine gi_fst (pc := 93) (lo := -1) (hi := 259) (len := 560) hv428 e422 (ti_c (v := (-1)) (a := (-1)) (by decide)) rfl (by omega) (by omega) (fun _ => rfl) (by omega) (by omega) (by omega) dX8_newBlock_93 (fun h429 hv429 hv429e => ?_)
          refine go_aload_n (pc := 94) rfl dX8_newBlock_94 ?_
          refine gi_getF (pc := 95) (q := 92) hv429 fL_X8_74 rfl (Nat.le_of_ble_eq_true rfl) rfl (hv429.rf (by decide)) dX8_newBlock_95 ?_
          refine go_iload_n (pc := 98) rfl dX8_newBlock_98 ?_
          refine go_iload_n (pc := 99) rfl dX8_newBlock_99 ?_
          refine gi_fst (pc := 100) (lo := -1) (hi := 259) (len := 560) hv429 e422 (ti_rfl a2) rfl (by omega) (by omega) (fun _ => rfl) (by omega) (by omega) (by omega) dX8_newBlock_100 (fun h430 hv430 hv430e => ?_)
          refine go_aload_n (pc := 101) rfl dX8_newBlock_101 ?_
          refine go_dup (pc := 102) rfl dX8_newBlock_102 ?_
          refine gi_get (pc := 103) (lo := 0) (hi := 500) hv430 fL_X8_163 rfl (Nat.le_of_ble_eq_true rfl) rfl rfl dX8_newBlock_103 (fun v431 v431l v431u v431w => ?_)
          have v431r : u404 = h430.2.1 70 4 := (show u404 = h430.2.1 70 4 from by rw [hv430e]; exact (g_iI rfl (show u404 = h429.2.1 70 4 from by rw [hv429e]; exact (g_iI rfl (show u404 = h428.2.1 70 4 from by rw [hv428e]; exact (g_iI rfl (show u404 = h427.2.1 70 4 from by rw [hv427e]; exact (g_iI rfl u404w.symm).symm).symm).symm).symm).symm).symm).symm)
          have v431q : TI v431 u404.toInt := by rw [v431w.trans v431r.symm]; exact (ti_rfl u404)
          refine go_iconst (pc := 106) (v := 1) (by decide) dX8_newBlock_106 ?_
          refine gf_iadd (pc := 107) v431q (ti_c (v := 1) (a := 1) (by decide)) (by omega) (by omega) dX8_newBlock_107 (fun v432 e433 => ?_)
          have E430 : h430.2.1 = (w1 (w1 (w1 (w1 h401.2.1 74 S (v425 : Int32)) 90 (((280 * S) + v420.toInt)) ((-1) : Int32)) 91 (((280 * S) + v420.toInt)) ((-1) : Int32)) 92 (((280 * S) + v420.toInt)) (a2 : Int32)) := by
            rw [hv430e, hv429e, hv428e, hv427e]
            rw [v416S]
            rfl
          have oh430 : OH h.2.1 h430.2.1 S := by rw [E430]; exact ((((oh401.trans (OH.w 1 rfl (by omega) (by omega) (by omega) (by omega))).trans (OH.w 280 rfl (by omega) (by omega) (by omega) (by omega))).trans (OH.w 280 rfl (by omega) (by omega) (by omega) (by omega))).trans (OH.w 280 rfl (by omega) (by omega) (by omega) (by omega)))
          have kp430 : KP h.2.1 h430.2.1 := by rw [E430]; exact ((((kp401.trans (KP.w (by omega))).trans (KP.w (by omega))).trans (KP.w (by omega))).trans (KP.w (by omega)))
          have n73_430 : V h430.2.1 73 S = V h401.2.1 73 S := by rw [E430, V_ne (by omega), V_ne (by omega), V_ne (by omega), V_ne (by omega)]
          have n74_430 : V h430.2.1 74 S = (v424.toInt + 1) := by rw [E430, V_ne (by omega), V_ne (by omega), V_ne (by omega), V_eq]; exact e426
          have n75_430 : V h430.2.1 75 S = V h401.2.1 75 S := by rw [E430, V_ne (by omega), V_ne (by omega), V_ne (by omega), V_ne (by omega)]
          have ck430 : CKF h.2.1 → CKF h430.2.1 := fun z => by rw [E430]; exact (CKF.w (by omega) (CKF.w (by omega) (CKF.w (by omega) (CKF.w (by omega) (ck401 z)))))
          refine gi_put (pc := 108) (lo := 0) (hi := 500) hv430 e433 (fP_X8_163 _) rfl (Nat.le_of_ble_eq_true rfl) rfl rfl (by omega) (by omega) rfl rfl (by decide) (by decide) (by decide) (by decide) dX8_newBlock_108 (fun h434 hv434 hv434e => ?_)
          have ve434 : VE h430.2.1 h434.2.1 := VE.of hv430 hv434
          have oh434 : OH h.2.1 h434.2.1 S := oh430.trans (OH.of hv430 hv434 S)
          have kp434 : KP h.2.1 h434.2.1 := kp430.trans (KP.ve ve434)
          have ck434 : CKF h.2.1 → CKF h434.2.1 := fun z => CKF.ve ve434 (ck430 z)
          have n73_434 : V h434.2.1 73 S = V h430.2.1 73 S := ve434.v (by omega) (by omega)
          have n74_434 : V h434.2.1 74 S = V h430.2.1 74 S := ve434.v (by omega) (by omega)
          have n75_434 : V h434.2.1 75 S = V h430.2.1 75 S := ve434.v (by omega) (by omega)
          refine go_iload_n (pc := 111) rfl dX8_newBlock_111 ?_
          have g435 : (0 : Int) ≤ (h434.2.1 70 4).toInt := (hv434.2.1 70 4).1
          have g436 : (h434.2.1 70 4).toInt ≤ 500 := (hv434.2.1 70 4).2
          have g437 : (-2147483648 : Int) ≤ (h434.2.1 70 5).toInt := (hv434.2.1 70 5).1
          have g438 : (h434.2.1 70 5).toInt ≤ 2147483647 := (hv434.2.1 70 5).2
          have g439 : (h434.2.1 70 5).toInt = u405.toInt := by rw [← (show u405 = h434.2.1 70 5 from (show u405 = h434.2.1 70 5 from by rw [hv434e]; exact (g_iI rfl (show u405 = h430.2.1 70 5 from by rw [hv430e]; exact (g_iI rfl (show u405 = h429.2.1 70 5 from by rw [hv429e]; exact (g_iI rfl (show u405 = h428.2.1 70 5 from by rw [hv428e]; exact (g_iI rfl (show u405 = h427.2.1 70 5 from by rw [hv427e]; exact (g_iI rfl u405w.symm).symm).symm).symm).symm).symm).symm).symm).symm).symm))] <;> exact (ti_rfl u405)
          have g440 : (h434.2.1 70 4).toInt = (u404.toInt + 1) := by rw [← (show v432 = h434.2.1 70 4 from (show v432 = h434.2.1 70 4 from by rw [hv434e]; exact g_iS.symm))] <;> exact e433
          have z442 : (v421 : Int32).toInt = ((280 * v416.toInt) + v420.toInt) := e422
          have pp441 : (h434.2.1 70 5).toInt = 0 → (h.2.1 70 5).toInt = 0 := (by omega)
          have z444 : (v421 : Int32).toInt = ((280 * v416.toInt) + v420.toInt) := e422
          have pp443 : (h.2.1 70 4).toInt ≤ (h434.2.1 70 4).toInt := (by omega)
          have z446 : (v421 : Int32).toInt = ((280 * v416.toInt) + v420.toInt) := e422
          have pp445 : (h434.2.1 70 5).toInt = 0 → (h.2.1 70 4).toInt + 1 ≤ (h434.2.1 70 4).toInt ∧ a3.toInt ≤ 6 ∧ V h434.2.1 74 S = V h.2.1 74 S + 1 := (by omega)
          have z448 : (v421 : Int32).toInt = ((280 * v416.toInt) + v420.toInt) := e422
          have pp447 : V h434.2.1 73 S = V h.2.1 73 S := (by omega)
          have z450 : (v421 : Int32).toInt = ((280 * v416.toInt) + v420.toInt) := e422
          have pp449 : V h434.2.1 75 S = V h.2.1 75 S := (by omega)
          have zz : (v421 : Int32).toInt = ((280 * v416.toInt) + v420.toInt) := e422
          have zy : (v425 : Int32).toInt = (v424.toInt + 1) := e426
          have pp451 : (h434.2.1 70 5).toInt = 0 → ∀ d : Int, LI h.2.1 h434.2.1 S a2.toInt d (v421 : Int32).toInt := (fun hg d => by rw [show (v421 : Int32).toInt = ((280 * S) + v420.toInt) from (by omega)]; exact LI.ve0 (ve195.trans ve401) (LI.init (x := (v425 : Int32)) (y := ((-1) : Int32)) (z := ((-1) : Int32)) (w := (a2 : Int32)) S0 (by rw [← E430]; exact ve434) (by omega) (by omega) (by decide) (by decide) rfl))
          subst hS
          exact gi_iret (pc := 112) e422 ⟨_, rfl, (by rw [show (v421 : Int32).toInt = ((280 * v416.toInt) + v420.toInt) from e422]; omega), (by rw [show (v421 : Int32).toInt = ((280 * v416.toInt) + v420.toInt) from e422]; omega), ⟨_, hv434, (MW.trans (MW.trans (MW.trans (MW.mz _ _) (MW.mz _ _)) (MW.mz _ _)) (MW.mz _ _))⟩, pp441, pp443, pp445, pp447, pp449, pp451, kp434, oh434, ck434⟩ hv434 dX8_newBlock_112
        ·
          refine go_iconst (pc := 46) (v := 0) (by decide) dX8_newBlock_46 ?_
          have g452 : (0 : Int) ≤ (h401.2.1 70 4).toInt := (hv401.2.1 70 4).1
          have g453 : (h401.2.1 70 4).toInt ≤ 500 := (hv401.2.1 70 4).2
          have g454 : (-2147483648 : Int) ≤ (h401.2.1 70 5).toInt := (hv401.2.1 70 5).1
          have g455 : (h401.2.1 70 5).toInt ≤ 2147483647 := (hv401.2.1 70 5).2
          have g456 : (h401.2.1 70 4).toInt = u404.toInt := by rw [← (show u404 = h401.2.1 70 4 from u404w)] <;> exact (ti_rfl u404)
          have g457 : (h401.2.1 70 5).toInt = u405.toInt := by rw [← (show u405 = h401.2.1 70 5 from u405w)] <;> exact (ti_rfl u405)
          have z459 : (0 : Int32).toInt = 0 := (ti_c (v := 0) (a := 0) (by decide))
          have pp458 : (h401.2.1 70 5).toInt = 0 → (h.2.1 70 5).toInt = 0 := (by omega)
          have z461 : (0 : Int32).toInt = 0 := (ti_c (v := 0) (a := 0) (by decide))
          have pp460 : (h.2.1 70 4).toInt ≤ (h401.2.1 70 4).toInt := (by omega)
          have z463 : (0 : Int32).toInt = 0 := (ti_c (v := 0) (a := 0) (by decide))
          have pp462 : (h401.2.1 70 5).toInt = 0 → (h.2.1 70 4).toInt + 1 ≤ (h401.2.1 70 4).toInt ∧ a3.toInt ≤ 6 ∧ V h401.2.1 74 S = V h.2.1 74 S + 1 := (by omega)
          have z465 : (0 : Int32).toInt = 0 := (ti_c (v := 0) (a := 0) (by decide))
          have pp464 : V h401.2.1 73 S = V h.2.1 73 S := (by omega)
          have z467 : (0 : Int32).toInt = 0 := (ti_c (v := 0) (a := 0) (by decide))
          have pp466 : V h401.2.1 75 S = V h.2.1 75 S := (by omega)
          have pp468 : (h401.2.1 70 5).toInt = 0 → ∀ d : Int, LI h.2.1 h401.2.1 S a2.toInt d (0 : Int32).toInt := (fun hg => absurd hg (by omega))
          subst hS
          exact gi_iret (pc := 47) (ti_c (v := 0) (a := 0) (by decide)) ⟨_, rfl, (by rw [show (0 : Int32).toInt = 0 from (ti_c (v := 0) (a := 0) (by decide))]; omega), (by rw [show (0 : Int32).toInt = 0 from (ti_c (v := 0) (a := 0) (by decide))]; omega), ⟨_, hv401, (MW.rfl _)⟩, pp458, pp460, pp462, pp464, pp466, pp468, kp401, oh401, ck401⟩ hv401 dX8_newBlock_47
      ·
        refine go_iload_n (pc := 28) rfl dX8_newBlock_28 ?_
        refine go_bipush (pc := 29) (v := 6) (by decide) dX8_newBlock_29 ?_
        refine gf_icmp_le (pc := 31) (tgt := 39) (ti_rfl a3) (ti_c (v := 6) (a := 6) (by decide)) (by decide) dX8_newBlock_31 (fun q469 => ?_) (fun q469 => ?_)
        ·
          refine go_aload_n (pc := 39) rfl dX8_newBlock_39 ?_
          refine go_invV (pc := 40) (sl := 0) (s_X8_isGood l (d + 0) hv401 ) mL_X8_172 iM_X8_isGood sM_X8_isGood (hv401.sh rfl) rfl rfl rfl (Nat.le_of_ble_eq_true rfl) (show d + 0 + 1 + 1 ≤ d + 2 by omega) (show 8 + (1 + 11) + 40 * (d + 0 + 1) ≤ 40 * (d + 2) by omega) (g_c0 hv401.ln) (Nat.le_of_ble_eq_true rfl) dX8_newBlock_40 ?_
          intro r h470 hq _
          obtain ⟨v473, rfl, v473l, v473u, rfl, f471, f472⟩ := hq
          refine gf_if_ne (pc := 43) (tgt := 48) (ti_rfl v473) (by decide) dX8_newBlock_43 (fun q474 => ?_) (fun q474 => ?_)
          ·
            refine go_sipush (pc := 48) (v := 280) (by decide) dX8_newBlock_48 ?_
            refine go_aload_n (pc := 51) rfl dX8_newBlock_51 ?_
            refine gi_get (pc := 52) (lo := 0) (hi := 1) hv401 fL_X8_187 rfl (Nat.le_of_ble_eq_true rfl) rfl rfl dX8_newBlock_52 (fun v475 v475l v475u v475w => ?_)
            have v475S : v475.toInt = S := by rw [v475w]; exact (congrArg Int32.toInt oh401.side).trans hS.symm
            refine gf_imul (pc := 55) (ti_c (v := 280) (a := 280) (by decide)) (ti_rfl v475) (by omega) (by omega) dX8_newBlock_55 (fun v476 e477 => ?_)
            refine go_aload_n (pc := 56) rfl dX8_newBlock_56 ?_
            refine gi_getF (pc := 57) (q := 74) hv401 fL_X8_20 rfl (Nat.le_of_ble_eq_true rfl) rfl (hv401.rf (by decide)) dX8_newBlock_57 ?_
            refine go_aload_n (pc := 60) rfl dX8_newBlock_60 ?_
            refine gi_get (pc := 61) (lo := 0) (hi := 1) hv401 fL_X8_187 rfl (Nat.le_of_ble_eq_true rfl) rfl rfl dX8_newBlock_61 (fun v478 v478l v478u v478w => ?_)
            have v478r : v475 = h401.2.1 70 6 := v475w
            have v478q : TI v478 v475.toInt := by rw [v478w.trans v478r.symm]; exact (ti_rfl v475)
            refine gi_iald (pc := 64) (lo := 0) (hi := 280) (len := 2) hv401 v478q rfl (by omega) (by omega) (fun _ => rfl) dX8_newBlock_64 (fun v479 v479l v479u v479w => ?_)
            have v479V : v479.toInt = V h401.2.1 74 S := by rw [v479w, v475S]; rfl
            refine gf_iadd (pc := 65) e477 (ti_rfl v479) (by omega) (by omega) dX8_newBlock_65 (fun v480 e481 => ?_)
            refine go_istore_n (pc := 66) (Nat.le_of_ble_eq_true rfl) dX8_newBlock_66 (go_lv (lv2 := [(0, .ref 70), (1, .int a2), (2, .int a3), (3, .int v480)]) rfl ?_)
            refine go_aload_n (pc := 67) rfl dX8_newBlock_67 ?_
            refine gi_getF (pc := 68) (q := 74) hv401 fL_X8_20 rfl (Nat.le_of_ble_eq_true rfl) rfl (hv401.rf (by decide)) dX8_newBlock_68 ?_
            refine go_aload_n (pc := 71) rfl dX8_newBlock_71 ?_
            refine gi_get (pc := 72) (lo := 0) (hi := 1) hv401 fL_X8_187 rfl (Nat.le_of_ble_eq_true rfl) rfl rfl dX8_newBlock_72 (fun v482 v482l v482u v482w => ?_)
            have v482r : v475 = h401.2.1 70 6 := v475w
            have v482q : TI v482 v475.toInt := by rw [v482w.trans v482r.symm]; exact (ti_rfl v475)
            refine go_dup2 (pc := 75) rfl rfl dX8_newBlock_75 ?_
            refine gi_iald (pc := 76) (lo := 0) (hi := 280) (len := 2) hv401 v482q rfl (by omega) (by omega) (fun _ => rfl) dX8_newBlock_76 (fun v483 v483l v483u v483w => ?_)
            have v483V : v483.toInt = V h401.2.1 74 S := by rw [v483w, v475S]; rfl
            refine go_iconst (pc := 77) (v := 1) (by decide) dX8_newBlock_77 ?_
            refine gf_iadd (pc := 78) (ti_rfl v483) (ti_c (v := 1) (a := 1) (by decide)) (by omega) (by omega) dX8_newBlock_78 (fun v484 e485 => ?_)
            refine gi_fst (pc := 79) (lo := 0) (hi := 280) (len := 2) hv401 v482q e485 rfl (by omega) (by omega) (fun _ => rfl) (by omega) (by omega) (by omega) dX8_newBlock_79 (fun h486 hv486 hv486e => ?_)
            refine go_aload_n (pc := 80) rfl dX8_newBlock_80 ?_
            refine gi_getF (pc := 81) (q := 90) hv486 fL_X8_68 rfl (Nat.le_of_ble_eq_true rfl) rfl (hv486.rf (by decide)) dX8_newBlock_81 ?_
            refine go_iload_n (pc := 84) rfl dX8_newBlock_84 ?_
            refine go_iconst (pc := 85) (v := (-1)) (by decide) dX8_newBlock_85 ?_
            refine gi_fst (pc := 86) (lo := -1) (hi := 259) (len := 560) hv486 e481 (ti_c (v := (-1)) (a := (-1)) (by decide)) rfl (by omega) (by omega) (fun _ => rfl) (by omega) (by omega) (by omega) dX8_newBlock_86 (fun h487 hv487 hv487e => ?_)
            refine go_aload_n (pc := 87) rfl dX8_newBlock_87 ?_
            refine gi_getF (pc := 88) (q := 91) hv487 fL_X8_71 rfl (Nat.le_of_ble_eq_true rfl) rfl (hv487.rf (by decide)) dX8_newBlock_88 ?_
            refine go_iload_n (pc := 91) rfl dX8_newBlock_91 ?_
            refine go_iconst (pc := 92) (v := (-1)) (by decide) dX8_newBlock_92 ?_
            refine gi_fst (pc := 93) (lo := -1) (hi := 259) (len := 560) hv487 e481 (ti_c (v := (-1)) (a := (-1)) (by decide)) rfl (by omega) (by omega) (fun _ => rfl) (by omega) (by omega) (by omega) dX8_newBlock_93 (fun h488 hv488 hv488e => ?_)
            refine go_aload_n (pc := 94) rfl dX8_newBlock_94 ?_
            refine gi_getF (pc := 95) (q := 92) hv488 fL_X8_74 rfl (Nat.le_of_ble_eq_true rfl) rfl (hv488.rf (by decide)) dX8_newBlock_95 ?_
            refine go_iload_n (pc := 98) rfl dX8_newBlock_98 ?_
            refine go_iload_n (pc := 99) rfl dX8_newBlock_99 ?_
            refine gi_fst (pc := 100) (lo := -1) (hi := 259) (len := 560) hv488 e481 (ti_rfl a2) rfl (by omega) (by omega) (fun _ => rfl) (by omega) (by omega) (by omega) dX8_newBlock_100 (fun h489 hv489 hv489e => ?_)
            refine go_aload_n (pc := 101) rfl dX8_newBlock_101 ?_
            refine go_dup (pc := 102) rfl dX8_newBlock_102 ?_
            refine gi_get (pc := 103) (lo := 0) (hi := 500) hv489 fL_X8_163 rfl (Nat.le_of_ble_eq_true rfl) rfl rfl dX8_newBlock_103 (fun v490 v490l v490u v490w => ?_)
            have v490r : u404 = h489.2.1 70 4 := (show u404 = h489.2.1 70 4 from by rw [hv489e]; exact (g_iI rfl (show u404 = h488.2.1 70 4 from by rw [hv488e]; exact (g_iI rfl (show u404 = h487.2.1 70 4 from by rw [hv487e]; exact (g_iI rfl (show u404 = h486.2.1 70 4 from by rw [hv486e]; exact (g_iI rfl u404w.symm).symm).symm).symm).symm).symm).symm).symm)
            have v490q : TI v490 u404.toInt := by rw [v490w.trans v490r.symm]; exact (ti_rfl u404)
            refine go_iconst (pc := 106) (v := 1) (by decide) dX8_newBlock_106 ?_
            refine gf_iadd (pc := 107) v490q (ti_c (v := 1) (a := 1) (by decide)) (by omega) (by omega) dX8_newBlock_107 (fun v491 e492 => ?_)
            have E489 : h489.2.1 = (w1 (w1 (w1 (w1 h401.2.1 74 S (v484 : Int32)) 90 (((280 * S) + v479.toInt)) ((-1) : Int32)) 91 (((280 * S) + v479.toInt)) ((-1) : Int32)) 92 (((280 * S) + v479.toInt)) (a2 : Int32)) := by
              rw [hv489e, hv488e, hv487e, hv486e]
              rw [v475S]
              rfl
            have oh489 : OH h.2.1 h489.2.1 S := by rw [E489]; exact ((((oh401.trans (OH.w 1 rfl (by omega) (by omega) (by omega) (by omega))).trans (OH.w 280 rfl (by omega) (by omega) (by omega) (by omega))).trans (OH.w 280 rfl (by omega) (by omega) (by omega) (by omega))).trans (OH.w 280 rfl (by omega) (by omega) (by omega) (by omega)))
            have kp489 : KP h.2.1 h489.2.1 := by rw [E489]; exact ((((kp401.trans (KP.w (by omega))).trans (KP.w (by omega))).trans (KP.w (by omega))).trans (KP.w (by omega)))
            have n73_489 : V h489.2.1 73 S = V h401.2.1 73 S := by rw [E489, V_ne (by omega), V_ne (by omega), V_ne (by omega), V_ne (by omega)]
            have n74_489 : V h489.2.1 74 S = (v483.toInt + 1) := by rw [E489, V_ne (by omega), V_ne (by omega), V_ne (by omega), V_eq]; exact e485
            have n75_489 : V h489.2.1 75 S = V h401.2.1 75 S := by rw [E489, V_ne (by omega), V_ne (by omega), V_ne (by omega), V_ne (by omega)]
            have ck489 : CKF h.2.1 → CKF h489.2.1 := fun z => by rw [E489]; exact (CKF.w (by omega) (CKF.w (by omega) (CKF.w (by omega) (CKF.w (by omega) (ck401 z)))))
            refine gi_put (pc := 108) (lo := 0) (hi := 500) hv489 e492 (fP_X8_163 _) rfl (Nat.le_of_ble_eq_true rfl) rfl rfl (by omega) (by omega) rfl rfl (by decide) (by decide) (by decide) (by decide) dX8_newBlock_108 (fun h493 hv493 hv493e => ?_)
            have ve493 : VE h489.2.1 h493.2.1 := VE.of hv489 hv493
            have oh493 : OH h.2.1 h493.2.1 S := oh489.trans (OH.of hv489 hv493 S)
            have kp493 : KP h.2.1 h493.2.1 := kp489.trans (KP.ve ve493)
            have ck493 : CKF h.2.1 → CKF h493.2.1 := fun z => CKF.ve ve493 (ck489 z)
            have n73_493 : V h493.2.1 73 S = V h489.2.1 73 S := ve493.v (by omega) (by omega)
            have n74_493 : V h493.2.1 74 S = V h489.2.1 74 S := ve493.v (by omega) (by omega)
            have n75_493 : V h493.2.1 75 S = V h489.2.1 75 S := ve493.v (by omega) (by omega)
            refine go_iload_n (pc := 111) rfl dX8_newBlock_111 ?_
            have g494 : (0 : Int) ≤ (h493.2.1 70 4).toInt := (hv493.2.1 70 4).1
            have g495 : (h493.2.1 70 4).toInt ≤ 500 := (hv493.2.1 70 4).2
            have g496 : (-2147483648 : Int) ≤ (h493.2.1 70 5).toInt := (hv493.2.1 70 5).1
            have g497 : (h493.2.1 70 5).toInt ≤ 2147483647 := (hv493.2.1 70 5).2
            have g498 : (h493.2.1 70 5).toInt = u405.toInt := by rw [← (show u405 = h493.2.1 70 5 from (show u405 = h493.2.1 70 5 from by rw [hv493e]; exact (g_iI rfl (show u405 = h489.2.1 70 5 from by rw [hv489e]; exact (g_iI rfl (show u405 = h488.2.1 70 5 from by rw [hv488e]; exact (g_iI rfl (show u405 = h487.2.1 70 5 from by rw [hv487e]; exact (g_iI rfl (show u405 = h486.2.1 70 5 from by rw [hv486e]; exact (g_iI rfl u405w.symm).symm).symm).symm).symm).symm).symm).symm).symm).symm))] <;> exact (ti_rfl u405)
            have g499 : (h493.2.1 70 4).toInt = (u404.toInt + 1) := by rw [← (show v491 = h493.2.1 70 4 from (show v491 = h493.2.1 70 4 from by rw [hv493e]; exact g_iS.symm))] <;> exact e492
            have z501 : (v480 : Int32).toInt = ((280 * v475.toInt) + v479.toInt) := e481
            have pp500 : (h493.2.1 70 5).toInt = 0 → (h.2.1 70 5).toInt = 0 := (by omega)
            have z503 : (v480 : Int32).toInt = ((280 * v475.toInt) + v479.toInt) := e481
            have pp502 : (h.2.1 70 4).toInt ≤ (h493.2.1 70 4).toInt := (by omega)
            have z505 : (v480 : Int32).toInt = ((280 * v475.toInt) + v479.toInt) := e481
            have pp504 : (h493.2.1 70 5).toInt = 0 → (h.2.1 70 4).toInt + 1 ≤ (h493.2.1 70 4).toInt ∧ a3.toInt ≤ 6 ∧ V h493.2.1 74 S = V h.2.1 74 S + 1 := (by omega)
            have z507 : (v480 : Int32).toInt = ((280 * v475.toInt) + v479.toInt) := e481
            have pp506 : V h493.2.1 73 S = V h.2.1 73 S := (by omega)
            have z509 : (v480 : Int32).toInt = ((280 * v475.toInt) + v479.toInt) := e481
            have pp508 : V h493.2.1 75 S = V h.2.1 75 S := (by omega)
            have zz : (v480 : Int32).toInt = ((280 * v475.toInt) + v479.toInt) := e481
            have zy : (v484 : Int32).toInt = (v483.toInt + 1) := e485
            have pp510 : (h493.2.1 70 5).toInt = 0 → ∀ d : Int, LI h.2.1 h493.2.1 S a2.toInt d (v480 : Int32).toInt := (fun hg d => by rw [show (v480 : Int32).toInt = ((280 * S) + v479.toInt) from (by omega)]; exact LI.ve0 (ve195.trans ve401) (LI.init (x := (v484 : Int32)) (y := ((-1) : Int32)) (z := ((-1) : Int32)) (w := (a2 : Int32)) S0 (by rw [← E489]; exact ve493) (by omega) (by omega) (by decide) (by decide) rfl))
            subst hS
            exact gi_iret (pc := 112) e481 ⟨_, rfl, (by rw [show (v480 : Int32).toInt = ((280 * v475.toInt) + v479.toInt) from e481]; omega), (by rw [show (v480 : Int32).toInt = ((280 * v475.toInt) + v479.toInt) from e481]; omega), ⟨_, hv493, (MW.trans (MW.trans (MW.trans (MW.mz _ _) (MW.mz _ _)) (MW.mz _ _)) (MW.mz _ _))⟩, pp500, pp502, pp504, pp506, pp508, pp510, kp493, oh493, ck493⟩ hv493 dX8_newBlock_112
          ·
            refine go_iconst (pc := 46) (v := 0) (by decide) dX8_newBlock_46 ?_
            have g511 : (0 : Int) ≤ (h401.2.1 70 4).toInt := (hv401.2.1 70 4).1
            have g512 : (h401.2.1 70 4).toInt ≤ 500 := (hv401.2.1 70 4).2
            have g513 : (-2147483648 : Int) ≤ (h401.2.1 70 5).toInt := (hv401.2.1 70 5).1
            have g514 : (h401.2.1 70 5).toInt ≤ 2147483647 := (hv401.2.1 70 5).2
            have g515 : (h401.2.1 70 4).toInt = u404.toInt := by rw [← (show u404 = h401.2.1 70 4 from u404w)] <;> exact (ti_rfl u404)
            have g516 : (h401.2.1 70 5).toInt = u405.toInt := by rw [← (show u405 = h401.2.1 70 5 from u405w)] <;> exact (ti_rfl u405)
            have z518 : (0 : Int32).toInt = 0 := (ti_c (v := 0) (a := 0) (by decide))
            have pp517 : (h401.2.1 70 5).toInt = 0 → (h.2.1 70 5).toInt = 0 := (by omega)
            have z520 : (0 : Int32).toInt = 0 := (ti_c (v := 0) (a := 0) (by decide))
            have pp519 : (h.2.1 70 4).toInt ≤ (h401.2.1 70 4).toInt := (by omega)
            have z522 : (0 : Int32).toInt = 0 := (ti_c (v := 0) (a := 0) (by decide))
            have pp521 : (h401.2.1 70 5).toInt = 0 → (h.2.1 70 4).toInt + 1 ≤ (h401.2.1 70 4).toInt ∧ a3.toInt ≤ 6 ∧ V h401.2.1 74 S = V h.2.1 74 S + 1 := (by omega)
            have z524 : (0 : Int32).toInt = 0 := (ti_c (v := 0) (a := 0) (by decide))
            have pp523 : V h401.2.1 73 S = V h.2.1 73 S := (by omega)
            have z526 : (0 : Int32).toInt = 0 := (ti_c (v := 0) (a := 0) (by decide))
            have pp525 : V h401.2.1 75 S = V h.2.1 75 S := (by omega)
            have pp527 : (h401.2.1 70 5).toInt = 0 → ∀ d : Int, LI h.2.1 h401.2.1 S a2.toInt d (0 : Int32).toInt := (fun hg => absurd hg (by omega))
            subst hS
            exact gi_iret (pc := 47) (ti_c (v := 0) (a := 0) (by decide)) ⟨_, rfl, (by rw [show (0 : Int32).toInt = 0 from (ti_c (v := 0) (a := 0) (by decide))]; omega), (by rw [show (0 : Int32).toInt = 0 from (ti_c (v := 0) (a := 0) (by decide))]; omega), ⟨_, hv401, (MW.rfl _)⟩, pp517, pp519, pp521, pp523, pp525, pp527, kp401, oh401, ck401⟩ hv401 dX8_newBlock_47
        ·
          refine go_aload_n (pc := 34) rfl dX8_newBlock_34 ?_
          refine go_iconst (pc := 35) (v := 4) (by decide) dX8_newBlock_35 ?_
          have g528 : (0 : Int) ≤ (h401.2.1 70 4).toInt := (hv401.2.1 70 4).1
          have g529 : (h401.2.1 70 4).toInt ≤ 500 := (hv401.2.1 70 4).2
          have g530 : (-2147483648 : Int) ≤ (h401.2.1 70 5).toInt := (hv401.2.1 70 5).1
          have g531 : (h401.2.1 70 5).toInt ≤ 2147483647 := (hv401.2.1 70 5).2
          have g532 : (h401.2.1 70 4).toInt = u404.toInt := by rw [← (show u404 = h401.2.1 70 4 from u404w)] <;> exact (ti_rfl u404)
          have g533 : (h401.2.1 70 5).toInt = u405.toInt := by rw [← (show u405 = h401.2.1 70 5 from u405w)] <;> exact (ti_rfl u405)
          refine go_invV (pc := 36) (sl := 0) (s_X8_fails l (d + 0) hv401 4 (by rw [show (4 : Int32).toInt = 4 from (ti_c (v := 4) (a := 4) (by decide))]; omega) (by rw [show (4 : Int32).toInt = 4 from (ti_c (v := 4) (a := 4) (by decide))]; omega)) mL_X8_180 iM_X8_fails sM_X8_fails (hv401.sh rfl) rfl rfl rfl (Nat.le_of_ble_eq_true rfl) (show d + 0 + 1 + 1 ≤ d + 2 by omega) (show 8 + (2 + 11) + 40 * (d + 0 + 1) ≤ 40 * (d + 2) by omega) (g_c0 hv401.ln) (Nat.le_of_ble_eq_true rfl) dX8_newBlock_36 ?_
          intro r h534 hq _
          obtain ⟨rfl, hv534, f535, f536⟩ := hq
          try rw [show (4 : Int32).toInt = 4 from (ti_c (v := 4) (a := 4) (by decide))] at f535
          try rw [show (4 : Int32).toInt = 4 from (ti_c (v := 4) (a := 4) (by decide))] at f536
          have ve534 : VE h401.2.1 h534.2.1 := VE.of hv401 hv534
          have oh534 : OH h.2.1 h534.2.1 S := oh401.trans (OH.of hv401 hv534 S)
          have kp534 : KP h.2.1 h534.2.1 := kp401.trans (KP.ve ve534)
          have ck534 : CKF h.2.1 → CKF h534.2.1 := fun z => CKF.ve ve534 (ck401 z)
          have n73_534 : V h534.2.1 73 S = V h401.2.1 73 S := ve534.v (by omega) (by omega)
          have n74_534 : V h534.2.1 74 S = V h401.2.1 74 S := ve534.v (by omega) (by omega)
          have n75_534 : V h534.2.1 75 S = V h401.2.1 75 S := ve534.v (by omega) (by omega)
          obtain ⟨u537, u537w⟩ : ∃ v : Int32, v = h534.2.1 70 4 := ⟨_, rfl⟩
          have u537e : (h534.2.1 70 4).toInt = u537.toInt := by rw [u537w]
          have u537l : 0 ≤ u537.toInt := by rw [u537w]; exact (hv534.2.1 70 4).1
          have u537u : u537.toInt ≤ 500 := by rw [u537w]; exact (hv534.2.1 70 4).2
          obtain ⟨u538, u538w⟩ : ∃ v : Int32, v = h534.2.1 70 5 := ⟨_, rfl⟩
          have u538e : (h534.2.1 70 5).toInt = u538.toInt := by rw [u538w]
          have u538l : -2147483648 ≤ u538.toInt := by rw [u538w]; exact (hv534.2.1 70 5).1
          have u538u : u538.toInt ≤ 2147483647 := by rw [u538w]; exact (hv534.2.1 70 5).2
          refine go_aload_n (pc := 39) rfl dX8_newBlock_39 ?_
          refine go_invV (pc := 40) (sl := 0) (s_X8_isGood l (d + 0) hv534 ) mL_X8_172 iM_X8_isGood sM_X8_isGood (hv534.sh rfl) rfl rfl rfl (Nat.le_of_ble_eq_true rfl) (show d + 0 + 1 + 1 ≤ d + 2 by omega) (show 8 + (1 + 11) + 40 * (d + 0 + 1) ≤ 40 * (d + 2) by omega) (g_c0 hv534.ln) (Nat.le_of_ble_eq_true rfl) dX8_newBlock_40 ?_
          intro r h539 hq _
          obtain ⟨v542, rfl, v542l, v542u, rfl, f540, f541⟩ := hq
          refine gf_if_ne (pc := 43) (tgt := 48) (ti_rfl v542) (by decide) dX8_newBlock_43 (fun q543 => ?_) (fun q543 => ?_)
          ·
            refine go_sipush (pc := 48) (v := 280) (by decide) dX8_newBlock_48 ?_
            refine go_aload_n (pc := 51) rfl dX8_newBlock_51 ?_
            refine gi_get (pc := 52) (lo := 0) (hi := 1) hv534 fL_X8_187 rfl (Nat.le_of_ble_eq_true rfl) rfl rfl dX8_newBlock_52 (fun v544 v544l v544u v544w => ?_)
            have v544S : v544.toInt = S := by rw [v544w]; exact (congrArg Int32.toInt oh534.side).trans hS.symm
            refine gf_imul (pc := 55) (ti_c (v := 280) (a := 280) (by decide)) (ti_rfl v544) (by omega) (by omega) dX8_newBlock_55 (fun v545 e546 => ?_)
            refine go_aload_n (pc := 56) rfl dX8_newBlock_56 ?_
            refine gi_getF (pc := 57) (q := 74) hv534 fL_X8_20 rfl (Nat.le_of_ble_eq_true rfl) rfl (hv534.rf (by decide)) dX8_newBlock_57 ?_
            refine go_aload_n (pc := 60) rfl dX8_newBlock_60 ?_
            refine gi_get (pc := 61) (lo := 0) (hi := 1) hv534 fL_X8_187 rfl (Nat.le_of_ble_eq_true rfl) rfl rfl dX8_newBlock_61 (fun v547 v547l v547u v547w => ?_)
            have v547r : v544 = h534.2.1 70 6 := v544w
            have v547q : TI v547 v544.toInt := by rw [v547w.trans v547r.symm]; exact (ti_rfl v544)
            refine gi_iald (pc := 64) (lo := 0) (hi := 280) (len := 2) hv534 v547q rfl (by omega) (by omega) (fun _ => rfl) dX8_newBlock_64 (fun v548 v548l v548u v548w => ?_)
            have v548V : v548.toInt = V h534.2.1 74 S := by rw [v548w, v544S]; rfl
            refine gf_iadd (pc := 65) e546 (ti_rfl v548) (by omega) (by omega) dX8_newBlock_65 (fun v549 e550 => ?_)
            refine go_istore_n (pc := 66) (Nat.le_of_ble_eq_true rfl) dX8_newBlock_66 (go_lv (lv2 := [(0, .ref 70), (1, .int a2), (2, .int a3), (3, .int v549)]) rfl ?_)
            refine go_aload_n (pc := 67) rfl dX8_newBlock_67 ?_
            refine gi_getF (pc := 68) (q := 74) hv534 fL_X8_20 rfl (Nat.le_of_ble_eq_true rfl) rfl (hv534.rf (by decide)) dX8_newBlock_68 ?_
            refine go_aload_n (pc := 71) rfl dX8_newBlock_71 ?_
            refine gi_get (pc := 72) (lo := 0) (hi := 1) hv534 fL_X8_187 rfl (Nat.le_of_ble_eq_true rfl) rfl rfl dX8_newBlock_72 (fun v551 v551l v551u v551w => ?_)
            have v551r : v544 = h534.2.1 70 6 := v544w
            have v551q : TI v551 v544.toInt := by rw [v551w.trans v551r.symm]; exact (ti_rfl v544)
            refine go_dup2 (pc := 75) rfl rfl dX8_newBlock_75 ?_
            refine gi_iald (pc := 76) (lo := 0) (hi := 280) (len := 2) hv534 v551q rfl (by omega) (by omega) (fun _ => rfl) dX8_newBlock_76 (fun v552 v552l v552u v552w => ?_)
            have v552V : v552.toInt = V h534.2.1 74 S := by rw [v552w, v544S]; rfl
            refine go_iconst (pc := 77) (v := 1) (by decide) dX8_newBlock_77 ?_
            refine gf_iadd (pc := 78) (ti_rfl v552) (ti_c (v := 1) (a := 1) (by decide)) (by omega) (by omega) dX8_newBlock_78 (fun v553 e554 => ?_)
            refine gi_fst (pc := 79) (lo := 0) (hi := 280) (len := 2) hv534 v551q e554 rfl (by omega) (by omega) (fun _ => rfl) (by omega) (by omega) (by omega) dX8_newBlock_79 (fun h555 hv555 hv555e => ?_)
            refine go_aload_n (pc := 80) rfl dX8_newBlock_80 ?_
            refine gi_getF (pc := 81) (q := 90) hv555 fL_X8_68 rfl (Nat.le_of_ble_eq_true rfl) rfl (hv555.rf (by decide)) dX8_newBlock_81 ?_
            refine go_iload_n (pc := 84) rfl dX8_newBlock_84 ?_
            refine go_iconst (pc := 85) (v := (-1)) (by decide) dX8_newBlock_85 ?_
            refine gi_fst (pc := 86) (lo := -1) (hi := 259) (len := 560) hv555 e550 (ti_c (v := (-1)) (a := (-1)) (by decide)) rfl (by omega) (by omega) (fun _ => rfl) (by omega) (by omega) (by omega) dX8_newBlock_86 (fun h556 hv556 hv556e => ?_)
            refine go_aload_n (pc := 87) rfl dX8_newBlock_87 ?_
            refine gi_getF (pc := 88) (q := 91) hv556 fL_X8_71 rfl (Nat.le_of_ble_eq_true rfl) rfl (hv556.rf (by decide)) dX8_newBlock_88 ?_
            refine go_iload_n (pc := 91) rfl dX8_newBlock_91 ?_
            refine go_iconst (pc := 92) (v := (-1)) (by decide) dX8_newBlock_92 ?_
            refine gi_fst (pc := 93) (lo := -1) (hi := 259) (len := 560) hv556 e550 (ti_c (v := (-1)) (a := (-1)) (by decide)) rfl (by omega) (by omega) (fun _ => rfl) (by omega) (by omega) (by omega) dX8_newBlock_93 (fun h557 hv557 hv557e => ?_)
            refine go_aload_n (pc := 94) rfl dX8_newBlock_94 ?_
            refine gi_getF (pc := 95) (q := 92) hv557 fL_X8_74 rfl (Nat.le_of_ble_eq_true rfl) rfl (hv557.rf (by decide)) dX8_newBlock_95 ?_
            refine go_iload_n (pc := 98) rfl dX8_newBlock_98 ?_
            refine go_iload_n (pc := 99) rfl dX8_newBlock_99 ?_
            refine gi_fst (pc := 100) (lo := -1) (hi := 259) (len := 560) hv557 e550 (ti_rfl a2) rfl (by omega) (by omega) (fun _ => rfl) (by omega) (by omega) (by omega) dX8_newBlock_100 (fun h558 hv558 hv558e => ?_)
            refine go_aload_n (pc := 101) rfl dX8_newBlock_101 ?_
            refine go_dup (pc := 102) rfl dX8_newBlock_102 ?_
            refine gi_get (pc := 103) (lo := 0) (hi := 500) hv558 fL_X8_163 rfl (Nat.le_of_ble_eq_true rfl) rfl rfl dX8_newBlock_103 (fun v559 v559l v559u v559w => ?_)
            have v559r : u537 = h558.2.1 70 4 := (show u537 = h558.2.1 70 4 from by rw [hv558e]; exact (g_iI rfl (show u537 = h557.2.1 70 4 from by rw [hv557e]; exact (g_iI rfl (show u537 = h556.2.1 70 4 from by rw [hv556e]; exact (g_iI rfl (show u537 = h555.2.1 70 4 from by rw [hv555e]; exact (g_iI rfl u537w.symm).symm).symm).symm).symm).symm).symm).symm)
            have v559q : TI v559 u537.toInt := by rw [v559w.trans v559r.symm]; exact (ti_rfl u537)
            refine go_iconst (pc := 106) (v := 1) (by decide) dX8_newBlock_106 ?_
            refine gf_iadd (pc := 107) v559q (ti_c (v := 1) (a := 1) (by decide)) (by omega) (by omega) dX8_newBlock_107 (fun v560 e561 => ?_)
            have E558 : h558.2.1 = (w1 (w1 (w1 (w1 h534.2.1 74 S (v553 : Int32)) 90 (((280 * S) + v548.toInt)) ((-1) : Int32)) 91 (((280 * S) + v548.toInt)) ((-1) : Int32)) 92 (((280 * S) + v548.toInt)) (a2 : Int32)) := by
              rw [hv558e, hv557e, hv556e, hv555e]
              rw [v544S]
              rfl
            have oh558 : OH h.2.1 h558.2.1 S := by rw [E558]; exact ((((oh534.trans (OH.w 1 rfl (by omega) (by omega) (by omega) (by omega))).trans (OH.w 280 rfl (by omega) (by omega) (by omega) (by omega))).trans (OH.w 280 rfl (by omega) (by omega) (by omega) (by omega))).trans (OH.w 280 rfl (by omega) (by omega) (by omega) (by omega)))
            have kp558 : KP h.2.1 h558.2.1 := by rw [E558]; exact ((((kp534.trans (KP.w (by omega))).trans (KP.w (by omega))).trans (KP.w (by omega))).trans (KP.w (by omega)))
            have n73_558 : V h558.2.1 73 S = V h534.2.1 73 S := by rw [E558, V_ne (by omega), V_ne (by omega), V_ne (by omega), V_ne (by omega)]
            have n74_558 : V h558.2.1 74 S = (v552.toInt + 1) := by rw [E558, V_ne (by omega), V_ne (by omega), V_ne (by omega), V_eq]; exact e554
            have n75_558 : V h558.2.1 75 S = V h534.2.1 75 S := by rw [E558, V_ne (by omega), V_ne (by omega), V_ne (by omega), V_ne (by omega)]
            have ck558 : CKF h.2.1 → CKF h558.2.1 := fun z => by rw [E558]; exact (CKF.w (by omega) (CKF.w (by omega) (CKF.w (by omega) (CKF.w (by omega) (ck534 z)))))
            refine gi_put (pc := 108) (lo := 0) (hi := 500) hv558 e561 (fP_X8_163 _) rfl (Nat.le_of_ble_eq_true rfl) rfl rfl (by omega) (by omega) rfl rfl (by decide) (by decide) (by decide) (by decide) dX8_newBlock_108 (fun h562 hv562 hv562e => ?_)
            have ve562 : VE h558.2.1 h562.2.1 := VE.of hv558 hv562
            have oh562 : OH h.2.1 h562.2.1 S := oh558.trans (OH.of hv558 hv562 S)
            have kp562 : KP h.2.1 h562.2.1 := kp558.trans (KP.ve ve562)
            have ck562 : CKF h.2.1 → CKF h562.2.1 := fun z => CKF.ve ve562 (ck558 z)
            have n73_562 : V h562.2.1 73 S = V h558.2.1 73 S := ve562.v (by omega) (by omega)
            have n74_562 : V h562.2.1 74 S = V h558.2.1 74 S := ve562.v (by omega) (by omega)
            have n75_562 : V h562.2.1 75 S = V h558.2.1 75 S := ve562.v (by omega) (by omega)
            refine go_iload_n (pc := 111) rfl dX8_newBlock_111 ?_
            have g563 : (0 : Int) ≤ (h562.2.1 70 4).toInt := (hv562.2.1 70 4).1
            have g564 : (h562.2.1 70 4).toInt ≤ 500 := (hv562.2.1 70 4).2
            have g565 : (-2147483648 : Int) ≤ (h562.2.1 70 5).toInt := (hv562.2.1 70 5).1
            have g566 : (h562.2.1 70 5).toInt ≤ 2147483647 := (hv562.2.1 70 5).2
            have g567 : (h562.2.1 70 5).toInt = u538.toInt := by rw [← (show u538 = h562.2.1 70 5 from (show u538 = h562.2.1 70 5 from by rw [hv562e]; exact (g_iI rfl (show u538 = h558.2.1 70 5 from by rw [hv558e]; exact (g_iI rfl (show u538 = h557.2.1 70 5 from by rw [hv557e]; exact (g_iI rfl (show u538 = h556.2.1 70 5 from by rw [hv556e]; exact (g_iI rfl (show u538 = h555.2.1 70 5 from by rw [hv555e]; exact (g_iI rfl u538w.symm).symm).symm).symm).symm).symm).symm).symm).symm).symm))] <;> exact (ti_rfl u538)
            have g568 : (h562.2.1 70 4).toInt = (u537.toInt + 1) := by rw [← (show v560 = h562.2.1 70 4 from (show v560 = h562.2.1 70 4 from by rw [hv562e]; exact g_iS.symm))] <;> exact e561
            have z570 : (v549 : Int32).toInt = ((280 * v544.toInt) + v548.toInt) := e550
            have pp569 : (h562.2.1 70 5).toInt = 0 → (h.2.1 70 5).toInt = 0 := (by omega)
            have z572 : (v549 : Int32).toInt = ((280 * v544.toInt) + v548.toInt) := e550
            have pp571 : (h.2.1 70 4).toInt ≤ (h562.2.1 70 4).toInt := (by omega)
            have z574 : (v549 : Int32).toInt = ((280 * v544.toInt) + v548.toInt) := e550
            have pp573 : (h562.2.1 70 5).toInt = 0 → (h.2.1 70 4).toInt + 1 ≤ (h562.2.1 70 4).toInt ∧ a3.toInt ≤ 6 ∧ V h562.2.1 74 S = V h.2.1 74 S + 1 := (by omega)
            have z576 : (v549 : Int32).toInt = ((280 * v544.toInt) + v548.toInt) := e550
            have pp575 : V h562.2.1 73 S = V h.2.1 73 S := (by omega)
            have z578 : (v549 : Int32).toInt = ((280 * v544.toInt) + v548.toInt) := e550
            have pp577 : V h562.2.1 75 S = V h.2.1 75 S := (by omega)
            have zz : (v549 : Int32).toInt = ((280 * v544.toInt) + v548.toInt) := e550
            have zy : (v553 : Int32).toInt = (v552.toInt + 1) := e554
            have pp579 : (h562.2.1 70 5).toInt = 0 → ∀ d : Int, LI h.2.1 h562.2.1 S a2.toInt d (v549 : Int32).toInt := (fun hg d => by rw [show (v549 : Int32).toInt = ((280 * S) + v548.toInt) from (by omega)]; exact LI.ve0 ((ve195.trans ve401).trans ve534) (LI.init (x := (v553 : Int32)) (y := ((-1) : Int32)) (z := ((-1) : Int32)) (w := (a2 : Int32)) S0 (by rw [← E558]; exact ve562) (by omega) (by omega) (by decide) (by decide) rfl))
            subst hS
            exact gi_iret (pc := 112) e550 ⟨_, rfl, (by rw [show (v549 : Int32).toInt = ((280 * v544.toInt) + v548.toInt) from e550]; omega), (by rw [show (v549 : Int32).toInt = ((280 * v544.toInt) + v548.toInt) from e550]; omega), ⟨_, hv562, (MW.trans (MW.trans (MW.trans (MW.mz _ _) (MW.mz _ _)) (MW.mz _ _)) (MW.mz _ _))⟩, pp569, pp571, pp573, pp575, pp577, pp579, kp562, oh562, ck562⟩ hv562 dX8_newBlock_112
          ·
            refine go_iconst (pc := 46) (v := 0) (by decide) dX8_newBlock_46 ?_
            have g580 : (0 : Int) ≤ (h534.2.1 70 4).toInt := (hv534.2.1 70 4).1
            have g581 : (h534.2.1 70 4).toInt ≤ 500 := (hv534.2.1 70 4).2
            have g582 : (-2147483648 : Int) ≤ (h534.2.1 70 5).toInt := (hv534.2.1 70 5).1
            have g583 : (h534.2.1 70 5).toInt ≤ 2147483647 := (hv534.2.1 70 5).2
            have g584 : (h534.2.1 70 4).toInt = u537.toInt := by rw [← (show u537 = h534.2.1 70 4 from u537w)] <;> exact (ti_rfl u537)
            have g585 : (h534.2.1 70 5).toInt = u538.toInt := by rw [← (show u538 = h534.2.1 70 5 from u538w)] <;> exact (ti_rfl u538)
            have z587 : (0 : Int32).toInt = 0 := (ti_c (v := 0) (a := 0) (by decide))
            have pp586 : (h534.2.1 70 5).toInt = 0 → (h.2.1 70 5).toInt = 0 := (by omega)
            have z589 : (0 : Int32).toInt = 0 := (ti_c (v := 0) (a := 0) (by decide))
            have pp588 : (h.2.1 70 4).toInt ≤ (h534.2.1 70 4).toInt := (by omega)
            have z591 : (0 : Int32).toInt = 0 := (ti_c (v := 0) (a := 0) (by decide))
            have pp590 : (h534.2.1 70 5).toInt = 0 → (h.2.1 70 4).toInt + 1 ≤ (h534.2.1 70 4).toInt ∧ a3.toInt ≤ 6 ∧ V h534.2.1 74 S = V h.2.1 74 S + 1 := (by omega)
            have z593 : (0 : Int32).toInt = 0 := (ti_c (v := 0) (a := 0) (by decide))
            have pp592 : V h534.2.1 73 S = V h.2.1 73 S := (by omega)
            have z595 : (0 : Int32).toInt = 0 := (ti_c (v := 0) (a := 0) (by decide))
            have pp594 : V h534.2.1 75 S = V h.2.1 75 S := (by omega)
            have pp596 : (h534.2.1 70 5).toInt = 0 → ∀ d : Int, LI h.2.1 h534.2.1 S a2.toInt d (0 : Int32).toInt := (fun hg => absurd hg (by omega))
            subst hS
            exact gi_iret (pc := 47) (ti_c (v := 0) (a := 0) (by decide)) ⟨_, rfl, (by rw [show (0 : Int32).toInt = 0 from (ti_c (v := 0) (a := 0) (by decide))]; omega), (by rw [show (0 : Int32).toInt = 0 from (ti_c (v := 0) (a := 0) (by decide))]; omega), ⟨_, hv534, (MW.rfl _)⟩, pp586, pp588, pp590, pp592, pp594, pp596, kp534, oh534, ck534⟩ hv534 dX8_newBlock_47
