theorem dJ7_fill_53178_0 : decode cJ7_fill_53178 0 = .ok (.iconst 0, 1) := by decide +kernel
theorem dJ7_fill_53178_1 : decode cJ7_fill_53178 1 = .ok (.istore_n 2, 1) := by decide +kernel
theorem dJ7_fill_53178_2 : decode cJ7_fill_53178 2 = .ok (.aload_n 0, 1) := by decide +kernel
theorem dJ7_fill_53178_3 : decode cJ7_fill_53178 3 = .ok (.arraylength, 1) := by decide +kernel
theorem dJ7_fill_53178_4 : decode cJ7_fill_53178 4 = .ok (.istore_n 3, 1) := by decide +kernel
theorem dJ7_fill_53178_5 : decode cJ7_fill_53178 5 = .ok (.iload_n 2, 1) := by decide +kernel
theorem dJ7_fill_53178_6 : decode cJ7_fill_53178 6 = .ok (.iload_n 3, 1) := by decide +kernel
theorem dJ7_fill_53178_7 : decode cJ7_fill_53178 7 = .ok (.if_icmp .ge 13, 3) := by decide +kernel
theorem dJ7_fill_53178_10 : decode cJ7_fill_53178 10 = .ok (.aload_n 0, 1) := by decide +kernel
theorem dJ7_fill_53178_11 : decode cJ7_fill_53178 11 = .ok (.iload_n 2, 1) := by decide +kernel
theorem dJ7_fill_53178_12 : decode cJ7_fill_53178 12 = .ok (.iload_n 1, 1) := by decide +kernel
theorem dJ7_fill_53178_13 : decode cJ7_fill_53178 13 = .ok (.iastore, 1) := by decide +kernel
theorem dJ7_fill_53178_14 : decode cJ7_fill_53178 14 = .ok (.iinc 2 1, 3) := by decide +kernel
theorem dJ7_fill_53178_17 : decode cJ7_fill_53178 17 = .ok (.goto (-12), 3) := by decide +kernel
theorem dJ7_fill_53178_20 : decode cJ7_fill_53178 20 = .ok (.return_, 1) := by decide +kernel
theorem dJ7_fill_d0a16_0 : decode cJ7_fill_d0a16 0 = .ok (.iconst 0, 1) := by decide +kernel
theorem dJ7_fill_d0a16_1 : decode cJ7_fill_d0a16 1 = .ok (.istore_n 3, 1) := by decide +kernel
theorem dJ7_fill_d0a16_2 : decode cJ7_fill_d0a16 2 = .ok (.aload_n 0, 1) := by decide +kernel
theorem dJ7_fill_d0a16_3 : decode cJ7_fill_d0a16 3 = .ok (.arraylength, 1) := by decide +kernel
theorem dJ7_fill_d0a16_4 : decode cJ7_fill_d0a16 4 = .ok (.istore 4, 2) := by decide +kernel
theorem dJ7_fill_d0a16_6 : decode cJ7_fill_d0a16 6 = .ok (.iload_n 3, 1) := by decide +kernel
theorem dJ7_fill_d0a16_7 : decode cJ7_fill_d0a16 7 = .ok (.iload 4, 2) := by decide +kernel
theorem dJ7_fill_d0a16_9 : decode cJ7_fill_d0a16 9 = .ok (.if_icmp .ge 13, 3) := by decide +kernel
theorem dJ7_fill_d0a16_12 : decode cJ7_fill_d0a16 12 = .ok (.aload_n 0, 1) := by decide +kernel
theorem dJ7_fill_d0a16_13 : decode cJ7_fill_d0a16 13 = .ok (.iload_n 3, 1) := by decide +kernel
theorem dJ7_fill_d0a16_14 : decode cJ7_fill_d0a16 14 = .ok (.lload_n 1, 1) := by decide +kernel
theorem dJ7_fill_d0a16_15 : decode cJ7_fill_d0a16 15 = .ok (.lastore, 1) := by decide +kernel
theorem dJ7_fill_d0a16_16 : decode cJ7_fill_d0a16 16 = .ok (.iinc 3 1, 3) := by decide +kernel
theorem dJ7_fill_d0a16_19 : decode cJ7_fill_d0a16 19 = .ok (.goto (-13), 3) := by decide +kernel
theorem dJ7_fill_d0a16_22 : decode cJ7_fill_d0a16 22 = .ok (.return_, 1) := by decide +kernel
theorem dX1_addTellers_0 : decode cX1_addTellers 0 = .ok (.aload_n 0, 1) := by decide +kernel
theorem dX1_addTellers_1 : decode cX1_addTellers 1 = .ok (.getfield 24, 3) := by decide +kernel
theorem dX1_addTellers_4 : decode cX1_addTellers 4 = .ok (.iload_n 1, 1) := by decide +kernel
theorem dX1_addTellers_5 : decode cX1_addTellers 5 = .ok (.laload, 1) := by decide +kernel
theorem dX1_addTellers_6 : decode cX1_addTellers 6 = .ok (.lstore 4, 2) := by decide +kernel
theorem dX1_addTellers_8 : decode cX1_addTellers 8 = .ok (.aload_n 0, 1) := by decide +kernel
theorem dX1_addTellers_9 : decode cX1_addTellers 9 = .ok (.getfield 24, 3) := by decide +kernel
theorem dX1_addTellers_12 : decode cX1_addTellers 12 = .ok (.iload_n 1, 1) := by decide +kernel
theorem dX1_addTellers_13 : decode cX1_addTellers 13 = .ok (.lload 4, 2) := by decide +kernel
theorem dX1_addTellers_15 : decode cX1_addTellers 15 = .ok (.lload_n 2, 1) := by decide +kernel
theorem dX1_addTellers_16 : decode cX1_addTellers 16 = .ok (.lor, 1) := by decide +kernel
theorem dX1_addTellers_17 : decode cX1_addTellers 17 = .ok (.lastore, 1) := by decide +kernel
theorem dX1_addTellers_18 : decode cX1_addTellers 18 = .ok (.aload_n 0, 1) := by decide +kernel
theorem dX1_addTellers_19 : decode cX1_addTellers 19 = .ok (.getfield 24, 3) := by decide +kernel
theorem dX1_addTellers_22 : decode cX1_addTellers 22 = .ok (.iload_n 1, 1) := by decide +kernel
theorem dX1_addTellers_23 : decode cX1_addTellers 23 = .ok (.laload, 1) := by decide +kernel
theorem dX1_addTellers_24 : decode cX1_addTellers 24 = .ok (.lload 4, 2) := by decide +kernel
theorem dX1_addTellers_26 : decode cX1_addTellers 26 = .ok (.lcmp, 1) := by decide +kernel
theorem dX1_addTellers_27 : decode cX1_addTellers 27 = .ok (.ifCond .eq 7, 3) := by decide +kernel
theorem dX1_addTellers_30 : decode cX1_addTellers 30 = .ok (.iconst 1, 1) := by decide +kernel
theorem dX1_addTellers_31 : decode cX1_addTellers 31 = .ok (.goto 4, 3) := by decide +kernel
theorem dX1_addTellers_34 : decode cX1_addTellers 34 = .ok (.iconst 0, 1) := by decide +kernel
theorem dX1_addTellers_35 : decode cX1_addTellers 35 = .ok (.ireturn, 1) := by decide +kernel
theorem dX1_build_0 : decode cX1_build 0 = .ok (.aload_n 0, 1) := by decide +kernel
theorem dX1_build_1 : decode cX1_build 1 = .ok (.aload_n 1, 1) := by decide +kernel
theorem dX1_build_2 : decode cX1_build 2 = .ok (.putfield 30, 3) := by decide +kernel
theorem dX1_build_5 : decode cX1_build 5 = .ok (.aload_n 0, 1) := by decide +kernel
theorem dX1_build_6 : decode cX1_build 6 = .ok (.getfield 9, 3) := by decide +kernel
theorem dX1_build_9 : decode cX1_build 9 = .ok (.lconst 0, 1) := by decide +kernel
theorem dX1_build_10 : decode cX1_build 10 = .ok (.invokestatic 34, 3) := by decide +kernel
theorem dX1_build_13 : decode cX1_build 13 = .ok (.aload_n 0, 1) := by decide +kernel
theorem dX1_build_14 : decode cX1_build 14 = .ok (.getfield 15, 3) := by decide +kernel
theorem dX1_build_17 : decode cX1_build 17 = .ok (.lconst 0, 1) := by decide +kernel
theorem dX1_build_18 : decode cX1_build 18 = .ok (.invokestatic 34, 3) := by decide +kernel
theorem dX1_build_21 : decode cX1_build 21 = .ok (.aload_n 0, 1) := by decide +kernel
theorem dX1_build_22 : decode cX1_build 22 = .ok (.getfield 18, 3) := by decide +kernel
theorem dX1_build_25 : decode cX1_build 25 = .ok (.lconst 0, 1) := by decide +kernel
theorem dX1_build_26 : decode cX1_build 26 = .ok (.invokestatic 34, 3) := by decide +kernel
theorem dX1_build_29 : decode cX1_build 29 = .ok (.aload_n 0, 1) := by decide +kernel
theorem dX1_build_30 : decode cX1_build 30 = .ok (.invokevirtual 40, 3) := by decide +kernel
theorem dX1_build_33 : decode cX1_build 33 = .ok (.iconst 0, 1) := by decide +kernel
theorem dX1_build_34 : decode cX1_build 34 = .ok (.istore_n 2, 1) := by decide +kernel
theorem dX1_build_35 : decode cX1_build 35 = .ok (.iload_n 2, 1) := by decide +kernel
theorem dX1_build_36 : decode cX1_build 36 = .ok (.bipush 10, 2) := by decide +kernel
theorem dX1_build_38 : decode cX1_build 38 = .ok (.if_icmp .ge 19, 3) := by decide +kernel
theorem dX1_build_41 : decode cX1_build 41 = .ok (.aload_n 0, 1) := by decide +kernel
theorem dX1_build_42 : decode cX1_build 42 = .ok (.iload_n 2, 1) := by decide +kernel
theorem dX1_build_43 : decode cX1_build 43 = .ok (.invokevirtual 43, 3) := by decide +kernel
theorem dX1_build_46 : decode cX1_build 46 = .ok (.aload_n 0, 1) := by decide +kernel
theorem dX1_build_47 : decode cX1_build 47 = .ok (.iload_n 2, 1) := by decide +kernel
theorem dX1_build_48 : decode cX1_build 48 = .ok (.invokevirtual 47, 3) := by decide +kernel
theorem dX1_build_51 : decode cX1_build 51 = .ok (.iinc 2 1, 3) := by decide +kernel
theorem dX1_build_54 : decode cX1_build 54 = .ok (.goto (-19), 3) := by decide +kernel
theorem dX1_build_57 : decode cX1_build 57 = .ok (.aload_n 0, 1) := by decide +kernel
theorem dX1_build_58 : decode cX1_build 58 = .ok (.invokevirtual 50, 3) := by decide +kernel
theorem dX1_build_61 : decode cX1_build 61 = .ok (.aload_n 0, 1) := by decide +kernel
theorem dX1_build_62 : decode cX1_build 62 = .ok (.invokevirtual 53, 3) := by decide +kernel
theorem dX1_build_65 : decode cX1_build 65 = .ok (.return_, 1) := by decide +kernel
theorem dX1_findCertain_0 : decode cX1_findCertain 0 = .ok (.iconst 0, 1) := by decide +kernel
theorem dX1_findCertain_1 : decode cX1_findCertain 1 = .ok (.istore_n 1, 1) := by decide +kernel
theorem dX1_findCertain_2 : decode cX1_findCertain 2 = .ok (.iload_n 1, 1) := by decide +kernel
theorem dX1_findCertain_3 : decode cX1_findCertain 3 = .ok (.bipush 45, 2) := by decide +kernel
theorem dX1_findCertain_5 : decode cX1_findCertain 5 = .ok (.if_icmp .ge 28, 3) := by decide +kernel
theorem dX1_findCertain_8 : decode cX1_findCertain 8 = .ok (.aload_n 0, 1) := by decide +kernel
theorem dX1_findCertain_9 : decode cX1_findCertain 9 = .ok (.getfield 27, 3) := by decide +kernel
theorem dX1_findCertain_12 : decode cX1_findCertain 12 = .ok (.iload_n 1, 1) := by decide +kernel
theorem dX1_findCertain_13 : decode cX1_findCertain 13 = .ok (.iload_n 1, 1) := by decide +kernel
theorem dX1_findCertain_14 : decode cX1_findCertain 14 = .ok (.bipush 40, 2) := by decide +kernel
theorem dX1_findCertain_16 : decode cX1_findCertain 16 = .ok (.if_icmp .ge 9, 3) := by decide +kernel
theorem dX1_findCertain_19 : decode cX1_findCertain 19 = .ok (.ldc2_w 60, 3) := by decide +kernel
theorem dX1_findCertain_22 : decode cX1_findCertain 22 = .ok (.goto 4, 3) := by decide +kernel
theorem dX1_findCertain_25 : decode cX1_findCertain 25 = .ok (.lconst 0, 1) := by decide +kernel
theorem dX1_findCertain_26 : decode cX1_findCertain 26 = .ok (.lastore, 1) := by decide +kernel
theorem dX1_findCertain_27 : decode cX1_findCertain 27 = .ok (.iinc 1 1, 3) := by decide +kernel
theorem dX1_findCertain_30 : decode cX1_findCertain 30 = .ok (.goto (-28), 3) := by decide +kernel
theorem dX1_findCertain_33 : decode cX1_findCertain 33 = .ok (.iconst 1, 1) := by decide +kernel
theorem dX1_findCertain_34 : decode cX1_findCertain 34 = .ok (.istore_n 1, 1) := by decide +kernel
theorem dX1_findCertain_35 : decode cX1_findCertain 35 = .ok (.iconst 0, 1) := by decide +kernel
theorem dX1_findCertain_36 : decode cX1_findCertain 36 = .ok (.istore_n 2, 1) := by decide +kernel
theorem dX1_findCertain_37 : decode cX1_findCertain 37 = .ok (.iload_n 2, 1) := by decide +kernel
theorem dX1_findCertain_38 : decode cX1_findCertain 38 = .ok (.sipush 2025, 3) := by decide +kernel
theorem dX1_findCertain_41 : decode cX1_findCertain 41 = .ok (.if_icmp .ge 118, 3) := by decide +kernel
theorem dX1_findCertain_44 : decode cX1_findCertain 44 = .ok (.iload_n 1, 1) := by decide +kernel
theorem dX1_findCertain_45 : decode cX1_findCertain 45 = .ok (.ifCond .eq 114, 3) := by decide +kernel
theorem dX1_findCertain_48 : decode cX1_findCertain 48 = .ok (.iconst 0, 1) := by decide +kernel
theorem dX1_findCertain_49 : decode cX1_findCertain 49 = .ok (.istore_n 1, 1) := by decide +kernel
theorem dX1_findCertain_50 : decode cX1_findCertain 50 = .ok (.aload_n 0, 1) := by decide +kernel
theorem dX1_findCertain_51 : decode cX1_findCertain 51 = .ok (.getfield 30, 3) := by decide +kernel
theorem dX1_findCertain_54 : decode cX1_findCertain 54 = .ok (.getfield 62, 3) := by decide +kernel
theorem dX1_findCertain_57 : decode cX1_findCertain 57 = .ok (.iconst 1, 1) := by decide +kernel
theorem dX1_findCertain_58 : decode cX1_findCertain 58 = .ok (.isub, 1) := by decide +kernel
theorem dX1_findCertain_59 : decode cX1_findCertain 59 = .ok (.istore_n 3, 1) := by decide +kernel
theorem dX1_findCertain_60 : decode cX1_findCertain 60 = .ok (.iload_n 3, 1) := by decide +kernel
theorem dX1_findCertain_61 : decode cX1_findCertain 61 = .ok (.ifCond .lt 92, 3) := by decide +kernel
theorem dX1_findCertain_64 : decode cX1_findCertain 64 = .ok (.aload_n 0, 1) := by decide +kernel
theorem dX1_findCertain_65 : decode cX1_findCertain 65 = .ok (.getfield 27, 3) := by decide +kernel
theorem dX1_findCertain_68 : decode cX1_findCertain 68 = .ok (.aload_n 0, 1) := by decide +kernel
theorem dX1_findCertain_69 : decode cX1_findCertain 69 = .ok (.getfield 30, 3) := by decide +kernel
theorem dX1_findCertain_72 : decode cX1_findCertain 72 = .ok (.getfield 68, 3) := by decide +kernel
theorem dX1_findCertain_75 : decode cX1_findCertain 75 = .ok (.iload_n 3, 1) := by decide +kernel
theorem dX1_findCertain_76 : decode cX1_findCertain 76 = .ok (.iaload, 1) := by decide +kernel
theorem dX1_findCertain_77 : decode cX1_findCertain 77 = .ok (.laload, 1) := by decide +kernel
theorem dX1_findCertain_78 : decode cX1_findCertain 78 = .ok (.lstore 4, 2) := by decide +kernel
theorem dX1_findCertain_80 : decode cX1_findCertain 80 = .ok (.aload_n 0, 1) := by decide +kernel
theorem dX1_findCertain_81 : decode cX1_findCertain 81 = .ok (.getfield 30, 3) := by decide +kernel
theorem dX1_findCertain_84 : decode cX1_findCertain 84 = .ok (.iload_n 3, 1) := by decide +kernel
theorem dX1_findCertain_85 : decode cX1_findCertain 85 = .ok (.invokevirtual 72, 3) := by decide +kernel
theorem dX1_findCertain_88 : decode cX1_findCertain 88 = .ok (.ifCond .eq 22, 3) := by decide +kernel
theorem dX1_findCertain_91 : decode cX1_findCertain 91 = .ok (.lload 4, 2) := by decide +kernel
theorem dX1_findCertain_93 : decode cX1_findCertain 93 = .ok (.aload_n 0, 1) := by decide +kernel
theorem dX1_findCertain_94 : decode cX1_findCertain 94 = .ok (.getfield 27, 3) := by decide +kernel
theorem dX1_findCertain_97 : decode cX1_findCertain 97 = .ok (.aload_n 0, 1) := by decide +kernel
theorem dX1_findCertain_98 : decode cX1_findCertain 98 = .ok (.getfield 30, 3) := by decide +kernel
theorem dX1_findCertain_101 : decode cX1_findCertain 101 = .ok (.getfield 76, 3) := by decide +kernel
theorem dX1_findCertain_104 : decode cX1_findCertain 104 = .ok (.iload_n 3, 1) := by decide +kernel
theorem dX1_findCertain_105 : decode cX1_findCertain 105 = .ok (.iaload, 1) := by decide +kernel
theorem dX1_findCertain_106 : decode cX1_findCertain 106 = .ok (.laload, 1) := by decide +kernel
theorem dX1_findCertain_107 : decode cX1_findCertain 107 = .ok (.land, 1) := by decide +kernel
theorem dX1_findCertain_108 : decode cX1_findCertain 108 = .ok (.lstore 4, 2) := by decide +kernel
theorem dX1_findCertain_110 : decode cX1_findCertain 110 = .ok (.lload 4, 2) := by decide +kernel
theorem dX1_findCertain_112 : decode cX1_findCertain 112 = .ok (.iload_n 3, 1) := by decide +kernel
theorem dX1_findCertain_113 : decode cX1_findCertain 113 = .ok (.invokestatic 79, 3) := by decide +kernel
theorem dX1_findCertain_116 : decode cX1_findCertain 116 = .ok (.lor, 1) := by decide +kernel
theorem dX1_findCertain_117 : decode cX1_findCertain 117 = .ok (.lstore 4, 2) := by decide +kernel
theorem dX1_findCertain_119 : decode cX1_findCertain 119 = .ok (.iload_n 1, 1) := by decide +kernel
theorem dX1_findCertain_120 : decode cX1_findCertain 120 = .ok (.lload 4, 2) := by decide +kernel
theorem dX1_findCertain_122 : decode cX1_findCertain 122 = .ok (.aload_n 0, 1) := by decide +kernel
theorem dX1_findCertain_123 : decode cX1_findCertain 123 = .ok (.getfield 27, 3) := by decide +kernel
theorem dX1_findCertain_126 : decode cX1_findCertain 126 = .ok (.iload_n 3, 1) := by decide +kernel
theorem dX1_findCertain_127 : decode cX1_findCertain 127 = .ok (.laload, 1) := by decide +kernel
theorem dX1_findCertain_128 : decode cX1_findCertain 128 = .ok (.lcmp, 1) := by decide +kernel
theorem dX1_findCertain_129 : decode cX1_findCertain 129 = .ok (.ifCond .eq 7, 3) := by decide +kernel
theorem dX1_findCertain_132 : decode cX1_findCertain 132 = .ok (.iconst 1, 1) := by decide +kernel
theorem dX1_findCertain_133 : decode cX1_findCertain 133 = .ok (.goto 4, 3) := by decide +kernel
theorem dX1_findCertain_136 : decode cX1_findCertain 136 = .ok (.iconst 0, 1) := by decide +kernel
theorem dX1_findCertain_137 : decode cX1_findCertain 137 = .ok (.ior, 1) := by decide +kernel
theorem dX1_findCertain_138 : decode cX1_findCertain 138 = .ok (.istore_n 1, 1) := by decide +kernel
theorem dX1_findCertain_139 : decode cX1_findCertain 139 = .ok (.aload_n 0, 1) := by decide +kernel
theorem dX1_findCertain_140 : decode cX1_findCertain 140 = .ok (.getfield 27, 3) := by decide +kernel
theorem dX1_findCertain_143 : decode cX1_findCertain 143 = .ok (.iload_n 3, 1) := by decide +kernel
theorem dX1_findCertain_144 : decode cX1_findCertain 144 = .ok (.lload 4, 2) := by decide +kernel
theorem dX1_findCertain_146 : decode cX1_findCertain 146 = .ok (.lastore, 1) := by decide +kernel
theorem dX1_findCertain_147 : decode cX1_findCertain 147 = .ok (.iinc 3 (-1), 3) := by decide +kernel
theorem dX1_findCertain_150 : decode cX1_findCertain 150 = .ok (.goto (-90), 3) := by decide +kernel
theorem dX1_findCertain_153 : decode cX1_findCertain 153 = .ok (.iinc 2 1, 3) := by decide +kernel
theorem dX1_findCertain_156 : decode cX1_findCertain 156 = .ok (.goto (-119), 3) := by decide +kernel
theorem dX1_findCertain_159 : decode cX1_findCertain 159 = .ok (.return_, 1) := by decide +kernel
theorem dX1_findTellers_0 : decode cX1_findTellers 0 = .ok (.aload_n 0, 1) := by decide +kernel
theorem dX1_findTellers_1 : decode cX1_findTellers 1 = .ok (.getfield 24, 3) := by decide +kernel
theorem dX1_findTellers_4 : decode cX1_findTellers 4 = .ok (.lconst 0, 1) := by decide +kernel
theorem dX1_findTellers_5 : decode cX1_findTellers 5 = .ok (.invokestatic 34, 3) := by decide +kernel
theorem dX1_findTellers_8 : decode cX1_findTellers 8 = .ok (.iload_n 1, 1) := by decide +kernel
theorem dX1_findTellers_9 : decode cX1_findTellers 9 = .ok (.iconst 2, 1) := by decide +kernel
theorem dX1_findTellers_10 : decode cX1_findTellers 10 = .ok (.if_icmp .lt 10, 3) := by decide +kernel
theorem dX1_findTellers_13 : decode cX1_findTellers 13 = .ok (.iload_n 1, 1) := by decide +kernel
theorem dX1_findTellers_14 : decode cX1_findTellers 14 = .ok (.invokestatic 107, 3) := by decide +kernel
theorem dX1_findTellers_17 : decode cX1_findTellers 17 = .ok (.ifCond .eq 43, 3) := by decide +kernel
theorem dX1_findTellers_20 : decode cX1_findTellers 20 = .ok (.iconst 0, 1) := by decide +kernel
theorem dX1_findTellers_21 : decode cX1_findTellers 21 = .ok (.istore_n 2, 1) := by decide +kernel
theorem dX1_findTellers_22 : decode cX1_findTellers 22 = .ok (.iload_n 2, 1) := by decide +kernel
theorem dX1_findTellers_23 : decode cX1_findTellers 23 = .ok (.aload_n 0, 1) := by decide +kernel
theorem dX1_findTellers_24 : decode cX1_findTellers 24 = .ok (.getfield 30, 3) := by decide +kernel
theorem dX1_findTellers_27 : decode cX1_findTellers 27 = .ok (.getfield 90, 3) := by decide +kernel
theorem dX1_findTellers_30 : decode cX1_findTellers 30 = .ok (.if_icmp .ge 30, 3) := by decide +kernel
theorem dX1_findTellers_33 : decode cX1_findTellers 33 = .ok (.aload_n 0, 1) := by decide +kernel
theorem dX1_findTellers_34 : decode cX1_findTellers 34 = .ok (.getfield 24, 3) := by decide +kernel
theorem dX1_findTellers_37 : decode cX1_findTellers 37 = .ok (.aload_n 0, 1) := by decide +kernel
theorem dX1_findTellers_38 : decode cX1_findTellers 38 = .ok (.getfield 30, 3) := by decide +kernel
theorem dX1_findTellers_41 : decode cX1_findTellers 41 = .ok (.getfield 93, 3) := by decide +kernel
theorem dX1_findTellers_44 : decode cX1_findTellers 44 = .ok (.iload_n 2, 1) := by decide +kernel
theorem dX1_findTellers_45 : decode cX1_findTellers 45 = .ok (.iaload, 1) := by decide +kernel
theorem dX1_findTellers_46 : decode cX1_findTellers 46 = .ok (.bipush 40, 2) := by decide +kernel
theorem dX1_findTellers_48 : decode cX1_findTellers 48 = .ok (.iload_n 2, 1) := by decide +kernel
theorem dX1_findTellers_49 : decode cX1_findTellers 49 = .ok (.iadd, 1) := by decide +kernel
theorem dX1_findTellers_50 : decode cX1_findTellers 50 = .ok (.invokestatic 79, 3) := by decide +kernel
theorem dX1_findTellers_53 : decode cX1_findTellers 53 = .ok (.lastore, 1) := by decide +kernel
theorem dX1_findTellers_54 : decode cX1_findTellers 54 = .ok (.iinc 2 1, 3) := by decide +kernel
theorem dX1_findTellers_57 : decode cX1_findTellers 57 = .ok (.goto (-35), 3) := by decide +kernel
theorem dX1_findTellers_60 : decode cX1_findTellers 60 = .ok (.iconst 1, 1) := by decide +kernel
theorem dX1_findTellers_61 : decode cX1_findTellers 61 = .ok (.istore_n 2, 1) := by decide +kernel
theorem dX1_findTellers_62 : decode cX1_findTellers 62 = .ok (.iconst 0, 1) := by decide +kernel
theorem dX1_findTellers_63 : decode cX1_findTellers 63 = .ok (.istore_n 3, 1) := by decide +kernel
theorem dX1_findTellers_64 : decode cX1_findTellers 64 = .ok (.iload_n 3, 1) := by decide +kernel
theorem dX1_findTellers_65 : decode cX1_findTellers 65 = .ok (.sipush 2025, 3) := by decide +kernel
theorem dX1_findTellers_68 : decode cX1_findTellers 68 = .ok (.if_icmp .ge 46, 3) := by decide +kernel
theorem dX1_findTellers_71 : decode cX1_findTellers 71 = .ok (.iload_n 2, 1) := by decide +kernel
theorem dX1_findTellers_72 : decode cX1_findTellers 72 = .ok (.ifCond .eq 42, 3) := by decide +kernel
theorem dX1_findTellers_75 : decode cX1_findTellers 75 = .ok (.iconst 0, 1) := by decide +kernel
theorem dX1_findTellers_76 : decode cX1_findTellers 76 = .ok (.istore_n 2, 1) := by decide +kernel
theorem dX1_findTellers_77 : decode cX1_findTellers 77 = .ok (.iconst 0, 1) := by decide +kernel
theorem dX1_findTellers_78 : decode cX1_findTellers 78 = .ok (.istore 4, 2) := by decide +kernel
theorem dX1_findTellers_80 : decode cX1_findTellers 80 = .ok (.iload 4, 2) := by decide +kernel
theorem dX1_findTellers_82 : decode cX1_findTellers 82 = .ok (.aload_n 0, 1) := by decide +kernel
theorem dX1_findTellers_83 : decode cX1_findTellers 83 = .ok (.getfield 30, 3) := by decide +kernel
theorem dX1_findTellers_86 : decode cX1_findTellers 86 = .ok (.getfield 62, 3) := by decide +kernel
theorem dX1_findTellers_89 : decode cX1_findTellers 89 = .ok (.if_icmp .ge 19, 3) := by decide +kernel
theorem dX1_findTellers_92 : decode cX1_findTellers 92 = .ok (.iload_n 2, 1) := by decide +kernel
theorem dX1_findTellers_93 : decode cX1_findTellers 93 = .ok (.aload_n 0, 1) := by decide +kernel
theorem dX1_findTellers_94 : decode cX1_findTellers 94 = .ok (.iload 4, 2) := by decide +kernel
theorem dX1_findTellers_96 : decode cX1_findTellers 96 = .ok (.iload_n 1, 1) := by decide +kernel
theorem dX1_findTellers_97 : decode cX1_findTellers 97 = .ok (.invokevirtual 110, 3) := by decide +kernel
theorem dX1_findTellers_100 : decode cX1_findTellers 100 = .ok (.ior, 1) := by decide +kernel
theorem dX1_findTellers_101 : decode cX1_findTellers 101 = .ok (.istore_n 2, 1) := by decide +kernel
theorem dX1_findTellers_102 : decode cX1_findTellers 102 = .ok (.iinc 4 1, 3) := by decide +kernel
theorem dX1_findTellers_105 : decode cX1_findTellers 105 = .ok (.goto (-25), 3) := by decide +kernel
theorem dX1_findTellers_108 : decode cX1_findTellers 108 = .ok (.iinc 3 1, 3) := by decide +kernel
theorem dX1_findTellers_111 : decode cX1_findTellers 111 = .ok (.goto (-47), 3) := by decide +kernel
theorem dX1_findTellers_114 : decode cX1_findTellers 114 = .ok (.return_, 1) := by decide +kernel
theorem dX1_kindsBetween_0 : decode cX1_kindsBetween 0 = .ok (.aload_n 0, 1) := by decide +kernel
theorem dX1_kindsBetween_1 : decode cX1_kindsBetween 1 = .ok (.getfield 15, 3) := by decide +kernel
theorem dX1_kindsBetween_4 : decode cX1_kindsBetween 4 = .ok (.iload_n 1, 1) := by decide +kernel
theorem dX1_kindsBetween_5 : decode cX1_kindsBetween 5 = .ok (.laload, 1) := by decide +kernel
theorem dX1_kindsBetween_6 : decode cX1_kindsBetween 6 = .ok (.iload_n 2, 1) := by decide +kernel
theorem dX1_kindsBetween_7 : decode cX1_kindsBetween 7 = .ok (.invokestatic 56, 3) := by decide +kernel
theorem dX1_kindsBetween_10 : decode cX1_kindsBetween 10 = .ok (.ifCond .eq 7, 3) := by decide +kernel
theorem dX1_kindsBetween_13 : decode cX1_kindsBetween 13 = .ok (.iconst 1, 1) := by decide +kernel
theorem dX1_kindsBetween_14 : decode cX1_kindsBetween 14 = .ok (.goto 4, 3) := by decide +kernel
theorem dX1_kindsBetween_17 : decode cX1_kindsBetween 17 = .ok (.iconst 0, 1) := by decide +kernel
theorem dX1_kindsBetween_18 : decode cX1_kindsBetween 18 = .ok (.aload_n 0, 1) := by decide +kernel
theorem dX1_kindsBetween_19 : decode cX1_kindsBetween 19 = .ok (.getfield 18, 3) := by decide +kernel
theorem dX1_kindsBetween_22 : decode cX1_kindsBetween 22 = .ok (.iload_n 1, 1) := by decide +kernel
theorem dX1_kindsBetween_23 : decode cX1_kindsBetween 23 = .ok (.laload, 1) := by decide +kernel
theorem dX1_kindsBetween_24 : decode cX1_kindsBetween 24 = .ok (.iload_n 2, 1) := by decide +kernel
theorem dX1_kindsBetween_25 : decode cX1_kindsBetween 25 = .ok (.invokestatic 56, 3) := by decide +kernel
theorem dX1_kindsBetween_28 : decode cX1_kindsBetween 28 = .ok (.ifCond .eq 7, 3) := by decide +kernel
theorem dX1_kindsBetween_31 : decode cX1_kindsBetween 31 = .ok (.iconst 2, 1) := by decide +kernel
theorem dX1_kindsBetween_32 : decode cX1_kindsBetween 32 = .ok (.goto 4, 3) := by decide +kernel
theorem dX1_kindsBetween_35 : decode cX1_kindsBetween 35 = .ok (.iconst 0, 1) := by decide +kernel
theorem dX1_kindsBetween_36 : decode cX1_kindsBetween 36 = .ok (.iadd, 1) := by decide +kernel
theorem dX1_kindsBetween_37 : decode cX1_kindsBetween 37 = .ok (.ireturn, 1) := by decide +kernel
theorem dX1_passOn_0 : decode cX1_passOn 0 = .ok (.iconst 0, 1) := by decide +kernel
theorem dX1_passOn_1 : decode cX1_passOn 1 = .ok (.istore_n 3, 1) := by decide +kernel
theorem dX1_passOn_2 : decode cX1_passOn 2 = .ok (.aload_n 0, 1) := by decide +kernel
theorem dX1_passOn_3 : decode cX1_passOn 3 = .ok (.getfield 30, 3) := by decide +kernel
theorem dX1_passOn_6 : decode cX1_passOn 6 = .ok (.iload_n 1, 1) := by decide +kernel
theorem dX1_passOn_7 : decode cX1_passOn 7 = .ok (.invokevirtual 114, 3) := by decide +kernel
theorem dX1_passOn_10 : decode cX1_passOn 10 = .ok (.ifCond .eq 46, 3) := by decide +kernel
theorem dX1_passOn_13 : decode cX1_passOn 13 = .ok (.aload_n 0, 1) := by decide +kernel
theorem dX1_passOn_14 : decode cX1_passOn 14 = .ok (.getfield 30, 3) := by decide +kernel
theorem dX1_passOn_17 : decode cX1_passOn 17 = .ok (.iload_n 1, 1) := by decide +kernel
theorem dX1_passOn_18 : decode cX1_passOn 18 = .ok (.iload_n 2, 1) := by decide +kernel
theorem dX1_passOn_19 : decode cX1_passOn 19 = .ok (.invokevirtual 117, 3) := by decide +kernel
theorem dX1_passOn_22 : decode cX1_passOn 22 = .ok (.istore 4, 2) := by decide +kernel
theorem dX1_passOn_24 : decode cX1_passOn 24 = .ok (.aload_n 0, 1) := by decide +kernel
theorem dX1_passOn_25 : decode cX1_passOn 25 = .ok (.aload_n 0, 1) := by decide +kernel
theorem dX1_passOn_26 : decode cX1_passOn 26 = .ok (.getfield 30, 3) := by decide +kernel
theorem dX1_passOn_29 : decode cX1_passOn 29 = .ok (.getfield 68, 3) := by decide +kernel
theorem dX1_passOn_32 : decode cX1_passOn 32 = .ok (.iload_n 1, 1) := by decide +kernel
theorem dX1_passOn_33 : decode cX1_passOn 33 = .ok (.iaload, 1) := by decide +kernel
theorem dX1_passOn_34 : decode cX1_passOn 34 = .ok (.iload 4, 2) := by decide +kernel
theorem dX1_passOn_36 : decode cX1_passOn 36 = .ok (.ifCond .eq 10, 3) := by decide +kernel
theorem dX1_passOn_39 : decode cX1_passOn 39 = .ok (.iload_n 1, 1) := by decide +kernel
theorem dX1_passOn_40 : decode cX1_passOn 40 = .ok (.invokestatic 79, 3) := by decide +kernel
theorem dX1_passOn_43 : decode cX1_passOn 43 = .ok (.goto 9, 3) := by decide +kernel
theorem dX1_passOn_46 : decode cX1_passOn 46 = .ok (.aload_n 0, 1) := by decide +kernel
theorem dX1_passOn_47 : decode cX1_passOn 47 = .ok (.getfield 24, 3) := by decide +kernel
theorem dX1_passOn_50 : decode cX1_passOn 50 = .ok (.iload_n 1, 1) := by decide +kernel
theorem dX1_passOn_51 : decode cX1_passOn 51 = .ok (.laload, 1) := by decide +kernel
theorem dX1_passOn_52 : decode cX1_passOn 52 = .ok (.invokevirtual 120, 3) := by decide +kernel
theorem dX1_passOn_55 : decode cX1_passOn 55 = .ok (.istore_n 3, 1) := by decide +kernel
theorem dX1_passOn_56 : decode cX1_passOn 56 = .ok (.aload_n 0, 1) := by decide +kernel
theorem dX1_passOn_57 : decode cX1_passOn 57 = .ok (.getfield 30, 3) := by decide +kernel
theorem dX1_passOn_60 : decode cX1_passOn 60 = .ok (.iload_n 1, 1) := by decide +kernel
theorem dX1_passOn_61 : decode cX1_passOn 61 = .ok (.invokevirtual 72, 3) := by decide +kernel
theorem dX1_passOn_64 : decode cX1_passOn 64 = .ok (.ifCond .eq 48, 3) := by decide +kernel
theorem dX1_passOn_67 : decode cX1_passOn 67 = .ok (.aload_n 0, 1) := by decide +kernel
theorem dX1_passOn_68 : decode cX1_passOn 68 = .ok (.getfield 30, 3) := by decide +kernel
theorem dX1_passOn_71 : decode cX1_passOn 71 = .ok (.iload_n 1, 1) := by decide +kernel
theorem dX1_passOn_72 : decode cX1_passOn 72 = .ok (.iload_n 2, 1) := by decide +kernel
theorem dX1_passOn_73 : decode cX1_passOn 73 = .ok (.invokevirtual 124, 3) := by decide +kernel
theorem dX1_passOn_76 : decode cX1_passOn 76 = .ok (.istore 4, 2) := by decide +kernel
theorem dX1_passOn_78 : decode cX1_passOn 78 = .ok (.iload_n 3, 1) := by decide +kernel
theorem dX1_passOn_79 : decode cX1_passOn 79 = .ok (.aload_n 0, 1) := by decide +kernel
theorem dX1_passOn_80 : decode cX1_passOn 80 = .ok (.aload_n 0, 1) := by decide +kernel
theorem dX1_passOn_81 : decode cX1_passOn 81 = .ok (.getfield 30, 3) := by decide +kernel
theorem dX1_passOn_84 : decode cX1_passOn 84 = .ok (.getfield 76, 3) := by decide +kernel
theorem dX1_passOn_87 : decode cX1_passOn 87 = .ok (.iload_n 1, 1) := by decide +kernel
theorem dX1_passOn_88 : decode cX1_passOn 88 = .ok (.iaload, 1) := by decide +kernel
theorem dX1_passOn_89 : decode cX1_passOn 89 = .ok (.iload 4, 2) := by decide +kernel
theorem dX1_passOn_91 : decode cX1_passOn 91 = .ok (.ifCond .eq 10, 3) := by decide +kernel
theorem dX1_passOn_94 : decode cX1_passOn 94 = .ok (.iload_n 1, 1) := by decide +kernel
theorem dX1_passOn_95 : decode cX1_passOn 95 = .ok (.invokestatic 79, 3) := by decide +kernel
theorem dX1_passOn_98 : decode cX1_passOn 98 = .ok (.goto 9, 3) := by decide +kernel
theorem dX1_passOn_101 : decode cX1_passOn 101 = .ok (.aload_n 0, 1) := by decide +kernel
theorem dX1_passOn_102 : decode cX1_passOn 102 = .ok (.getfield 24, 3) := by decide +kernel
theorem dX1_passOn_105 : decode cX1_passOn 105 = .ok (.iload_n 1, 1) := by decide +kernel
theorem dX1_passOn_106 : decode cX1_passOn 106 = .ok (.laload, 1) := by decide +kernel
theorem dX1_passOn_107 : decode cX1_passOn 107 = .ok (.invokevirtual 120, 3) := by decide +kernel
theorem dX1_passOn_110 : decode cX1_passOn 110 = .ok (.ior, 1) := by decide +kernel
theorem dX1_passOn_111 : decode cX1_passOn 111 = .ok (.istore_n 3, 1) := by decide +kernel
theorem dX1_passOn_112 : decode cX1_passOn 112 = .ok (.iload_n 3, 1) := by decide +kernel
theorem dX1_passOn_113 : decode cX1_passOn 113 = .ok (.ireturn, 1) := by decide +kernel
theorem dX1_tie_0 : decode cX1_tie 0 = .ok (.aload_n 0, 1) := by decide +kernel
theorem dX1_tie_1 : decode cX1_tie 1 = .ok (.getfield 9, 3) := by decide +kernel
theorem dX1_tie_4 : decode cX1_tie 4 = .ok (.iload_n 1, 1) := by decide +kernel
theorem dX1_tie_5 : decode cX1_tie 5 = .ok (.bipush 13, 2) := by decide +kernel
theorem dX1_tie_7 : decode cX1_tie 7 = .ok (.imul, 1) := by decide +kernel
theorem dX1_tie_8 : decode cX1_tie 8 = .ok (.iload_n 2, 1) := by decide +kernel
theorem dX1_tie_9 : decode cX1_tie 9 = .ok (.iadd, 1) := by decide +kernel
theorem dX1_tie_10 : decode cX1_tie 10 = .ok (.bipush 13, 2) := by decide +kernel
theorem dX1_tie_12 : decode cX1_tie 12 = .ok (.imul, 1) := by decide +kernel
theorem dX1_tie_13 : decode cX1_tie 13 = .ok (.iload_n 3, 1) := by decide +kernel
theorem dX1_tie_14 : decode cX1_tie 14 = .ok (.iadd, 1) := by decide +kernel
theorem dX1_tie_15 : decode cX1_tie 15 = .ok (.dup2, 1) := by decide +kernel
theorem dX1_tie_16 : decode cX1_tie 16 = .ok (.laload, 1) := by decide +kernel
theorem dX1_tie_17 : decode cX1_tie 17 = .ok (.lload 4, 2) := by decide +kernel
theorem dX1_tie_19 : decode cX1_tie 19 = .ok (.lor, 1) := by decide +kernel
theorem dX1_tie_20 : decode cX1_tie 20 = .ok (.lastore, 1) := by decide +kernel
theorem dX1_tie_21 : decode cX1_tie 21 = .ok (.return_, 1) := by decide +kernel
theorem dX1_tieAll_0 : decode cX1_tieAll 0 = .ok (.iconst 0, 1) := by decide +kernel
theorem dX1_tieAll_1 : decode cX1_tieAll 1 = .ok (.istore 5, 2) := by decide +kernel
theorem dX1_tieAll_3 : decode cX1_tieAll 3 = .ok (.iload 5, 2) := by decide +kernel
theorem dX1_tieAll_5 : decode cX1_tieAll 5 = .ok (.aload_n 0, 1) := by decide +kernel
theorem dX1_tieAll_6 : decode cX1_tieAll 6 = .ok (.getfield 30, 3) := by decide +kernel
theorem dX1_tieAll_9 : decode cX1_tieAll 9 = .ok (.getfield 62, 3) := by decide +kernel
theorem dX1_tieAll_12 : decode cX1_tieAll 12 = .ok (.if_icmp .ge 31, 3) := by decide +kernel
theorem dX1_tieAll_15 : decode cX1_tieAll 15 = .ok (.lload_n 1, 1) := by decide +kernel
theorem dX1_tieAll_16 : decode cX1_tieAll 16 = .ok (.iload 5, 2) := by decide +kernel
theorem dX1_tieAll_18 : decode cX1_tieAll 18 = .ok (.invokestatic 56, 3) := by decide +kernel
theorem dX1_tieAll_21 : decode cX1_tieAll 21 = .ok (.ifCond .eq 16, 3) := by decide +kernel
theorem dX1_tieAll_24 : decode cX1_tieAll 24 = .ok (.aload_n 0, 1) := by decide +kernel
theorem dX1_tieAll_25 : decode cX1_tieAll 25 = .ok (.iload 5, 2) := by decide +kernel
theorem dX1_tieAll_27 : decode cX1_tieAll 27 = .ok (.iconst 0, 1) := by decide +kernel
theorem dX1_tieAll_28 : decode cX1_tieAll 28 = .ok (.iload_n 3, 1) := by decide +kernel
theorem dX1_tieAll_29 : decode cX1_tieAll 29 = .ok (.iload 4, 2) := by decide +kernel
theorem dX1_tieAll_31 : decode cX1_tieAll 31 = .ok (.invokestatic 79, 3) := by decide +kernel
theorem dX1_tieAll_34 : decode cX1_tieAll 34 = .ok (.invokevirtual 103, 3) := by decide +kernel
theorem dX1_tieAll_37 : decode cX1_tieAll 37 = .ok (.iinc 5 1, 3) := by decide +kernel
theorem dX1_tieAll_40 : decode cX1_tieAll 40 = .ok (.goto (-37), 3) := by decide +kernel
theorem dX1_tieAll_43 : decode cX1_tieAll 43 = .ok (.return_, 1) := by decide +kernel
theorem dX1_tieByValue_0 : decode cX1_tieByValue 0 = .ok (.iconst 0, 1) := by decide +kernel
theorem dX1_tieByValue_1 : decode cX1_tieByValue 1 = .ok (.istore_n 2, 1) := by decide +kernel
theorem dX1_tieByValue_2 : decode cX1_tieByValue 2 = .ok (.iload_n 2, 1) := by decide +kernel
theorem dX1_tieByValue_3 : decode cX1_tieByValue 3 = .ok (.aload_n 0, 1) := by decide +kernel
theorem dX1_tieByValue_4 : decode cX1_tieByValue 4 = .ok (.getfield 30, 3) := by decide +kernel
theorem dX1_tieByValue_7 : decode cX1_tieByValue 7 = .ok (.getfield 62, 3) := by decide +kernel
theorem dX1_tieByValue_10 : decode cX1_tieByValue 10 = .ok (.if_icmp .ge 107, 3) := by decide +kernel
theorem dX1_tieByValue_13 : decode cX1_tieByValue 13 = .ok (.aload_n 0, 1) := by decide +kernel
theorem dX1_tieByValue_14 : decode cX1_tieByValue 14 = .ok (.getfield 30, 3) := by decide +kernel
theorem dX1_tieByValue_17 : decode cX1_tieByValue 17 = .ok (.getfield 100, 3) := by decide +kernel
theorem dX1_tieByValue_20 : decode cX1_tieByValue 20 = .ok (.iload_n 2, 1) := by decide +kernel
theorem dX1_tieByValue_21 : decode cX1_tieByValue 21 = .ok (.iaload, 1) := by decide +kernel
theorem dX1_tieByValue_22 : decode cX1_tieByValue 22 = .ok (.iconst 1, 1) := by decide +kernel
theorem dX1_tieByValue_23 : decode cX1_tieByValue 23 = .ok (.if_icmp .ne 7, 3) := by decide +kernel
theorem dX1_tieByValue_26 : decode cX1_tieByValue 26 = .ok (.iconst 1, 1) := by decide +kernel
theorem dX1_tieByValue_27 : decode cX1_tieByValue 27 = .ok (.goto 4, 3) := by decide +kernel
theorem dX1_tieByValue_30 : decode cX1_tieByValue 30 = .ok (.iconst 0, 1) := by decide +kernel
theorem dX1_tieByValue_31 : decode cX1_tieByValue 31 = .ok (.istore_n 3, 1) := by decide +kernel
theorem dX1_tieByValue_32 : decode cX1_tieByValue 32 = .ok (.aload_n 0, 1) := by decide +kernel
theorem dX1_tieByValue_33 : decode cX1_tieByValue 33 = .ok (.getfield 30, 3) := by decide +kernel
theorem dX1_tieByValue_36 : decode cX1_tieByValue 36 = .ok (.getfield 127, 3) := by decide +kernel
theorem dX1_tieByValue_39 : decode cX1_tieByValue 39 = .ok (.iload_n 2, 1) := by decide +kernel
theorem dX1_tieByValue_40 : decode cX1_tieByValue 40 = .ok (.iaload, 1) := by decide +kernel
theorem dX1_tieByValue_41 : decode cX1_tieByValue 41 = .ok (.iload_n 1, 1) := by decide +kernel
theorem dX1_tieByValue_42 : decode cX1_tieByValue 42 = .ok (.if_icmp .ne 18, 3) := by decide +kernel
theorem dX1_tieByValue_45 : decode cX1_tieByValue 45 = .ok (.aload_n 0, 1) := by decide +kernel
theorem dX1_tieByValue_46 : decode cX1_tieByValue 46 = .ok (.iload_n 2, 1) := by decide +kernel
theorem dX1_tieByValue_47 : decode cX1_tieByValue 47 = .ok (.iload_n 3, 1) := by decide +kernel
theorem dX1_tieByValue_48 : decode cX1_tieByValue 48 = .ok (.ifCond .eq 7, 3) := by decide +kernel
theorem dX1_tieByValue_51 : decode cX1_tieByValue 51 = .ok (.iconst 1, 1) := by decide +kernel
theorem dX1_tieByValue_52 : decode cX1_tieByValue 52 = .ok (.goto 4, 3) := by decide +kernel
theorem dX1_tieByValue_55 : decode cX1_tieByValue 55 = .ok (.iconst 0, 1) := by decide +kernel
theorem dX1_tieByValue_56 : decode cX1_tieByValue 56 = .ok (.iload_n 1, 1) := by decide +kernel
theorem dX1_tieByValue_57 : decode cX1_tieByValue 57 = .ok (.invokevirtual 130, 3) := by decide +kernel
theorem dX1_tieByValue_60 : decode cX1_tieByValue 60 = .ok (.aload_n 0, 1) := by decide +kernel
theorem dX1_tieByValue_61 : decode cX1_tieByValue 61 = .ok (.getfield 30, 3) := by decide +kernel
theorem dX1_tieByValue_64 : decode cX1_tieByValue 64 = .ok (.getfield 134, 3) := by decide +kernel
theorem dX1_tieByValue_67 : decode cX1_tieByValue 67 = .ok (.iload_n 2, 1) := by decide +kernel
theorem dX1_tieByValue_68 : decode cX1_tieByValue 68 = .ok (.iaload, 1) := by decide +kernel
theorem dX1_tieByValue_69 : decode cX1_tieByValue 69 = .ok (.iload_n 1, 1) := by decide +kernel
theorem dX1_tieByValue_70 : decode cX1_tieByValue 70 = .ok (.if_icmp .ne 18, 3) := by decide +kernel
theorem dX1_tieByValue_73 : decode cX1_tieByValue 73 = .ok (.aload_n 0, 1) := by decide +kernel
theorem dX1_tieByValue_74 : decode cX1_tieByValue 74 = .ok (.iload_n 2, 1) := by decide +kernel
theorem dX1_tieByValue_75 : decode cX1_tieByValue 75 = .ok (.iload_n 3, 1) := by decide +kernel
theorem dX1_tieByValue_76 : decode cX1_tieByValue 76 = .ok (.ifCond .eq 7, 3) := by decide +kernel
theorem dX1_tieByValue_79 : decode cX1_tieByValue 79 = .ok (.iconst 2, 1) := by decide +kernel
theorem dX1_tieByValue_80 : decode cX1_tieByValue 80 = .ok (.goto 4, 3) := by decide +kernel
theorem dX1_tieByValue_83 : decode cX1_tieByValue 83 = .ok (.iconst 0, 1) := by decide +kernel
theorem dX1_tieByValue_84 : decode cX1_tieByValue 84 = .ok (.iload_n 1, 1) := by decide +kernel
theorem dX1_tieByValue_85 : decode cX1_tieByValue 85 = .ok (.invokevirtual 130, 3) := by decide +kernel
theorem dX1_tieByValue_88 : decode cX1_tieByValue 88 = .ok (.iload_n 3, 1) := by decide +kernel
theorem dX1_tieByValue_89 : decode cX1_tieByValue 89 = .ok (.ifCond .eq 22, 3) := by decide +kernel
theorem dX1_tieByValue_92 : decode cX1_tieByValue 92 = .ok (.iload_n 1, 1) := by decide +kernel
theorem dX1_tieByValue_93 : decode cX1_tieByValue 93 = .ok (.invokestatic 107, 3) := by decide +kernel
theorem dX1_tieByValue_96 : decode cX1_tieByValue 96 = .ok (.ifCond .eq 15, 3) := by decide +kernel
theorem dX1_tieByValue_99 : decode cX1_tieByValue 99 = .ok (.aload_n 0, 1) := by decide +kernel
theorem dX1_tieByValue_100 : decode cX1_tieByValue 100 = .ok (.iload_n 2, 1) := by decide +kernel
theorem dX1_tieByValue_101 : decode cX1_tieByValue 101 = .ok (.iconst 1, 1) := by decide +kernel
theorem dX1_tieByValue_102 : decode cX1_tieByValue 102 = .ok (.iload_n 1, 1) := by decide +kernel
theorem dX1_tieByValue_103 : decode cX1_tieByValue 103 = .ok (.invokestatic 137, 3) := by decide +kernel
theorem dX1_tieByValue_106 : decode cX1_tieByValue 106 = .ok (.iadd, 1) := by decide +kernel
theorem dX1_tieByValue_107 : decode cX1_tieByValue 107 = .ok (.iload_n 1, 1) := by decide +kernel
theorem dX1_tieByValue_108 : decode cX1_tieByValue 108 = .ok (.invokevirtual 130, 3) := by decide +kernel
theorem dX1_tieByValue_111 : decode cX1_tieByValue 111 = .ok (.iinc 2 1, 3) := by decide +kernel
theorem dX1_tieByValue_114 : decode cX1_tieByValue 114 = .ok (.goto (-112), 3) := by decide +kernel
theorem dX1_tieByValue_117 : decode cX1_tieByValue 117 = .ok (.iload_n 1, 1) := by decide +kernel
theorem dX1_tieByValue_118 : decode cX1_tieByValue 118 = .ok (.invokestatic 107, 3) := by decide +kernel
theorem dX1_tieByValue_121 : decode cX1_tieByValue 121 = .ok (.ifCond .eq 38, 3) := by decide +kernel
theorem dX1_tieByValue_124 : decode cX1_tieByValue 124 = .ok (.iconst 0, 1) := by decide +kernel
theorem dX1_tieByValue_125 : decode cX1_tieByValue 125 = .ok (.istore_n 2, 1) := by decide +kernel
theorem dX1_tieByValue_126 : decode cX1_tieByValue 126 = .ok (.iload_n 2, 1) := by decide +kernel
theorem dX1_tieByValue_127 : decode cX1_tieByValue 127 = .ok (.aload_n 0, 1) := by decide +kernel
theorem dX1_tieByValue_128 : decode cX1_tieByValue 128 = .ok (.getfield 30, 3) := by decide +kernel
theorem dX1_tieByValue_131 : decode cX1_tieByValue 131 = .ok (.getfield 90, 3) := by decide +kernel
theorem dX1_tieByValue_134 : decode cX1_tieByValue 134 = .ok (.if_icmp .ge 25, 3) := by decide +kernel
theorem dX1_tieByValue_137 : decode cX1_tieByValue 137 = .ok (.aload_n 0, 1) := by decide +kernel
theorem dX1_tieByValue_138 : decode cX1_tieByValue 138 = .ok (.bipush 40, 2) := by decide +kernel
theorem dX1_tieByValue_140 : decode cX1_tieByValue 140 = .ok (.iload_n 2, 1) := by decide +kernel
theorem dX1_tieByValue_141 : decode cX1_tieByValue 141 = .ok (.iadd, 1) := by decide +kernel
theorem dX1_tieByValue_142 : decode cX1_tieByValue 142 = .ok (.bipush 7, 2) := by decide +kernel
theorem dX1_tieByValue_144 : decode cX1_tieByValue 144 = .ok (.iload_n 1, 1) := by decide +kernel
theorem dX1_tieByValue_145 : decode cX1_tieByValue 145 = .ok (.invokestatic 137, 3) := by decide +kernel
theorem dX1_tieByValue_148 : decode cX1_tieByValue 148 = .ok (.iadd, 1) := by decide +kernel
theorem dX1_tieByValue_149 : decode cX1_tieByValue 149 = .ok (.iload_n 1, 1) := by decide +kernel
theorem dX1_tieByValue_150 : decode cX1_tieByValue 150 = .ok (.invokevirtual 130, 3) := by decide +kernel
theorem dX1_tieByValue_153 : decode cX1_tieByValue 153 = .ok (.iinc 2 1, 3) := by decide +kernel
theorem dX1_tieByValue_156 : decode cX1_tieByValue 156 = .ok (.goto (-30), 3) := by decide +kernel
theorem dX1_tieByValue_159 : decode cX1_tieByValue 159 = .ok (.return_, 1) := by decide +kernel
theorem dX1_tieByWay_0 : decode cX1_tieByWay 0 = .ok (.aload_n 0, 1) := by decide +kernel
theorem dX1_tieByWay_1 : decode cX1_tieByWay 1 = .ok (.invokevirtual 83, 3) := by decide +kernel
theorem dX1_tieByWay_4 : decode cX1_tieByWay 4 = .ok (.iconst 0, 1) := by decide +kernel
theorem dX1_tieByWay_5 : decode cX1_tieByWay 5 = .ok (.istore_n 1, 1) := by decide +kernel
theorem dX1_tieByWay_6 : decode cX1_tieByWay 6 = .ok (.iload_n 1, 1) := by decide +kernel
theorem dX1_tieByWay_7 : decode cX1_tieByWay 7 = .ok (.aload_n 0, 1) := by decide +kernel
theorem dX1_tieByWay_8 : decode cX1_tieByWay 8 = .ok (.getfield 30, 3) := by decide +kernel
theorem dX1_tieByWay_11 : decode cX1_tieByWay 11 = .ok (.getfield 62, 3) := by decide +kernel
theorem dX1_tieByWay_14 : decode cX1_tieByWay 14 = .ok (.if_icmp .ge 54, 3) := by decide +kernel
theorem dX1_tieByWay_17 : decode cX1_tieByWay 17 = .ok (.aload_n 0, 1) := by decide +kernel
theorem dX1_tieByWay_18 : decode cX1_tieByWay 18 = .ok (.getfield 30, 3) := by decide +kernel
theorem dX1_tieByWay_21 : decode cX1_tieByWay 21 = .ok (.iload_n 1, 1) := by decide +kernel
theorem dX1_tieByWay_22 : decode cX1_tieByWay 22 = .ok (.invokevirtual 72, 3) := by decide +kernel
theorem dX1_tieByWay_25 : decode cX1_tieByWay 25 = .ok (.ifCond .eq 37, 3) := by decide +kernel
theorem dX1_tieByWay_28 : decode cX1_tieByWay 28 = .ok (.aload_n 0, 1) := by decide +kernel
theorem dX1_tieByWay_29 : decode cX1_tieByWay 29 = .ok (.iload_n 1, 1) := by decide +kernel
theorem dX1_tieByWay_30 : decode cX1_tieByWay 30 = .ok (.aload_n 0, 1) := by decide +kernel
theorem dX1_tieByWay_31 : decode cX1_tieByWay 31 = .ok (.getfield 27, 3) := by decide +kernel
theorem dX1_tieByWay_34 : decode cX1_tieByWay 34 = .ok (.aload_n 0, 1) := by decide +kernel
theorem dX1_tieByWay_35 : decode cX1_tieByWay 35 = .ok (.getfield 30, 3) := by decide +kernel
theorem dX1_tieByWay_38 : decode cX1_tieByWay 38 = .ok (.getfield 68, 3) := by decide +kernel
theorem dX1_tieByWay_41 : decode cX1_tieByWay 41 = .ok (.iload_n 1, 1) := by decide +kernel
theorem dX1_tieByWay_42 : decode cX1_tieByWay 42 = .ok (.iaload, 1) := by decide +kernel
theorem dX1_tieByWay_43 : decode cX1_tieByWay 43 = .ok (.laload, 1) := by decide +kernel
theorem dX1_tieByWay_44 : decode cX1_tieByWay 44 = .ok (.aload_n 0, 1) := by decide +kernel
theorem dX1_tieByWay_45 : decode cX1_tieByWay 45 = .ok (.getfield 27, 3) := by decide +kernel
theorem dX1_tieByWay_48 : decode cX1_tieByWay 48 = .ok (.aload_n 0, 1) := by decide +kernel
theorem dX1_tieByWay_49 : decode cX1_tieByWay 49 = .ok (.getfield 30, 3) := by decide +kernel
theorem dX1_tieByWay_52 : decode cX1_tieByWay 52 = .ok (.getfield 76, 3) := by decide +kernel
theorem dX1_tieByWay_55 : decode cX1_tieByWay 55 = .ok (.iload_n 1, 1) := by decide +kernel
theorem dX1_tieByWay_56 : decode cX1_tieByWay 56 = .ok (.iaload, 1) := by decide +kernel
theorem dX1_tieByWay_57 : decode cX1_tieByWay 57 = .ok (.laload, 1) := by decide +kernel
theorem dX1_tieByWay_58 : decode cX1_tieByWay 58 = .ok (.lxor, 1) := by decide +kernel
theorem dX1_tieByWay_59 : decode cX1_tieByWay 59 = .ok (.invokevirtual 86, 3) := by decide +kernel
theorem dX1_tieByWay_62 : decode cX1_tieByWay 62 = .ok (.iinc 1 1, 3) := by decide +kernel
theorem dX1_tieByWay_65 : decode cX1_tieByWay 65 = .ok (.goto (-59), 3) := by decide +kernel
theorem dX1_tieByWay_68 : decode cX1_tieByWay 68 = .ok (.iconst 0, 1) := by decide +kernel
theorem dX1_tieByWay_69 : decode cX1_tieByWay 69 = .ok (.istore_n 1, 1) := by decide +kernel
theorem dX1_tieByWay_70 : decode cX1_tieByWay 70 = .ok (.iload_n 1, 1) := by decide +kernel
theorem dX1_tieByWay_71 : decode cX1_tieByWay 71 = .ok (.aload_n 0, 1) := by decide +kernel
theorem dX1_tieByWay_72 : decode cX1_tieByWay 72 = .ok (.getfield 30, 3) := by decide +kernel
theorem dX1_tieByWay_75 : decode cX1_tieByWay 75 = .ok (.getfield 90, 3) := by decide +kernel
theorem dX1_tieByWay_78 : decode cX1_tieByWay 78 = .ok (.if_icmp .ge 44, 3) := by decide +kernel
theorem dX1_tieByWay_81 : decode cX1_tieByWay 81 = .ok (.aload_n 0, 1) := by decide +kernel
theorem dX1_tieByWay_82 : decode cX1_tieByWay 82 = .ok (.getfield 21, 3) := by decide +kernel
theorem dX1_tieByWay_85 : decode cX1_tieByWay 85 = .ok (.iload_n 1, 1) := by decide +kernel
theorem dX1_tieByWay_86 : decode cX1_tieByWay 86 = .ok (.aload_n 0, 1) := by decide +kernel
theorem dX1_tieByWay_87 : decode cX1_tieByWay 87 = .ok (.getfield 27, 3) := by decide +kernel
theorem dX1_tieByWay_90 : decode cX1_tieByWay 90 = .ok (.aload_n 0, 1) := by decide +kernel
theorem dX1_tieByWay_91 : decode cX1_tieByWay 91 = .ok (.getfield 30, 3) := by decide +kernel
theorem dX1_tieByWay_94 : decode cX1_tieByWay 94 = .ok (.getfield 93, 3) := by decide +kernel
theorem dX1_tieByWay_97 : decode cX1_tieByWay 97 = .ok (.iload_n 1, 1) := by decide +kernel
theorem dX1_tieByWay_98 : decode cX1_tieByWay 98 = .ok (.iaload, 1) := by decide +kernel
theorem dX1_tieByWay_99 : decode cX1_tieByWay 99 = .ok (.laload, 1) := by decide +kernel
theorem dX1_tieByWay_100 : decode cX1_tieByWay 100 = .ok (.lastore, 1) := by decide +kernel
theorem dX1_tieByWay_101 : decode cX1_tieByWay 101 = .ok (.aload_n 0, 1) := by decide +kernel
theorem dX1_tieByWay_102 : decode cX1_tieByWay 102 = .ok (.aload_n 0, 1) := by decide +kernel
theorem dX1_tieByWay_103 : decode cX1_tieByWay 103 = .ok (.getfield 21, 3) := by decide +kernel
theorem dX1_tieByWay_106 : decode cX1_tieByWay 106 = .ok (.iload_n 1, 1) := by decide +kernel
theorem dX1_tieByWay_107 : decode cX1_tieByWay 107 = .ok (.laload, 1) := by decide +kernel
theorem dX1_tieByWay_108 : decode cX1_tieByWay 108 = .ok (.iconst 0, 1) := by decide +kernel
theorem dX1_tieByWay_109 : decode cX1_tieByWay 109 = .ok (.bipush 40, 2) := by decide +kernel
theorem dX1_tieByWay_111 : decode cX1_tieByWay 111 = .ok (.iload_n 1, 1) := by decide +kernel
theorem dX1_tieByWay_112 : decode cX1_tieByWay 112 = .ok (.iadd, 1) := by decide +kernel
theorem dX1_tieByWay_113 : decode cX1_tieByWay 113 = .ok (.invokevirtual 96, 3) := by decide +kernel
theorem dX1_tieByWay_116 : decode cX1_tieByWay 116 = .ok (.iinc 1 1, 3) := by decide +kernel
theorem dX1_tieByWay_119 : decode cX1_tieByWay 119 = .ok (.goto (-49), 3) := by decide +kernel
theorem dX1_tieByWay_122 : decode cX1_tieByWay 122 = .ok (.return_, 1) := by decide +kernel
theorem dX1_tieCalls_0 : decode cX1_tieCalls 0 = .ok (.iconst 0, 1) := by decide +kernel
theorem dX1_tieCalls_1 : decode cX1_tieCalls 1 = .ok (.istore_n 1, 1) := by decide +kernel
theorem dX1_tieCalls_2 : decode cX1_tieCalls 2 = .ok (.iload_n 1, 1) := by decide +kernel
theorem dX1_tieCalls_3 : decode cX1_tieCalls 3 = .ok (.aload_n 0, 1) := by decide +kernel
theorem dX1_tieCalls_4 : decode cX1_tieCalls 4 = .ok (.getfield 30, 3) := by decide +kernel
theorem dX1_tieCalls_7 : decode cX1_tieCalls 7 = .ok (.getfield 62, 3) := by decide +kernel
theorem dX1_tieCalls_10 : decode cX1_tieCalls 10 = .ok (.if_icmp .ge 47, 3) := by decide +kernel
theorem dX1_tieCalls_13 : decode cX1_tieCalls 13 = .ok (.aload_n 0, 1) := by decide +kernel
theorem dX1_tieCalls_14 : decode cX1_tieCalls 14 = .ok (.getfield 30, 3) := by decide +kernel
theorem dX1_tieCalls_17 : decode cX1_tieCalls 17 = .ok (.getfield 100, 3) := by decide +kernel
theorem dX1_tieCalls_20 : decode cX1_tieCalls 20 = .ok (.iload_n 1, 1) := by decide +kernel
theorem dX1_tieCalls_21 : decode cX1_tieCalls 21 = .ok (.iaload, 1) := by decide +kernel
theorem dX1_tieCalls_22 : decode cX1_tieCalls 22 = .ok (.iconst 1, 1) := by decide +kernel
theorem dX1_tieCalls_23 : decode cX1_tieCalls 23 = .ok (.if_icmp .ne 28, 3) := by decide +kernel
theorem dX1_tieCalls_26 : decode cX1_tieCalls 26 = .ok (.iconst 1, 1) := by decide +kernel
theorem dX1_tieCalls_27 : decode cX1_tieCalls 27 = .ok (.istore_n 2, 1) := by decide +kernel
theorem dX1_tieCalls_28 : decode cX1_tieCalls 28 = .ok (.iload_n 2, 1) := by decide +kernel
theorem dX1_tieCalls_29 : decode cX1_tieCalls 29 = .ok (.bipush 13, 2) := by decide +kernel
theorem dX1_tieCalls_31 : decode cX1_tieCalls 31 = .ok (.if_icmp .ge 20, 3) := by decide +kernel
theorem dX1_tieCalls_34 : decode cX1_tieCalls 34 = .ok (.aload_n 0, 1) := by decide +kernel
theorem dX1_tieCalls_35 : decode cX1_tieCalls 35 = .ok (.iload_n 1, 1) := by decide +kernel
theorem dX1_tieCalls_36 : decode cX1_tieCalls 36 = .ok (.iload_n 2, 1) := by decide +kernel
theorem dX1_tieCalls_37 : decode cX1_tieCalls 37 = .ok (.iconst 0, 1) := by decide +kernel
theorem dX1_tieCalls_38 : decode cX1_tieCalls 38 = .ok (.iload_n 1, 1) := by decide +kernel
theorem dX1_tieCalls_39 : decode cX1_tieCalls 39 = .ok (.invokestatic 79, 3) := by decide +kernel
theorem dX1_tieCalls_42 : decode cX1_tieCalls 42 = .ok (.invokevirtual 103, 3) := by decide +kernel
theorem dX1_tieCalls_45 : decode cX1_tieCalls 45 = .ok (.iinc 2 1, 3) := by decide +kernel
theorem dX1_tieCalls_48 : decode cX1_tieCalls 48 = .ok (.goto (-20), 3) := by decide +kernel
theorem dX1_tieCalls_51 : decode cX1_tieCalls 51 = .ok (.iinc 1 1, 3) := by decide +kernel
theorem dX1_tieCalls_54 : decode cX1_tieCalls 54 = .ok (.goto (-52), 3) := by decide +kernel
theorem dX1_tieCalls_57 : decode cX1_tieCalls 57 = .ok (.return_, 1) := by decide +kernel
theorem dX1_tieDecided_0 : decode cX1_tieDecided 0 = .ok (.aload_n 0, 1) := by decide +kernel
theorem dX1_tieDecided_1 : decode cX1_tieDecided 1 = .ok (.lload_n 2, 1) := by decide +kernel
theorem dX1_tieDecided_2 : decode cX1_tieDecided 2 = .ok (.aload_n 0, 1) := by decide +kernel
theorem dX1_tieDecided_3 : decode cX1_tieDecided 3 = .ok (.getfield 30, 3) := by decide +kernel
theorem dX1_tieDecided_6 : decode cX1_tieDecided 6 = .ok (.getfield 100, 3) := by decide +kernel
theorem dX1_tieDecided_9 : decode cX1_tieDecided 9 = .ok (.iload_n 1, 1) := by decide +kernel
theorem dX1_tieDecided_10 : decode cX1_tieDecided 10 = .ok (.iaload, 1) := by decide +kernel
theorem dX1_tieDecided_11 : decode cX1_tieDecided 11 = .ok (.iconst 1, 1) := by decide +kernel
theorem dX1_tieDecided_12 : decode cX1_tieDecided 12 = .ok (.if_icmp .ne 8, 3) := by decide +kernel
theorem dX1_tieDecided_15 : decode cX1_tieDecided 15 = .ok (.bipush 8, 2) := by decide +kernel
theorem dX1_tieDecided_17 : decode cX1_tieDecided 17 = .ok (.goto 4, 3) := by decide +kernel
theorem dX1_tieDecided_20 : decode cX1_tieDecided 20 = .ok (.iconst 0, 1) := by decide +kernel
theorem dX1_tieDecided_21 : decode cX1_tieDecided 21 = .ok (.iload_n 1, 1) := by decide +kernel
theorem dX1_tieDecided_22 : decode cX1_tieDecided 22 = .ok (.invokevirtual 96, 3) := by decide +kernel
theorem dX1_tieDecided_25 : decode cX1_tieDecided 25 = .ok (.iconst 0, 1) := by decide +kernel
theorem dX1_tieDecided_26 : decode cX1_tieDecided 26 = .ok (.istore 4, 2) := by decide +kernel
theorem dX1_tieDecided_28 : decode cX1_tieDecided 28 = .ok (.iload 4, 2) := by decide +kernel
theorem dX1_tieDecided_30 : decode cX1_tieDecided 30 = .ok (.aload_n 0, 1) := by decide +kernel
theorem dX1_tieDecided_31 : decode cX1_tieDecided 31 = .ok (.getfield 30, 3) := by decide +kernel
theorem dX1_tieDecided_34 : decode cX1_tieDecided 34 = .ok (.getfield 62, 3) := by decide +kernel
theorem dX1_tieDecided_37 : decode cX1_tieDecided 37 = .ok (.if_icmp .ge 32, 3) := by decide +kernel
theorem dX1_tieDecided_40 : decode cX1_tieDecided 40 = .ok (.lload_n 2, 1) := by decide +kernel
theorem dX1_tieDecided_41 : decode cX1_tieDecided 41 = .ok (.iload 4, 2) := by decide +kernel
theorem dX1_tieDecided_43 : decode cX1_tieDecided 43 = .ok (.invokestatic 56, 3) := by decide +kernel
theorem dX1_tieDecided_46 : decode cX1_tieDecided 46 = .ok (.ifCond .eq 17, 3) := by decide +kernel
theorem dX1_tieDecided_49 : decode cX1_tieDecided 49 = .ok (.aload_n 0, 1) := by decide +kernel
theorem dX1_tieDecided_50 : decode cX1_tieDecided 50 = .ok (.getfield 18, 3) := by decide +kernel
theorem dX1_tieDecided_53 : decode cX1_tieDecided 53 = .ok (.iload 4, 2) := by decide +kernel
theorem dX1_tieDecided_55 : decode cX1_tieDecided 55 = .ok (.dup2, 1) := by decide +kernel
theorem dX1_tieDecided_56 : decode cX1_tieDecided 56 = .ok (.laload, 1) := by decide +kernel
theorem dX1_tieDecided_57 : decode cX1_tieDecided 57 = .ok (.iload_n 1, 1) := by decide +kernel
theorem dX1_tieDecided_58 : decode cX1_tieDecided 58 = .ok (.invokestatic 79, 3) := by decide +kernel
theorem dX1_tieDecided_61 : decode cX1_tieDecided 61 = .ok (.lor, 1) := by decide +kernel
theorem dX1_tieDecided_62 : decode cX1_tieDecided 62 = .ok (.lastore, 1) := by decide +kernel
theorem dX1_tieDecided_63 : decode cX1_tieDecided 63 = .ok (.iinc 4 1, 3) := by decide +kernel
theorem dX1_tieDecided_66 : decode cX1_tieDecided 66 = .ok (.goto (-38), 3) := by decide +kernel
theorem dX1_tieDecided_69 : decode cX1_tieDecided 69 = .ok (.return_, 1) := by decide +kernel
theorem dX1_tieEnds_0 : decode cX1_tieEnds 0 = .ok (.iconst 0, 1) := by decide +kernel
theorem dX1_tieEnds_1 : decode cX1_tieEnds 1 = .ok (.istore_n 1, 1) := by decide +kernel
theorem dX1_tieEnds_2 : decode cX1_tieEnds 2 = .ok (.iload_n 1, 1) := by decide +kernel
theorem dX1_tieEnds_3 : decode cX1_tieEnds 3 = .ok (.aload_n 0, 1) := by decide +kernel
theorem dX1_tieEnds_4 : decode cX1_tieEnds 4 = .ok (.getfield 30, 3) := by decide +kernel
theorem dX1_tieEnds_7 : decode cX1_tieEnds 7 = .ok (.getfield 62, 3) := by decide +kernel
theorem dX1_tieEnds_10 : decode cX1_tieEnds 10 = .ok (.if_icmp .ge 128, 3) := by decide +kernel
theorem dX1_tieEnds_13 : decode cX1_tieEnds 13 = .ok (.aload_n 0, 1) := by decide +kernel
theorem dX1_tieEnds_14 : decode cX1_tieEnds 14 = .ok (.getfield 30, 3) := by decide +kernel
theorem dX1_tieEnds_17 : decode cX1_tieEnds 17 = .ok (.getfield 100, 3) := by decide +kernel
theorem dX1_tieEnds_20 : decode cX1_tieEnds 20 = .ok (.iload_n 1, 1) := by decide +kernel
theorem dX1_tieEnds_21 : decode cX1_tieEnds 21 = .ok (.iaload, 1) := by decide +kernel
theorem dX1_tieEnds_22 : decode cX1_tieEnds 22 = .ok (.iconst 5, 1) := by decide +kernel
theorem dX1_tieEnds_23 : decode cX1_tieEnds 23 = .ok (.if_icmp .eq 17, 3) := by decide +kernel
theorem dX1_tieEnds_26 : decode cX1_tieEnds 26 = .ok (.aload_n 0, 1) := by decide +kernel
theorem dX1_tieEnds_27 : decode cX1_tieEnds 27 = .ok (.getfield 30, 3) := by decide +kernel
theorem dX1_tieEnds_30 : decode cX1_tieEnds 30 = .ok (.iload_n 1, 1) := by decide +kernel
theorem dX1_tieEnds_31 : decode cX1_tieEnds 31 = .ok (.invokevirtual 149, 3) := by decide +kernel
theorem dX1_tieEnds_34 : decode cX1_tieEnds 34 = .ok (.ifCond .ne 6, 3) := by decide +kernel
theorem dX1_tieEnds_37 : decode cX1_tieEnds 37 = .ok (.goto 95, 3) := by decide +kernel
theorem dX1_tieEnds_40 : decode cX1_tieEnds 40 = .ok (.aload_n 0, 1) := by decide +kernel
theorem dX1_tieEnds_41 : decode cX1_tieEnds 41 = .ok (.getfield 30, 3) := by decide +kernel
theorem dX1_tieEnds_44 : decode cX1_tieEnds 44 = .ok (.getfield 100, 3) := by decide +kernel
theorem dX1_tieEnds_47 : decode cX1_tieEnds 47 = .ok (.iload_n 1, 1) := by decide +kernel
theorem dX1_tieEnds_48 : decode cX1_tieEnds 48 = .ok (.iaload, 1) := by decide +kernel
theorem dX1_tieEnds_49 : decode cX1_tieEnds 49 = .ok (.iconst 1, 1) := by decide +kernel
theorem dX1_tieEnds_50 : decode cX1_tieEnds 50 = .ok (.if_icmp .ne 7, 3) := by decide +kernel
theorem dX1_tieEnds_53 : decode cX1_tieEnds 53 = .ok (.iconst 1, 1) := by decide +kernel
theorem dX1_tieEnds_54 : decode cX1_tieEnds 54 = .ok (.goto 4, 3) := by decide +kernel
theorem dX1_tieEnds_57 : decode cX1_tieEnds 57 = .ok (.iconst 0, 1) := by decide +kernel
theorem dX1_tieEnds_58 : decode cX1_tieEnds 58 = .ok (.istore_n 2, 1) := by decide +kernel
theorem dX1_tieEnds_59 : decode cX1_tieEnds 59 = .ok (.aload_n 0, 1) := by decide +kernel
theorem dX1_tieEnds_60 : decode cX1_tieEnds 60 = .ok (.getfield 30, 3) := by decide +kernel
theorem dX1_tieEnds_63 : decode cX1_tieEnds 63 = .ok (.getfield 152, 3) := by decide +kernel
theorem dX1_tieEnds_66 : decode cX1_tieEnds 66 = .ok (.iload_n 1, 1) := by decide +kernel
theorem dX1_tieEnds_67 : decode cX1_tieEnds 67 = .ok (.iaload, 1) := by decide +kernel
theorem dX1_tieEnds_68 : decode cX1_tieEnds 68 = .ok (.istore_n 3, 1) := by decide +kernel
theorem dX1_tieEnds_69 : decode cX1_tieEnds 69 = .ok (.aload_n 0, 1) := by decide +kernel
theorem dX1_tieEnds_70 : decode cX1_tieEnds 70 = .ok (.bipush 40, 2) := by decide +kernel
theorem dX1_tieEnds_72 : decode cX1_tieEnds 72 = .ok (.iload_n 3, 1) := by decide +kernel
theorem dX1_tieEnds_73 : decode cX1_tieEnds 73 = .ok (.iadd, 1) := by decide +kernel
theorem dX1_tieEnds_74 : decode cX1_tieEnds 74 = .ok (.bipush 7, 2) := by decide +kernel
theorem dX1_tieEnds_76 : decode cX1_tieEnds 76 = .ok (.iload_n 2, 1) := by decide +kernel
theorem dX1_tieEnds_77 : decode cX1_tieEnds 77 = .ok (.ifCond .eq 8, 3) := by decide +kernel
theorem dX1_tieEnds_80 : decode cX1_tieEnds 80 = .ok (.bipush 7, 2) := by decide +kernel
theorem dX1_tieEnds_82 : decode cX1_tieEnds 82 = .ok (.goto 4, 3) := by decide +kernel
theorem dX1_tieEnds_85 : decode cX1_tieEnds 85 = .ok (.iconst 0, 1) := by decide +kernel
theorem dX1_tieEnds_86 : decode cX1_tieEnds 86 = .ok (.iload_n 1, 1) := by decide +kernel
theorem dX1_tieEnds_87 : decode cX1_tieEnds 87 = .ok (.invokestatic 79, 3) := by decide +kernel
theorem dX1_tieEnds_90 : decode cX1_tieEnds 90 = .ok (.invokevirtual 103, 3) := by decide +kernel
theorem dX1_tieEnds_93 : decode cX1_tieEnds 93 = .ok (.aload_n 0, 1) := by decide +kernel
theorem dX1_tieEnds_94 : decode cX1_tieEnds 94 = .ok (.getfield 30, 3) := by decide +kernel
theorem dX1_tieEnds_97 : decode cX1_tieEnds 97 = .ok (.getfield 155, 3) := by decide +kernel
theorem dX1_tieEnds_100 : decode cX1_tieEnds 100 = .ok (.i2l, 1) := by decide +kernel
theorem dX1_tieEnds_101 : decode cX1_tieEnds 101 = .ok (.iload_n 3, 1) := by decide +kernel
theorem dX1_tieEnds_102 : decode cX1_tieEnds 102 = .ok (.invokestatic 56, 3) := by decide +kernel
theorem dX1_tieEnds_105 : decode cX1_tieEnds 105 = .ok (.ifCond .eq 27, 3) := by decide +kernel
theorem dX1_tieEnds_108 : decode cX1_tieEnds 108 = .ok (.aload_n 0, 1) := by decide +kernel
theorem dX1_tieEnds_109 : decode cX1_tieEnds 109 = .ok (.bipush 40, 2) := by decide +kernel
theorem dX1_tieEnds_111 : decode cX1_tieEnds 111 = .ok (.iload_n 3, 1) := by decide +kernel
theorem dX1_tieEnds_112 : decode cX1_tieEnds 112 = .ok (.iadd, 1) := by decide +kernel
theorem dX1_tieEnds_113 : decode cX1_tieEnds 113 = .ok (.bipush 8, 2) := by decide +kernel
theorem dX1_tieEnds_115 : decode cX1_tieEnds 115 = .ok (.iload_n 2, 1) := by decide +kernel
theorem dX1_tieEnds_116 : decode cX1_tieEnds 116 = .ok (.ifCond .eq 8, 3) := by decide +kernel
theorem dX1_tieEnds_119 : decode cX1_tieEnds 119 = .ok (.bipush 8, 2) := by decide +kernel
theorem dX1_tieEnds_121 : decode cX1_tieEnds 121 = .ok (.goto 4, 3) := by decide +kernel
theorem dX1_tieEnds_124 : decode cX1_tieEnds 124 = .ok (.iconst 0, 1) := by decide +kernel
theorem dX1_tieEnds_125 : decode cX1_tieEnds 125 = .ok (.iload_n 1, 1) := by decide +kernel
theorem dX1_tieEnds_126 : decode cX1_tieEnds 126 = .ok (.invokestatic 79, 3) := by decide +kernel
theorem dX1_tieEnds_129 : decode cX1_tieEnds 129 = .ok (.invokevirtual 103, 3) := by decide +kernel
theorem dX1_tieEnds_132 : decode cX1_tieEnds 132 = .ok (.iinc 1 1, 3) := by decide +kernel
theorem dX1_tieEnds_135 : decode cX1_tieEnds 135 = .ok (.goto (-133), 3) := by decide +kernel
theorem dX1_tieEnds_138 : decode cX1_tieEnds 138 = .ok (.return_, 1) := by decide +kernel
theorem dX1_tieUse_0 : decode cX1_tieUse 0 = .ok (.aload_n 0, 1) := by decide +kernel
theorem dX1_tieUse_1 : decode cX1_tieUse 1 = .ok (.getfield 24, 3) := by decide +kernel
theorem dX1_tieUse_4 : decode cX1_tieUse 4 = .ok (.iload_n 1, 1) := by decide +kernel
theorem dX1_tieUse_5 : decode cX1_tieUse 5 = .ok (.laload, 1) := by decide +kernel
theorem dX1_tieUse_6 : decode cX1_tieUse 6 = .ok (.lstore 4, 2) := by decide +kernel
theorem dX1_tieUse_8 : decode cX1_tieUse 8 = .ok (.iload_n 3, 1) := by decide +kernel
theorem dX1_tieUse_9 : decode cX1_tieUse 9 = .ok (.invokestatic 107, 3) := by decide +kernel
theorem dX1_tieUse_12 : decode cX1_tieUse 12 = .ok (.ifCond .eq 10, 3) := by decide +kernel
theorem dX1_tieUse_15 : decode cX1_tieUse 15 = .ok (.iload_n 3, 1) := by decide +kernel
theorem dX1_tieUse_16 : decode cX1_tieUse 16 = .ok (.invokestatic 137, 3) := by decide +kernel
theorem dX1_tieUse_19 : decode cX1_tieUse 19 = .ok (.goto 4, 3) := by decide +kernel
theorem dX1_tieUse_22 : decode cX1_tieUse 22 = .ok (.iconst 0, 1) := by decide +kernel
theorem dX1_tieUse_23 : decode cX1_tieUse 23 = .ok (.istore 6, 2) := by decide +kernel
theorem dX1_tieUse_25 : decode cX1_tieUse 25 = .ok (.iload_n 3, 1) := by decide +kernel
theorem dX1_tieUse_26 : decode cX1_tieUse 26 = .ok (.invokestatic 107, 3) := by decide +kernel
theorem dX1_tieUse_29 : decode cX1_tieUse 29 = .ok (.ifCond .eq 10, 3) := by decide +kernel
theorem dX1_tieUse_32 : decode cX1_tieUse 32 = .ok (.iload_n 3, 1) := by decide +kernel
theorem dX1_tieUse_33 : decode cX1_tieUse 33 = .ok (.invokestatic 137, 3) := by decide +kernel
theorem dX1_tieUse_36 : decode cX1_tieUse 36 = .ok (.goto 4, 3) := by decide +kernel
theorem dX1_tieUse_39 : decode cX1_tieUse 39 = .ok (.iload_n 3, 1) := by decide +kernel
theorem dX1_tieUse_40 : decode cX1_tieUse 40 = .ok (.istore 7, 2) := by decide +kernel
theorem dX1_tieUse_42 : decode cX1_tieUse 42 = .ok (.aload_n 0, 1) := by decide +kernel
theorem dX1_tieUse_43 : decode cX1_tieUse 43 = .ok (.iload_n 1, 1) := by decide +kernel
theorem dX1_tieUse_44 : decode cX1_tieUse 44 = .ok (.iload_n 2, 1) := by decide +kernel
theorem dX1_tieUse_45 : decode cX1_tieUse 45 = .ok (.iconst 0, 1) := by decide +kernel
theorem dX1_tieUse_46 : decode cX1_tieUse 46 = .ok (.lload 4, 2) := by decide +kernel
theorem dX1_tieUse_48 : decode cX1_tieUse 48 = .ok (.ldc2_w 60, 3) := by decide +kernel
theorem dX1_tieUse_51 : decode cX1_tieUse 51 = .ok (.land, 1) := by decide +kernel
theorem dX1_tieUse_52 : decode cX1_tieUse 52 = .ok (.aload_n 0, 1) := by decide +kernel
theorem dX1_tieUse_53 : decode cX1_tieUse 53 = .ok (.getfield 30, 3) := by decide +kernel
theorem dX1_tieUse_56 : decode cX1_tieUse 56 = .ok (.getfield 141, 3) := by decide +kernel
theorem dX1_tieUse_59 : decode cX1_tieUse 59 = .ok (.ldc2_w 145, 3) := by decide +kernel
theorem dX1_tieUse_62 : decode cX1_tieUse 62 = .ok (.lxor, 1) := by decide +kernel
theorem dX1_tieUse_63 : decode cX1_tieUse 63 = .ok (.land, 1) := by decide +kernel
theorem dX1_tieUse_64 : decode cX1_tieUse 64 = .ok (.invokevirtual 103, 3) := by decide +kernel
theorem dX1_tieUse_67 : decode cX1_tieUse 67 = .ok (.aload_n 0, 1) := by decide +kernel
theorem dX1_tieUse_68 : decode cX1_tieUse 68 = .ok (.iload_n 1, 1) := by decide +kernel
theorem dX1_tieUse_69 : decode cX1_tieUse 69 = .ok (.iload_n 2, 1) := by decide +kernel
theorem dX1_tieUse_70 : decode cX1_tieUse 70 = .ok (.bipush 7, 2) := by decide +kernel
theorem dX1_tieUse_72 : decode cX1_tieUse 72 = .ok (.iload 6, 2) := by decide +kernel
theorem dX1_tieUse_74 : decode cX1_tieUse 74 = .ok (.iadd, 1) := by decide +kernel
theorem dX1_tieUse_75 : decode cX1_tieUse 75 = .ok (.lload 4, 2) := by decide +kernel
theorem dX1_tieUse_77 : decode cX1_tieUse 77 = .ok (.aload_n 0, 1) := by decide +kernel
theorem dX1_tieUse_78 : decode cX1_tieUse 78 = .ok (.getfield 30, 3) := by decide +kernel
theorem dX1_tieUse_81 : decode cX1_tieUse 81 = .ok (.getfield 141, 3) := by decide +kernel
theorem dX1_tieUse_84 : decode cX1_tieUse 84 = .ok (.land, 1) := by decide +kernel
theorem dX1_tieUse_85 : decode cX1_tieUse 85 = .ok (.invokevirtual 103, 3) := by decide +kernel
theorem dX1_tieUse_88 : decode cX1_tieUse 88 = .ok (.aload_n 0, 1) := by decide +kernel
theorem dX1_tieUse_89 : decode cX1_tieUse 89 = .ok (.iload_n 1, 1) := by decide +kernel
theorem dX1_tieUse_90 : decode cX1_tieUse 90 = .ok (.iload_n 2, 1) := by decide +kernel
theorem dX1_tieUse_91 : decode cX1_tieUse 91 = .ok (.iconst 1, 1) := by decide +kernel
theorem dX1_tieUse_92 : decode cX1_tieUse 92 = .ok (.iload 7, 2) := by decide +kernel
theorem dX1_tieUse_94 : decode cX1_tieUse 94 = .ok (.iadd, 1) := by decide +kernel
theorem dX1_tieUse_95 : decode cX1_tieUse 95 = .ok (.lload 4, 2) := by decide +kernel
theorem dX1_tieUse_97 : decode cX1_tieUse 97 = .ok (.ldc2_w 147, 3) := by decide +kernel
theorem dX1_tieUse_100 : decode cX1_tieUse 100 = .ok (.land, 1) := by decide +kernel
theorem dX1_tieUse_101 : decode cX1_tieUse 101 = .ok (.invokevirtual 103, 3) := by decide +kernel
theorem dX1_tieUse_104 : decode cX1_tieUse 104 = .ok (.iload_n 1, 1) := by decide +kernel
theorem dX1_tieUse_105 : decode cX1_tieUse 105 = .ok (.bipush 40, 2) := by decide +kernel
theorem dX1_tieUse_107 : decode cX1_tieUse 107 = .ok (.if_icmp .ge 18, 3) := by decide +kernel
theorem dX1_tieUse_110 : decode cX1_tieUse 110 = .ok (.aload_n 0, 1) := by decide +kernel
theorem dX1_tieUse_111 : decode cX1_tieUse 111 = .ok (.getfield 15, 3) := by decide +kernel
theorem dX1_tieUse_114 : decode cX1_tieUse 114 = .ok (.iload_n 1, 1) := by decide +kernel
theorem dX1_tieUse_115 : decode cX1_tieUse 115 = .ok (.dup2, 1) := by decide +kernel
theorem dX1_tieUse_116 : decode cX1_tieUse 116 = .ok (.laload, 1) := by decide +kernel
theorem dX1_tieUse_117 : decode cX1_tieUse 117 = .ok (.lload 4, 2) := by decide +kernel
theorem dX1_tieUse_119 : decode cX1_tieUse 119 = .ok (.ldc2_w 60, 3) := by decide +kernel
theorem dX1_tieUse_122 : decode cX1_tieUse 122 = .ok (.land, 1) := by decide +kernel
theorem dX1_tieUse_123 : decode cX1_tieUse 123 = .ok (.lor, 1) := by decide +kernel
theorem dX1_tieUse_124 : decode cX1_tieUse 124 = .ok (.lastore, 1) := by decide +kernel
theorem dX1_tieUse_125 : decode cX1_tieUse 125 = .ok (.return_, 1) := by decide +kernel
