theorem dJ7_fill_53178_0 : decode cJ7_fill_53178 0 = .ok (.iconst 0, 1) := by decide +kernel
theorem dJ7_fill_53178_1 : decode cJ7_fill_53178 1 = .ok (.istore_n 2, 1) := by decide +kernel
theorem dJ7_fill_53178_2 : decode cJ7_fill_53178 2 = .ok (.aload_n 0, 1) := by decide +kernel
theorem dJ7_fill_53178_3 : decode cJ7_fill_53178 3 = .ok (.arraylength, 1) := by decide +kernel
theorem dJ7_fill_53178_4 : decode cJ7_fill_53178 4 = .ok (.istore_n 3, 1) := by decide +kernel
theorem dJ7_fill_53178_5 : decode cJ7_fill_53178 5 = .ok (.iload_n 2, 1) := by decide +kernel
theorem dJ7_fill_53178_6 : decode cJ7_fill_53178 6 = .ok (.iload_n 3, 1) := by decide +kernel
theorem dJ7_fill_53178_7 : decode cJ7_fill_53178 7 = .ok (.if_icmp .ge 13, 3) := by decide +kernel
theorem dJ7_fill_53178_10 : decode cJ7_fill_53178 10 = .ok (.aload_n 0, 1) := by decide +kernel
theorem dJ7_fill_53178_11 : decode cJ7_fill_53178 11 = .ok (.iload_n 2, 1) := by decide +kernel
theorem dJ7_fill_53178_12 : decode cJ7_fill_53178 12 = .ok (.iload_n 1, 1) := by decide +kernel
theorem dJ7_fill_53178_13 : decode cJ7_fill_53178 13 = .ok (.iastore, 1) := by decide +kernel
theorem dJ7_fill_53178_14 : decode cJ7_fill_53178 14 = .ok (.iinc 2 1, 3) := by decide +kernel
theorem dJ7_fill_53178_17 : decode cJ7_fill_53178 17 = .ok (.goto (-12), 3) := by decide +kernel
theorem dJ7_fill_53178_20 : decode cJ7_fill_53178 20 = .ok (.return_, 1) := by decide +kernel
theorem dJ7_fill_d0a16_0 : decode cJ7_fill_d0a16 0 = .ok (.iconst 0, 1) := by decide +kernel
theorem dJ7_fill_d0a16_1 : decode cJ7_fill_d0a16 1 = .ok (.istore_n 3, 1) := by decide +kernel
theorem dJ7_fill_d0a16_2 : decode cJ7_fill_d0a16 2 = .ok (.aload_n 0, 1) := by decide +kernel
theorem dJ7_fill_d0a16_3 : decode cJ7_fill_d0a16 3 = .ok (.arraylength, 1) := by decide +kernel
theorem dJ7_fill_d0a16_4 : decode cJ7_fill_d0a16 4 = .ok (.istore 4, 2) := by decide +kernel
theorem dJ7_fill_d0a16_6 : decode cJ7_fill_d0a16 6 = .ok (.iload_n 3, 1) := by decide +kernel
theorem dJ7_fill_d0a16_7 : decode cJ7_fill_d0a16 7 = .ok (.iload 4, 2) := by decide +kernel
theorem dJ7_fill_d0a16_9 : decode cJ7_fill_d0a16 9 = .ok (.if_icmp .ge 13, 3) := by decide +kernel
theorem dJ7_fill_d0a16_12 : decode cJ7_fill_d0a16 12 = .ok (.aload_n 0, 1) := by decide +kernel
theorem dJ7_fill_d0a16_13 : decode cJ7_fill_d0a16 13 = .ok (.iload_n 3, 1) := by decide +kernel
theorem dJ7_fill_d0a16_14 : decode cJ7_fill_d0a16 14 = .ok (.lload_n 1, 1) := by decide +kernel
theorem dJ7_fill_d0a16_15 : decode cJ7_fill_d0a16 15 = .ok (.lastore, 1) := by decide +kernel
theorem dJ7_fill_d0a16_16 : decode cJ7_fill_d0a16 16 = .ok (.iinc 3 1, 3) := by decide +kernel
theorem dJ7_fill_d0a16_19 : decode cJ7_fill_d0a16 19 = .ok (.goto (-13), 3) := by decide +kernel
theorem dJ7_fill_d0a16_22 : decode cJ7_fill_d0a16 22 = .ok (.return_, 1) := by decide +kernel
theorem dX1_addTellers_0 : decode cX1_addTellers 0 = .ok (.aload_n 0, 1) := by decide +kernel
theorem dX1_addTellers_1 : decode cX1_addTellers 1 = .ok (.getfield 24, 3) := by decide +kernel
theorem dX1_addTellers_4 : decode cX1_addTellers 4 = .ok (.iload_n 1, 1) := by decide +kernel
theorem dX1_addTellers_5 : decode cX1_addTellers 5 = .ok (.laload, 1) := by decide +kernel
theorem dX1_addTellers_6 : decode cX1_addTellers 6 = .ok (.lstore 4, 2) := by decide +kernel
theorem dX1_addTellers_8 : decode cX1_addTellers 8 = .ok (.aload_n 0, 1) := by decide +kernel
theorem dX1_addTellers_9 : decode cX1_addTellers 9 = .ok (.getfield 24, 3) := by decide +kernel
theorem dX1_addTellers_12 : decode cX1_addTellers 12 = .ok (.iload_n 1, 1) := by decide +kernel
theorem dX1_addTellers_13 : decode cX1_addTellers 13 = .ok (.lload 4, 2) := by decide +kernel
theorem dX1_addTellers_15 : decode cX1_addTellers 15 = .ok (.lload_n 2, 1) := by decide +kernel
theorem dX1_addTellers_16 : decode cX1_addTellers 16 = .ok (.lor, 1) := by decide +kernel
theorem dX1_addTellers_17 : decode cX1_addTellers 17 = .ok (.lastore, 1) := by decide +kernel
theorem dX1_addTellers_18 : decode cX1_addTellers 18 = .ok (.aload_n 0, 1) := by decide +kernel
theorem dX1_addTellers_19 : decode cX1_addTellers 19 = .ok (.getfield 24, 3) := by decide +kernel
theorem dX1_addTellers_22 : decode cX1_addTellers 22 = .ok (.iload_n 1, 1) := by decide +kernel
theorem dX1_addTellers_23 : decode cX1_addTellers 23 = .ok (.laload, 1) := by decide +kernel
theorem dX1_addTellers_24 : decode cX1_addTellers 24 = .ok (.lload 4, 2) := by decide +kernel
theorem dX1_addTellers_26 : decode cX1_addTellers 26 = .ok (.lcmp, 1) := by decide +kernel
theorem dX1_addTellers_27 : decode cX1_addTellers 27 = .ok (.ifCond .eq 7, 3) := by decide +kernel
theorem dX1_addTellers_30 : decode cX1_addTellers 30 = .ok (.iconst 1, 1) := by decide +kernel
theorem dX1_addTellers_31 : decode cX1_addTellers 31 = .ok (.goto 4, 3) := by decide +kernel
theorem dX1_addTellers_34 : decode cX1_addTellers 34 = .ok (.iconst 0, 1) := by decide +kernel
theorem dX1_addTellers_35 : decode cX1_addTellers 35 = .ok (.ireturn, 1) := by decide +kernel
theorem dX1_build_0 : decode cX1_build 0 = .ok (.aload_n 0, 1) := by decide +kernel
theorem dX1_build_1 : decode cX1_build 1 = .ok (.aload_n 1, 1) := by decide +kernel
theorem dX1_build_2 : decode cX1_build 2 = .ok (.putfield 30, 3) := by decide +kernel
theorem dX1_build_5 : decode cX1_build 5 = .ok (.aload_n 0, 1) := by decide +kernel
theorem dX1_build_6 : decode cX1_build 6 = .ok (.getfield 9, 3) := by decide +kernel
theorem dX1_build_9 : decode cX1_build 9 = .ok (.lconst 0, 1) := by decide +kernel
theorem dX1_build_10 : decode cX1_build 10 = .ok (.invokestatic 34, 3) := by decide +kernel
theorem dX1_build_13 : decode cX1_build 13 = .ok (.aload_n 0, 1) := by decide +kernel
theorem dX1_build_14 : decode cX1_build 14 = .ok (.getfield 15, 3) := by decide +kernel
theorem dX1_build_17 : decode cX1_build 17 = .ok (.lconst 0, 1) := by decide +kernel
theorem dX1_build_18 : decode cX1_build 18 = .ok (.invokestatic 34, 3) := by decide +kernel
theorem dX1_build_21 : decode cX1_build 21 = .ok (.aload_n 0, 1) := by decide +kernel
theorem dX1_build_22 : decode cX1_build 22 = .ok (.getfield 18, 3) := by decide +kernel
theorem dX1_build_25 : decode cX1_build 25 = .ok (.lconst 0, 1) := by decide +kernel
theorem dX1_build_26 : decode cX1_build 26 = .ok (.invokestatic 34, 3) := by decide +kernel
theorem dX1_build_29 : decode cX1_build 29 = .ok (.aload_n 0, 1) := by decide +kernel
theorem dX1_build_30 : decode cX1_build 30 = .ok (.invokevirtual 40, 3) := by decide +kernel
theorem dX1_build_33 : decode cX1_build 33 = .ok (.iconst 0, 1) := by decide +kernel
theorem dX1_build_34 : decode cX1_build 34 = .ok (.istore_n 2, 1) := by decide +kernel
theorem dX1_build_35 : decode cX1_build 35 = .ok (.iload_n 2, 1) := by decide +kernel
theorem dX1_build_36 : decode cX1_build 36 = .ok (.bipush 10, 2) := by decide +kernel
theorem dX1_build_38 : decode cX1_build 38 = .ok (.if_icmp .ge 19, 3) := by decide +kernel
theorem dX1_build_41 : decode cX1_build 41 = .ok (.aload_n 0, 1) := by decide +kernel
theorem dX1_build_42 : decode cX1_build 42 = .ok (.iload_n 2, 1) := by decide +kernel
theorem dX1_build_43 : decode cX1_build 43 = .ok (.invokevirtual 43, 3) := by decide +kernel
theorem dX1_build_46 : decode cX1_build 46 = .ok (.aload_n 0, 1) := by decide +kernel
theorem dX1_build_47 : decode cX1_build 47 = .ok (.iload_n 2, 1) := by decide +kernel
theorem dX1_build_48 : decode cX1_build 48 = .ok (.invokevirtual 47, 3) := by decide +kernel
theorem dX1_build_51 : decode cX1_build 51 = .ok (.iinc 2 1, 3) := by decide +kernel
theorem dX1_build_54 : decode cX1_build 54 = .ok (.goto (-19), 3) := by decide +kernel
theorem dX1_build_57 : decode cX1_build 57 = .ok (.aload_n 0, 1) := by decide +kernel
theorem dX1_build_58 : decode cX1_build 58 = .ok (.invokevirtual 50, 3) := by decide +kernel
theorem dX1_build_61 : decode cX1_build 61 = .ok (.aload_n 0, 1) := by decide +kernel
theorem dX1_build_62 : decode cX1_build 62 = .ok (.invokevirtual 53, 3) := by decide +kernel
theorem dX1_build_65 : decode cX1_build 65 = .ok (.return_, 1) := by decide +kernel
theorem dX1_findCertain_0 : decode cX1_findCertain 0 = .ok (.iconst 0, 1) := by decide +kernel
theorem dX1_findCertain_1 : decode cX1_findCertain 1 = .ok (.istore_n 1, 1) := by decide +kernel
theorem dX1_findCertain_2 : decode cX1_findCertain 2 = .ok (.iload_n 1, 1) := by decide +kernel
theorem dX1_findCertain_3 : decode cX1_findCertain 3 = .ok (.bipush 45, 2) := by decide +kernel
theorem dX1_findCertain_5 : decode cX1_findCertain 5 = .ok (.if_icmp .ge 28, 3) := by decide +kernel
theorem dX1_findCertain_8 : decode cX1_findCertain 8 = .ok (.aload_n 0, 1) := by decide +kernel
theorem dX1_findCertain_9 : decode cX1_findCertain 9 = .ok (.getfield 27, 3) := by decide +kernel
theorem dX1_findCertain_12 : decode cX1_findCertain 12 = .ok (.iload_n 1, 1) := by decide +kernel
theorem dX1_findCertain_13 : decode cX1_findCertain 13 = .ok (.iload_n 1, 1) := by decide +kernel
theorem dX1_findCertain_14 : decode cX1_findCertain 14 = .ok (.bipush 40, 2) := by decide +kernel
theorem dX1_findCertain_16 : decode cX1_findCertain 16 = .ok (.if_icmp .ge 9, 3) := by decide +kernel
theorem dX1_findCertain_19 : decode cX1_findCertain 19 = .ok (.ldc2_w 60, 3) := by decide +kernel
theorem dX1_findCertain_22 : decode cX1_findCertain 22 = .ok (.goto 4, 3) := by decide +kernel
theorem dX1_findCertain_25 : decode cX1_findCertain 25 = .ok (.lconst 0, 1) := by decide +kernel
theorem dX1_findCertain_26 : decode cX1_findCertain 26 = .ok (.lastore, 1) := by decide +kernel
theorem dX1_findCertain_27 : decode cX1_findCertain 27 = .ok (.iinc 1 1, 3) := by decide +kernel
theorem dX1_findCertain_30 : decode cX1_findCertain 30 = .ok (.goto (-28), 3) := by decide +kernel
theorem dX1_findCertain_33 : decode cX1_findCertain 33 = .ok (.iconst 1, 1) := by decide +kernel
theorem dX1_findCertain_34 : decode cX1_findCertain 34 = .ok (.istore_n 1, 1) := by decide +kernel
theorem dX1_findCertain_35 : decode cX1_findCertain 35 = .ok (.iconst 0, 1) := by decide +kernel
theorem dX1_findCertain_36 : decode cX1_findCertain 36 = .ok (.istore_n 2, 1) := by decide +kernel
theorem dX1_findCertain_37 : decode cX1_findCertain 37 = .ok (.iload_n 2, 1) := by decide +kernel
theorem dX1_findCertain_38 : decode cX1_findCertain 38 = .ok (.sipush 2025, 3) := by decide +kernel
theorem dX1_findCertain_41 : decode cX1_findCertain 41 = .ok (.if_icmp .ge 118, 3) := by decide +kernel
theorem dX1_findCertain_44 : decode cX1_findCertain 44 = .ok (.iload_n 1, 1) := by decide +kernel
theorem dX1_findCertain_45 : decode cX1_findCertain 45 = .ok (.ifCond .eq 114, 3) := by decide +kernel
theorem dX1_findCertain_48 : decode cX1_findCertain 48 = .ok (.iconst 0, 1) := by decide +kernel
theorem dX1_findCertain_49 : decode cX1_findCertain 49 = .ok (.istore_n 1, 1) := by decide +kernel
theorem dX1_findCertain_50 : decode cX1_findCertain 50 = .ok (.aload_n 0, 1) := by decide +kernel
theorem dX1_findCertain_51 : decode cX1_findCertain 51 = .ok (.getfield 30, 3) := by decide +kernel
theorem dX1_findCertain_54 : decode cX1_findCertain 54 = .ok (.getfield 62, 3) := by decide +kernel
theorem dX1_findCertain_57 : decode cX1_findCertain 57 = .ok (.iconst 1, 1) := by decide +kernel
theorem dX1_findCertain_58 : decode cX1_findCertain 58 = .ok (.isub, 1) := by decide +kernel
theorem dX1_findCertain_59 : decode cX1_findCertain 59 = .ok (.istore_n 3, 1) := by decide +kernel
theorem dX1_findCertain_60 : decode cX1_findCertain 60 = .ok (.iload_n 3, 1) := by decide +kernel
theorem dX1_findCertain_61 : decode cX1_findCertain 61 = .ok (.ifCond .lt 92, 3) := by decide +kernel
theorem dX1_findCertain_64 : decode cX1_findCertain 64 = .ok (.aload_n 0, 1) := by decide +kernel
theorem dX1_findCertain_65 : decode cX1_findCertain 65 = .ok (.getfield 27, 3) := by decide +kernel
theorem dX1_findCertain_68 : decode cX1_findCertain 68 = .ok (.aload_n 0, 1) := by decide +kernel
theorem dX1_findCertain_69 : decode cX1_findCertain 69 = .ok (.getfield 30, 3) := by decide +kernel
theorem dX1_findCertain_72 : decode cX1_findCertain 72 = .ok (.getfield 68, 3) := by decide +kernel
theorem dX1_findCertain_75 : decode cX1_findCertain 75 = .ok (.iload_n 3, 1) := by decide +kernel
theorem dX1_findCertain_76 : decode cX1_findCertain 76 = .ok (.iaload, 1) := by decide +kernel
theorem dX1_findCertain_77 : decode cX1_findCertain 77 = .ok (.laload, 1) := by decide +kernel
theorem dX1_findCertain_78 : decode cX1_findCertain 78 = .ok (.lstore 4, 2) := by decide +kernel
theorem dX1_findCertain_80 : decode cX1_findCertain 80 = .ok (.aload_n 0, 1) := by decide +kernel
theorem dX1_findCertain_81 : decode cX1_findCertain 81 = .ok (.getfield 30, 3) := by decide +kernel
theorem dX1_findCertain_84 : decode cX1_findCertain 84 = .ok (.iload_n 3, 1) := by decide +kernel
theorem dX1_findCertain_85 : decode cX1_findCertain 85 = .ok (.invokevirtual 72, 3) := by decide +kernel
theorem dX1_findCertain_88 : decode cX1_findCertain 88 = .ok (.ifCond .eq 22, 3) := by decide +kernel
theorem dX1_findCertain_91 : decode cX1_findCertain 91 = .ok (.lload 4, 2) := by decide +kernel
theorem dX1_findCertain_93 : decode cX1_findCertain 93 = .ok (.aload_n 0, 1) := by decide +kernel
theorem dX1_findCertain_94 : decode cX1_findCertain 94 = .ok (.getfield 27, 3) := by decide +kernel
theorem dX1_findCertain_97 : decode cX1_findCertain 97 = .ok (.aload_n 0, 1) := by decide +kernel
theorem dX1_findCertain_98 : decode cX1_findCertain 98 = .ok (.getfield 30, 3) := by decide +kernel
theorem dX1_findCertain_101 : decode cX1_findCertain 101 = .ok (.getfield 76, 3) := by decide +kernel
theorem dX1_findCertain_104 : decode cX1_findCertain 104 = .ok (.iload_n 3, 1) := by decide +kernel
theorem dX1_findCertain_105 : decode cX1_findCertain 105 = .ok (.iaload, 1) := by decide +kernel
theorem dX1_findCertain_106 : decode cX1_findCertain 106 = .ok (.laload, 1) := by decide +kernel
theorem dX1_findCertain_107 : decode cX1_findCertain 107 = .ok (.land, 1) := by decide +kernel
theorem dX1_findCertain_108 : decode cX1_findCertain 108 = .ok (.lstore 4, 2) := by decide +kernel
theorem dX1_findCertain_110 : decode cX1_findCertain 110 = .ok (.lload 4, 2) := by decide +kernel
theorem dX1_findCertain_112 : decode cX1_findCertain 112 = .ok (.iload_n 3, 1) := by decide +kernel
theorem dX1_findCertain_113 : decode cX1_findCertain 113 = .ok (.invokestatic 79, 3) := by decide +kernel
theorem dX1_findCertain_116 : decode cX1_findCertain 116 = .ok (.lor, 1) := by decide +kernel
theorem dX1_findCertain_117 : decode cX1_findCertain 117 = .ok (.lstore 4, 2) := by decide +kernel
theorem dX1_findCertain_119 : decode cX1_findCertain 119 = .ok (.iload_n 1, 1) := by decide +kernel
theorem dX1_findCertain_120 : decode cX1_findCertain 120 = .ok (.lload 4, 2) := by decide +kernel
theorem dX1_findCertain_122 : decode cX1_findCertain 122 = .ok (.aload_n 0, 1) := by decide +kernel
theorem dX1_findCertain_123 : decode cX1_findCertain 123 = .ok (.getfield 27, 3) := by decide +kernel
theorem dX1_findCertain_126 : decode cX1_findCertain 126 = .ok (.iload_n 3, 1) := by decide +kernel
theorem dX1_findCertain_127 : decode cX1_findCertain 127 = .ok (.laload, 1) := by decide +kernel
theorem dX1_findCertain_128 : decode cX1_findCertain 128 = .ok (.lcmp, 1) := by decide +kernel
theorem dX1_findCertain_129 : decode cX1_findCertain 129 = .ok (.ifCond .eq 7, 3) := by decide +kernel
theorem dX1_findCertain_132 : decode cX1_findCertain 132 = .ok (.iconst 1, 1) := by decide +kernel
theorem dX1_findCertain_133 : decode cX1_findCertain 133 = .ok (.goto 4, 3) := by decide +kernel
theorem dX1_findCertain_136 : decode cX1_findCertain 136 = .ok (.iconst 0, 1) := by decide +kernel
theorem dX1_findCertain_137 : decode cX1_findCertain 137 = .ok (.ior, 1) := by decide +kernel
theorem dX1_findCertain_138 : decode cX1_findCertain 138 = .ok (.istore_n 1, 1) := by decide +kernel
theorem dX1_findCertain_139 : decode cX1_findCertain 139 = .ok (.aload_n 0, 1) := by decide +kernel
theorem dX1_findCertain_140 : decode cX1_findCertain 140 = .ok (.getfield 27, 3) := by decide +kernel
theorem dX1_findCertain_143 : decode cX1_findCertain 143 = .ok (.iload_n 3, 1) := by decide +kernel
theorem dX1_findCertain_144 : decode cX1_findCertain 144 = .ok (.lload 4, 2) := by decide +kernel
theorem dX1_findCertain_146 : decode cX1_findCertain 146 = .ok (.lastore, 1) := by decide +kernel
theorem dX1_findCertain_147 : decode cX1_findCertain 147 = .ok (.iinc 3 (-1), 3) := by decide +kernel
theorem dX1_findCertain_150 : decode cX1_findCertain 150 = .ok (.goto (-90), 3) := by decide +kernel
theorem dX1_findCertain_153 : decode cX1_findCertain 153 = .ok (.iinc 2 1, 3) := by decide +kernel
theorem dX1_findCertain_156 : decode cX1_findCertain 156 = .ok (.goto (-119), 3) := by decide +kernel
theorem dX1_findCertain_159 : decode cX1_findCertain 159 = .ok (.return_, 1) := by decide +kernel
theorem dX1_findTellers_0 : decode cX1_findTellers 0 = .ok (.aload_n 0, 1) := by decide +kernel
theorem dX1_findTellers_1 : decode cX1_findTellers 1 = .ok (.getfield 24, 3) := by decide +kernel
theorem dX1_findTellers_4 : decode cX1_findTellers 4 = .ok (.lconst 0, 1) := by decide +kernel
theorem dX1_findTellers_5 : decode cX1_findTellers 5 = .ok (.invokestatic 34, 3) := by decide +kernel
theorem dX1_findTellers_8 : decode cX1_findTellers 8 = .ok (.iload_n 1, 1) := by decide +kernel
theorem dX1_findTellers_9 : decode cX1_findTellers 9 = .ok (.iconst 2, 1) := by decide +kernel
theorem dX1_findTellers_10 : decode cX1_findTellers 10 = .ok (.if_icmp .lt 10, 3) := by decide +kernel
theorem dX1_findTellers_13 : decode cX1_findTellers 13 = .ok (.iload_n 1, 1) := by decide +kernel
theorem dX1_findTellers_14 : decode cX1_findTellers 14 = .ok (.invokestatic 107, 3) := by decide +kernel
theorem dX1_findTellers_17 : decode cX1_findTellers 17 = .ok (.ifCond .eq 43, 3) := by decide +kernel
theorem dX1_findTellers_20 : decode cX1_findTellers 20 = .ok (.iconst 0, 1) := by decide +kernel
theorem dX1_findTellers_21 : decode cX1_findTellers 21 = .ok (.istore_n 2, 1) := by decide +kernel
theorem dX1_findTellers_22 : decode cX1_findTellers 22 = .ok (.iload_n 2, 1) := by decide +kernel
theorem dX1_findTellers_23 : decode cX1_findTellers 23 = .ok (.aload_n 0, 1) := by decide +kernel
theorem dX1_findTellers_24 : decode cX1_findTellers 24 = .ok (.getfield 30, 3) := by decide +kernel
theorem dX1_findTellers_27 : decode cX1_findTellers 27 = .ok (.getfield 90, 3) := by decide +kernel
theorem dX1_findTellers_30 : decode cX1_findTellers 30 = .ok (.if_icmp .ge 30, 3) := by decide +kernel
theorem dX1_findTellers_33 : decode cX1_findTellers 33 = .ok (.aload_n 0, 1) := by decide +kernel
theorem dX1_findTellers_34 : decode cX1_findTellers 34 = .ok (.getfield 24, 3) := by decide +kernel
theorem dX1_findTellers_37 : decode cX1_findTellers 37 = .ok (.aload_n 0, 1) := by decide +kernel
theorem dX1_findTellers_38 : decode cX1_findTellers 38 = .ok (.getfield 30, 3) := by decide +kernel
theorem dX1_findTellers_41 : decode cX1_findTellers 41 = .ok (.getfield 93, 3) := by decide +kernel
theorem dX1_findTellers_44 : decode cX1_findTellers 44 = .ok (.iload_n 2, 1) := by decide +kernel
theorem dX1_findTellers_45 : decode cX1_findTellers 45 = .ok (.iaload, 1) := by decide +kernel
theorem dX1_findTellers_46 : decode cX1_findTellers 46 = .ok (.bipush 40, 2) := by decide +kernel
theorem dX1_findTellers_48 : decode cX1_findTellers 48 = .ok (.iload_n 2, 1) := by decide +kernel
theorem dX1_findTellers_49 : decode cX1_findTellers 49 = .ok (.iadd, 1) := by decide +kernel
theorem dX1_findTellers_50 : decode cX1_findTellers 50 = .ok (.invokestatic 79, 3) := by decide +kernel
theorem dX1_findTellers_53 : decode cX1_findTellers 53 = .ok (.lastore, 1) := by decide +kernel
theorem dX1_findTellers_54 : decode cX1_findTellers 54 = .ok (.iinc 2 1, 3) := by decide +kernel
theorem dX1_findTellers_57 : decode cX1_findTellers 57 = .ok (.goto (-35), 3) := by decide +kernel
theorem dX1_findTellers_60 : decode cX1_findTellers 60 = .ok (.iconst 1, 1) := by decide +kernel
theorem dX1_findTellers_61 : decode cX1_findTellers 61 = .ok (.istore_n 2, 1) := by decide +kernel
theorem dX1_findTellers_62 : decode cX1_findTellers 62 = .ok (.iconst 0, 1) := by decide +kernel
theorem dX1_findTellers_63 : decode cX1_findTellers 63 = .ok (.istore_n 3, 1) := by decide +kernel
theorem dX1_findTellers_64 : decode cX1_findTellers 64 = .ok (.iload_n 3, 1) := by decide +kernel
theorem dX1_findTellers_65 : decode cX1_findTellers 65 = .ok (.sipush 2025, 3) := by decide +kernel
theorem dX1_findTellers_68 : decode cX1_findTellers 68 = .ok (.if_icmp .ge 46, 3) := by decide +kernel
theorem dX1_findTellers_71 : decode cX1_findTellers 71 = .ok (.iload_n 2, 1) := by decide +kernel
theorem dX1_findTellers_72 : decode cX1_findTellers 72 = .ok (.ifCond .eq 42, 3) := by decide +kernel
theorem dX1_findTellers_75 : decode cX1_findTellers 75 = .ok (.iconst 0, 1) := by decide +kernel
theorem dX1_findTellers_76 : decode cX1_findTellers 76 = .ok (.istore_n 2, 1) := by decide +kernel
theorem dX1_findTellers_77 : decode cX1_findTellers 77 = .ok (.iconst 0, 1) := by decide +kernel
theorem dX1_findTellers_78 : decode cX1_findTellers 78 = .ok (.istore 4, 2) := by decide +kernel
theorem dX1_findTellers_80 : decode cX1_findTellers 80 = .ok (.iload 4, 2) := by decide +kernel
theorem dX1_findTellers_82 : decode cX1_findTellers 82 = .ok (.aload_n 0, 1) := by decide +kernel
theorem dX1_findTellers_83 : decode cX1_findTellers 83 = .ok (.getfield 30, 3) := by decide +kernel
theorem dX1_findTellers_86 : decode cX1_findTellers 86 = .ok (.getfield 62, 3) := by decide +kernel
theorem dX1_findTellers_89 : decode cX1_findTellers 89 = .ok (.if_icmp .ge 19, 3) := by decide +kernel
theorem dX1_findTellers_92 : decode cX1_findTellers 92 = .ok (.iload_n 2, 1) := by decide +kernel
theorem dX1_findTellers_93 : decode cX1_findTellers 93 = .ok (.aload_n 0, 1) := by decide +kernel
theorem dX1_findTellers_94 : decode cX1_findTellers 94 = .ok (.iload 4, 2) := by decide +kernel
theorem dX1_findTellers_96 : decode cX1_findTellers 96 = .ok (.iload_n 1, 1) := by decide +kernel
theorem dX1_findTellers_97 : decode cX1_findTellers 97 = .ok (.invokevirtual 110, 3) := by decide +kernel
theorem dX1_findTellers_100 : decode cX1_findTellers 100 = .ok (.ior, 1) := by decide +kernel
theorem dX1_findTellers_101 : decode cX1_findTellers 101 = .ok (.istore_n 2, 1) := by decide +kernel
theorem dX1_findTellers_102 : decode cX1_findTellers 102 = .ok (.iinc 4 1, 3) := by decide +kernel
theorem dX1_findTellers_105 : decode cX1_findTellers 105 = .ok (.goto (-25), 3) := by decide +kernel
theorem dX1_findTellers_108 : decode cX1_findTellers 108 = .ok (.iinc 3 1, 3) := by decide +kernel
theorem dX1_findTellers_111 : decode cX1_findTellers 111 = .ok (.goto (-47), 3) := by decide +kernel
theorem dX1_findTellers_114 : decode cX1_findTellers 114 = .ok (.return_, 1) := by decide +kernel
theorem dX1_kindsBetween_0 : decode cX1_kindsBetween 0 = .ok (.aload_n 0, 1) := by decide +kernel
theorem dX1_kindsBetween_1 : decode cX1_kindsBetween 1 = .ok (.getfield 15, 3) := by decide +kernel
theorem dX1_kindsBetween_4 : decode cX1_kindsBetween 4 = .ok (.iload_n 1, 1) := by decide +kernel
theorem dX1_kindsBetween_5 : decode cX1_kindsBetween 5 = .ok (.laload, 1) := by decide +kernel
theorem dX1_kindsBetween_6 : decode cX1_kindsBetween 6 = .ok (.iload_n 2, 1) := by decide +kernel
theorem dX1_kindsBetween_7 : decode cX1_kindsBetween 7 = .ok (.invokestatic 56, 3) := by decide +kernel
theorem dX1_kindsBetween_10 : decode cX1_kindsBetween 10 = .ok (.ifCond .eq 7, 3) := by decide +kernel
theorem dX1_kindsBetween_13 : decode cX1_kindsBetween 13 = .ok (.iconst 1, 1) := by decide +kernel
theorem dX1_kindsBetween_14 : decode cX1_kindsBetween 14 = .ok (.goto 4, 3) := by decide +kernel
theorem dX1_kindsBetween_17 : decode cX1_kindsBetween 17 = .ok (.iconst 0, 1) := by decide +kernel
theorem dX1_kindsBetween_18 : decode cX1_kindsBetween 18 = .ok (.aload_n 0, 1) := by decide +kernel
theorem dX1_kindsBetween_19 : decode cX1_kindsBetween 19 = .ok (.getfield 18, 3) := by decide +kernel
theorem dX1_kindsBetween_22 : decode cX1_kindsBetween 22 = .ok (.iload_n 1, 1) := by decide +kernel
theorem dX1_kindsBetween_23 : decode cX1_kindsBetween 23 = .ok (.laload, 1) := by decide +kernel
theorem dX1_kindsBetween_24 : decode cX1_kindsBetween 24 = .ok (.iload_n 2, 1) := by decide +kernel
theorem dX1_kindsBetween_25 : decode cX1_kindsBetween 25 = .ok (.invokestatic 56, 3) := by decide +kernel
theorem dX1_kindsBetween_28 : decode cX1_kindsBetween 28 = .ok (.ifCond .eq 7, 3) := by decide +kernel
theorem dX1_kindsBetween_31 : decode cX1_kindsBetween 31 = .ok (.iconst 2, 1) := by decide +kernel
theorem dX1_kindsBetween_32 : decode cX1_kindsBetween 32 = .ok (.goto 4, 3) := by decide +kernel
theorem dX1_kindsBetween_35 : decode cX1_kindsBetween 35 = .ok (.iconst 0, 1) := by decide +kernel
theorem dX1_kindsBetween_36 : decode cX1_kindsBetween 36 = .ok (.iadd, 1) := by decide +kernel
theorem dX1_kindsBetween_37 : decode cX1_kindsBetween 37 = .ok (.ireturn, 1) := by decide +kernel
theorem dX1_passOn_0 : decode cX1_passOn 0 = .ok (.iconst 0, 1) := by decide +kernel
theorem dX1_passOn_1 : decode cX1_passOn 1 = .ok (.istore_n 3, 1) := by decide +kernel
theorem dX1_passOn_2 : decode cX1_passOn 2 = .ok (.aload_n 0, 1) := by decide +kernel
theorem dX1_passOn_3 : decode cX1_passOn 3 = .ok (.getfield 30, 3) := by decide +kernel
theorem dX1_passOn_6 : decode cX1_passOn 6 = .ok (.iload_n 1, 1) := by decide +kernel
theorem dX1_passOn_7 : decode cX1_passOn 7 = .ok (.invokevirtual 114, 3) := by decide +kernel
theorem dX1_passOn_10 : decode cX1_passOn 10 = .ok (.ifCond .eq 46, 3) := by decide +kernel
theorem dX1_passOn_13 : decode cX1_passOn 13 = .ok (.aload_n 0, 1) := by decide +kernel
theorem dX1_passOn_14 : decode cX1_passOn 14 = .ok (.getfield 30, 3) := by decide +kernel
theorem dX1_passOn_17 : decode cX1_passOn 17 = .ok (.iload_n 1, 1) := by decide +kernel
theorem dX1_passOn_18 : decode cX1_passOn 18 = .ok (.iload_n 2, 1) := by decide +kernel
theorem dX1_passOn_19 : decode cX1_passOn 19 = .ok (.invokevirtual 117, 3) := by decide +kernel
theorem dX1_passOn_22 : decode cX1_passOn 22 = .ok (.istore 4, 2) := by decide +kernel
theorem dX1_passOn_24 : decode cX1_passOn 24 = .ok (.aload_n 0, 1) := by decide +kernel
theorem dX1_passOn_25 : decode cX1_passOn 25 = .ok (.aload_n 0, 1) := by decide +kernel
theorem dX1_passOn_26 : decode cX1_passOn 26 = .ok (.getfield 30, 3) := by decide +kernel
theorem dX1_passOn_29 : decode cX1_passOn 29 = .ok (.getfield 68, 3) := by decide +kernel
theorem dX1_passOn_32 : decode cX1_passOn 32 = .ok (.iload_n 1, 1) := by decide +kernel
theorem dX1_passOn_33 : decode cX1_passOn 33 = .ok (.iaload, 1) := by decide +kernel
theorem dX1_passOn_34 : decode cX1_passOn 34 = .ok (.iload 4, 2) := by decide +kernel
theorem dX1_passOn_36 : decode cX1_passOn 36 = .ok (.ifCond .eq 10, 3) := by decide +kernel
theorem dX1_passOn_39 : decode cX1_passOn 39 = .ok (.iload_n 1, 1) := by decide +kernel
theorem dX1_passOn_40 : decode cX1_passOn 40 = .ok (.invokestatic 79, 3) := by decide +kernel
theorem dX1_passOn_43 : decode cX1_passOn 43 = .ok (.goto 9, 3) := by decide +kernel
theorem dX1_passOn_46 : decode cX1_passOn 46 = .ok (.aload_n 0, 1) := by decide +kernel
theorem dX1_passOn_47 : decode cX1_passOn 47 = .ok (.getfield 24, 3) := by decide +kernel
theorem dX1_passOn_50 : decode cX1_passOn 50 = .ok (.iload_n 1, 1) := by decide +kernel
theorem dX1_passOn_51 : decode cX1_passOn 51 = .ok (.laload, 1) := by decide +kernel
theorem dX1_passOn_52 : decode cX1_passOn 52 = .ok (.invokevirtual 120, 3) := by decide +kernel
theorem dX1_passOn_55 : decode cX1_passOn 55 = .ok (.istore_n 3, 1) := by decide +kernel
theorem dX1_passOn_56 : decode cX1_passOn 56 = .ok (.aload_n 0, 1) := by decide +kernel
theorem dX1_passOn_57 : decode cX1_passOn 57 = .ok (.getfield 30, 3) := by decide +kernel
theorem dX1_passOn_60 : decode cX1_passOn 60 = .ok (.iload_n 1, 1) := by decide +kernel
theorem dX1_passOn_61 : decode cX1_passOn 61 = .ok (.invokevirtual 72, 3) := by decide +kernel
theorem dX1_passOn_64 : decode cX1_passOn 64 = .ok (.ifCond .eq 48, 3) := by decide +kernel
theorem dX1_passOn_67 : decode cX1_passOn 67 = .ok (.aload_n 0, 1) := by decide +kernel
theorem dX1_passOn_68 : decode cX1_passOn 68 = .ok (.getfield 30, 3) := by decide +kernel
theorem dX1_passOn_71 : decode cX1_passOn 71 = .ok (.iload_n 1, 1) := by decide +kernel
theorem dX1_passOn_72 : decode cX1_passOn 72 = .ok (.iload_n 2, 1) := by decide +kernel
theorem dX1_passOn_73 : decode cX1_passOn 73 = .ok (.invokevirtual 124, 3) := by decide +kernel
theorem dX1_passOn_76 : decode cX1_passOn 76 = .ok (.istore 4, 2) := by decide +kernel
theorem dX1_passOn_78 : decode cX1_passOn 78 = .ok (.iload_n 3, 1) := by decide +kernel
theorem dX1_passOn_79 : decode cX1_passOn 79 = .ok (.aload_n 0, 1) := by decide +kernel
theorem dX1_passOn_80 : decode cX1_passOn 80 = .ok (.aload_n 0, 1) := by decide +kernel
theorem dX1_passOn_81 : decode cX1_passOn 81 = .ok (.getfield 30, 3) := by decide +kernel
theorem dX1_passOn_84 : decode cX1_passOn 84 = .ok (.getfield 76, 3) := by decide +kernel
theorem dX1_passOn_87 : decode cX1_passOn 87 = .ok (.iload_n 1, 1) := by decide +kernel
theorem dX1_passOn_88 : decode cX1_passOn 88 = .ok (.iaload, 1) := by decide +kernel
theorem dX1_passOn_89 : decode cX1_passOn 89 = .ok (.iload 4, 2) := by decide +kernel
theorem dX1_passOn_91 : decode cX1_passOn 91 = .ok (.ifCond .eq 10, 3) := by decide +kernel
theorem dX1_passOn_94 : decode cX1_passOn 94 = .ok (.iload_n 1, 1) := by decide +kernel
theorem dX1_passOn_95 : decode cX1_passOn 95 = .ok (.invokestatic 79, 3) := by decide +kernel
theorem dX1_passOn_98 : decode cX1_passOn 98 = .ok (.goto 9, 3) := by decide +kernel
theorem dX1_passOn_101 : decode cX1_passOn 101 = .ok (.aload_n 0, 1) := by decide +kernel
theorem dX1_passOn_102 : decode cX1_passOn 102 = .ok (.getfield 24, 3) := by decide +kernel
theorem dX1_passOn_105 : decode cX1_passOn 105 = .ok (.iload_n 1, 1) := by decide +kernel
theorem dX1_passOn_106 : decode cX1_passOn 106 = .ok (.laload, 1) := by decide +kernel
theorem dX1_passOn_107 : decode cX1_passOn 107 = .ok (.invokevirtual 120, 3) := by decide +kernel
theorem dX1_passOn_110 : decode cX1_passOn 110 = .ok (.ior, 1) := by decide +kernel
theorem dX1_passOn_111 : decode cX1_passOn 111 = .ok (.istore_n 3, 1) := by decide +kernel
theorem dX1_passOn_112 : decode cX1_passOn 112 = .ok (.iload_n 3, 1) := by decide +kernel
theorem dX1_passOn_113 : decode cX1_passOn 113 = .ok (.ireturn, 1) := by decide +kernel
theorem dX1_tie_0 : decode cX1_tie 0 = .ok (.aload_n 0, 1) := by decide +kernel
theorem dX1_tie_1 : decode cX1_tie 1 = .ok (.getfield 9, 3) := by decide +kernel
theorem dX1_tie_4 : decode cX1_tie 4 = .ok (.iload_n 1, 1) := by decide +kernel
theorem dX1_tie_5 : decode cX1_tie 5 = .ok (.bipush 13, 2) := by decide +kernel
theorem dX1_tie_7 : decode cX1_tie 7 = .ok (.imul, 1) := by decide +kernel
theorem dX1_tie_8 : decode cX1_tie 8 = .ok (.iload_n 2, 1) := by decide +kernel
theorem dX1_tie_9 : decode cX1_tie 9 = .ok (.iadd, 1) := by decide +kernel
theorem dX1_tie_10 : decode cX1_tie 10 = .ok (.bipush 13, 2) := by decide +kernel
theorem dX1_tie_12 : decode cX1_tie 12 = .ok (.imul, 1) := by decide +kernel
theorem dX1_tie_13 : decode cX1_tie 13 = .ok (.iload_n 3, 1) := by decide +kernel
theorem dX1_tie_14 : decode cX1_tie 14 = .ok (.iadd, 1) := by decide +kernel
theorem dX1_tie_15 : decode cX1_tie 15 = .ok (.dup2, 1) := by decide +kernel
theorem dX1_tie_16 : decode cX1_tie 16 = .ok (.laload, 1) := by decide +kernel
theorem dX1_tie_17 : decode cX1_tie 17 = .ok (.lload 4, 2) := by decide +kernel
theorem dX1_tie_19 : decode cX1_tie 19 = .ok (.lor, 1) := by decide +kernel
theorem dX1_tie_20 : decode cX1_tie 20 = .ok (.lastore, 1) := by decide +kernel
theorem dX1_tie_21 : decode cX1_tie 21 = .ok (.return_, 1) := by decide +kernel
theorem dX1_tieAll_0 : decode cX1_tieAll 0 = .ok (.iconst 0, 1) := by decide +kernel
theorem dX1_tieAll_1 : decode cX1_tieAll 1 = .ok (.istore 5, 2) := by decide +kernel
theorem dX1_tieAll_3 : decode cX1_tieAll 3 = .ok (.iload 5, 2) := by decide +kernel
theorem dX1_tieAll_5 : decode cX1_tieAll 5 = .ok (.aload_n 0, 1) := by decide +kernel
theorem dX1_tieAll_6 : decode cX1_tieAll 6 = .ok (.getfield 30, 3) := by decide +kernel
theorem dX1_tieAll_9 : decode cX1_tieAll 9 = .ok (.getfield 62, 3) := by decide +kernel
theorem dX1_tieAll_12 : decode cX1_tieAll 12 = .ok (.if_icmp .ge 31, 3) := by decide +kernel
theorem dX1_tieAll_15 : decode cX1_tieAll 15 = .ok (.lload_n 1, 1) := by decide +kernel
theorem dX1_tieAll_16 : decode cX1_tieAll 16 = .ok (.iload 5, 2) := by decide +kernel
theorem dX1_tieAll_18 : decode cX1_tieAll 18 = .ok (.invokestatic 56, 3) := by decide +kernel
theorem dX1_tieAll_21 : decode cX1_tieAll 21 = .ok (.ifCond .eq 16, 3) := by decide +kernel
theorem dX1_tieAll_24 : decode cX1_tieAll 24 = .ok (.aload_n 0, 1) := by decide +kernel
theorem dX1_tieAll_25 : decode cX1_tieAll 25 = .ok (.iload 5, 2) := by decide +kernel
theorem dX1_tieAll_27 : decode cX1_tieAll 27 = .ok (.iconst 0, 1) := by decide +kernel
theorem dX1_tieAll_28 : decode cX1_tieAll 28 = .ok (.iload_n 3, 1) := by decide +kernel
theorem dX1_tieAll_29 : decode cX1_tieAll 29 = .ok (.iload 4, 2) := by decide +kernel
theorem dX1_tieAll_31 : decode cX1_tieAll 31 = .ok (.invokestatic 79, 3) := by decide +kernel
theorem dX1_tieAll_34 : decode cX1_tieAll 34 = .ok (.invokevirtual 103, 3) := by decide +kernel
theorem dX1_tieAll_37 : decode cX1_tieAll 37 = .ok (.iinc 5 1, 3) := by decide +kernel
theorem dX1_tieAll_40 : decode cX1_tieAll 40 = .ok (.goto (-37), 3) := by decide +kernel
theorem dX1_tieAll_43 : decode cX1_tieAll 43 = .ok (.return_, 1) := by decide +kernel
theorem dX1_tieByValue_0 : decode cX1_tieByValue 0 = .ok (.iconst 0, 1) := by decide +kernel
theorem dX1_tieByValue_1 : decode cX1_tieByValue 1 = .ok (.istore_n 2, 1) := by decide +kernel
theorem dX1_tieByValue_2 : decode cX1_tieByValue 2 = .ok (.iload_n 2, 1) := by decide +kernel
theorem dX1_tieByValue_3 : decode cX1_tieByValue 3 = .ok (.aload_n 0, 1) := by decide +kernel
theorem dX1_tieByValue_4 : decode cX1_tieByValue 4 = .ok (.getfield 30, 3) := by decide +kernel
theorem dX1_tieByValue_7 : decode cX1_tieByValue 7 = .ok (.getfield 62, 3) := by decide +kernel
theorem dX1_tieByValue_10 : decode cX1_tieByValue 10 = .ok (.if_icmp .ge 107, 3) := by decide +kernel
theorem dX1_tieByValue_13 : decode cX1_tieByValue 13 = .ok (.aload_n 0, 1) := by decide +kernel
theorem dX1_tieByValue_14 : decode cX1_tieByValue 14 = .ok (.getfield 30, 3) := by decide +kernel
theorem dX1_tieByValue_17 : decode cX1_tieByValue 17 = .ok (.getfield 100, 3) := by decide +kernel
theorem dX1_tieByValue_20 : decode cX1_tieByValue 20 = .ok (.iload_n 2, 1) := by decide +kernel
theorem dX1_tieByValue_21 : decode cX1_tieByValue 21 = .ok (.iaload, 1) := by decide +kernel
theorem dX1_tieByValue_22 : decode cX1_tieByValue 22 = .ok (.iconst 1, 1) := by decide +kernel
theorem dX1_tieByValue_23 : decode cX1_tieByValue 23 = .ok (.if_icmp .ne 7, 3) := by decide +kernel
theorem dX1_tieByValue_26 : decode cX1_tieByValue 26 = .ok (.iconst 1, 1) := by decide +kernel
theorem dX1_tieByValue_27 : decode cX1_tieByValue 27 = .ok (.goto 4, 3) := by decide +kernel
theorem dX1_tieByValue_30 : decode cX1_tieByValue 30 = .ok (.iconst 0, 1) := by decide +kernel
theorem dX1_tieByValue_31 : decode cX1_tieByValue 31 = .ok (.istore_n 3, 1) := by decide +kernel
theorem dX1_tieByValue_32 : decode cX1_tieByValue 32 = .ok (.aload_n 0, 1) := by decide +kernel
theorem dX1_tieByValue_33 : decode cX1_tieByValue 33 = .ok (.getfield 30, 3) := by decide +kernel
theorem dX1_tieByValue_36 : decode cX1_tieByValue 36 = .ok (.getfield 127, 3) := by decide +kernel
theorem dX1_tieByValue_39 : decode cX1_tieByValue 39 = .ok (.iload_n 2, 1) := by decide +kernel
theorem dX1_tieByValue_40 : decode cX1_tieByValue 40 = .ok (.iaload, 1) := by decide +kernel
theorem dX1_tieByValue_41 : decode cX1_tieByValue 41 = .ok (.iload_n 1, 1) := by decide +kernel
theorem dX1_tieByValue_42 : decode cX1_tieByValue 42 = .ok (.if_icmp .ne 18, 3) := by decide +kernel
theorem dX1_tieByValue_45 : decode cX1_tieByValue 45 = .ok (.aload_n 0, 1) := by decide +kernel
theorem dX1_tieByValue_46 : decode cX1_tieByValue 46 = .ok (.iload_n 2, 1) := by decide +kernel
theorem dX1_tieByValue_47 : decode cX1_tieByValue 47 = .ok (.iload_n 3, 1) := by decide +kernel
theorem dX1_tieByValue_48 : decode cX1_tieByValue 48 = .ok (.ifCond .eq 7, 3) := by decide +kernel
theorem dX1_tieByValue_51 : decode cX1_tieByValue 51 = .ok (.iconst 1, 1) := by decide +kernel
theorem dX1_tieByValue_52 : decode cX1_tieByValue 52 = .ok (.goto 4, 3) := by decide +kernel
theorem dX1_tieByValue_55 : decode cX1_tieByValue 55 = .ok (.iconst 0, 1) := by decide +kernel
theorem dX1_tieByValue_56 : decode cX1_tieByValue 56 = .ok (.iload_n 1, 1) := by decide +kernel
theorem dX1_tieByValue_57 : decode cX1_tieByValue 57 = .ok (.invokevirtual 130, 3) := by decide +kernel
theorem dX1_tieByValue_60 : decode cX1_tieByValue 60 = .ok (.aload_n 0, 1) := by decide +kernel
theorem dX1_tieByValue_61 : decode cX1_tieByValue 61 = .ok (.getfield 30, 3) := by decide +kernel
theorem dX1_tieByValue_64 : decode cX1_tieByValue 64 = .ok (.getfield 134, 3) := by decide +kernel
theorem dX1_tieByValue_67 : decode cX1_tieByValue 67 = .ok (.iload_n 2, 1) := by decide +kernel
theorem dX1_tieByValue_68 : decode cX1_tieByValue 68 = .ok (.iaload, 1) := by decide +kernel
theorem dX1_tieByValue_69 : decode cX1_tieByValue 69 = .ok (.iload_n 1, 1) := by decide +kernel
theorem dX1_tieByValue_70 : decode cX1_tieByValue 70 = .ok (.if_icmp .ne 18, 3) := by decide +kernel
theorem dX1_tieByValue_73 : decode cX1_tieByValue 73 = .ok (.aload_n 0, 1) := by decide +kernel
theorem dX1_tieByValue_74 : decode cX1_tieByValue 74 = .ok (.iload_n 2, 1) := by decide +kernel
theorem dX1_tieByValue_75 : decode cX1_tieByValue 75 = .ok (.iload_n 3, 1) := by decide +kernel
theorem dX1_tieByValue_76 : decode cX1_tieByValue 76 = .ok (.ifCond .eq 7, 3) := by decide +kernel
theorem dX1_tieByValue_79 : decode cX1_tieByValue 79 = .ok (.iconst 2, 1) := by decide +kernel
theorem dX1_tieByValue_80 : decode cX1_tieByValue 80 = .ok (.goto 4, 3) := by decide +kernel
theorem dX1_tieByValue_83 : decode cX1_tieByValue 83 = .ok (.iconst 0, 1) := by decide +kernel
theorem dX1_tieByValue_84 : decode cX1_tieByValue 84 = .ok (.iload_n 1, 1) := by decide +kernel
theorem dX1_tieByValue_85 : decode cX1_tieByValue 85 = .ok (.invokevirtual 130, 3) := by decide +kernel
theorem dX1_tieByValue_88 : decode cX1_tieByValue 88 = .ok (.iload_n 3, 1) := by decide +kernel
theorem dX1_tieByValue_89 : decode cX1_tieByValue 89 = .ok (.ifCond .eq 22, 3) := by decide +kernel
theorem dX1_tieByValue_92 : decode cX1_tieByValue 92 = .ok (.iload_n 1, 1) := by decide +kernel
theorem dX1_tieByValue_93 : decode cX1_tieByValue 93 = .ok (.invokestatic 107, 3) := by decide +kernel
theorem dX1_tieByValue_96 : decode cX1_tieByValue 96 = .ok (.ifCond .eq 15, 3) := by decide +kernel
theorem dX1_tieByValue_99 : decode cX1_tieByValue 99 = .ok (.aload_n 0, 1) := by decide +kernel
theorem dX1_tieByValue_100 : decode cX1_tieByValue 100 = .ok (.iload_n 2, 1) := by decide +kernel
theorem dX1_tieByValue_101 : decode cX1_tieByValue 101 = .ok (.iconst 1, 1) := by decide +kernel
theorem dX1_tieByValue_102 : decode cX1_tieByValue 102 = .ok (.iload_n 1, 1) := by decide +kernel
theorem dX1_tieByValue_103 : decode cX1_tieByValue 103 = .ok (.invokestatic 137, 3) := by decide +kernel
theorem dX1_tieByValue_106 : decode cX1_tieByValue 106 = .ok (.iadd, 1) := by decide +kernel
theorem dX1_tieByValue_107 : decode cX1_tieByValue 107 = .ok (.iload_n 1, 1) := by decide +kernel
theorem dX1_tieByValue_108 : decode cX1_tieByValue 108 = .ok (.invokevirtual 130, 3) := by decide +kernel
theorem dX1_tieByValue_111 : decode cX1_tieByValue 111 = .ok (.iinc 2 1, 3) := by decide +kernel
theorem dX1_tieByValue_114 : decode cX1_tieByValue 114 = .ok (.goto (-112), 3) := by decide +kernel
theorem dX1_tieByValue_117 : decode cX1_tieByValue 117 = .ok (.iload_n 1, 1) := by decide +kernel
theorem dX1_tieByValue_118 : decode cX1_tieByValue 118 = .ok (.invokestatic 107, 3) := by decide +kernel
theorem dX1_tieByValue_121 : decode cX1_tieByValue 121 = .ok (.ifCond .eq 38, 3) := by decide +kernel
theorem dX1_tieByValue_124 : decode cX1_tieByValue 124 = .ok (.iconst 0, 1) := by decide +kernel
theorem dX1_tieByValue_125 : decode cX1_tieByValue 125 = .ok (.istore_n 2, 1) := by decide +kernel
theorem dX1_tieByValue_126 : decode cX1_tieByValue 126 = .ok (.iload_n 2, 1) := by decide +kernel
theorem dX1_tieByValue_127 : decode cX1_tieByValue 127 = .ok (.aload_n 0, 1) := by decide +kernel
theorem dX1_tieByValue_128 : decode cX1_tieByValue 128 = .ok (.getfield 30, 3) := by decide +kernel
theorem dX1_tieByValue_131 : decode cX1_tieByValue 131 = .ok (.getfield 90, 3) := by decide +kernel
theorem dX1_tieByValue_134 : decode cX1_tieByValue 134 = .ok (.if_icmp .ge 25, 3) := by decide +kernel
theorem dX1_tieByValue_137 : decode cX1_tieByValue 137 = .ok (.aload_n 0, 1) := by decide +kernel
theorem dX1_tieByValue_138 : decode cX1_tieByValue 138 = .ok (.bipush 40, 2) := by decide +kernel
theorem dX1_tieByValue_140 : decode cX1_tieByValue 140 = .ok (.iload_n 2, 1) := by decide +kernel
theorem dX1_tieByValue_141 : decode cX1_tieByValue 141 = .ok (.iadd, 1) := by decide +kernel
theorem dX1_tieByValue_142 : decode cX1_tieByValue 142 = .ok (.bipush 7, 2) := by decide +kernel
theorem dX1_tieByValue_144 : decode cX1_tieByValue 144 = .ok (.iload_n 1, 1) := by decide +kernel
theorem dX1_tieByValue_145 : decode cX1_tieByValue 145 = .ok (.invokestatic 137, 3) := by decide +kernel
theorem dX1_tieByValue_148 : decode cX1_tieByValue 148 = .ok (.iadd, 1) := by decide +kernel
theorem dX1_tieByValue_149 : decode cX1_tieByValue 149 = .ok (.iload_n 1, 1) := by decide +kernel
theorem dX1_tieByValue_150 : decode cX1_tieByValue 150 = .ok (.invokevirtual 130, 3) := by decide +kernel
theorem dX1_tieByValue_153 : decode cX1_tieByValue 153 = .ok (.iinc 2 1, 3) := by decide +kernel
theorem dX1_tieByValue_156 : decode cX1_tieByValue 156 = .ok (.goto (-30), 3) := by decide +kernel
theorem dX1_tieByValue_159 : decode cX1_tieByValue 159 = .ok (.return_, 1) := by decide +kernel
theorem dX1_tieByWay_0 : decode cX1_tieByWay 0 = .ok (.aload_n 0, 1) := by decide +kernel
theorem dX1_tieByWay_1 : decode cX1_tieByWay 1 = .ok (.invokevirtual 83, 3) := by decide +kernel
theorem dX1_tieByWay_4 : decode cX1_tieByWay 4 = .ok (.iconst 0, 1) := by decide +kernel
theorem dX1_tieByWay_5 : decode cX1_tieByWay 5 = .ok (.istore_n 1, 1) := by decide +kernel
theorem dX1_tieByWay_6 : decode cX1_tieByWay 6 = .ok (.iload_n 1, 1) := by decide +kernel
theorem dX1_tieByWay_7 : decode cX1_tieByWay 7 = .ok (.aload_n 0, 1) := by decide +kernel
theorem dX1_tieByWay_8 : decode cX1_tieByWay 8 = .ok (.getfield 30, 3) := by decide +kernel
theorem dX1_tieByWay_11 : decode cX1_tieByWay 11 = .ok (.getfield 62, 3) := by decide +kernel
theorem dX1_tieByWay_14 : decode cX1_tieByWay 14 = .ok (.if_icmp .ge 54, 3) := by decide +kernel
theorem dX1_tieByWay_17 : decode cX1_tieByWay 17 = .ok (.aload_n 0, 1) := by decide +kernel
theorem dX1_tieByWay_18 : decode cX1_tieByWay 18 = .ok (.getfield 30, 3) := by decide +kernel
theorem dX1_tieByWay_21 : decode cX1_tieByWay 21 = .ok (.iload_n 1, 1) := by decide +kernel
theorem dX1_tieByWay_22 : decode cX1_tieByWay 22 = .ok (.invokevirtual 72, 3) := by decide +kernel
theorem dX1_tieByWay_25 : decode cX1_tieByWay 25 = .ok (.ifCond .eq 37, 3) := by decide +kernel
theorem dX1_tieByWay_28 : decode cX1_tieByWay 28 = .ok (.aload_n 0, 1) := by decide +kernel
theorem dX1_tieByWay_29 : decode cX1_tieByWay 29 = .ok (.iload_n 1, 1) := by decide +kernel
theorem dX1_tieByWay_30 : decode cX1_tieByWay 30 = .ok (.aload_n 0, 1) := by decide +kernel
theorem dX1_tieByWay_31 : decode cX1_tieByWay 31 = .ok (.getfield 27, 3) := by decide +kernel
theorem dX1_tieByWay_34 : decode cX1_tieByWay 34 = .ok (.aload_n 0, 1) := by decide +kernel
theorem dX1_tieByWay_35 : decode cX1_tieByWay 35 = .ok (.getfield 30, 3) := by decide +kernel
theorem dX1_tieByWay_38 : decode cX1_tieByWay 38 = .ok (.getfield 68, 3) := by decide +kernel
theorem dX1_tieByWay_41 : decode cX1_tieByWay 41 = .ok (.iload_n 1, 1) := by decide +kernel
theorem dX1_tieByWay_42 : decode cX1_tieByWay 42 = .ok (.iaload, 1) := by decide +kernel
theorem dX1_tieByWay_43 : decode cX1_tieByWay 43 = .ok (.laload, 1) := by decide +kernel
theorem dX1_tieByWay_44 : decode cX1_tieByWay 44 = .ok (.aload_n 0, 1) := by decide +kernel
theorem dX1_tieByWay_45 : decode cX1_tieByWay 45 = .ok (.getfield 27, 3) := by decide +kernel
theorem dX1_tieByWay_48 : decode cX1_tieByWay 48 = .ok (.aload_n 0, 1) := by decide +kernel
theorem dX1_tieByWay_49 : decode cX1_tieByWay 49 = .ok (.getfield 30, 3) := by decide +kernel
theorem dX1_tieByWay_52 : decode cX1_tieByWay 52 = .ok (.getfield 76, 3) := by decide +kernel
theorem dX1_tieByWay_55 : decode cX1_tieByWay 55 = .ok (.iload_n 1, 1) := by decide +kernel
theorem dX1_tieByWay_56 : decode cX1_tieByWay 56 = .ok (.iaload, 1) := by decide +kernel
theorem dX1_tieByWay_57 : decode cX1_tieByWay 57 = .ok (.laload, 1) := by decide +kernel
theorem dX1_tieByWay_58 : decode cX1_tieByWay 58 = .ok (.lxor, 1) := by decide +kernel
theorem dX1_tieByWay_59 : decode cX1_tieByWay 59 = .ok (.invokevirtual 86, 3) := by decide +kernel
theorem dX1_tieByWay_62 : decode cX1_tieByWay 62 = .ok (.iinc 1 1, 3) := by decide +kernel
theorem dX1_tieByWay_65 : decode cX1_tieByWay 65 = .ok (.goto (-59), 3) := by decide +kernel
theorem dX1_tieByWay_68 : decode cX1_tieByWay 68 = .ok (.iconst 0, 1) := by decide +kernel
theorem dX1_tieByWay_69 : decode cX1_tieByWay 69 = .ok (.istore_n 1, 1) := by decide +kernel
theorem dX1_tieByWay_70 : decode cX1_tieByWay 70 = .ok (.iload_n 1, 1) := by decide +kernel
theorem dX1_tieByWay_71 : decode cX1_tieByWay 71 = .ok (.aload_n 0, 1) := by decide +kernel
theorem dX1_tieByWay_72 : decode cX1_tieByWay 72 = .ok (.getfield 30, 3) := by decide +kernel
theorem dX1_tieByWay_75 : decode cX1_tieByWay 75 = .ok (.getfield 90, 3) := by decide +kernel
theorem dX1_tieByWay_78 : decode cX1_tieByWay 78 = .ok (.if_icmp .ge 44, 3) := by decide +kernel
theorem dX1_tieByWay_81 : decode cX1_tieByWay 81 = .ok (.aload_n 0, 1) := by decide +kernel
theorem dX1_tieByWay_82 : decode cX1_tieByWay 82 = .ok (.getfield 21, 3) := by decide +kernel
theorem dX1_tieByWay_85 : decode cX1_tieByWay 85 = .ok (.iload_n 1, 1) := by decide +kernel
theorem dX1_tieByWay_86 : decode cX1_tieByWay 86 = .ok (.aload_n 0, 1) := by decide +kernel
theorem dX1_tieByWay_87 : decode cX1_tieByWay 87 = .ok (.getfield 27, 3) := by decide +kernel
theorem dX1_tieByWay_90 : decode cX1_tieByWay 90 = .ok (.aload_n 0, 1) := by decide +kernel
theorem dX1_tieByWay_91 : decode cX1_tieByWay 91 = .ok (.getfield 30, 3) := by decide +kernel
theorem dX1_tieByWay_94 : decode cX1_tieByWay 94 = .ok (.getfield 93, 3) := by decide +kernel
theorem dX1_tieByWay_97 : decode cX1_tieByWay 97 = .ok (.iload_n 1, 1) := by decide +kernel
theorem dX1_tieByWay_98 : decode cX1_tieByWay 98 = .ok (.iaload, 1) := by decide +kernel
theorem dX1_tieByWay_99 : decode cX1_tieByWay 99 = .ok (.laload, 1) := by decide +kernel
theorem dX1_tieByWay_100 : decode cX1_tieByWay 100 = .ok (.lastore, 1) := by decide +kernel
theorem dX1_tieByWay_101 : decode cX1_tieByWay 101 = .ok (.aload_n 0, 1) := by decide +kernel
theorem dX1_tieByWay_102 : decode cX1_tieByWay 102 = .ok (.aload_n 0, 1) := by decide +kernel
theorem dX1_tieByWay_103 : decode cX1_tieByWay 103 = .ok (.getfield 21, 3) := by decide +kernel
theorem dX1_tieByWay_106 : decode cX1_tieByWay 106 = .ok (.iload_n 1, 1) := by decide +kernel
theorem dX1_tieByWay_107 : decode cX1_tieByWay 107 = .ok (.laload, 1) := by decide +kernel
theorem dX1_tieByWay_108 : decode cX1_tieByWay 108 = .ok (.iconst 0, 1) := by decide +kernel
theorem dX1_tieByWay_109 : decode cX1_tieByWay 109 = .ok (.bipush 40, 2) := by decide +kernel
theorem dX1_tieByWay_111 : decode cX1_tieByWay 111 = .ok (.iload_n 1, 1) := by decide +kernel
theorem dX1_tieByWay_112 : decode cX1_tieByWay 112 = .ok (.iadd, 1) := by decide +kernel
theorem dX1_tieByWay_113 : decode cX1_tieByWay 113 = .ok (.invokevirtual 96, 3) := by decide +kernel
theorem dX1_tieByWay_116 : decode cX1_tieByWay 116 = .ok (.iinc 1 1, 3) := by decide +kernel
theorem dX1_tieByWay_119 : decode cX1_tieByWay 119 = .ok (.goto (-49), 3) := by decide +kernel
theorem dX1_tieByWay_122 : decode cX1_tieByWay 122 = .ok (.return_, 1) := by decide +kernel
theorem dX1_tieCalls_0 : decode cX1_tieCalls 0 = .ok (.iconst 0, 1) := by decide +kernel
theorem dX1_tieCalls_1 : decode cX1_tieCalls 1 = .ok (.istore_n 1, 1) := by decide +kernel
theorem dX1_tieCalls_2 : decode cX1_tieCalls 2 = .ok (.iload_n 1, 1) := by decide +kernel
theorem dX1_tieCalls_3 : decode cX1_tieCalls 3 = .ok (.aload_n 0, 1) := by decide +kernel
theorem dX1_tieCalls_4 : decode cX1_tieCalls 4 = .ok (.getfield 30, 3) := by decide +kernel
theorem dX1_tieCalls_7 : decode cX1_tieCalls 7 = .ok (.getfield 62, 3) := by decide +kernel
theorem dX1_tieCalls_10 : decode cX1_tieCalls 10 = .ok (.if_icmp .ge 47, 3) := by decide +kernel
theorem dX1_tieCalls_13 : decode cX1_tieCalls 13 = .ok (.aload_n 0, 1) := by decide +kernel
theorem dX1_tieCalls_14 : decode cX1_tieCalls 14 = .ok (.getfield 30, 3) := by decide +kernel
theorem dX1_tieCalls_17 : decode cX1_tieCalls 17 = .ok (.getfield 100, 3) := by decide +kernel
theorem dX1_tieCalls_20 : decode cX1_tieCalls 20 = .ok (.iload_n 1, 1) := by decide +kernel
theorem dX1_tieCalls_21 : decode cX1_tieCalls 21 = .ok (.iaload, 1) := by decide +kernel
theorem dX1_tieCalls_22 : decode cX1_tieCalls 22 = .ok (.iconst 1, 1) := by decide +kernel
theorem dX1_tieCalls_23 : decode cX1_tieCalls 23 = .ok (.if_icmp .ne 28, 3) := by decide +kernel
theorem dX1_tieCalls_26 : decode cX1_tieCalls 26 = .ok (.iconst 1, 1) := by decide +kernel
theorem dX1_tieCalls_27 : decode cX1_tieCalls 27 = .ok (.istore_n 2, 1) := by decide +kernel
theorem dX1_tieCalls_28 : decode cX1_tieCalls 28 = .ok (.iload_n 2, 1) := by decide +kernel
theorem dX1_tieCalls_29 : decode cX1_tieCalls 29 = .ok (.bipush 13, 2) := by decide +kernel
theorem dX1_tieCalls_31 : decode cX1_tieCalls 31 = .ok (.if_icmp .ge 20, 3) := by decide +kernel
theorem dX1_tieCalls_34 : decode cX1_tieCalls 34 = .ok (.aload_n 0, 1) := by decide +kernel
theorem dX1_tieCalls_35 : decode cX1_tieCalls 35 = .ok (.iload_n 1, 1) := by decide +kernel
theorem dX1_tieCalls_36 : decode cX1_tieCalls 36 = .ok (.iload_n 2, 1) := by decide +kernel
theorem dX1_tieCalls_37 : decode cX1_tieCalls 37 = .ok (.iconst 0, 1) := by decide +kernel
theorem dX1_tieCalls_38 : decode cX1_tieCalls 38 = .ok (.iload_n 1, 1) := by decide +kernel
theorem dX1_tieCalls_39 : decode cX1_tieCalls 39 = .ok (.invokestatic 79, 3) := by decide +kernel
theorem dX1_tieCalls_42 : decode cX1_tieCalls 42 = .ok (.invokevirtual 103, 3) := by decide +kernel
theorem dX1_tieCalls_45 : decode cX1_tieCalls 45 = .ok (.iinc 2 1, 3) := by decide +kernel
theorem dX1_tieCalls_48 : decode cX1_tieCalls 48 = .ok (.goto (-20), 3) := by decide +kernel
theorem dX1_tieCalls_51 : decode cX1_tieCalls 51 = .ok (.iinc 1 1, 3) := by decide +kernel
theorem dX1_tieCalls_54 : decode cX1_tieCalls 54 = .ok (.goto (-52), 3) := by decide +kernel
theorem dX1_tieCalls_57 : decode cX1_tieCalls 57 = .ok (.return_, 1) := by decide +kernel
theorem dX1_tieDecided_0 : decode cX1_tieDecided 0 = .ok (.aload_n 0, 1) := by decide +kernel
theorem dX1_tieDecided_1 : decode cX1_tieDecided 1 = .ok (.lload_n 2, 1) := by decide +kernel
theorem dX1_tieDecided_2 : decode cX1_tieDecided 2 = .ok (.aload_n 0, 1) := by decide +kernel
theorem dX1_tieDecided_3 : decode cX1_tieDecided 3 = .ok (.getfield 30, 3) := by decide +kernel
theorem dX1_tieDecided_6 : decode cX1_tieDecided 6 = .ok (.getfield 100, 3) := by decide +kernel
theorem dX1_tieDecided_9 : decode cX1_tieDecided 9 = .ok (.iload_n 1, 1) := by decide +kernel
theorem dX1_tieDecided_10 : decode cX1_tieDecided 10 = .ok (.iaload, 1) := by decide +kernel
theorem dX1_tieDecided_11 : decode cX1_tieDecided 11 = .ok (.iconst 1, 1) := by decide +kernel
theorem dX1_tieDecided_12 : decode cX1_tieDecided 12 = .ok (.if_icmp .ne 8, 3) := by decide +kernel
theorem dX1_tieDecided_15 : decode cX1_tieDecided 15 = .ok (.bipush 8, 2) := by decide +kernel
theorem dX1_tieDecided_17 : decode cX1_tieDecided 17 = .ok (.goto 4, 3) := by decide +kernel
theorem dX1_tieDecided_20 : decode cX1_tieDecided 20 = .ok (.iconst 0, 1) := by decide +kernel
theorem dX1_tieDecided_21 : decode cX1_tieDecided 21 = .ok (.iload_n 1, 1) := by decide +kernel
theorem dX1_tieDecided_22 : decode cX1_tieDecided 22 = .ok (.invokevirtual 96, 3) := by decide +kernel
theorem dX1_tieDecided_25 : decode cX1_tieDecided 25 = .ok (.iconst 0, 1) := by decide +kernel
theorem dX1_tieDecided_26 : decode cX1_tieDecided 26 = .ok (.istore 4, 2) := by decide +kernel
theorem dX1_tieDecided_28 : decode cX1_tieDecided 28 = .ok (.iload 4, 2) := by decide +kernel
theorem dX1_tieDecided_30 : decode cX1_tieDecided 30 = .ok (.aload_n 0, 1) := by decide +kernel
theorem dX1_tieDecided_31 : decode cX1_tieDecided 31 = .ok (.getfield 30, 3) := by decide +kernel
theorem dX1_tieDecided_34 : decode cX1_tieDecided 34 = .ok (.getfield 62, 3) := by decide +kernel
theorem dX1_tieDecided_37 : decode cX1_tieDecided 37 = .ok (.if_icmp .ge 32, 3) := by decide +kernel
theorem dX1_tieDecided_40 : decode cX1_tieDecided 40 = .ok (.lload_n 2, 1) := by decide +kernel
theorem dX1_tieDecided_41 : decode cX1_tieDecided 41 = .ok (.iload 4, 2) := by decide +kernel
theorem dX1_tieDecided_43 : decode cX1_tieDecided 43 = .ok (.invokestatic 56, 3) := by decide +kernel
theorem dX1_tieDecided_46 : decode cX1_tieDecided 46 = .ok (.ifCond .eq 17, 3) := by decide +kernel
theorem dX1_tieDecided_49 : decode cX1_tieDecided 49 = .ok (.aload_n 0, 1) := by decide +kernel
theorem dX1_tieDecided_50 : decode cX1_tieDecided 50 = .ok (.getfield 18, 3) := by decide +kernel
theorem dX1_tieDecided_53 : decode cX1_tieDecided 53 = .ok (.iload 4, 2) := by decide +kernel
theorem dX1_tieDecided_55 : decode cX1_tieDecided 55 = .ok (.dup2, 1) := by decide +kernel
theorem dX1_tieDecided_56 : decode cX1_tieDecided 56 = .ok (.laload, 1) := by decide +kernel
theorem dX1_tieDecided_57 : decode cX1_tieDecided 57 = .ok (.iload_n 1, 1) := by decide +kernel
theorem dX1_tieDecided_58 : decode cX1_tieDecided 58 = .ok (.invokestatic 79, 3) := by decide +kernel
theorem dX1_tieDecided_61 : decode cX1_tieDecided 61 = .ok (.lor, 1) := by decide +kernel
theorem dX1_tieDecided_62 : decode cX1_tieDecided 62 = .ok (.lastore, 1) := by decide +kernel
theorem dX1_tieDecided_63 : decode cX1_tieDecided 63 = .ok (.iinc 4 1, 3) := by decide +kernel
theorem dX1_tieDecided_66 : decode cX1_tieDecided 66 = .ok (.goto (-38), 3) := by decide +kernel
theorem dX1_tieDecided_69 : decode cX1_tieDecided 69 = .ok (.return_, 1) := by decide +kernel
theorem dX1_tieEnds_0 : decode cX1_tieEnds 0 = .ok (.iconst 0, 1) := by decide +kernel
theorem dX1_tieEnds_1 : decode cX1_tieEnds 1 = .ok (.istore_n 1, 1) := by decide +kernel
theorem dX1_tieEnds_2 : decode cX1_tieEnds 2 = .ok (.iload_n 1, 1) := by decide +kernel
theorem dX1_tieEnds_3 : decode cX1_tieEnds 3 = .ok (.aload_n 0, 1) := by decide +kernel
theorem dX1_tieEnds_4 : decode cX1_tieEnds 4 = .ok (.getfield 30, 3) := by decide +kernel
theorem dX1_tieEnds_7 : decode cX1_tieEnds 7 = .ok (.getfield 62, 3) := by decide +kernel
theorem dX1_tieEnds_10 : decode cX1_tieEnds 10 = .ok (.if_icmp .ge 128, 3) := by decide +kernel
theorem dX1_tieEnds_13 : decode cX1_tieEnds 13 = .ok (.aload_n 0, 1) := by decide +kernel
theorem dX1_tieEnds_14 : decode cX1_tieEnds 14 = .ok (.getfield 30, 3) := by decide +kernel
theorem dX1_tieEnds_17 : decode cX1_tieEnds 17 = .ok (.getfield 100, 3) := by decide +kernel
theorem dX1_tieEnds_20 : decode cX1_tieEnds 20 = .ok (.iload_n 1, 1) := by decide +kernel
theorem dX1_tieEnds_21 : decode cX1_tieEnds 21 = .ok (.iaload, 1) := by decide +kernel
theorem dX1_tieEnds_22 : decode cX1_tieEnds 22 = .ok (.iconst 5, 1) := by decide +kernel
theorem dX1_tieEnds_23 : decode cX1_tieEnds 23 = .ok (.if_icmp .eq 17, 3) := by decide +kernel
theorem dX1_tieEnds_26 : decode cX1_tieEnds 26 = .ok (.aload_n 0, 1) := by decide +kernel
theorem dX1_tieEnds_27 : decode cX1_tieEnds 27 = .ok (.getfield 30, 3) := by decide +kernel
theorem dX1_tieEnds_30 : decode cX1_tieEnds 30 = .ok (.iload_n 1, 1) := by decide +kernel
theorem dX1_tieEnds_31 : decode cX1_tieEnds 31 = .ok (.invokevirtual 149, 3) := by decide +kernel
theorem dX1_tieEnds_34 : decode cX1_tieEnds 34 = .ok (.ifCond .ne 6, 3) := by decide +kernel
theorem dX1_tieEnds_37 : decode cX1_tieEnds 37 = .ok (.goto 95, 3) := by decide +kernel
theorem dX1_tieEnds_40 : decode cX1_tieEnds 40 = .ok (.aload_n 0, 1) := by decide +kernel
theorem dX1_tieEnds_41 : decode cX1_tieEnds 41 = .ok (.getfield 30, 3) := by decide +kernel
theorem dX1_tieEnds_44 : decode cX1_tieEnds 44 = .ok (.getfield 100, 3) := by decide +kernel
theorem dX1_tieEnds_47 : decode cX1_tieEnds 47 = .ok (.iload_n 1, 1) := by decide +kernel
theorem dX1_tieEnds_48 : decode cX1_tieEnds 48 = .ok (.iaload, 1) := by decide +kernel
theorem dX1_tieEnds_49 : decode cX1_tieEnds 49 = .ok (.iconst 1, 1) := by decide +kernel
theorem dX1_tieEnds_50 : decode cX1_tieEnds 50 = .ok (.if_icmp .ne 7, 3) := by decide +kernel
theorem dX1_tieEnds_53 : decode cX1_tieEnds 53 = .ok (.iconst 1, 1) := by decide +kernel
theorem dX1_tieEnds_54 : decode cX1_tieEnds 54 = .ok (.goto 4, 3) := by decide +kernel
theorem dX1_tieEnds_57 : decode cX1_tieEnds 57 = .ok (.iconst 0, 1) := by decide +kernel
theorem dX1_tieEnds_58 : decode cX1_tieEnds 58 = .ok (.istore_n 2, 1) := by decide +kernel
theorem dX1_tieEnds_59 : decode cX1_tieEnds 59 = .ok (.aload_n 0, 1) := by decide +kernel
theorem dX1_tieEnds_60 : decode cX1_tieEnds 60 = .ok (.getfield 30, 3) := by decide +kernel
theorem dX1_tieEnds_63 : decode cX1_tieEnds 63 = .ok (.getfield 152, 3) := by decide +kernel
theorem dX1_tieEnds_66 : decode cX1_tieEnds 66 = .ok (.iload_n 1, 1) := by decide +kernel
theorem dX1_tieEnds_67 : decode cX1_tieEnds 67 = .ok (.iaload, 1) := by decide +kernel
theorem dX1_tieEnds_68 : decode cX1_tieEnds 68 = .ok (.istore_n 3, 1) := by decide +kernel
theorem dX1_tieEnds_69 : decode cX1_tieEnds 69 = .ok (.aload_n 0, 1) := by decide +kernel
theorem dX1_tieEnds_70 : decode cX1_tieEnds 70 = .ok (.bipush 40, 2) := by decide +kernel
theorem dX1_tieEnds_72 : decode cX1_tieEnds 72 = .ok (.iload_n 3, 1) := by decide +kernel
theorem dX1_tieEnds_73 : decode cX1_tieEnds 73 = .ok (.iadd, 1) := by decide +kernel
theorem dX1_tieEnds_74 : decode cX1_tieEnds 74 = .ok (.bipush 7, 2) := by decide +kernel
theorem dX1_tieEnds_76 : decode cX1_tieEnds 76 = .ok (.iload_n 2, 1) := by decide +kernel
theorem dX1_tieEnds_77 : decode cX1_tieEnds 77 = .ok (.ifCond .eq 8, 3) := by decide +kernel
theorem dX1_tieEnds_80 : decode cX1_tieEnds 80 = .ok (.bipush 7, 2) := by decide +kernel
theorem dX1_tieEnds_82 : decode cX1_tieEnds 82 = .ok (.goto 4, 3) := by decide +kernel
theorem dX1_tieEnds_85 : decode cX1_tieEnds 85 = .ok (.iconst 0, 1) := by decide +kernel
theorem dX1_tieEnds_86 : decode cX1_tieEnds 86 = .ok (.iload_n 1, 1) := by decide +kernel
theorem dX1_tieEnds_87 : decode cX1_tieEnds 87 = .ok (.invokestatic 79, 3) := by decide +kernel
theorem dX1_tieEnds_90 : decode cX1_tieEnds 90 = .ok (.invokevirtual 103, 3) := by decide +kernel
theorem dX1_tieEnds_93 : decode cX1_tieEnds 93 = .ok (.aload_n 0, 1) := by decide +kernel
theorem dX1_tieEnds_94 : decode cX1_tieEnds 94 = .ok (.getfield 30, 3) := by decide +kernel
theorem dX1_tieEnds_97 : decode cX1_tieEnds 97 = .ok (.getfield 155, 3) := by decide +kernel
theorem dX1_tieEnds_100 : decode cX1_tieEnds 100 = .ok (.i2l, 1) := by decide +kernel
theorem dX1_tieEnds_101 : decode cX1_tieEnds 101 = .ok (.iload_n 3, 1) := by decide +kernel
theorem dX1_tieEnds_102 : decode cX1_tieEnds 102 = .ok (.invokestatic 56, 3) := by decide +kernel
theorem dX1_tieEnds_105 : decode cX1_tieEnds 105 = .ok (.ifCond .eq 27, 3) := by decide +kernel
theorem dX1_tieEnds_108 : decode cX1_tieEnds 108 = .ok (.aload_n 0, 1) := by decide +kernel
theorem dX1_tieEnds_109 : decode cX1_tieEnds 109 = .ok (.bipush 40, 2) := by decide +kernel
theorem dX1_tieEnds_111 : decode cX1_tieEnds 111 = .ok (.iload_n 3, 1) := by decide +kernel
theorem dX1_tieEnds_112 : decode cX1_tieEnds 112 = .ok (.iadd, 1) := by decide +kernel
theorem dX1_tieEnds_113 : decode cX1_tieEnds 113 = .ok (.bipush 8, 2) := by decide +kernel
theorem dX1_tieEnds_115 : decode cX1_tieEnds 115 = .ok (.iload_n 2, 1) := by decide +kernel
theorem dX1_tieEnds_116 : decode cX1_tieEnds 116 = .ok (.ifCond .eq 8, 3) := by decide +kernel
theorem dX1_tieEnds_119 : decode cX1_tieEnds 119 = .ok (.bipush 8, 2) := by decide +kernel
theorem dX1_tieEnds_121 : decode cX1_tieEnds 121 = .ok (.goto 4, 3) := by decide +kernel
theorem dX1_tieEnds_124 : decode cX1_tieEnds 124 = .ok (.iconst 0, 1) := by decide +kernel
theorem dX1_tieEnds_125 : decode cX1_tieEnds 125 = .ok (.iload_n 1, 1) := by decide +kernel
theorem dX1_tieEnds_126 : decode cX1_tieEnds 126 = .ok (.invokestatic 79, 3) := by decide +kernel
theorem dX1_tieEnds_129 : decode cX1_tieEnds 129 = .ok (.invokevirtual 103, 3) := by decide +kernel
theorem dX1_tieEnds_132 : decode cX1_tieEnds 132 = .ok (.iinc 1 1, 3) := by decide +kernel
theorem dX1_tieEnds_135 : decode cX1_tieEnds 135 = .ok (.goto (-133), 3) := by decide +kernel
theorem dX1_tieEnds_138 : decode cX1_tieEnds 138 = .ok (.return_, 1) := by decide +kernel
theorem dX1_tieUse_0 : decode cX1_tieUse 0 = .ok (.aload_n 0, 1) := by decide +kernel
theorem dX1_tieUse_1 : decode cX1_tieUse 1 = .ok (.getfield 24, 3) := by decide +kernel
theorem dX1_tieUse_4 : decode cX1_tieUse 4 = .ok (.iload_n 1, 1) := by decide +kernel
theorem dX1_tieUse_5 : decode cX1_tieUse 5 = .ok (.laload, 1) := by decide +kernel
theorem dX1_tieUse_6 : decode cX1_tieUse 6 = .ok (.lstore 4, 2) := by decide +kernel
theorem dX1_tieUse_8 : decode cX1_tieUse 8 = .ok (.iload_n 3, 1) := by decide +kernel
theorem dX1_tieUse_9 : decode cX1_tieUse 9 = .ok (.invokestatic 107, 3) := by decide +kernel
theorem dX1_tieUse_12 : decode cX1_tieUse 12 = .ok (.ifCond .eq 10, 3) := by decide +kernel
theorem dX1_tieUse_15 : decode cX1_tieUse 15 = .ok (.iload_n 3, 1) := by decide +kernel
theorem dX1_tieUse_16 : decode cX1_tieUse 16 = .ok (.invokestatic 137, 3) := by decide +kernel
theorem dX1_tieUse_19 : decode cX1_tieUse 19 = .ok (.goto 4, 3) := by decide +kernel
theorem dX1_tieUse_22 : decode cX1_tieUse 22 = .ok (.iconst 0, 1) := by decide +kernel
theorem dX1_tieUse_23 : decode cX1_tieUse 23 = .ok (.istore 6, 2) := by decide +kernel
theorem dX1_tieUse_25 : decode cX1_tieUse 25 = .ok (.iload_n 3, 1) := by decide +kernel
theorem dX1_tieUse_26 : decode cX1_tieUse 26 = .ok (.invokestatic 107, 3) := by decide +kernel
theorem dX1_tieUse_29 : decode cX1_tieUse 29 = .ok (.ifCond .eq 10, 3) := by decide +kernel
theorem dX1_tieUse_32 : decode cX1_tieUse 32 = .ok (.iload_n 3, 1) := by decide +kernel
theorem dX1_tieUse_33 : decode cX1_tieUse 33 = .ok (.invokestatic 137, 3) := by decide +kernel
theorem dX1_tieUse_36 : decode cX1_tieUse 36 = .ok (.goto 4, 3) := by decide +kernel
theorem dX1_tieUse_39 : decode cX1_tieUse 39 = .ok (.iload_n 3, 1) := by decide +kernel
theorem dX1_tieUse_40 : decode cX1_tieUse 40 = .ok (.istore 7, 2) := by decide +kernel
theorem dX1_tieUse_42 : decode cX1_tieUse 42 = .ok (.aload_n 0, 1) := by decide +kernel
theorem dX1_tieUse_43 : decode cX1_tieUse 43 = .ok (.iload_n 1, 1) := by decide +kernel
theorem dX1_tieUse_44 : decode cX1_tieUse 44 = .ok (.iload_n 2, 1) := by decide +kernel
theorem dX1_tieUse_45 : decode cX1_tieUse 45 = .ok (.iconst 0, 1) := by decide +kernel
theorem dX1_tieUse_46 : decode cX1_tieUse 46 = .ok (.lload 4, 2) := by decide +kernel
theorem dX1_tieUse_48 : decode cX1_tieUse 48 = .ok (.ldc2_w 60, 3) := by decide +kernel
theorem dX1_tieUse_51 : decode cX1_tieUse 51 = .ok (.land, 1) := by decide +kernel
theorem dX1_tieUse_52 : decode cX1_tieUse 52 = .ok (.aload_n 0, 1) := by decide +kernel
theorem dX1_tieUse_53 : decode cX1_tieUse 53 = .ok (.getfield 30, 3) := by decide +kernel
theorem dX1_tieUse_56 : decode cX1_tieUse 56 = .ok (.getfield 141, 3) := by decide +kernel
theorem dX1_tieUse_59 : decode cX1_tieUse 59 = .ok (.ldc2_w 145, 3) := by decide +kernel
theorem dX1_tieUse_62 : decode cX1_tieUse 62 = .ok (.lxor, 1) := by decide +kernel
theorem dX1_tieUse_63 : decode cX1_tieUse 63 = .ok (.land, 1) := by decide +kernel
theorem dX1_tieUse_64 : decode cX1_tieUse 64 = .ok (.invokevirtual 103, 3) := by decide +kernel
theorem dX1_tieUse_67 : decode cX1_tieUse 67 = .ok (.aload_n 0, 1) := by decide +kernel
theorem dX1_tieUse_68 : decode cX1_tieUse 68 = .ok (.iload_n 1, 1) := by decide +kernel
theorem dX1_tieUse_69 : decode cX1_tieUse 69 = .ok (.iload_n 2, 1) := by decide +kernel
theorem dX1_tieUse_70 : decode cX1_tieUse 70 = .ok (.bipush 7, 2) := by decide +kernel
theorem dX1_tieUse_72 : decode cX1_tieUse 72 = .ok (.iload 6, 2) := by decide +kernel
theorem dX1_tieUse_74 : decode cX1_tieUse 74 = .ok (.iadd, 1) := by decide +kernel
theorem dX1_tieUse_75 : decode cX1_tieUse 75 = .ok (.lload 4, 2) := by decide +kernel
theorem dX1_tieUse_77 : decode cX1_tieUse 77 = .ok (.aload_n 0, 1) := by decide +kernel
theorem dX1_tieUse_78 : decode cX1_tieUse 78 = .ok (.getfield 30, 3) := by decide +kernel
theorem dX1_tieUse_81 : decode cX1_tieUse 81 = .ok (.getfield 141, 3) := by decide +kernel
theorem dX1_tieUse_84 : decode cX1_tieUse 84 = .ok (.land, 1) := by decide +kernel
theorem dX1_tieUse_85 : decode cX1_tieUse 85 = .ok (.invokevirtual 103, 3) := by decide +kernel
theorem dX1_tieUse_88 : decode cX1_tieUse 88 = .ok (.aload_n 0, 1) := by decide +kernel
theorem dX1_tieUse_89 : decode cX1_tieUse 89 = .ok (.iload_n 1, 1) := by decide +kernel
theorem dX1_tieUse_90 : decode cX1_tieUse 90 = .ok (.iload_n 2, 1) := by decide +kernel
theorem dX1_tieUse_91 : decode cX1_tieUse 91 = .ok (.iconst 1, 1) := by decide +kernel
theorem dX1_tieUse_92 : decode cX1_tieUse 92 = .ok (.iload 7, 2) := by decide +kernel
theorem dX1_tieUse_94 : decode cX1_tieUse 94 = .ok (.iadd, 1) := by decide +kernel
theorem dX1_tieUse_95 : decode cX1_tieUse 95 = .ok (.lload 4, 2) := by decide +kernel
theorem dX1_tieUse_97 : decode cX1_tieUse 97 = .ok (.ldc2_w 147, 3) := by decide +kernel
theorem dX1_tieUse_100 : decode cX1_tieUse 100 = .ok (.land, 1) := by decide +kernel
theorem dX1_tieUse_101 : decode cX1_tieUse 101 = .ok (.invokevirtual 103, 3) := by decide +kernel
theorem dX1_tieUse_104 : decode cX1_tieUse 104 = .ok (.iload_n 1, 1) := by decide +kernel
theorem dX1_tieUse_105 : decode cX1_tieUse 105 = .ok (.bipush 40, 2) := by decide +kernel
theorem dX1_tieUse_107 : decode cX1_tieUse 107 = .ok (.if_icmp .ge 18, 3) := by decide +kernel
theorem dX1_tieUse_110 : decode cX1_tieUse 110 = .ok (.aload_n 0, 1) := by decide +kernel
theorem dX1_tieUse_111 : decode cX1_tieUse 111 = .ok (.getfield 15, 3) := by decide +kernel
theorem dX1_tieUse_114 : decode cX1_tieUse 114 = .ok (.iload_n 1, 1) := by decide +kernel
theorem dX1_tieUse_115 : decode cX1_tieUse 115 = .ok (.dup2, 1) := by decide +kernel
theorem dX1_tieUse_116 : decode cX1_tieUse 116 = .ok (.laload, 1) := by decide +kernel
theorem dX1_tieUse_117 : decode cX1_tieUse 117 = .ok (.lload 4, 2) := by decide +kernel
theorem dX1_tieUse_119 : decode cX1_tieUse 119 = .ok (.ldc2_w 60, 3) := by decide +kernel
theorem dX1_tieUse_122 : decode cX1_tieUse 122 = .ok (.land, 1) := by decide +kernel
theorem dX1_tieUse_123 : decode cX1_tieUse 123 = .ok (.lor, 1) := by decide +kernel
theorem dX1_tieUse_124 : decode cX1_tieUse 124 = .ok (.lastore, 1) := by decide +kernel
theorem dX1_tieUse_125 : decode cX1_tieUse 125 = .ok (.return_, 1) := by decide +kernel
set_option maxHeartbeats 4000000 in
set_option maxRecDepth 100000 in
theorem s_J7_fill_d0a16_at52 (l : Launch) (d : Nat) {P : PP} {h : HP} (hv : Iv P h) (a2 : Int64) : Mt l yJ7_fill_d0a16 cJ7_fill_d0a16 5 none (d + 1) [.ref 52, .long a2] h 0 0 (fun r h' => r = none ∧ Iv P h') := by
  refine Mt_iv hv (by decide) (Nat.le_of_ble_eq_true rfl) ?_
  show Go l RJ7 cJ7_fill_d0a16 5 (g_rm (d + 1) 0 0) "fill" none 117 0 0 (fun _ _ => True) (fun r h' => r = none ∧ Iv P h') 0 0 [(0, .ref 52), (1, .long a2)] [] h
  have key : ∀ n : Nat, (∀ (l1 : Int64) (l3 : Int32) (l4 : Int32) (hx : HP), Iv P hx → 0 ≤ l3.toInt → l3.toInt ≤ 13 → 13 ≤ l4.toInt → l4.toInt ≤ 13 → (3 * (13 - l3.toInt) + 2 : Int) < n → Go l RJ7 cJ7_fill_d0a16 5 (g_rm (d + 1) 0 0) "fill" none 117 0 0 (fun _ _ => True) (fun r h' => r = none ∧ Iv P h') 0 6 [(0, .ref 52), (1, .long l1), (3, .int l3), (4, .int l4)] [] hx) := by
    intro n
    induction n with
    | zero => exact (by intros; omega)
    | succ n ih =>
      refine ?_
      ·
        intro l1 l3 l4 hx hvx l3l l3u l4l l4u hm
        refine go_iload_n (pc := 6) rfl dJ7_fill_d0a16_6 ?_
        refine go_iload (pc := 7) rfl dJ7_fill_d0a16_7 ?_
        refine gf_icmp_ge (pc := 9) (tgt := 22) (ti_rfl l3) (ti_rfl l4) (by decide) dJ7_fill_d0a16_9 (fun q1 => ?_) (fun q1 => ?_)
        ·
          exact gi_vret (pc := 22) ⟨rfl, hvx⟩ hvx dJ7_fill_d0a16_22
        ·
          refine go_aload_n (pc := 12) rfl dJ7_fill_d0a16_12 ?_
          refine go_iload_n (pc := 13) rfl dJ7_fill_d0a16_13 ?_
          refine go_lload_n (pc := 14) rfl dJ7_fill_d0a16_14 ?_
          refine gi_last (pc := 15) (len := 13) hvx (ti_rfl l3) rfl (by omega) (by omega) dJ7_fill_d0a16_15 (fun h2 hv2 hv2e => ?_)
          refine gf_iinc (pc := 16) (Nat.le_of_ble_eq_true rfl) rfl (ti_rfl l3) (ti_c (by decide)) (by omega) (by omega) dJ7_fill_d0a16_16 (fun v3 e4 => ?_)
          refine go_lv (lv2 := [(0, .ref 52), (1, .long l1), (3, .int v3), (4, .int l4)]) rfl ?_
          refine go_goto (pc := 19) (tgt := 6) (by decide) dJ7_fill_d0a16_19 ?_
          have z5 : (v3 : Int32).toInt = (l3.toInt + 1) := e4
          exact go_lv rfl (ih l1 v3 l4 h2 hv2 (by omega) (by omega) (by omega) (by omega) (by omega))
  refine go_iconst (pc := 0) (v := 0) (by decide) dJ7_fill_d0a16_0 ?_
  refine go_istore_n (pc := 1) (Nat.le_of_ble_eq_true rfl) dJ7_fill_d0a16_1 (go_lv (lv2 := [(0, .ref 52), (1, .long a2), (3, .int 0)]) rfl ?_)
  refine go_aload_n (pc := 2) rfl dJ7_fill_d0a16_2 ?_
  refine go_alen (pc := 3) (v := 13) (hv.sh rfl) (by decide) (by decide) dJ7_fill_d0a16_3 ?_
  refine go_istore (pc := 4) (Nat.le_of_ble_eq_true rfl) dJ7_fill_d0a16_4 (go_lv (lv2 := [(0, .ref 52), (1, .long a2), (3, .int 0), (4, .int 13)]) rfl ?_)
  have z6 : (0 : Int32).toInt = 0 := (ti_c (v := 0) (a := 0) (by decide))
  have z7 : (13 : Int32).toInt = 13 := (ti_c (v := 13) (a := 13) (by decide))
  exact go_lv rfl ((key 58) a2 0 13 h hv (by omega) (by omega) (by omega) (by omega) (by omega))
set_option maxHeartbeats 4000000 in
set_option maxRecDepth 100000 in
theorem s_J7_fill_d0a16_at53 (l : Launch) (d : Nat) {P : PP} {h : HP} (hv : Iv P h) (a2 : Int64) : Mt l yJ7_fill_d0a16 cJ7_fill_d0a16 5 none (d + 1) [.ref 53, .long a2] h 0 0 (fun r h' => r = none ∧ Iv P h') := by
  refine Mt_iv hv (by decide) (Nat.le_of_ble_eq_true rfl) ?_
  show Go l RJ7 cJ7_fill_d0a16 5 (g_rm (d + 1) 0 0) "fill" none 117 0 0 (fun _ _ => True) (fun r h' => r = none ∧ Iv P h') 0 0 [(0, .ref 53), (1, .long a2)] [] h
  have key : ∀ n : Nat, (∀ (l1 : Int64) (l3 : Int32) (l4 : Int32) (hx : HP), Iv P hx → 0 ≤ l3.toInt → l3.toInt ≤ 13 → 13 ≤ l4.toInt → l4.toInt ≤ 13 → (3 * (13 - l3.toInt) + 2 : Int) < n → Go l RJ7 cJ7_fill_d0a16 5 (g_rm (d + 1) 0 0) "fill" none 117 0 0 (fun _ _ => True) (fun r h' => r = none ∧ Iv P h') 0 6 [(0, .ref 53), (1, .long l1), (3, .int l3), (4, .int l4)] [] hx) := by
    intro n
    induction n with
    | zero => exact (by intros; omega)
    | succ n ih =>
      refine ?_
      ·
        intro l1 l3 l4 hx hvx l3l l3u l4l l4u hm
        refine go_iload_n (pc := 6) rfl dJ7_fill_d0a16_6 ?_
        refine go_iload (pc := 7) rfl dJ7_fill_d0a16_7 ?_
        refine gf_icmp_ge (pc := 9) (tgt := 22) (ti_rfl l3) (ti_rfl l4) (by decide) dJ7_fill_d0a16_9 (fun q1 => ?_) (fun q1 => ?_)
        ·
          exact gi_vret (pc := 22) ⟨rfl, hvx⟩ hvx dJ7_fill_d0a16_22
        ·
          refine go_aload_n (pc := 12) rfl dJ7_fill_d0a16_12 ?_
          refine go_iload_n (pc := 13) rfl dJ7_fill_d0a16_13 ?_
          refine go_lload_n (pc := 14) rfl dJ7_fill_d0a16_14 ?_
          refine gi_last (pc := 15) (len := 13) hvx (ti_rfl l3) rfl (by omega) (by omega) dJ7_fill_d0a16_15 (fun h2 hv2 hv2e => ?_)
          refine gf_iinc (pc := 16) (Nat.le_of_ble_eq_true rfl) rfl (ti_rfl l3) (ti_c (by decide)) (by omega) (by omega) dJ7_fill_d0a16_16 (fun v3 e4 => ?_)
          refine go_lv (lv2 := [(0, .ref 53), (1, .long l1), (3, .int v3), (4, .int l4)]) rfl ?_
          refine go_goto (pc := 19) (tgt := 6) (by decide) dJ7_fill_d0a16_19 ?_
          have z5 : (v3 : Int32).toInt = (l3.toInt + 1) := e4
          exact go_lv rfl (ih l1 v3 l4 h2 hv2 (by omega) (by omega) (by omega) (by omega) (by omega))
  refine go_iconst (pc := 0) (v := 0) (by decide) dJ7_fill_d0a16_0 ?_
  refine go_istore_n (pc := 1) (Nat.le_of_ble_eq_true rfl) dJ7_fill_d0a16_1 (go_lv (lv2 := [(0, .ref 53), (1, .long a2), (3, .int 0)]) rfl ?_)
  refine go_aload_n (pc := 2) rfl dJ7_fill_d0a16_2 ?_
  refine go_alen (pc := 3) (v := 13) (hv.sh rfl) (by decide) (by decide) dJ7_fill_d0a16_3 ?_
  refine go_istore (pc := 4) (Nat.le_of_ble_eq_true rfl) dJ7_fill_d0a16_4 (go_lv (lv2 := [(0, .ref 53), (1, .long a2), (3, .int 0), (4, .int 13)]) rfl ?_)
  have z6 : (0 : Int32).toInt = 0 := (ti_c (v := 0) (a := 0) (by decide))
  have z7 : (13 : Int32).toInt = 13 := (ti_c (v := 13) (a := 13) (by decide))
  exact go_lv rfl ((key 58) a2 0 13 h hv (by omega) (by omega) (by omega) (by omega) (by omega))
set_option maxHeartbeats 4000000 in
set_option maxRecDepth 100000 in
theorem s_J7_fill_d0a16_at58 (l : Launch) (d : Nat) {P : PP} {h : HP} (hv : Iv P h) (a2 : Int64) : Mt l yJ7_fill_d0a16 cJ7_fill_d0a16 5 none (d + 1) [.ref 58, .long a2] h 0 0 (fun r h' => r = none ∧ Iv P h') := by
  refine Mt_iv hv (by decide) (Nat.le_of_ble_eq_true rfl) ?_
  show Go l RJ7 cJ7_fill_d0a16 5 (g_rm (d + 1) 0 0) "fill" none 117 0 0 (fun _ _ => True) (fun r h' => r = none ∧ Iv P h') 0 0 [(0, .ref 58), (1, .long a2)] [] h
  have key : ∀ n : Nat, (∀ (l1 : Int64) (l3 : Int32) (l4 : Int32) (hx : HP), Iv P hx → 0 ≤ l3.toInt → l3.toInt ≤ 7605 → 7605 ≤ l4.toInt → l4.toInt ≤ 7605 → (3 * (7605 - l3.toInt) + 2 : Int) < n → Go l RJ7 cJ7_fill_d0a16 5 (g_rm (d + 1) 0 0) "fill" none 117 0 0 (fun _ _ => True) (fun r h' => r = none ∧ Iv P h') 0 6 [(0, .ref 58), (1, .long l1), (3, .int l3), (4, .int l4)] [] hx) := by
    intro n
    induction n with
    | zero => exact (by intros; omega)
    | succ n ih =>
      refine ?_
      ·
        intro l1 l3 l4 hx hvx l3l l3u l4l l4u hm
        refine go_iload_n (pc := 6) rfl dJ7_fill_d0a16_6 ?_
        refine go_iload (pc := 7) rfl dJ7_fill_d0a16_7 ?_
        refine gf_icmp_ge (pc := 9) (tgt := 22) (ti_rfl l3) (ti_rfl l4) (by decide) dJ7_fill_d0a16_9 (fun q1 => ?_) (fun q1 => ?_)
        ·
          exact gi_vret (pc := 22) ⟨rfl, hvx⟩ hvx dJ7_fill_d0a16_22
        ·
          refine go_aload_n (pc := 12) rfl dJ7_fill_d0a16_12 ?_
          refine go_iload_n (pc := 13) rfl dJ7_fill_d0a16_13 ?_
          refine go_lload_n (pc := 14) rfl dJ7_fill_d0a16_14 ?_
          refine gi_last (pc := 15) (len := 7605) hvx (ti_rfl l3) rfl (by omega) (by omega) dJ7_fill_d0a16_15 (fun h2 hv2 hv2e => ?_)
          refine gf_iinc (pc := 16) (Nat.le_of_ble_eq_true rfl) rfl (ti_rfl l3) (ti_c (by decide)) (by omega) (by omega) dJ7_fill_d0a16_16 (fun v3 e4 => ?_)
          refine go_lv (lv2 := [(0, .ref 58), (1, .long l1), (3, .int v3), (4, .int l4)]) rfl ?_
          refine go_goto (pc := 19) (tgt := 6) (by decide) dJ7_fill_d0a16_19 ?_
          have z5 : (v3 : Int32).toInt = (l3.toInt + 1) := e4
          exact go_lv rfl (ih l1 v3 l4 h2 hv2 (by omega) (by omega) (by omega) (by omega) (by omega))
  refine go_iconst (pc := 0) (v := 0) (by decide) dJ7_fill_d0a16_0 ?_
  refine go_istore_n (pc := 1) (Nat.le_of_ble_eq_true rfl) dJ7_fill_d0a16_1 (go_lv (lv2 := [(0, .ref 58), (1, .long a2), (3, .int 0)]) rfl ?_)
  refine go_aload_n (pc := 2) rfl dJ7_fill_d0a16_2 ?_
  refine go_alen (pc := 3) (v := 7605) (hv.sh rfl) (by decide) (by decide) dJ7_fill_d0a16_3 ?_
  refine go_istore (pc := 4) (Nat.le_of_ble_eq_true rfl) dJ7_fill_d0a16_4 (go_lv (lv2 := [(0, .ref 58), (1, .long a2), (3, .int 0), (4, .int 7605)]) rfl ?_)
  have z6 : (0 : Int32).toInt = 0 := (ti_c (v := 0) (a := 0) (by decide))
  have z7 : (7605 : Int32).toInt = 7605 := (ti_c (v := 7605) (a := 7605) (by decide))
  exact go_lv rfl ((key 22834) a2 0 7605 h hv (by omega) (by omega) (by omega) (by omega) (by omega))
set_option maxHeartbeats 4000000 in
set_option maxRecDepth 100000 in
theorem s_J7_fill_d0a16_at59 (l : Launch) (d : Nat) {P : PP} {h : HP} (hv : Iv P h) (a2 : Int64) : Mt l yJ7_fill_d0a16 cJ7_fill_d0a16 5 none (d + 1) [.ref 59, .long a2] h 0 0 (fun r h' => r = none ∧ Iv P h') := by
  refine Mt_iv hv (by decide) (Nat.le_of_ble_eq_true rfl) ?_
  show Go l RJ7 cJ7_fill_d0a16 5 (g_rm (d + 1) 0 0) "fill" none 117 0 0 (fun _ _ => True) (fun r h' => r = none ∧ Iv P h') 0 0 [(0, .ref 59), (1, .long a2)] [] h
  have key : ∀ n : Nat, (∀ (l1 : Int64) (l3 : Int32) (l4 : Int32) (hx : HP), Iv P hx → 0 ≤ l3.toInt → l3.toInt ≤ 40 → 40 ≤ l4.toInt → l4.toInt ≤ 40 → (3 * (40 - l3.toInt) + 2 : Int) < n → Go l RJ7 cJ7_fill_d0a16 5 (g_rm (d + 1) 0 0) "fill" none 117 0 0 (fun _ _ => True) (fun r h' => r = none ∧ Iv P h') 0 6 [(0, .ref 59), (1, .long l1), (3, .int l3), (4, .int l4)] [] hx) := by
    intro n
    induction n with
    | zero => exact (by intros; omega)
    | succ n ih =>
      refine ?_
      ·
        intro l1 l3 l4 hx hvx l3l l3u l4l l4u hm
        refine go_iload_n (pc := 6) rfl dJ7_fill_d0a16_6 ?_
        refine go_iload (pc := 7) rfl dJ7_fill_d0a16_7 ?_
        refine gf_icmp_ge (pc := 9) (tgt := 22) (ti_rfl l3) (ti_rfl l4) (by decide) dJ7_fill_d0a16_9 (fun q1 => ?_) (fun q1 => ?_)
        ·
          exact gi_vret (pc := 22) ⟨rfl, hvx⟩ hvx dJ7_fill_d0a16_22
        ·
          refine go_aload_n (pc := 12) rfl dJ7_fill_d0a16_12 ?_
          refine go_iload_n (pc := 13) rfl dJ7_fill_d0a16_13 ?_
          refine go_lload_n (pc := 14) rfl dJ7_fill_d0a16_14 ?_
          refine gi_last (pc := 15) (len := 40) hvx (ti_rfl l3) rfl (by omega) (by omega) dJ7_fill_d0a16_15 (fun h2 hv2 hv2e => ?_)
          refine gf_iinc (pc := 16) (Nat.le_of_ble_eq_true rfl) rfl (ti_rfl l3) (ti_c (by decide)) (by omega) (by omega) dJ7_fill_d0a16_16 (fun v3 e4 => ?_)
          refine go_lv (lv2 := [(0, .ref 59), (1, .long l1), (3, .int v3), (4, .int l4)]) rfl ?_
          refine go_goto (pc := 19) (tgt := 6) (by decide) dJ7_fill_d0a16_19 ?_
          have z5 : (v3 : Int32).toInt = (l3.toInt + 1) := e4
          exact go_lv rfl (ih l1 v3 l4 h2 hv2 (by omega) (by omega) (by omega) (by omega) (by omega))
  refine go_iconst (pc := 0) (v := 0) (by decide) dJ7_fill_d0a16_0 ?_
  refine go_istore_n (pc := 1) (Nat.le_of_ble_eq_true rfl) dJ7_fill_d0a16_1 (go_lv (lv2 := [(0, .ref 59), (1, .long a2), (3, .int 0)]) rfl ?_)
  refine go_aload_n (pc := 2) rfl dJ7_fill_d0a16_2 ?_
  refine go_alen (pc := 3) (v := 40) (hv.sh rfl) (by decide) (by decide) dJ7_fill_d0a16_3 ?_
  refine go_istore (pc := 4) (Nat.le_of_ble_eq_true rfl) dJ7_fill_d0a16_4 (go_lv (lv2 := [(0, .ref 59), (1, .long a2), (3, .int 0), (4, .int 40)]) rfl ?_)
  have z6 : (0 : Int32).toInt = 0 := (ti_c (v := 0) (a := 0) (by decide))
  have z7 : (40 : Int32).toInt = 40 := (ti_c (v := 40) (a := 40) (by decide))
  exact go_lv rfl ((key 139) a2 0 40 h hv (by omega) (by omega) (by omega) (by omega) (by omega))
set_option maxHeartbeats 4000000 in
set_option maxRecDepth 100000 in
theorem s_J7_fill_d0a16_at60 (l : Launch) (d : Nat) {P : PP} {h : HP} (hv : Iv P h) (a2 : Int64) : Mt l yJ7_fill_d0a16 cJ7_fill_d0a16 5 none (d + 1) [.ref 60, .long a2] h 0 0 (fun r h' => r = none ∧ Iv P h') := by
  refine Mt_iv hv (by decide) (Nat.le_of_ble_eq_true rfl) ?_
  show Go l RJ7 cJ7_fill_d0a16 5 (g_rm (d + 1) 0 0) "fill" none 117 0 0 (fun _ _ => True) (fun r h' => r = none ∧ Iv P h') 0 0 [(0, .ref 60), (1, .long a2)] [] h
  have key : ∀ n : Nat, (∀ (l1 : Int64) (l3 : Int32) (l4 : Int32) (hx : HP), Iv P hx → 0 ≤ l3.toInt → l3.toInt ≤ 40 → 40 ≤ l4.toInt → l4.toInt ≤ 40 → (3 * (40 - l3.toInt) + 2 : Int) < n → Go l RJ7 cJ7_fill_d0a16 5 (g_rm (d + 1) 0 0) "fill" none 117 0 0 (fun _ _ => True) (fun r h' => r = none ∧ Iv P h') 0 6 [(0, .ref 60), (1, .long l1), (3, .int l3), (4, .int l4)] [] hx) := by
    intro n
    induction n with
    | zero => exact (by intros; omega)
    | succ n ih =>
      refine ?_
      ·
        intro l1 l3 l4 hx hvx l3l l3u l4l l4u hm
        refine go_iload_n (pc := 6) rfl dJ7_fill_d0a16_6 ?_
        refine go_iload (pc := 7) rfl dJ7_fill_d0a16_7 ?_
        refine gf_icmp_ge (pc := 9) (tgt := 22) (ti_rfl l3) (ti_rfl l4) (by decide) dJ7_fill_d0a16_9 (fun q1 => ?_) (fun q1 => ?_)
        ·
          exact gi_vret (pc := 22) ⟨rfl, hvx⟩ hvx dJ7_fill_d0a16_22
        ·
          refine go_aload_n (pc := 12) rfl dJ7_fill_d0a16_12 ?_
          refine go_iload_n (pc := 13) rfl dJ7_fill_d0a16_13 ?_
          refine go_lload_n (pc := 14) rfl dJ7_fill_d0a16_14 ?_
          refine gi_last (pc := 15) (len := 40) hvx (ti_rfl l3) rfl (by omega) (by omega) dJ7_fill_d0a16_15 (fun h2 hv2 hv2e => ?_)
          refine gf_iinc (pc := 16) (Nat.le_of_ble_eq_true rfl) rfl (ti_rfl l3) (ti_c (by decide)) (by omega) (by omega) dJ7_fill_d0a16_16 (fun v3 e4 => ?_)
          refine go_lv (lv2 := [(0, .ref 60), (1, .long l1), (3, .int v3), (4, .int l4)]) rfl ?_
          refine go_goto (pc := 19) (tgt := 6) (by decide) dJ7_fill_d0a16_19 ?_
          have z5 : (v3 : Int32).toInt = (l3.toInt + 1) := e4
          exact go_lv rfl (ih l1 v3 l4 h2 hv2 (by omega) (by omega) (by omega) (by omega) (by omega))
  refine go_iconst (pc := 0) (v := 0) (by decide) dJ7_fill_d0a16_0 ?_
  refine go_istore_n (pc := 1) (Nat.le_of_ble_eq_true rfl) dJ7_fill_d0a16_1 (go_lv (lv2 := [(0, .ref 60), (1, .long a2), (3, .int 0)]) rfl ?_)
  refine go_aload_n (pc := 2) rfl dJ7_fill_d0a16_2 ?_
  refine go_alen (pc := 3) (v := 40) (hv.sh rfl) (by decide) (by decide) dJ7_fill_d0a16_3 ?_
  refine go_istore (pc := 4) (Nat.le_of_ble_eq_true rfl) dJ7_fill_d0a16_4 (go_lv (lv2 := [(0, .ref 60), (1, .long a2), (3, .int 0), (4, .int 40)]) rfl ?_)
  have z6 : (0 : Int32).toInt = 0 := (ti_c (v := 0) (a := 0) (by decide))
  have z7 : (40 : Int32).toInt = 40 := (ti_c (v := 40) (a := 40) (by decide))
  exact go_lv rfl ((key 139) a2 0 40 h hv (by omega) (by omega) (by omega) (by omega) (by omega))
set_option maxHeartbeats 4000000 in
set_option maxRecDepth 100000 in
theorem s_J7_fill_d0a16_at62 (l : Launch) (d : Nat) {P : PP} {h : HP} (hv : Iv P h) (a2 : Int64) : Mt l yJ7_fill_d0a16 cJ7_fill_d0a16 5 none (d + 1) [.ref 62, .long a2] h 0 0 (fun r h' => r = none ∧ Iv P h') := by
  refine Mt_iv hv (by decide) (Nat.le_of_ble_eq_true rfl) ?_
  show Go l RJ7 cJ7_fill_d0a16 5 (g_rm (d + 1) 0 0) "fill" none 117 0 0 (fun _ _ => True) (fun r h' => r = none ∧ Iv P h') 0 0 [(0, .ref 62), (1, .long a2)] [] h
  have key : ∀ n : Nat, (∀ (l1 : Int64) (l3 : Int32) (l4 : Int32) (hx : HP), Iv P hx → 0 ≤ l3.toInt → l3.toInt ≤ 45 → 45 ≤ l4.toInt → l4.toInt ≤ 45 → (3 * (45 - l3.toInt) + 2 : Int) < n → Go l RJ7 cJ7_fill_d0a16 5 (g_rm (d + 1) 0 0) "fill" none 117 0 0 (fun _ _ => True) (fun r h' => r = none ∧ Iv P h') 0 6 [(0, .ref 62), (1, .long l1), (3, .int l3), (4, .int l4)] [] hx) := by
    intro n
    induction n with
    | zero => exact (by intros; omega)
    | succ n ih =>
      refine ?_
      ·
        intro l1 l3 l4 hx hvx l3l l3u l4l l4u hm
        refine go_iload_n (pc := 6) rfl dJ7_fill_d0a16_6 ?_
        refine go_iload (pc := 7) rfl dJ7_fill_d0a16_7 ?_
        refine gf_icmp_ge (pc := 9) (tgt := 22) (ti_rfl l3) (ti_rfl l4) (by decide) dJ7_fill_d0a16_9 (fun q1 => ?_) (fun q1 => ?_)
        ·
          exact gi_vret (pc := 22) ⟨rfl, hvx⟩ hvx dJ7_fill_d0a16_22
        ·
          refine go_aload_n (pc := 12) rfl dJ7_fill_d0a16_12 ?_
          refine go_iload_n (pc := 13) rfl dJ7_fill_d0a16_13 ?_
          refine go_lload_n (pc := 14) rfl dJ7_fill_d0a16_14 ?_
          refine gi_last (pc := 15) (len := 45) hvx (ti_rfl l3) rfl (by omega) (by omega) dJ7_fill_d0a16_15 (fun h2 hv2 hv2e => ?_)
          refine gf_iinc (pc := 16) (Nat.le_of_ble_eq_true rfl) rfl (ti_rfl l3) (ti_c (by decide)) (by omega) (by omega) dJ7_fill_d0a16_16 (fun v3 e4 => ?_)
          refine go_lv (lv2 := [(0, .ref 62), (1, .long l1), (3, .int v3), (4, .int l4)]) rfl ?_
          refine go_goto (pc := 19) (tgt := 6) (by decide) dJ7_fill_d0a16_19 ?_
          have z5 : (v3 : Int32).toInt = (l3.toInt + 1) := e4
          exact go_lv rfl (ih l1 v3 l4 h2 hv2 (by omega) (by omega) (by omega) (by omega) (by omega))
  refine go_iconst (pc := 0) (v := 0) (by decide) dJ7_fill_d0a16_0 ?_
  refine go_istore_n (pc := 1) (Nat.le_of_ble_eq_true rfl) dJ7_fill_d0a16_1 (go_lv (lv2 := [(0, .ref 62), (1, .long a2), (3, .int 0)]) rfl ?_)
  refine go_aload_n (pc := 2) rfl dJ7_fill_d0a16_2 ?_
  refine go_alen (pc := 3) (v := 45) (hv.sh rfl) (by decide) (by decide) dJ7_fill_d0a16_3 ?_
  refine go_istore (pc := 4) (Nat.le_of_ble_eq_true rfl) dJ7_fill_d0a16_4 (go_lv (lv2 := [(0, .ref 62), (1, .long a2), (3, .int 0), (4, .int 45)]) rfl ?_)
  have z6 : (0 : Int32).toInt = 0 := (ti_c (v := 0) (a := 0) (by decide))
  have z7 : (45 : Int32).toInt = 45 := (ti_c (v := 45) (a := 45) (by decide))
  exact go_lv rfl ((key 154) a2 0 45 h hv (by omega) (by omega) (by omega) (by omega) (by omega))
set_option maxHeartbeats 4000000 in
set_option maxRecDepth 100000 in
theorem s_J7_fill_53178_at51 (l : Launch) (d : Nat) {P : PP} {h : HP} (hv : Iv P h) (a2 : Int32) : Mt l yJ7_fill_53178 cJ7_fill_53178 4 none (d + 1) [.ref 51, .int a2] h 0 0 (fun r h' => r = none ∧ Iv P h') := by
  refine Mt_iv hv (by decide) (Nat.le_of_ble_eq_true rfl) ?_
  show Go l RJ7 cJ7_fill_53178 4 (g_rm (d + 1) 0 0) "fill" none 117 0 0 (fun _ _ => True) (fun r h' => r = none ∧ Iv P h') 0 0 [(0, .ref 51), (1, .int a2)] [] h
  have key : ∀ n : Nat, (∀ (l1 : Int32) (l2 : Int32) (l3 : Int32) (hx : HP), Iv P hx → 0 ≤ l2.toInt → l2.toInt ≤ 30 → 30 ≤ l3.toInt → l3.toInt ≤ 30 → (3 * (30 - l2.toInt) + 2 : Int) < n → Go l RJ7 cJ7_fill_53178 4 (g_rm (d + 1) 0 0) "fill" none 117 0 0 (fun _ _ => True) (fun r h' => r = none ∧ Iv P h') 0 5 [(0, .ref 51), (1, .int l1), (2, .int l2), (3, .int l3)] [] hx) := by
    intro n
    induction n with
    | zero => exact (by intros; omega)
    | succ n ih =>
      refine ?_
      ·
        intro l1 l2 l3 hx hvx l2l l2u l3l l3u hm
        refine go_iload_n (pc := 5) rfl dJ7_fill_53178_5 ?_
        refine go_iload_n (pc := 6) rfl dJ7_fill_53178_6 ?_
        refine gf_icmp_ge (pc := 7) (tgt := 20) (ti_rfl l2) (ti_rfl l3) (by decide) dJ7_fill_53178_7 (fun q1 => ?_) (fun q1 => ?_)
        ·
          exact gi_vret (pc := 20) ⟨rfl, hvx⟩ hvx dJ7_fill_53178_20
        ·
          refine go_aload_n (pc := 10) rfl dJ7_fill_53178_10 ?_
          refine go_iload_n (pc := 11) rfl dJ7_fill_53178_11 ?_
          refine go_iload_n (pc := 12) rfl dJ7_fill_53178_12 ?_
          refine gi_iast (pc := 13) (lo := -2147483648) (hi := 2147483647) (len := 30) hvx (ti_rfl l2) (ti_rfl l1) rfl (by omega) (by omega) (fun _ => rfl) (ti_ge (ti_rfl l1)) (ti_le2 (ti_rfl l1)) (by decide) dJ7_fill_53178_13 (fun h2 hv2 hv2e => ?_)
          refine gf_iinc (pc := 14) (Nat.le_of_ble_eq_true rfl) rfl (ti_rfl l2) (ti_c (by decide)) (by omega) (by omega) dJ7_fill_53178_14 (fun v3 e4 => ?_)
          refine go_lv (lv2 := [(0, .ref 51), (1, .int l1), (2, .int v3), (3, .int l3)]) rfl ?_
          refine go_goto (pc := 17) (tgt := 5) (by decide) dJ7_fill_53178_17 ?_
          have z5 : (v3 : Int32).toInt = (l2.toInt + 1) := e4
          exact go_lv rfl (ih l1 v3 l3 h2 hv2 (by omega) (by omega) (by omega) (by omega) (by omega))
  refine go_iconst (pc := 0) (v := 0) (by decide) dJ7_fill_53178_0 ?_
  refine go_istore_n (pc := 1) (Nat.le_of_ble_eq_true rfl) dJ7_fill_53178_1 (go_lv (lv2 := [(0, .ref 51), (1, .int a2), (2, .int 0)]) rfl ?_)
  refine go_aload_n (pc := 2) rfl dJ7_fill_53178_2 ?_
  refine go_alen (pc := 3) (v := 30) (hv.sh rfl) (by decide) (by decide) dJ7_fill_53178_3 ?_
  refine go_istore_n (pc := 4) (Nat.le_of_ble_eq_true rfl) dJ7_fill_53178_4 (go_lv (lv2 := [(0, .ref 51), (1, .int a2), (2, .int 0), (3, .int 30)]) rfl ?_)
  have z6 : (0 : Int32).toInt = 0 := (ti_c (v := 0) (a := 0) (by decide))
  have z7 : (30 : Int32).toInt = 30 := (ti_c (v := 30) (a := 30) (by decide))
  exact go_lv rfl ((key 109) a2 0 30 h hv (by omega) (by omega) (by omega) (by omega) (by omega))
set_option maxHeartbeats 4000000 in
set_option maxRecDepth 100000 in
theorem s_J7_fill_53178_at65 (l : Launch) (d : Nat) {P : PP} {h : HP} (hv : Iv P h) (a2 : Int32) : Mt l yJ7_fill_53178 cJ7_fill_53178 4 none (d + 1) [.ref 65, .int a2] h 0 0 (fun r h' => r = none ∧ Iv P h') := by
  refine Mt_iv hv (by decide) (Nat.le_of_ble_eq_true rfl) ?_
  show Go l RJ7 cJ7_fill_53178 4 (g_rm (d + 1) 0 0) "fill" none 117 0 0 (fun _ _ => True) (fun r h' => r = none ∧ Iv P h') 0 0 [(0, .ref 65), (1, .int a2)] [] h
  have key : ∀ n : Nat, (∀ (l1 : Int32) (l2 : Int32) (l3 : Int32) (hx : HP), Iv P hx → 0 ≤ l2.toInt → l2.toInt ≤ 4 → 4 ≤ l3.toInt → l3.toInt ≤ 4 → (3 * (4 - l2.toInt) + 2 : Int) < n → Go l RJ7 cJ7_fill_53178 4 (g_rm (d + 1) 0 0) "fill" none 117 0 0 (fun _ _ => True) (fun r h' => r = none ∧ Iv P h') 0 5 [(0, .ref 65), (1, .int l1), (2, .int l2), (3, .int l3)] [] hx) := by
    intro n
    induction n with
    | zero => exact (by intros; omega)
    | succ n ih =>
      refine ?_
      ·
        intro l1 l2 l3 hx hvx l2l l2u l3l l3u hm
        refine go_iload_n (pc := 5) rfl dJ7_fill_53178_5 ?_
        refine go_iload_n (pc := 6) rfl dJ7_fill_53178_6 ?_
        refine gf_icmp_ge (pc := 7) (tgt := 20) (ti_rfl l2) (ti_rfl l3) (by decide) dJ7_fill_53178_7 (fun q1 => ?_) (fun q1 => ?_)
        ·
          exact gi_vret (pc := 20) ⟨rfl, hvx⟩ hvx dJ7_fill_53178_20
        ·
          refine go_aload_n (pc := 10) rfl dJ7_fill_53178_10 ?_
          refine go_iload_n (pc := 11) rfl dJ7_fill_53178_11 ?_
          refine go_iload_n (pc := 12) rfl dJ7_fill_53178_12 ?_
          refine gi_iast (pc := 13) (lo := -2147483648) (hi := 2147483647) (len := 4) hvx (ti_rfl l2) (ti_rfl l1) rfl (by omega) (by omega) (fun _ => rfl) (ti_ge (ti_rfl l1)) (ti_le2 (ti_rfl l1)) (by decide) dJ7_fill_53178_13 (fun h2 hv2 hv2e => ?_)
          refine gf_iinc (pc := 14) (Nat.le_of_ble_eq_true rfl) rfl (ti_rfl l2) (ti_c (by decide)) (by omega) (by omega) dJ7_fill_53178_14 (fun v3 e4 => ?_)
          refine go_lv (lv2 := [(0, .ref 65), (1, .int l1), (2, .int v3), (3, .int l3)]) rfl ?_
          refine go_goto (pc := 17) (tgt := 5) (by decide) dJ7_fill_53178_17 ?_
          have z5 : (v3 : Int32).toInt = (l2.toInt + 1) := e4
          exact go_lv rfl (ih l1 v3 l3 h2 hv2 (by omega) (by omega) (by omega) (by omega) (by omega))
  refine go_iconst (pc := 0) (v := 0) (by decide) dJ7_fill_53178_0 ?_
  refine go_istore_n (pc := 1) (Nat.le_of_ble_eq_true rfl) dJ7_fill_53178_1 (go_lv (lv2 := [(0, .ref 65), (1, .int a2), (2, .int 0)]) rfl ?_)
  refine go_aload_n (pc := 2) rfl dJ7_fill_53178_2 ?_
  refine go_alen (pc := 3) (v := 4) (hv.sh rfl) (by decide) (by decide) dJ7_fill_53178_3 ?_
  refine go_istore_n (pc := 4) (Nat.le_of_ble_eq_true rfl) dJ7_fill_53178_4 (go_lv (lv2 := [(0, .ref 65), (1, .int a2), (2, .int 0), (3, .int 4)]) rfl ?_)
  have z6 : (0 : Int32).toInt = 0 := (ti_c (v := 0) (a := 0) (by decide))
  have z7 : (4 : Int32).toInt = 4 := (ti_c (v := 4) (a := 4) (by decide))
  exact go_lv rfl ((key 31) a2 0 4 h hv (by omega) (by omega) (by omega) (by omega) (by omega))
set_option maxHeartbeats 4000000 in
set_option maxRecDepth 100000 in
theorem s_X1_kindsBetween (l : Launch) (d : Nat) {P : PP} {h : HP} (hv : Iv P h) (a2 : Int32) (a2l : 0 ≤ a2.toInt) (a2u : a2.toInt ≤ 39) (a3 : Int32) : Mt l yX1_kindsBetween cX1_kindsBetween 3 (some .int) (d + 2) [.ref 57, .int a2, .int a3] h 0 0 (fun r h' => ∃ v : Int32, r = some (.int v) ∧ 0 ≤ v.toInt ∧ v.toInt ≤ 3 ∧ h = h') := by
  refine Mt_iv hv (by decide) (Nat.le_of_ble_eq_true rfl) ?_
  show Go l RX1 cX1_kindsBetween 3 (g_rm (d + 2) 0 0) "kindsBetween" (some .int) 117 0 0 (fun _ _ => True) (fun r h' => ∃ v : Int32, r = some (.int v) ∧ 0 ≤ v.toInt ∧ v.toInt ≤ 3 ∧ h = h') 0 0 [(0, .ref 57), (1, .int a2), (2, .int a3)] [] h
  have key : ∀ n : Nat, (∀ (l1 : Int32) (l2 : Int32) (s0 : Int32), 0 ≤ l1.toInt → l1.toInt ≤ 39 → 0 ≤ s0.toInt → s0.toInt ≤ 1 → (2 : Int) < n → Go l RX1 cX1_kindsBetween 3 (g_rm (d + 2) 0 0) "kindsBetween" (some .int) 117 0 0 (fun _ _ => True) (fun r h' => ∃ v : Int32, r = some (.int v) ∧ 0 ≤ v.toInt ∧ v.toInt ≤ 3 ∧ h = h') 0 18 [(0, .ref 57), (1, .int l1), (2, .int l2)] [.int s0] h) ∧ (∀ (s0 : Int32) (s1 : Int32), 0 ≤ s0.toInt → s0.toInt ≤ 2 → 0 ≤ s1.toInt → s1.toInt ≤ 1 → (1 : Int) < n → Go l RX1 cX1_kindsBetween 3 (g_rm (d + 2) 0 0) "kindsBetween" (some .int) 117 0 0 (fun _ _ => True) (fun r h' => ∃ v : Int32, r = some (.int v) ∧ 0 ≤ v.toInt ∧ v.toInt ≤ 3 ∧ h = h') 0 36 [] [.int s0, .int s1] h) := by
    intro n
    induction n with
    | zero => exact ⟨(by intros; omega), (by intros; omega)⟩
    | succ n ih =>
      refine ⟨?_, ?_⟩
      ·
        intro l1 l2 s0 l1l l1u s0l s0u hm
        refine go_aload_n (pc := 18) rfl dX1_kindsBetween_18 ?_
        refine gi_getF (pc := 19) (q := 60) hv fL_X1_18 rfl (Nat.le_of_ble_eq_true rfl) rfl (hv.rf (by decide)) dX1_kindsBetween_19 ?_
        refine go_iload_n (pc := 22) rfl dX1_kindsBetween_22 ?_
        refine gi_lald (pc := 23) (len := 40) hv (ti_rfl l1) rfl (by omega) (by omega) dX1_kindsBetween_23 (fun v1 v1w => ?_)
        refine go_iload_n (pc := 24) rfl dX1_kindsBetween_24 ?_
        refine go_invS (pc := 25) (sl := 0) (s_X7_has l (d + 0) hv v1 l2) mL_X1_56 iM_X7_has rfl rfl (Nat.le_of_ble_eq_true rfl) (show d + 0 + 1 + 1 ≤ d + 2 by omega) (show 8 + (3 + 11) + 40 * (d + 0 + 1) ≤ 40 * (d + 2) by omega) (g_c0 hv.ln) (Nat.le_of_ble_eq_true rfl) dX1_kindsBetween_25 ?_
        intro r h2 hq _
        obtain ⟨v3, rfl, v3l, v3u, rfl⟩ := hq
        refine gf_if_eq (pc := 28) (tgt := 35) (ti_rfl v3) (by decide) dX1_kindsBetween_28 (fun q4 => ?_) (fun q4 => ?_)
        ·
          refine go_iconst (pc := 35) (v := 0) (by decide) dX1_kindsBetween_35 ?_
          have z5 : (0 : Int32).toInt = 0 := (ti_c (v := 0) (a := 0) (by decide))
          exact go_lv rfl (ih.2 0 s0  (by omega) (by omega) (by omega) (by omega) (by omega))
        ·
          refine go_iconst (pc := 31) (v := 2) (by decide) dX1_kindsBetween_31 ?_
          refine go_goto (pc := 32) (tgt := 36) (by decide) dX1_kindsBetween_32 ?_
          have z6 : (2 : Int32).toInt = 2 := (ti_c (v := 2) (a := 2) (by decide))
          exact go_lv rfl (ih.2 2 s0  (by omega) (by omega) (by omega) (by omega) (by omega))
      ·
        intro s0 s1 s0l s0u s1l s1u hm
        refine gf_iadd (pc := 36) (ti_rfl s1) (ti_rfl s0) (by omega) (by omega) dX1_kindsBetween_36 (fun v7 e8 => ?_)
        exact gi_iret (pc := 37) e8 ⟨_, rfl, (by rw [show (v7 : Int32).toInt = (s1.toInt + s0.toInt) from e8]; omega), (by rw [show (v7 : Int32).toInt = (s1.toInt + s0.toInt) from e8]; omega), rfl⟩ hv dX1_kindsBetween_37
  refine go_aload_n (pc := 0) rfl dX1_kindsBetween_0 ?_
  refine gi_getF (pc := 1) (q := 59) hv fL_X1_15 rfl (Nat.le_of_ble_eq_true rfl) rfl (hv.rf (by decide)) dX1_kindsBetween_1 ?_
  refine go_iload_n (pc := 4) rfl dX1_kindsBetween_4 ?_
  refine gi_lald (pc := 5) (len := 40) hv (ti_rfl a2) rfl (by omega) (by omega) dX1_kindsBetween_5 (fun v9 v9w => ?_)
  refine go_iload_n (pc := 6) rfl dX1_kindsBetween_6 ?_
  refine go_invS (pc := 7) (sl := 0) (s_X7_has l (d + 0) hv v9 a3) mL_X1_56 iM_X7_has rfl rfl (Nat.le_of_ble_eq_true rfl) (show d + 0 + 1 + 1 ≤ d + 2 by omega) (show 8 + (3 + 11) + 40 * (d + 0 + 1) ≤ 40 * (d + 2) by omega) (g_c0 hv.ln) (Nat.le_of_ble_eq_true rfl) dX1_kindsBetween_7 ?_
  intro r h10 hq _
  obtain ⟨v11, rfl, v11l, v11u, rfl⟩ := hq
  refine gf_if_eq (pc := 10) (tgt := 17) (ti_rfl v11) (by decide) dX1_kindsBetween_10 (fun q12 => ?_) (fun q12 => ?_)
  ·
    refine go_iconst (pc := 17) (v := 0) (by decide) dX1_kindsBetween_17 ?_
    have z13 : (0 : Int32).toInt = 0 := (ti_c (v := 0) (a := 0) (by decide))
    exact go_lv rfl ((key 15).1 a2 a3 0  (by omega) (by omega) (by omega) (by omega) (by omega))
  ·
    refine go_iconst (pc := 13) (v := 1) (by decide) dX1_kindsBetween_13 ?_
    refine go_goto (pc := 14) (tgt := 18) (by decide) dX1_kindsBetween_14 ?_
    have z14 : (1 : Int32).toInt = 1 := (ti_c (v := 1) (a := 1) (by decide))
    exact go_lv rfl ((key 15).1 a2 a3 1  (by omega) (by omega) (by omega) (by omega) (by omega))
set_option maxHeartbeats 4000000 in
set_option maxRecDepth 100000 in
theorem s_X1_tie (l : Launch) (d : Nat) {P : PP} {h : HP} (hv : Iv P h) (a2 : Int32) (a2l : 0 ≤ a2.toInt) (a2u : a2.toInt ≤ 44) (a3 : Int32) (a3l : 0 ≤ a3.toInt) (a3u : a3.toInt ≤ 12) (a4 : Int32) (a4l : 0 ≤ a4.toInt) (a4u : a4.toInt ≤ 12) (a5 : Int64) : Mt l yX1_tie cX1_tie 6 none (d + 1) [.ref 57, .int a2, .int a3, .int a4, .long a5] h 0 0 (fun r h' => r = none ∧ Iv P h') := by
  refine Mt_iv hv (by decide) (Nat.le_of_ble_eq_true rfl) ?_
  show Go l RX1 cX1_tie 6 (g_rm (d + 1) 0 0) "tie" none 117 0 0 (fun _ _ => True) (fun r h' => r = none ∧ Iv P h') 0 0 [(0, .ref 57), (1, .int a2), (2, .int a3), (3, .int a4), (4, .long a5)] [] h
  refine go_aload_n (pc := 0) rfl dX1_tie_0 ?_
  refine gi_getF (pc := 1) (q := 58) hv fL_X1_9 rfl (Nat.le_of_ble_eq_true rfl) rfl (hv.rf (by decide)) dX1_tie_1 ?_
  refine go_iload_n (pc := 4) rfl dX1_tie_4 ?_
  refine go_bipush (pc := 5) (v := 13) (by decide) dX1_tie_5 ?_
  refine gf_imul (pc := 7) (ti_rfl a2) (ti_c (v := 13) (a := 13) (by decide)) (by omega) (by omega) dX1_tie_7 (fun v1 e2 => ?_)
  refine go_iload_n (pc := 8) rfl dX1_tie_8 ?_
  refine gf_iadd (pc := 9) e2 (ti_rfl a3) (by omega) (by omega) dX1_tie_9 (fun v3 e4 => ?_)
  refine go_bipush (pc := 10) (v := 13) (by decide) dX1_tie_10 ?_
  refine gf_imul (pc := 12) e4 (ti_c (v := 13) (a := 13) (by decide)) (by omega) (by omega) dX1_tie_12 (fun v5 e6 => ?_)
  refine go_iload_n (pc := 13) rfl dX1_tie_13 ?_
  refine gf_iadd (pc := 14) e6 (ti_rfl a4) (by omega) (by omega) dX1_tie_14 (fun v7 e8 => ?_)
  refine go_dup2 (pc := 15) rfl rfl dX1_tie_15 ?_
  refine gi_lald (pc := 16) (len := 7605) hv e8 rfl (by omega) (by omega) dX1_tie_16 (fun v9 v9w => ?_)
  refine go_lload (pc := 17) rfl dX1_tie_17 ?_
  refine gu_lor (pc := 19) dX1_tie_19 (fun v10 => ?_)
  refine gi_last (pc := 20) (len := 7605) hv e8 rfl (by omega) (by omega) dX1_tie_20 (fun h11 hv11 hv11e => ?_)
  exact gi_vret (pc := 21) ⟨rfl, hv11⟩ hv11 dX1_tie_21
set_option maxHeartbeats 4000000 in
set_option maxRecDepth 100000 in
theorem s_X1_findCertain (l : Launch) (d : Nat) {P : PP} {h : HP} (hv : Iv P h)  : Mt l yX1_findCertain cX1_findCertain 6 none (d + 3) [.ref 57] h 0 0 (fun r h' => r = none ∧ Iv P h') := by
  refine Mt_iv hv (by decide) (Nat.le_of_ble_eq_true rfl) ?_
  show Go l RX1 cX1_findCertain 6 (g_rm (d + 3) 0 0) "findCertain" none 117 0 0 (fun _ _ => True) (fun r h' => r = none ∧ Iv P h') 0 0 [(0, .ref 57)] [] h
  have key : ∀ n : Nat, (∀ (l1 : Int32) (hx : HP), Iv P hx → 0 ≤ l1.toInt → l1.toInt ≤ 45 → (4 * (45 - l1.toInt) + 639430 : Int) < n → Go l RX1 cX1_findCertain 6 (g_rm (d + 3) 0 0) "findCertain" none 117 0 0 (fun _ _ => True) (fun r h' => r = none ∧ Iv P h') 0 2 [(0, .ref 57), (1, .int l1)] [] hx) ∧ (∀ (l1 : Int32) (s0 : Int64) (s1 : Int32) (hx : HP), Iv P hx → 0 ≤ l1.toInt → l1.toInt ≤ 44 → 0 ≤ s1.toInt → s1.toInt ≤ 44 → (4 * (45 - l1.toInt) + 639429 : Int) < n → Go l RX1 cX1_findCertain 6 (g_rm (d + 3) 0 0) "findCertain" none 117 0 0 (fun _ _ => True) (fun r h' => r = none ∧ Iv P h') 0 26 [(0, .ref 57), (1, .int l1)] [.long s0, .int s1, .ref 63] hx) ∧ (∀ (l1 : Int32) (l2 : Int32) (hx : HP), Iv P hx → 0 ≤ l1.toInt → l1.toInt ≤ 1 → 0 ≤ l2.toInt → l2.toInt ≤ 3000 → (213 * (3000 - l2.toInt) + 213 : Int) < n → Go l RX1 cX1_findCertain 6 (g_rm (d + 3) 0 0) "findCertain" none 117 0 0 (fun _ _ => True) (fun r h' => r = none ∧ Iv P h') 0 37 [(0, .ref 57), (1, .int l1), (2, .int l2)] [] hx) ∧ (∀ (l1 : Int32) (l2 : Int32) (l3 : Int32) (hx : HP), Iv P hx → 0 ≤ l1.toInt → l1.toInt ≤ 1 → 0 ≤ l2.toInt → l2.toInt ≤ 2025 → -1 ≤ l3.toInt → l3.toInt ≤ 39 → (5 * (l3.toInt + 1) + 213 * (3000 - l2.toInt) + 6 : Int) < n → Go l RX1 cX1_findCertain 6 (g_rm (d + 3) 0 0) "findCertain" none 117 0 0 (fun _ _ => True) (fun r h' => r = none ∧ Iv P h') 0 60 [(0, .ref 57), (1, .int l1), (2, .int l2), (3, .int l3)] [] hx) ∧ (∀ (l1 : Int32) (l2 : Int32) (l3 : Int32) (l4 : Int64) (hx : HP), Iv P hx → 0 ≤ l1.toInt → l1.toInt ≤ 1 → 0 ≤ l2.toInt → l2.toInt ≤ 2025 → 0 ≤ l3.toInt → l3.toInt ≤ 39 → (5 * (l3.toInt + 1) + 213 * (3000 - l2.toInt) + 5 : Int) < n → Go l RX1 cX1_findCertain 6 (g_rm (d + 3) 0 0) "findCertain" none 117 0 0 (fun _ _ => True) (fun r h' => r = none ∧ Iv P h') 0 110 [(0, .ref 57), (1, .int l1), (2, .int l2), (3, .int l3), (4, .long l4)] [] hx) ∧ (∀ (l2 : Int32) (l3 : Int32) (l4 : Int64) (s0 : Int32) (s1 : Int32) (hx : HP), Iv P hx → 0 ≤ l2.toInt → l2.toInt ≤ 2025 → 0 ≤ l3.toInt → l3.toInt ≤ 39 → 0 ≤ s0.toInt → s0.toInt ≤ 1 → 0 ≤ s1.toInt → s1.toInt ≤ 1 → (5 * (l3.toInt + 1) + 213 * (3000 - l2.toInt) + 4 : Int) < n → Go l RX1 cX1_findCertain 6 (g_rm (d + 3) 0 0) "findCertain" none 117 0 0 (fun _ _ => True) (fun r h' => r = none ∧ Iv P h') 0 137 [(0, .ref 57), (2, .int l2), (3, .int l3), (4, .long l4)] [.int s0, .int s1] hx) ∧ (∀  (hx : HP), Iv P hx → (1 : Int) < n → Go l RX1 cX1_findCertain 6 (g_rm (d + 3) 0 0) "findCertain" none 117 0 0 (fun _ _ => True) (fun r h' => r = none ∧ Iv P h') 0 159 [] [] hx) := by
    intro n
    induction n with
    | zero => exact ⟨(by intros; omega), (by intros; omega), (by intros; omega), (by intros; omega), (by intros; omega), (by intros; omega), (by intros; omega)⟩
    | succ n ih =>
      refine ⟨?_, ?_, ?_, ?_, ?_, ?_, ?_⟩
      ·
        intro l1 hx hvx l1l l1u hm
        refine go_iload_n (pc := 2) rfl dX1_findCertain_2 ?_
        refine go_bipush (pc := 3) (v := 45) (by decide) dX1_findCertain_3 ?_
        refine gf_icmp_ge (pc := 5) (tgt := 33) (ti_rfl l1) (ti_c (v := 45) (a := 45) (by decide)) (by decide) dX1_findCertain_5 (fun q1 => ?_) (fun q1 => ?_)
        ·
          refine go_iconst (pc := 33) (v := 1) (by decide) dX1_findCertain_33 ?_
          refine go_istore_n (pc := 34) (Nat.le_of_ble_eq_true rfl) dX1_findCertain_34 (go_lv (lv2 := [(0, .ref 57), (1, .int 1)]) rfl ?_)
          refine go_iconst (pc := 35) (v := 0) (by decide) dX1_findCertain_35 ?_
          refine go_istore_n (pc := 36) (Nat.le_of_ble_eq_true rfl) dX1_findCertain_36 (go_lv (lv2 := [(0, .ref 57), (1, .int 1), (2, .int 0)]) rfl ?_)
          have z2 : (1 : Int32).toInt = 1 := (ti_c (v := 1) (a := 1) (by decide))
          have z3 : (0 : Int32).toInt = 0 := (ti_c (v := 0) (a := 0) (by decide))
          exact go_lv rfl (ih.2.2.1 1 0 hx hvx (by omega) (by omega) (by omega) (by omega) (by omega))
        ·
          refine go_aload_n (pc := 8) rfl dX1_findCertain_8 ?_
          refine gi_getF (pc := 9) (q := 63) hvx fL_X1_27 rfl (Nat.le_of_ble_eq_true rfl) rfl (hvx.rf (by decide)) dX1_findCertain_9 ?_
          refine go_iload_n (pc := 12) rfl dX1_findCertain_12 ?_
          refine go_iload_n (pc := 13) rfl dX1_findCertain_13 ?_
          refine go_bipush (pc := 14) (v := 40) (by decide) dX1_findCertain_14 ?_
          refine gf_icmp_ge (pc := 16) (tgt := 25) (ti_rfl l1) (ti_c (v := 40) (a := 40) (by decide)) (by decide) dX1_findCertain_16 (fun q4 => ?_) (fun q4 => ?_)
          ·
            refine go_lconst (pc := 25) (v := 0) (by decide) dX1_findCertain_25 ?_
            exact go_lv rfl (ih.2.1 l1 0 l1 hx hvx (by omega) (by omega) (by omega) (by omega) (by omega))
          ·
            refine go_ldc2 (pc := 19) kL_X1_60 dX1_findCertain_19 ?_
            refine go_goto (pc := 22) (tgt := 26) (by decide) dX1_findCertain_22 ?_
            exact go_lv rfl (ih.2.1 l1 1099511627775 l1 hx hvx (by omega) (by omega) (by omega) (by omega) (by omega))
      ·
        intro l1 s0 s1 hx hvx l1l l1u s1l s1u hm
        refine gi_last (pc := 26) (len := 45) hvx (ti_rfl s1) rfl (by omega) (by omega) dX1_findCertain_26 (fun h5 hv5 hv5e => ?_)
        refine gf_iinc (pc := 27) (Nat.le_of_ble_eq_true rfl) rfl (ti_rfl l1) (ti_c (by decide)) (by omega) (by omega) dX1_findCertain_27 (fun v6 e7 => ?_)
        refine go_lv (lv2 := [(0, .ref 57), (1, .int v6)]) rfl ?_
        refine go_goto (pc := 30) (tgt := 2) (by decide) dX1_findCertain_30 ?_
        have z8 : (v6 : Int32).toInt = (l1.toInt + 1) := e7
        exact go_lv rfl (ih.1 v6 h5 hv5 (by omega) (by omega) (by omega))
      ·
        intro l1 l2 hx hvx l1l l1u l2l l2u hm
        refine go_iload_n (pc := 37) rfl dX1_findCertain_37 ?_
        refine go_sipush (pc := 38) (v := 2025) (by decide) dX1_findCertain_38 ?_
        refine gf_icmp_ge (pc := 41) (tgt := 159) (ti_rfl l2) (ti_c (v := 2025) (a := 2025) (by decide)) (by decide) dX1_findCertain_41 (fun q9 => ?_) (fun q9 => ?_)
        ·
          exact go_lv rfl (ih.2.2.2.2.2.2  hx hvx  (by omega))
        ·
          refine go_iload_n (pc := 44) rfl dX1_findCertain_44 ?_
          refine gf_if_eq (pc := 45) (tgt := 159) (ti_rfl l1) (by decide) dX1_findCertain_45 (fun q10 => ?_) (fun q10 => ?_)
          ·
            exact go_lv rfl (ih.2.2.2.2.2.2  hx hvx  (by omega))
          ·
            refine go_iconst (pc := 48) (v := 0) (by decide) dX1_findCertain_48 ?_
            refine go_istore_n (pc := 49) (Nat.le_of_ble_eq_true rfl) dX1_findCertain_49 (go_lv (lv2 := [(0, .ref 57), (1, .int 0), (2, .int l2)]) rfl ?_)
            refine go_aload_n (pc := 50) rfl dX1_findCertain_50 ?_
            refine gi_getC (pc := 51) hvx fL_X1_30 rfl (Nat.le_of_ble_eq_true rfl) rfl (by decide) dX1_findCertain_51 (fun c11 hc11 fc11 => ?_)
            refine gi_get (pc := 54) (lo := 0) (hi := 40) hvx fL_X1_62 (by rcases hc11 with rfl | rfl <;> rfl) (Nat.le_of_ble_eq_true rfl) rfl (by rcases hc11 with rfl | rfl <;> rfl) dX1_findCertain_54 (fun v12 v12l v12u v12w => ?_)
            refine go_iconst (pc := 57) (v := 1) (by decide) dX1_findCertain_57 ?_
            refine gf_isub (pc := 58) (ti_rfl v12) (ti_c (v := 1) (a := 1) (by decide)) (by omega) (by omega) dX1_findCertain_58 (fun v13 e14 => ?_)
            refine go_istore_n (pc := 59) (Nat.le_of_ble_eq_true rfl) dX1_findCertain_59 (go_lv (lv2 := [(0, .ref 57), (1, .int 0), (2, .int l2), (3, .int v13)]) rfl ?_)
            have z15 : (0 : Int32).toInt = 0 := (ti_c (v := 0) (a := 0) (by decide))
            have z16 : (v13 : Int32).toInt = (v12.toInt - 1) := e14
            exact go_lv rfl (ih.2.2.2.1 0 l2 v13 hx hvx (by omega) (by omega) (by omega) (by omega) (by omega) (by omega) (by omega))
      ·
        intro l1 l2 l3 hx hvx l1l l1u l2l l2u l3l l3u hm
        refine go_iload_n (pc := 60) rfl dX1_findCertain_60 ?_
        refine gf_if_lt (pc := 61) (tgt := 153) (ti_rfl l3) (by decide) dX1_findCertain_61 (fun q17 => ?_) (fun q17 => ?_)
        ·
          refine gf_iinc (pc := 153) (Nat.le_of_ble_eq_true rfl) rfl (ti_rfl l2) (ti_c (by decide)) (by omega) (by omega) dX1_findCertain_153 (fun v18 e19 => ?_)
          refine go_lv (lv2 := [(0, .ref 57), (1, .int l1), (2, .int v18), (3, .int l3)]) rfl ?_
          refine go_goto (pc := 156) (tgt := 37) (by decide) dX1_findCertain_156 ?_
          have z20 : (v18 : Int32).toInt = (l2.toInt + 1) := e19
          exact go_lv rfl (ih.2.2.1 l1 v18 hx hvx (by omega) (by omega) (by omega) (by omega) (by omega))
        ·
          refine go_aload_n (pc := 64) rfl dX1_findCertain_64 ?_
          refine gi_getF (pc := 65) (q := 63) hvx fL_X1_27 rfl (Nat.le_of_ble_eq_true rfl) rfl (hvx.rf (by decide)) dX1_findCertain_65 ?_
          refine go_aload_n (pc := 68) rfl dX1_findCertain_68 ?_
          refine gi_getC (pc := 69) hvx fL_X1_30 rfl (Nat.le_of_ble_eq_true rfl) rfl (by decide) dX1_findCertain_69 (fun c21 hc21 fc21 => ?_)
          refine gi_getF (pc := 72) (q := c21 + 12) hvx fL_X1_68 (by rcases hc21 with rfl | rfl <;> rfl) (Nat.le_of_ble_eq_true rfl) rfl (by rcases hc21 with rfl | rfl <;> exact hvx.rf (by decide)) dX1_findCertain_72 ?_
          refine go_iload_n (pc := 75) rfl dX1_findCertain_75 ?_
          refine gi_iald (pc := 76) (lo := 0) (hi := 44) (len := 40) hvx (ti_rfl l3) (by rcases hc21 with rfl | rfl <;> rfl) (by omega) (by omega) (fun _ => by rcases hc21 with rfl | rfl <;> rfl) dX1_findCertain_76 (fun v22 v22l v22u v22w => ?_)
          refine gi_lald (pc := 77) (len := 45) hvx (ti_rfl v22) rfl (by omega) (by omega) dX1_findCertain_77 (fun v23 v23w => ?_)
          refine go_lstore (pc := 78) (Nat.le_of_ble_eq_true rfl) dX1_findCertain_78 (go_lv (lv2 := [(0, .ref 57), (1, .int l1), (2, .int l2), (3, .int l3), (4, .long v23)]) rfl ?_)
          refine go_aload_n (pc := 80) rfl dX1_findCertain_80 ?_
          refine gi_getC (pc := 81) hvx fL_X1_30 rfl (Nat.le_of_ble_eq_true rfl) rfl (by decide) dX1_findCertain_81 (fun c24 hc24 fc24 => ?_)
          refine go_iload_n (pc := 84) rfl dX1_findCertain_84 ?_
          refine go_invV (pc := 85) (sl := 0) (s_X0_decides l (d + 0) hvx c24 hc24 l3 (by rw [show (l3 : Int32).toInt = l3.toInt from (ti_rfl l3)]; omega) (by rw [show (l3 : Int32).toInt = l3.toInt from (ti_rfl l3)]; omega)) mL_X1_72 iM_X0_decides sM_X0_decides (hvx.sh (by rcases hc24 with rfl | rfl <;> rfl)) rfl rfl rfl (Nat.le_of_ble_eq_true rfl) (show d + 0 + 2 + 1 ≤ d + 3 by omega) (show 8 + (2 + 11) + 40 * (d + 0 + 2) ≤ 40 * (d + 3) by omega) (g_c0 hvx.ln) (Nat.le_of_ble_eq_true rfl) dX1_findCertain_85 ?_
          intro r h25 hq _
          obtain ⟨v26, rfl, v26l, v26u, rfl⟩ := hq
          refine gf_if_eq (pc := 88) (tgt := 110) (ti_rfl v26) (by decide) dX1_findCertain_88 (fun q27 => ?_) (fun q27 => ?_)
          ·
            exact go_lv rfl (ih.2.2.2.2.1 l1 l2 l3 v23 hx hvx (by omega) (by omega) (by omega) (by omega) (by omega) (by omega) (by omega))
          ·
            refine go_lload (pc := 91) rfl dX1_findCertain_91 ?_
            refine go_aload_n (pc := 93) rfl dX1_findCertain_93 ?_
            refine gi_getF (pc := 94) (q := 63) hvx fL_X1_27 rfl (Nat.le_of_ble_eq_true rfl) rfl (hvx.rf (by decide)) dX1_findCertain_94 ?_
            refine go_aload_n (pc := 97) rfl dX1_findCertain_97 ?_
            refine gi_getC (pc := 98) hvx fL_X1_30 rfl (Nat.le_of_ble_eq_true rfl) rfl (by decide) dX1_findCertain_98 (fun c28 hc28 fc28 => ?_)
            refine gi_getF (pc := 101) (q := c28 + 13) hvx fL_X1_76 (by rcases hc28 with rfl | rfl <;> rfl) (Nat.le_of_ble_eq_true rfl) rfl (by rcases hc28 with rfl | rfl <;> exact hvx.rf (by decide)) dX1_findCertain_101 ?_
            refine go_iload_n (pc := 104) rfl dX1_findCertain_104 ?_
            refine gi_iald (pc := 105) (lo := 0) (hi := 44) (len := 40) hvx (ti_rfl l3) (by rcases hc28 with rfl | rfl <;> rfl) (by omega) (by omega) (fun _ => by rcases hc28 with rfl | rfl <;> rfl) dX1_findCertain_105 (fun v29 v29l v29u v29w => ?_)
            refine gi_lald (pc := 106) (len := 45) hvx (ti_rfl v29) rfl (by omega) (by omega) dX1_findCertain_106 (fun v30 v30w => ?_)
            refine gu_land (pc := 107) dX1_findCertain_107 (fun v31 => ?_)
            refine go_lstore (pc := 108) (Nat.le_of_ble_eq_true rfl) dX1_findCertain_108 (go_lv (lv2 := [(0, .ref 57), (1, .int l1), (2, .int l2), (3, .int l3), (4, .long v31)]) rfl ?_)
            exact go_lv rfl (ih.2.2.2.2.1 l1 l2 l3 v31 hx hvx (by omega) (by omega) (by omega) (by omega) (by omega) (by omega) (by omega))
      ·
        intro l1 l2 l3 l4 hx hvx l1l l1u l2l l2u l3l l3u hm
        refine go_lload (pc := 110) rfl dX1_findCertain_110 ?_
        refine go_iload_n (pc := 112) rfl dX1_findCertain_112 ?_
        refine go_invS (pc := 113) (sl := 0) (s_X7_bit l (d + 1) hvx l3) mL_X1_79 iM_X7_bit rfl rfl (Nat.le_of_ble_eq_true rfl) (show d + 1 + 1 + 1 ≤ d + 3 by omega) (show 8 + (1 + 11) + 40 * (d + 1 + 1) ≤ 40 * (d + 3) by omega) (g_c0 hvx.ln) (Nat.le_of_ble_eq_true rfl) dX1_findCertain_113 ?_
        intro r h32 hq _
        obtain ⟨v33, rfl, rfl⟩ := hq
        refine gu_lor (pc := 116) dX1_findCertain_116 (fun v34 => ?_)
        refine go_lstore (pc := 117) (Nat.le_of_ble_eq_true rfl) dX1_findCertain_117 (go_lv (lv2 := [(0, .ref 57), (1, .int l1), (2, .int l2), (3, .int l3), (4, .long v34)]) rfl ?_)
        refine go_iload_n (pc := 119) rfl dX1_findCertain_119 ?_
        refine go_lload (pc := 120) rfl dX1_findCertain_120 ?_
        refine go_aload_n (pc := 122) rfl dX1_findCertain_122 ?_
        refine gi_getF (pc := 123) (q := 63) hvx fL_X1_27 rfl (Nat.le_of_ble_eq_true rfl) rfl (hvx.rf (by decide)) dX1_findCertain_123 ?_
        refine go_iload_n (pc := 126) rfl dX1_findCertain_126 ?_
        refine gi_lald (pc := 127) (len := 45) hvx (ti_rfl l3) rfl (by omega) (by omega) dX1_findCertain_127 (fun v35 v35w => ?_)
        refine gu_lcmp (pc := 128) dX1_findCertain_128 (fun v36 => ?_)
        refine gf_if_eq (pc := 129) (tgt := 136) (ti_rfl v36) (by decide) dX1_findCertain_129 (fun q37 => ?_) (fun q37 => ?_)
        ·
          refine go_iconst (pc := 136) (v := 0) (by decide) dX1_findCertain_136 ?_
          have z38 : (0 : Int32).toInt = 0 := (ti_c (v := 0) (a := 0) (by decide))
          exact go_lv rfl (ih.2.2.2.2.2.1 l2 l3 v34 0 l1 hx hvx (by omega) (by omega) (by omega) (by omega) (by omega) (by omega) (by omega) (by omega) (by omega))
        ·
          refine go_iconst (pc := 132) (v := 1) (by decide) dX1_findCertain_132 ?_
          refine go_goto (pc := 133) (tgt := 137) (by decide) dX1_findCertain_133 ?_
          have z39 : (1 : Int32).toInt = 1 := (ti_c (v := 1) (a := 1) (by decide))
          exact go_lv rfl (ih.2.2.2.2.2.1 l2 l3 v34 1 l1 hx hvx (by omega) (by omega) (by omega) (by omega) (by omega) (by omega) (by omega) (by omega) (by omega))
      ·
        intro l2 l3 l4 s0 s1 hx hvx l2l l2u l3l l3u s0l s0u s1l s1u hm
        refine gf_ior (pc := 137) (ti_rfl s1) (ti_rfl s0) (by omega) (by omega) (by omega) (by omega) dX1_findCertain_137 (fun v40 v40l v40u => ?_)
        refine go_istore_n (pc := 138) (Nat.le_of_ble_eq_true rfl) dX1_findCertain_138 (go_lv (lv2 := [(0, .ref 57), (1, .int v40), (2, .int l2), (3, .int l3), (4, .long l4)]) rfl ?_)
        refine go_aload_n (pc := 139) rfl dX1_findCertain_139 ?_
        refine gi_getF (pc := 140) (q := 63) hvx fL_X1_27 rfl (Nat.le_of_ble_eq_true rfl) rfl (hvx.rf (by decide)) dX1_findCertain_140 ?_
        refine go_iload_n (pc := 143) rfl dX1_findCertain_143 ?_
        refine go_lload (pc := 144) rfl dX1_findCertain_144 ?_
        refine gi_last (pc := 146) (len := 45) hvx (ti_rfl l3) rfl (by omega) (by omega) dX1_findCertain_146 (fun h41 hv41 hv41e => ?_)
        refine gf_iinc (pc := 147) (Nat.le_of_ble_eq_true rfl) rfl (ti_rfl l3) (ti_c (by decide)) (by omega) (by omega) dX1_findCertain_147 (fun v42 e43 => ?_)
        refine go_lv (lv2 := [(0, .ref 57), (1, .int v40), (2, .int l2), (3, .int v42), (4, .long l4)]) rfl ?_
        refine go_goto (pc := 150) (tgt := 60) (by decide) dX1_findCertain_150 ?_
        have z44 : (v42 : Int32).toInt = (l3.toInt + (-1)) := e43
        exact go_lv rfl (ih.2.2.2.1 v40 l2 v42 h41 hv41 (by omega) (by omega) (by omega) (by omega) (by omega) (by omega) (by omega))
      ·
        intro hx hvx hm
        exact gi_vret (pc := 159) ⟨rfl, hvx⟩ hvx dX1_findCertain_159
  refine go_iconst (pc := 0) (v := 0) (by decide) dX1_findCertain_0 ?_
  refine go_istore_n (pc := 1) (Nat.le_of_ble_eq_true rfl) dX1_findCertain_1 (go_lv (lv2 := [(0, .ref 57), (1, .int 0)]) rfl ?_)
  have z45 : (0 : Int32).toInt = 0 := (ti_c (v := 0) (a := 0) (by decide))
  exact go_lv rfl ((key 639628).1 0 h hv (by omega) (by omega) (by omega))
set_option maxHeartbeats 4000000 in
set_option maxRecDepth 100000 in
theorem s_X1_tieAll (l : Launch) (d : Nat) {P : PP} {h : HP} (hv : Iv P h) (a2 : Int64) (a3 : Int32) (a3l : 0 ≤ a3.toInt) (a3u : a3.toInt ≤ 12) (a4 : Int32) : Mt l yX1_tieAll cX1_tieAll 6 none (d + 2) [.ref 57, .long a2, .int a3, .int a4] h 0 0 (fun r h' => r = none ∧ Iv P h') := by
  refine Mt_iv hv (by decide) (Nat.le_of_ble_eq_true rfl) ?_
  show Go l RX1 cX1_tieAll 6 (g_rm (d + 2) 0 0) "tieAll" none 117 0 0 (fun _ _ => True) (fun r h' => r = none ∧ Iv P h') 0 0 [(0, .ref 57), (1, .long a2), (3, .int a3), (4, .int a4)] [] h
  have key : ∀ n : Nat, (∀ (l1 : Int64) (l3 : Int32) (l4 : Int32) (l5 : Int32) (hx : HP), Iv P hx → 0 ≤ l3.toInt → l3.toInt ≤ 12 → 0 ≤ l5.toInt → l5.toInt ≤ 40 → (4 * (40 - l5.toInt) + 3 : Int) < n → Go l RX1 cX1_tieAll 6 (g_rm (d + 2) 0 0) "tieAll" none 117 0 0 (fun _ _ => True) (fun r h' => r = none ∧ Iv P h') 0 3 [(0, .ref 57), (1, .long l1), (3, .int l3), (4, .int l4), (5, .int l5)] [] hx) ∧ (∀ (l1 : Int64) (l3 : Int32) (l4 : Int32) (l5 : Int32) (hx : HP), Iv P hx → 0 ≤ l3.toInt → l3.toInt ≤ 12 → 0 ≤ l5.toInt → l5.toInt ≤ 39 → (4 * (40 - l5.toInt) + 2 : Int) < n → Go l RX1 cX1_tieAll 6 (g_rm (d + 2) 0 0) "tieAll" none 117 0 0 (fun _ _ => True) (fun r h' => r = none ∧ Iv P h') 0 37 [(0, .ref 57), (1, .long l1), (3, .int l3), (4, .int l4), (5, .int l5)] [] hx) := by
    intro n
    induction n with
    | zero => exact ⟨(by intros; omega), (by intros; omega)⟩
    | succ n ih =>
      refine ⟨?_, ?_⟩
      ·
        intro l1 l3 l4 l5 hx hvx l3l l3u l5l l5u hm
        refine go_iload (pc := 3) rfl dX1_tieAll_3 ?_
        refine go_aload_n (pc := 5) rfl dX1_tieAll_5 ?_
        refine gi_getC (pc := 6) hvx fL_X1_30 rfl (Nat.le_of_ble_eq_true rfl) rfl (by decide) dX1_tieAll_6 (fun c1 hc1 fc1 => ?_)
        refine gi_get (pc := 9) (lo := 0) (hi := 40) hvx fL_X1_62 (by rcases hc1 with rfl | rfl <;> rfl) (Nat.le_of_ble_eq_true rfl) rfl (by rcases hc1 with rfl | rfl <;> rfl) dX1_tieAll_9 (fun v2 v2l v2u v2w => ?_)
        refine gf_icmp_ge (pc := 12) (tgt := 43) (ti_rfl l5) (ti_rfl v2) (by decide) dX1_tieAll_12 (fun q3 => ?_) (fun q3 => ?_)
        ·
          exact gi_vret (pc := 43) ⟨rfl, hvx⟩ hvx dX1_tieAll_43
        ·
          refine go_lload_n (pc := 15) rfl dX1_tieAll_15 ?_
          refine go_iload (pc := 16) rfl dX1_tieAll_16 ?_
          refine go_invS (pc := 18) (sl := 0) (s_X7_has l (d + 0) hvx l1 l5) mL_X1_56 iM_X7_has rfl rfl (Nat.le_of_ble_eq_true rfl) (show d + 0 + 1 + 1 ≤ d + 2 by omega) (show 8 + (3 + 11) + 40 * (d + 0 + 1) ≤ 40 * (d + 2) by omega) (g_c0 hvx.ln) (Nat.le_of_ble_eq_true rfl) dX1_tieAll_18 ?_
          intro r h4 hq _
          obtain ⟨v5, rfl, v5l, v5u, rfl⟩ := hq
          refine gf_if_eq (pc := 21) (tgt := 37) (ti_rfl v5) (by decide) dX1_tieAll_21 (fun q6 => ?_) (fun q6 => ?_)
          ·
            exact go_lv rfl (ih.2 l1 l3 l4 l5 hx hvx (by omega) (by omega) (by omega) (by omega) (by omega))
          ·
            refine go_aload_n (pc := 24) rfl dX1_tieAll_24 ?_
            refine go_iload (pc := 25) rfl dX1_tieAll_25 ?_
            refine go_iconst (pc := 27) (v := 0) (by decide) dX1_tieAll_27 ?_
            refine go_iload_n (pc := 28) rfl dX1_tieAll_28 ?_
            refine go_iload (pc := 29) rfl dX1_tieAll_29 ?_
            refine go_invS (pc := 31) (sl := 0) (s_X7_bit l (d + 0) hvx l4) mL_X1_79 iM_X7_bit rfl rfl (Nat.le_of_ble_eq_true rfl) (show d + 0 + 1 + 1 ≤ d + 2 by omega) (show 8 + (1 + 11) + 40 * (d + 0 + 1) ≤ 40 * (d + 2) by omega) (g_c0 hvx.ln) (Nat.le_of_ble_eq_true rfl) dX1_tieAll_31 ?_
            intro r h7 hq _
            obtain ⟨v8, rfl, rfl⟩ := hq
            refine go_invV (pc := 34) (sl := 0) (s_X1_tie l (d + 0) hvx l5 (by rw [show (l5 : Int32).toInt = l5.toInt from (ti_rfl l5)]; omega) (by rw [show (l5 : Int32).toInt = l5.toInt from (ti_rfl l5)]; omega) 0 (by rw [show (0 : Int32).toInt = 0 from (ti_c (v := 0) (a := 0) (by decide))]; omega) (by rw [show (0 : Int32).toInt = 0 from (ti_c (v := 0) (a := 0) (by decide))]; omega) l3 (by rw [show (l3 : Int32).toInt = l3.toInt from (ti_rfl l3)]; omega) (by rw [show (l3 : Int32).toInt = l3.toInt from (ti_rfl l3)]; omega) v8) mL_X1_103 iM_X1_tie sM_X1_tie (hvx.sh rfl) rfl rfl rfl (Nat.le_of_ble_eq_true rfl) (show d + 0 + 1 + 1 ≤ d + 2 by omega) (show 8 + (6 + 11) + 40 * (d + 0 + 1) ≤ 40 * (d + 2) by omega) (g_c0 hvx.ln) (Nat.le_of_ble_eq_true rfl) dX1_tieAll_34 ?_
            intro r h9 hq _
            obtain ⟨rfl, hv9⟩ := hq
            exact go_lv rfl (ih.2 l1 l3 l4 l5 h9 hv9 (by omega) (by omega) (by omega) (by omega) (by omega))
      ·
        intro l1 l3 l4 l5 hx hvx l3l l3u l5l l5u hm
        refine gf_iinc (pc := 37) (Nat.le_of_ble_eq_true rfl) rfl (ti_rfl l5) (ti_c (by decide)) (by omega) (by omega) dX1_tieAll_37 (fun v10 e11 => ?_)
        refine go_lv (lv2 := [(0, .ref 57), (1, .long l1), (3, .int l3), (4, .int l4), (5, .int v10)]) rfl ?_
        refine go_goto (pc := 40) (tgt := 3) (by decide) dX1_tieAll_40 ?_
        have z12 : (v10 : Int32).toInt = (l5.toInt + 1) := e11
        exact go_lv rfl (ih.1 l1 l3 l4 v10 hx hvx (by omega) (by omega) (by omega) (by omega) (by omega))
  refine go_iconst (pc := 0) (v := 0) (by decide) dX1_tieAll_0 ?_
  refine go_istore (pc := 1) (Nat.le_of_ble_eq_true rfl) dX1_tieAll_1 (go_lv (lv2 := [(0, .ref 57), (1, .long a2), (3, .int a3), (4, .int a4), (5, .int 0)]) rfl ?_)
  have z13 : (0 : Int32).toInt = 0 := (ti_c (v := 0) (a := 0) (by decide))
  exact go_lv rfl ((key 181).1 a2 a3 a4 0 h hv (by omega) (by omega) (by omega) (by omega) (by omega))
set_option maxHeartbeats 4000000 in
set_option maxRecDepth 100000 in
theorem s_X1_tieDecided (l : Launch) (d : Nat) {P : PP} {h : HP} (hv : Iv P h) (a2 : Int32) (a2l : 0 ≤ a2.toInt) (a2u : a2.toInt ≤ 39) (a3 : Int64) : Mt l yX1_tieDecided cX1_tieDecided 5 none (d + 3) [.ref 57, .int a2, .long a3] h 0 0 (fun r h' => r = none ∧ Iv P h') := by
  refine Mt_iv hv (by decide) (Nat.le_of_ble_eq_true rfl) ?_
  show Go l RX1 cX1_tieDecided 5 (g_rm (d + 3) 0 0) "tieDecided" none 117 0 0 (fun _ _ => True) (fun r h' => r = none ∧ Iv P h') 0 0 [(0, .ref 57), (1, .int a2), (2, .long a3)] [] h
  have key : ∀ n : Nat, (∀ (l1 : Int32) (l2 : Int64) (s0 : Int32) (s1 : Int64) (hx : HP), Iv P hx → 0 ≤ l1.toInt → l1.toInt ≤ 39 → 0 ≤ s0.toInt → s0.toInt ≤ 8 → (169 : Int) < n → Go l RX1 cX1_tieDecided 5 (g_rm (d + 3) 0 0) "tieDecided" none 117 0 0 (fun _ _ => True) (fun r h' => r = none ∧ Iv P h') 0 21 [(0, .ref 57), (1, .int l1), (2, .long l2)] [.int s0, .long s1, .ref 57] hx) ∧ (∀ (l1 : Int32) (l2 : Int64) (l4 : Int32) (hx : HP), Iv P hx → 0 ≤ l1.toInt → l1.toInt ≤ 39 → 0 ≤ l4.toInt → l4.toInt ≤ 40 → (4 * (40 - l4.toInt) + 3 : Int) < n → Go l RX1 cX1_tieDecided 5 (g_rm (d + 3) 0 0) "tieDecided" none 117 0 0 (fun _ _ => True) (fun r h' => r = none ∧ Iv P h') 0 28 [(0, .ref 57), (1, .int l1), (2, .long l2), (4, .int l4)] [] hx) ∧ (∀ (l1 : Int32) (l2 : Int64) (l4 : Int32) (hx : HP), Iv P hx → 0 ≤ l1.toInt → l1.toInt ≤ 39 → 0 ≤ l4.toInt → l4.toInt ≤ 39 → (4 * (40 - l4.toInt) + 2 : Int) < n → Go l RX1 cX1_tieDecided 5 (g_rm (d + 3) 0 0) "tieDecided" none 117 0 0 (fun _ _ => True) (fun r h' => r = none ∧ Iv P h') 0 63 [(0, .ref 57), (1, .int l1), (2, .long l2), (4, .int l4)] [] hx) := by
    intro n
    induction n with
    | zero => exact ⟨(by intros; omega), (by intros; omega), (by intros; omega)⟩
    | succ n ih =>
      refine ⟨?_, ?_, ?_⟩
      ·
        intro l1 l2 s0 s1 hx hvx l1l l1u s0l s0u hm
        refine go_iload_n (pc := 21) rfl dX1_tieDecided_21 ?_
        refine go_invV (pc := 22) (sl := 0) (s_X1_tieAll l (d + 0) hvx s1 s0 (by rw [show (s0 : Int32).toInt = s0.toInt from (ti_rfl s0)]; omega) (by rw [show (s0 : Int32).toInt = s0.toInt from (ti_rfl s0)]; omega) l1) mL_X1_96 iM_X1_tieAll sM_X1_tieAll (hvx.sh rfl) rfl rfl rfl (Nat.le_of_ble_eq_true rfl) (show d + 0 + 2 + 1 ≤ d + 3 by omega) (show 8 + (6 + 11) + 40 * (d + 0 + 2) ≤ 40 * (d + 3) by omega) (g_c0 hvx.ln) (Nat.le_of_ble_eq_true rfl) dX1_tieDecided_22 ?_
        intro r h1 hq _
        obtain ⟨rfl, hv1⟩ := hq
        refine go_iconst (pc := 25) (v := 0) (by decide) dX1_tieDecided_25 ?_
        refine go_istore (pc := 26) (Nat.le_of_ble_eq_true rfl) dX1_tieDecided_26 (go_lv (lv2 := [(0, .ref 57), (1, .int l1), (2, .long l2), (4, .int 0)]) rfl ?_)
        have z2 : (0 : Int32).toInt = 0 := (ti_c (v := 0) (a := 0) (by decide))
        exact go_lv rfl (ih.2.1 l1 l2 0 h1 hv1 (by omega) (by omega) (by omega) (by omega) (by omega))
      ·
        intro l1 l2 l4 hx hvx l1l l1u l4l l4u hm
        refine go_iload (pc := 28) rfl dX1_tieDecided_28 ?_
        refine go_aload_n (pc := 30) rfl dX1_tieDecided_30 ?_
        refine gi_getC (pc := 31) hvx fL_X1_30 rfl (Nat.le_of_ble_eq_true rfl) rfl (by decide) dX1_tieDecided_31 (fun c3 hc3 fc3 => ?_)
        refine gi_get (pc := 34) (lo := 0) (hi := 40) hvx fL_X1_62 (by rcases hc3 with rfl | rfl <;> rfl) (Nat.le_of_ble_eq_true rfl) rfl (by rcases hc3 with rfl | rfl <;> rfl) dX1_tieDecided_34 (fun v4 v4l v4u v4w => ?_)
        refine gf_icmp_ge (pc := 37) (tgt := 69) (ti_rfl l4) (ti_rfl v4) (by decide) dX1_tieDecided_37 (fun q5 => ?_) (fun q5 => ?_)
        ·
          exact gi_vret (pc := 69) ⟨rfl, hvx⟩ hvx dX1_tieDecided_69
        ·
          refine go_lload_n (pc := 40) rfl dX1_tieDecided_40 ?_
          refine go_iload (pc := 41) rfl dX1_tieDecided_41 ?_
          refine go_invS (pc := 43) (sl := 0) (s_X7_has l (d + 1) hvx l2 l4) mL_X1_56 iM_X7_has rfl rfl (Nat.le_of_ble_eq_true rfl) (show d + 1 + 1 + 1 ≤ d + 3 by omega) (show 8 + (3 + 11) + 40 * (d + 1 + 1) ≤ 40 * (d + 3) by omega) (g_c0 hvx.ln) (Nat.le_of_ble_eq_true rfl) dX1_tieDecided_43 ?_
          intro r h6 hq _
          obtain ⟨v7, rfl, v7l, v7u, rfl⟩ := hq
          refine gf_if_eq (pc := 46) (tgt := 63) (ti_rfl v7) (by decide) dX1_tieDecided_46 (fun q8 => ?_) (fun q8 => ?_)
          ·
            exact go_lv rfl (ih.2.2 l1 l2 l4 hx hvx (by omega) (by omega) (by omega) (by omega) (by omega))
          ·
            refine go_aload_n (pc := 49) rfl dX1_tieDecided_49 ?_
            refine gi_getF (pc := 50) (q := 60) hvx fL_X1_18 rfl (Nat.le_of_ble_eq_true rfl) rfl (hvx.rf (by decide)) dX1_tieDecided_50 ?_
            refine go_iload (pc := 53) rfl dX1_tieDecided_53 ?_
            refine go_dup2 (pc := 55) rfl rfl dX1_tieDecided_55 ?_
            refine gi_lald (pc := 56) (len := 40) hvx (ti_rfl l4) rfl (by omega) (by omega) dX1_tieDecided_56 (fun v9 v9w => ?_)
            refine go_iload_n (pc := 57) rfl dX1_tieDecided_57 ?_
            refine go_invS (pc := 58) (sl := 0) (s_X7_bit l (d + 1) hvx l1) mL_X1_79 iM_X7_bit rfl rfl (Nat.le_of_ble_eq_true rfl) (show d + 1 + 1 + 1 ≤ d + 3 by omega) (show 8 + (1 + 11) + 40 * (d + 1 + 1) ≤ 40 * (d + 3) by omega) (g_c0 hvx.ln) (Nat.le_of_ble_eq_true rfl) dX1_tieDecided_58 ?_
            intro r h10 hq _
            obtain ⟨v11, rfl, rfl⟩ := hq
            refine gu_lor (pc := 61) dX1_tieDecided_61 (fun v12 => ?_)
            refine gi_last (pc := 62) (len := 40) hvx (ti_rfl l4) rfl (by omega) (by omega) dX1_tieDecided_62 (fun h13 hv13 hv13e => ?_)
            exact go_lv rfl (ih.2.2 l1 l2 l4 h13 hv13 (by omega) (by omega) (by omega) (by omega) (by omega))
      ·
        intro l1 l2 l4 hx hvx l1l l1u l4l l4u hm
        refine gf_iinc (pc := 63) (Nat.le_of_ble_eq_true rfl) rfl (ti_rfl l4) (ti_c (by decide)) (by omega) (by omega) dX1_tieDecided_63 (fun v14 e15 => ?_)
        refine go_lv (lv2 := [(0, .ref 57), (1, .int l1), (2, .long l2), (4, .int v14)]) rfl ?_
        refine go_goto (pc := 66) (tgt := 28) (by decide) dX1_tieDecided_66 ?_
        have z16 : (v14 : Int32).toInt = (l4.toInt + 1) := e15
        exact go_lv rfl (ih.2.1 l1 l2 v14 hx hvx (by omega) (by omega) (by omega) (by omega) (by omega))
  refine go_aload_n (pc := 0) rfl dX1_tieDecided_0 ?_
  refine go_lload_n (pc := 1) rfl dX1_tieDecided_1 ?_
  refine go_aload_n (pc := 2) rfl dX1_tieDecided_2 ?_
  refine gi_getC (pc := 3) hv fL_X1_30 rfl (Nat.le_of_ble_eq_true rfl) rfl (by decide) dX1_tieDecided_3 (fun c17 hc17 fc17 => ?_)
  refine gi_getF (pc := 6) (q := c17 + 2) hv fL_X1_100 (by rcases hc17 with rfl | rfl <;> rfl) (Nat.le_of_ble_eq_true rfl) rfl (by rcases hc17 with rfl | rfl <;> exact hv.rf (by decide)) dX1_tieDecided_6 ?_
  refine go_iload_n (pc := 9) rfl dX1_tieDecided_9 ?_
  refine gi_iald (pc := 10) (lo := 0) (hi := 5) (len := 40) hv (ti_rfl a2) (by rcases hc17 with rfl | rfl <;> rfl) (by omega) (by omega) (fun _ => by rcases hc17 with rfl | rfl <;> rfl) dX1_tieDecided_10 (fun v18 v18l v18u v18w => ?_)
  refine go_iconst (pc := 11) (v := 1) (by decide) dX1_tieDecided_11 ?_
  refine gf_icmp_ne (pc := 12) (tgt := 20) (ti_rfl v18) (ti_c (v := 1) (a := 1) (by decide)) (by decide) dX1_tieDecided_12 (fun q19 => ?_) (fun q19 => ?_)
  ·
    refine go_iconst (pc := 20) (v := 0) (by decide) dX1_tieDecided_20 ?_
    have z20 : (0 : Int32).toInt = 0 := (ti_c (v := 0) (a := 0) (by decide))
    exact go_lv rfl ((key 182).1 a2 a3 0 a3 h hv (by omega) (by omega) (by omega) (by omega) (by omega))
  ·
    refine go_bipush (pc := 15) (v := 8) (by decide) dX1_tieDecided_15 ?_
    refine go_goto (pc := 17) (tgt := 21) (by decide) dX1_tieDecided_17 ?_
    have z21 : (8 : Int32).toInt = 8 := (ti_c (v := 8) (a := 8) (by decide))
    exact go_lv rfl ((key 182).1 a2 a3 8 a3 h hv (by omega) (by omega) (by omega) (by omega) (by omega))
set_option maxHeartbeats 4000000 in
set_option maxRecDepth 100000 in
theorem s_X1_tieByWay (l : Launch) (d : Nat) {P : PP} {h : HP} (hv : Iv P h)  : Mt l yX1_tieByWay cX1_tieByWay 2 none (d + 4) [.ref 57] h 0 0 (fun r h' => r = none ∧ Iv P h') := by
  refine Mt_iv hv (by decide) (Nat.le_of_ble_eq_true rfl) ?_
  show Go l RX1 cX1_tieByWay 2 (g_rm (d + 4) 0 0) "tieByWay" none 117 0 0 (fun _ _ => True) (fun r h' => r = none ∧ Iv P h') 0 0 [(0, .ref 57)] [] h
  have key : ∀ n : Nat, (∀ (l1 : Int32) (hx : HP), Iv P hx → 0 ≤ l1.toInt → l1.toInt ≤ 40 → (4 * (40 - l1.toInt) + 24 : Int) < n → Go l RX1 cX1_tieByWay 2 (g_rm (d + 4) 0 0) "tieByWay" none 117 0 0 (fun _ _ => True) (fun r h' => r = none ∧ Iv P h') 0 6 [(0, .ref 57), (1, .int l1)] [] hx) ∧ (∀ (l1 : Int32) (hx : HP), Iv P hx → 0 ≤ l1.toInt → l1.toInt ≤ 39 → (4 * (40 - l1.toInt) + 23 : Int) < n → Go l RX1 cX1_tieByWay 2 (g_rm (d + 4) 0 0) "tieByWay" none 117 0 0 (fun _ _ => True) (fun r h' => r = none ∧ Iv P h') 0 62 [(0, .ref 57), (1, .int l1)] [] hx) ∧ (∀ (l1 : Int32) (hx : HP), Iv P hx → 0 ≤ l1.toInt → l1.toInt ≤ 5 → (3 * (5 - l1.toInt) + 2 : Int) < n → Go l RX1 cX1_tieByWay 2 (g_rm (d + 4) 0 0) "tieByWay" none 117 0 0 (fun _ _ => True) (fun r h' => r = none ∧ Iv P h') 0 70 [(0, .ref 57), (1, .int l1)] [] hx) := by
    intro n
    induction n with
    | zero => exact ⟨(by intros; omega), (by intros; omega), (by intros; omega)⟩
    | succ n ih =>
      refine ⟨?_, ?_, ?_⟩
      ·
        intro l1 hx hvx l1l l1u hm
        refine go_iload_n (pc := 6) rfl dX1_tieByWay_6 ?_
        refine go_aload_n (pc := 7) rfl dX1_tieByWay_7 ?_
        refine gi_getC (pc := 8) hvx fL_X1_30 rfl (Nat.le_of_ble_eq_true rfl) rfl (by decide) dX1_tieByWay_8 (fun c1 hc1 fc1 => ?_)
        refine gi_get (pc := 11) (lo := 0) (hi := 40) hvx fL_X1_62 (by rcases hc1 with rfl | rfl <;> rfl) (Nat.le_of_ble_eq_true rfl) rfl (by rcases hc1 with rfl | rfl <;> rfl) dX1_tieByWay_11 (fun v2 v2l v2u v2w => ?_)
        refine gf_icmp_ge (pc := 14) (tgt := 68) (ti_rfl l1) (ti_rfl v2) (by decide) dX1_tieByWay_14 (fun q3 => ?_) (fun q3 => ?_)
        ·
          refine go_iconst (pc := 68) (v := 0) (by decide) dX1_tieByWay_68 ?_
          refine go_istore_n (pc := 69) (Nat.le_of_ble_eq_true rfl) dX1_tieByWay_69 (go_lv (lv2 := [(0, .ref 57), (1, .int 0)]) rfl ?_)
          have z4 : (0 : Int32).toInt = 0 := (ti_c (v := 0) (a := 0) (by decide))
          exact go_lv rfl (ih.2.2 0 hx hvx (by omega) (by omega) (by omega))
        ·
          refine go_aload_n (pc := 17) rfl dX1_tieByWay_17 ?_
          refine gi_getC (pc := 18) hvx fL_X1_30 rfl (Nat.le_of_ble_eq_true rfl) rfl (by decide) dX1_tieByWay_18 (fun c5 hc5 fc5 => ?_)
          refine go_iload_n (pc := 21) rfl dX1_tieByWay_21 ?_
          refine go_invV (pc := 22) (sl := 0) (s_X0_decides l (d + 1) hvx c5 hc5 l1 (by rw [show (l1 : Int32).toInt = l1.toInt from (ti_rfl l1)]; omega) (by rw [show (l1 : Int32).toInt = l1.toInt from (ti_rfl l1)]; omega)) mL_X1_72 iM_X0_decides sM_X0_decides (hvx.sh (by rcases hc5 with rfl | rfl <;> rfl)) rfl rfl rfl (Nat.le_of_ble_eq_true rfl) (show d + 1 + 2 + 1 ≤ d + 4 by omega) (show 8 + (2 + 11) + 40 * (d + 1 + 2) ≤ 40 * (d + 4) by omega) (g_c0 hvx.ln) (Nat.le_of_ble_eq_true rfl) dX1_tieByWay_22 ?_
          intro r h6 hq _
          obtain ⟨v7, rfl, v7l, v7u, rfl⟩ := hq
          refine gf_if_eq (pc := 25) (tgt := 62) (ti_rfl v7) (by decide) dX1_tieByWay_25 (fun q8 => ?_) (fun q8 => ?_)
          ·
            exact go_lv rfl (ih.2.1 l1 hx hvx (by omega) (by omega) (by omega))
          ·
            refine go_aload_n (pc := 28) rfl dX1_tieByWay_28 ?_
            refine go_iload_n (pc := 29) rfl dX1_tieByWay_29 ?_
            refine go_aload_n (pc := 30) rfl dX1_tieByWay_30 ?_
            refine gi_getF (pc := 31) (q := 63) hvx fL_X1_27 rfl (Nat.le_of_ble_eq_true rfl) rfl (hvx.rf (by decide)) dX1_tieByWay_31 ?_
            refine go_aload_n (pc := 34) rfl dX1_tieByWay_34 ?_
            refine gi_getC (pc := 35) hvx fL_X1_30 rfl (Nat.le_of_ble_eq_true rfl) rfl (by decide) dX1_tieByWay_35 (fun c9 hc9 fc9 => ?_)
            refine gi_getF (pc := 38) (q := c9 + 12) hvx fL_X1_68 (by rcases hc9 with rfl | rfl <;> rfl) (Nat.le_of_ble_eq_true rfl) rfl (by rcases hc9 with rfl | rfl <;> exact hvx.rf (by decide)) dX1_tieByWay_38 ?_
            refine go_iload_n (pc := 41) rfl dX1_tieByWay_41 ?_
            refine gi_iald (pc := 42) (lo := 0) (hi := 44) (len := 40) hvx (ti_rfl l1) (by rcases hc9 with rfl | rfl <;> rfl) (by omega) (by omega) (fun _ => by rcases hc9 with rfl | rfl <;> rfl) dX1_tieByWay_42 (fun v10 v10l v10u v10w => ?_)
            refine gi_lald (pc := 43) (len := 45) hvx (ti_rfl v10) rfl (by omega) (by omega) dX1_tieByWay_43 (fun v11 v11w => ?_)
            refine go_aload_n (pc := 44) rfl dX1_tieByWay_44 ?_
            refine gi_getF (pc := 45) (q := 63) hvx fL_X1_27 rfl (Nat.le_of_ble_eq_true rfl) rfl (hvx.rf (by decide)) dX1_tieByWay_45 ?_
            refine go_aload_n (pc := 48) rfl dX1_tieByWay_48 ?_
            refine gi_getC (pc := 49) hvx fL_X1_30 rfl (Nat.le_of_ble_eq_true rfl) rfl (by decide) dX1_tieByWay_49 (fun c12 hc12 fc12 => ?_)
            refine gi_getF (pc := 52) (q := c12 + 13) hvx fL_X1_76 (by rcases hc12 with rfl | rfl <;> rfl) (Nat.le_of_ble_eq_true rfl) rfl (by rcases hc12 with rfl | rfl <;> exact hvx.rf (by decide)) dX1_tieByWay_52 ?_
            refine go_iload_n (pc := 55) rfl dX1_tieByWay_55 ?_
            refine gi_iald (pc := 56) (lo := 0) (hi := 44) (len := 40) hvx (ti_rfl l1) (by rcases hc12 with rfl | rfl <;> rfl) (by omega) (by omega) (fun _ => by rcases hc12 with rfl | rfl <;> rfl) dX1_tieByWay_56 (fun v13 v13l v13u v13w => ?_)
            refine gi_lald (pc := 57) (len := 45) hvx (ti_rfl v13) rfl (by omega) (by omega) dX1_tieByWay_57 (fun v14 v14w => ?_)
            refine gu_lxor (pc := 58) dX1_tieByWay_58 (fun v15 => ?_)
            refine go_invV (pc := 59) (sl := 0) (s_X1_tieDecided l (d + 0) hvx l1 (by rw [show (l1 : Int32).toInt = l1.toInt from (ti_rfl l1)]; omega) (by rw [show (l1 : Int32).toInt = l1.toInt from (ti_rfl l1)]; omega) v15) mL_X1_86 iM_X1_tieDecided sM_X1_tieDecided (hvx.sh rfl) rfl rfl rfl (Nat.le_of_ble_eq_true rfl) (show d + 0 + 3 + 1 ≤ d + 4 by omega) (show 8 + (5 + 11) + 40 * (d + 0 + 3) ≤ 40 * (d + 4) by omega) (g_c0 hvx.ln) (Nat.le_of_ble_eq_true rfl) dX1_tieByWay_59 ?_
            intro r h16 hq _
            obtain ⟨rfl, hv16⟩ := hq
            exact go_lv rfl (ih.2.1 l1 h16 hv16 (by omega) (by omega) (by omega))
      ·
        intro l1 hx hvx l1l l1u hm
        refine gf_iinc (pc := 62) (Nat.le_of_ble_eq_true rfl) rfl (ti_rfl l1) (ti_c (by decide)) (by omega) (by omega) dX1_tieByWay_62 (fun v17 e18 => ?_)
        refine go_lv (lv2 := [(0, .ref 57), (1, .int v17)]) rfl ?_
        refine go_goto (pc := 65) (tgt := 6) (by decide) dX1_tieByWay_65 ?_
        have z19 : (v17 : Int32).toInt = (l1.toInt + 1) := e18
        exact go_lv rfl (ih.1 v17 hx hvx (by omega) (by omega) (by omega))
      ·
        intro l1 hx hvx l1l l1u hm
        refine go_iload_n (pc := 70) rfl dX1_tieByWay_70 ?_
        refine go_aload_n (pc := 71) rfl dX1_tieByWay_71 ?_
        refine gi_getC (pc := 72) hvx fL_X1_30 rfl (Nat.le_of_ble_eq_true rfl) rfl (by decide) dX1_tieByWay_72 (fun c20 hc20 fc20 => ?_)
        refine gi_get (pc := 75) (lo := 0) (hi := 5) hvx fL_X1_90 (by rcases hc20 with rfl | rfl <;> rfl) (Nat.le_of_ble_eq_true rfl) rfl (by rcases hc20 with rfl | rfl <;> rfl) dX1_tieByWay_75 (fun v21 v21l v21u v21w => ?_)
        refine gf_icmp_ge (pc := 78) (tgt := 122) (ti_rfl l1) (ti_rfl v21) (by decide) dX1_tieByWay_78 (fun q22 => ?_) (fun q22 => ?_)
        ·
          exact gi_vret (pc := 122) ⟨rfl, hvx⟩ hvx dX1_tieByWay_122
        ·
          refine go_aload_n (pc := 81) rfl dX1_tieByWay_81 ?_
          refine gi_getF (pc := 82) (q := 61) hvx fL_X1_21 rfl (Nat.le_of_ble_eq_true rfl) rfl (hvx.rf (by decide)) dX1_tieByWay_82 ?_
          refine go_iload_n (pc := 85) rfl dX1_tieByWay_85 ?_
          refine go_aload_n (pc := 86) rfl dX1_tieByWay_86 ?_
          refine gi_getF (pc := 87) (q := 63) hvx fL_X1_27 rfl (Nat.le_of_ble_eq_true rfl) rfl (hvx.rf (by decide)) dX1_tieByWay_87 ?_
          refine go_aload_n (pc := 90) rfl dX1_tieByWay_90 ?_
          refine gi_getC (pc := 91) hvx fL_X1_30 rfl (Nat.le_of_ble_eq_true rfl) rfl (by decide) dX1_tieByWay_91 (fun c23 hc23 fc23 => ?_)
          refine gi_getF (pc := 94) (q := c23 + 1) hvx fL_X1_93 (by rcases hc23 with rfl | rfl <;> rfl) (Nat.le_of_ble_eq_true rfl) rfl (by rcases hc23 with rfl | rfl <;> exact hvx.rf (by decide)) dX1_tieByWay_94 ?_
          refine go_iload_n (pc := 97) rfl dX1_tieByWay_97 ?_
          refine gi_iald (pc := 98) (lo := 0) (hi := 44) (len := 5) hvx (ti_rfl l1) (by rcases hc23 with rfl | rfl <;> rfl) (by omega) (by omega) (fun _ => by rcases hc23 with rfl | rfl <;> rfl) dX1_tieByWay_98 (fun v24 v24l v24u v24w => ?_)
          refine gi_lald (pc := 99) (len := 45) hvx (ti_rfl v24) rfl (by omega) (by omega) dX1_tieByWay_99 (fun v25 v25w => ?_)
          refine gi_last (pc := 100) (len := 5) hvx (ti_rfl l1) rfl (by omega) (by omega) dX1_tieByWay_100 (fun h26 hv26 hv26e => ?_)
          refine go_aload_n (pc := 101) rfl dX1_tieByWay_101 ?_
          refine go_aload_n (pc := 102) rfl dX1_tieByWay_102 ?_
          refine gi_getF (pc := 103) (q := 61) hv26 fL_X1_21 rfl (Nat.le_of_ble_eq_true rfl) rfl (hv26.rf (by decide)) dX1_tieByWay_103 ?_
          refine go_iload_n (pc := 106) rfl dX1_tieByWay_106 ?_
          refine gi_lald (pc := 107) (len := 5) hv26 (ti_rfl l1) rfl (by omega) (by omega) dX1_tieByWay_107 (fun v27 v27w => ?_)
          refine go_iconst (pc := 108) (v := 0) (by decide) dX1_tieByWay_108 ?_
          refine go_bipush (pc := 109) (v := 40) (by decide) dX1_tieByWay_109 ?_
          refine go_iload_n (pc := 111) rfl dX1_tieByWay_111 ?_
          refine gf_iadd (pc := 112) (ti_c (v := 40) (a := 40) (by decide)) (ti_rfl l1) (by omega) (by omega) dX1_tieByWay_112 (fun v28 e29 => ?_)
          refine go_invV (pc := 113) (sl := 0) (s_X1_tieAll l (d + 1) hv26 v27 0 (by rw [show (0 : Int32).toInt = 0 from (ti_c (v := 0) (a := 0) (by decide))]; omega) (by rw [show (0 : Int32).toInt = 0 from (ti_c (v := 0) (a := 0) (by decide))]; omega) v28) mL_X1_96 iM_X1_tieAll sM_X1_tieAll (hv26.sh rfl) rfl rfl rfl (Nat.le_of_ble_eq_true rfl) (show d + 1 + 2 + 1 ≤ d + 4 by omega) (show 8 + (6 + 11) + 40 * (d + 1 + 2) ≤ 40 * (d + 4) by omega) (g_c0 hv26.ln) (Nat.le_of_ble_eq_true rfl) dX1_tieByWay_113 ?_
          intro r h30 hq _
          obtain ⟨rfl, hv30⟩ := hq
          refine gf_iinc (pc := 116) (Nat.le_of_ble_eq_true rfl) rfl (ti_rfl l1) (ti_c (by decide)) (by omega) (by omega) dX1_tieByWay_116 (fun v31 e32 => ?_)
          refine go_lv (lv2 := [(0, .ref 57), (1, .int v31)]) rfl ?_
          refine go_goto (pc := 119) (tgt := 70) (by decide) dX1_tieByWay_119 ?_
          have z33 : (v31 : Int32).toInt = (l1.toInt + 1) := e32
          exact go_lv rfl (ih.2.2 v31 h30 hv30 (by omega) (by omega) (by omega))
  refine go_aload_n (pc := 0) rfl dX1_tieByWay_0 ?_
  refine go_invV (pc := 1) (sl := 0) (s_X1_findCertain l (d + 0) hv ) mL_X1_83 iM_X1_findCertain sM_X1_findCertain (hv.sh rfl) rfl rfl rfl (Nat.le_of_ble_eq_true rfl) (show d + 0 + 3 + 1 ≤ d + 4 by omega) (show 8 + (6 + 11) + 40 * (d + 0 + 3) ≤ 40 * (d + 4) by omega) (g_c0 hv.ln) (Nat.le_of_ble_eq_true rfl) dX1_tieByWay_1 ?_
  intro r h34 hq _
  obtain ⟨rfl, hv34⟩ := hq
  refine go_iconst (pc := 4) (v := 0) (by decide) dX1_tieByWay_4 ?_
  refine go_istore_n (pc := 5) (Nat.le_of_ble_eq_true rfl) dX1_tieByWay_5 (go_lv (lv2 := [(0, .ref 57), (1, .int 0)]) rfl ?_)
  have z35 : (0 : Int32).toInt = 0 := (ti_c (v := 0) (a := 0) (by decide))
  exact go_lv rfl ((key 202).1 0 h34 hv34 (by omega) (by omega) (by omega))
set_option maxHeartbeats 4000000 in
set_option maxRecDepth 100000 in
theorem s_X1_addTellers (l : Launch) (d : Nat) {P : PP} {h : HP} (hv : Iv P h) (a2 : Int32) (a2l : 0 ≤ a2.toInt) (a2u : a2.toInt ≤ 44) (a3 : Int64) : Mt l yX1_addTellers cX1_addTellers 6 (some .boolean) (d + 1) [.ref 57, .int a2, .long a3] h 0 0 (fun r h' => ∃ v : Int32, r = some (.int v) ∧ 0 ≤ v.toInt ∧ v.toInt ≤ 1 ∧ Iv P h') := by
  refine Mt_iv hv (by decide) (Nat.le_of_ble_eq_true rfl) ?_
  show Go l RX1 cX1_addTellers 6 (g_rm (d + 1) 0 0) "addTellers" (some .boolean) 117 0 0 (fun _ _ => True) (fun r h' => ∃ v : Int32, r = some (.int v) ∧ 0 ≤ v.toInt ∧ v.toInt ≤ 1 ∧ Iv P h') 0 0 [(0, .ref 57), (1, .int a2), (2, .long a3)] [] h
  have key : ∀ n : Nat, (∀ (s0 : Int32) (hx : HP), Iv P hx → 0 ≤ s0.toInt → s0.toInt ≤ 1 → (1 : Int) < n → Go l RX1 cX1_addTellers 6 (g_rm (d + 1) 0 0) "addTellers" (some .boolean) 117 0 0 (fun _ _ => True) (fun r h' => ∃ v : Int32, r = some (.int v) ∧ 0 ≤ v.toInt ∧ v.toInt ≤ 1 ∧ Iv P h') 0 35 [] [.int s0] hx) := by
    intro n
    induction n with
    | zero => exact (by intros; omega)
    | succ n ih =>
      refine ?_
      ·
        intro s0 hx hvx s0l s0u hm
        exact gi_zret (pc := 35) (ti_rfl s0) (by omega) (by omega) ⟨_, rfl, (by rw [show (s0 : Int32).toInt = s0.toInt from (ti_rfl s0)]; omega), (by rw [show (s0 : Int32).toInt = s0.toInt from (ti_rfl s0)]; omega), hvx⟩ hvx dX1_addTellers_35
  refine go_aload_n (pc := 0) rfl dX1_addTellers_0 ?_
  refine gi_getF (pc := 1) (q := 62) hv fL_X1_24 rfl (Nat.le_of_ble_eq_true rfl) rfl (hv.rf (by decide)) dX1_addTellers_1 ?_
  refine go_iload_n (pc := 4) rfl dX1_addTellers_4 ?_
  refine gi_lald (pc := 5) (len := 45) hv (ti_rfl a2) rfl (by omega) (by omega) dX1_addTellers_5 (fun v1 v1w => ?_)
  refine go_lstore (pc := 6) (Nat.le_of_ble_eq_true rfl) dX1_addTellers_6 (go_lv (lv2 := [(0, .ref 57), (1, .int a2), (2, .long a3), (4, .long v1)]) rfl ?_)
  refine go_aload_n (pc := 8) rfl dX1_addTellers_8 ?_
  refine gi_getF (pc := 9) (q := 62) hv fL_X1_24 rfl (Nat.le_of_ble_eq_true rfl) rfl (hv.rf (by decide)) dX1_addTellers_9 ?_
  refine go_iload_n (pc := 12) rfl dX1_addTellers_12 ?_
  refine go_lload (pc := 13) rfl dX1_addTellers_13 ?_
  refine go_lload_n (pc := 15) rfl dX1_addTellers_15 ?_
  refine gu_lor (pc := 16) dX1_addTellers_16 (fun v2 => ?_)
  refine gi_last (pc := 17) (len := 45) hv (ti_rfl a2) rfl (by omega) (by omega) dX1_addTellers_17 (fun h3 hv3 hv3e => ?_)
  refine go_aload_n (pc := 18) rfl dX1_addTellers_18 ?_
  refine gi_getF (pc := 19) (q := 62) hv3 fL_X1_24 rfl (Nat.le_of_ble_eq_true rfl) rfl (hv3.rf (by decide)) dX1_addTellers_19 ?_
  refine go_iload_n (pc := 22) rfl dX1_addTellers_22 ?_
  refine gi_lald (pc := 23) (len := 45) hv3 (ti_rfl a2) rfl (by omega) (by omega) dX1_addTellers_23 (fun v4 v4w => ?_)
  refine go_lload (pc := 24) rfl dX1_addTellers_24 ?_
  refine gu_lcmp (pc := 26) dX1_addTellers_26 (fun v5 => ?_)
  refine gf_if_eq (pc := 27) (tgt := 34) (ti_rfl v5) (by decide) dX1_addTellers_27 (fun q6 => ?_) (fun q6 => ?_)
  ·
    refine go_iconst (pc := 34) (v := 0) (by decide) dX1_addTellers_34 ?_
    have z7 : (0 : Int32).toInt = 0 := (ti_c (v := 0) (a := 0) (by decide))
    exact go_lv rfl ((key 14) 0 h3 hv3 (by omega) (by omega) (by omega))
  ·
    refine go_iconst (pc := 30) (v := 1) (by decide) dX1_addTellers_30 ?_
    refine go_goto (pc := 31) (tgt := 35) (by decide) dX1_addTellers_31 ?_
    have z8 : (1 : Int32).toInt = 1 := (ti_c (v := 1) (a := 1) (by decide))
    exact go_lv rfl ((key 14) 1 h3 hv3 (by omega) (by omega) (by omega))
set_option maxHeartbeats 4000000 in
set_option maxRecDepth 100000 in
theorem s_X1_passOn (l : Launch) (d : Nat) {P : PP} {h : HP} (hv : Iv P h) (a2 : Int32) (a2l : 0 ≤ a2.toInt) (a2u : a2.toInt ≤ 39) (a3 : Int32) : Mt l yX1_passOn cX1_passOn 5 (some .boolean) (d + 3) [.ref 57, .int a2, .int a3] h 0 0 (fun r h' => ∃ v : Int32, r = some (.int v) ∧ 0 ≤ v.toInt ∧ v.toInt ≤ 1 ∧ Iv P h') := by
  refine Mt_iv hv (by decide) (Nat.le_of_ble_eq_true rfl) ?_
  show Go l RX1 cX1_passOn 5 (g_rm (d + 3) 0 0) "passOn" (some .boolean) 117 0 0 (fun _ _ => True) (fun r h' => ∃ v : Int32, r = some (.int v) ∧ 0 ≤ v.toInt ∧ v.toInt ≤ 1 ∧ Iv P h') 0 0 [(0, .ref 57), (1, .int a2), (2, .int a3)] [] h
  have key : ∀ n : Nat, (∀ (l1 : Int32) (l2 : Int32) (s0 : Int64) (s1 : Int32) (hx : HP), Iv P hx → 0 ≤ l1.toInt → l1.toInt ≤ 39 → 0 ≤ s1.toInt → s1.toInt ≤ 44 → (4 : Int) < n → Go l RX1 cX1_passOn 5 (g_rm (d + 3) 0 0) "passOn" (some .boolean) 117 0 0 (fun _ _ => True) (fun r h' => ∃ v : Int32, r = some (.int v) ∧ 0 ≤ v.toInt ∧ v.toInt ≤ 1 ∧ Iv P h') 0 52 [(0, .ref 57), (1, .int l1), (2, .int l2)] [.long s0, .int s1, .ref 57] hx) ∧ (∀ (l1 : Int32) (l2 : Int32) (l3 : Int32) (hx : HP), Iv P hx → 0 ≤ l1.toInt → l1.toInt ≤ 39 → 0 ≤ l3.toInt → l3.toInt ≤ 1 → (3 : Int) < n → Go l RX1 cX1_passOn 5 (g_rm (d + 3) 0 0) "passOn" (some .boolean) 117 0 0 (fun _ _ => True) (fun r h' => ∃ v : Int32, r = some (.int v) ∧ 0 ≤ v.toInt ∧ v.toInt ≤ 1 ∧ Iv P h') 0 56 [(0, .ref 57), (1, .int l1), (2, .int l2), (3, .int l3)] [] hx) ∧ (∀ (s0 : Int64) (s1 : Int32) (s3 : Int32) (hx : HP), Iv P hx → 0 ≤ s1.toInt → s1.toInt ≤ 44 → 0 ≤ s3.toInt → s3.toInt ≤ 1 → (2 : Int) < n → Go l RX1 cX1_passOn 5 (g_rm (d + 3) 0 0) "passOn" (some .boolean) 117 0 0 (fun _ _ => True) (fun r h' => ∃ v : Int32, r = some (.int v) ∧ 0 ≤ v.toInt ∧ v.toInt ≤ 1 ∧ Iv P h') 0 107 [] [.long s0, .int s1, .ref 57, .int s3] hx) ∧ (∀ (l3 : Int32) (hx : HP), Iv P hx → 0 ≤ l3.toInt → l3.toInt ≤ 1 → (1 : Int) < n → Go l RX1 cX1_passOn 5 (g_rm (d + 3) 0 0) "passOn" (some .boolean) 117 0 0 (fun _ _ => True) (fun r h' => ∃ v : Int32, r = some (.int v) ∧ 0 ≤ v.toInt ∧ v.toInt ≤ 1 ∧ Iv P h') 0 112 [(3, .int l3)] [] hx) := by
    intro n
    induction n with
    | zero => exact ⟨(by intros; omega), (by intros; omega), (by intros; omega), (by intros; omega)⟩
    | succ n ih =>
      refine ⟨?_, ?_, ?_, ?_⟩
      ·
        intro l1 l2 s0 s1 hx hvx l1l l1u s1l s1u hm
        refine go_invV (pc := 52) (sl := 0) (s_X1_addTellers l (d + 1) hvx s1 (by rw [show (s1 : Int32).toInt = s1.toInt from (ti_rfl s1)]; omega) (by rw [show (s1 : Int32).toInt = s1.toInt from (ti_rfl s1)]; omega) s0) mL_X1_120 iM_X1_addTellers sM_X1_addTellers (hvx.sh rfl) rfl rfl rfl (Nat.le_of_ble_eq_true rfl) (show d + 1 + 1 + 1 ≤ d + 3 by omega) (show 8 + (6 + 11) + 40 * (d + 1 + 1) ≤ 40 * (d + 3) by omega) (g_c0 hvx.ln) (Nat.le_of_ble_eq_true rfl) dX1_passOn_52 ?_
        intro r h1 hq _
        obtain ⟨v2, rfl, v2l, v2u, hv1⟩ := hq
        refine go_istore_n (pc := 55) (Nat.le_of_ble_eq_true rfl) dX1_passOn_55 (go_lv (lv2 := [(0, .ref 57), (1, .int l1), (2, .int l2), (3, .int v2)]) rfl ?_)
        exact go_lv rfl (ih.2.1 l1 l2 v2 h1 hv1 (by omega) (by omega) (by omega) (by omega) (by omega))
      ·
        intro l1 l2 l3 hx hvx l1l l1u l3l l3u hm
        refine go_aload_n (pc := 56) rfl dX1_passOn_56 ?_
        refine gi_getC (pc := 57) hvx fL_X1_30 rfl (Nat.le_of_ble_eq_true rfl) rfl (by decide) dX1_passOn_57 (fun c3 hc3 fc3 => ?_)
        refine go_iload_n (pc := 60) rfl dX1_passOn_60 ?_
        refine go_invV (pc := 61) (sl := 0) (s_X0_decides l (d + 0) hvx c3 hc3 l1 (by rw [show (l1 : Int32).toInt = l1.toInt from (ti_rfl l1)]; omega) (by rw [show (l1 : Int32).toInt = l1.toInt from (ti_rfl l1)]; omega)) mL_X1_72 iM_X0_decides sM_X0_decides (hvx.sh (by rcases hc3 with rfl | rfl <;> rfl)) rfl rfl rfl (Nat.le_of_ble_eq_true rfl) (show d + 0 + 2 + 1 ≤ d + 3 by omega) (show 8 + (2 + 11) + 40 * (d + 0 + 2) ≤ 40 * (d + 3) by omega) (g_c0 hvx.ln) (Nat.le_of_ble_eq_true rfl) dX1_passOn_61 ?_
        intro r h4 hq _
        obtain ⟨v5, rfl, v5l, v5u, rfl⟩ := hq
        refine gf_if_eq (pc := 64) (tgt := 112) (ti_rfl v5) (by decide) dX1_passOn_64 (fun q6 => ?_) (fun q6 => ?_)
        ·
          exact go_lv rfl (ih.2.2.2 l3 hx hvx (by omega) (by omega) (by omega))
        ·
          refine go_aload_n (pc := 67) rfl dX1_passOn_67 ?_
          refine gi_getC (pc := 68) hvx fL_X1_30 rfl (Nat.le_of_ble_eq_true rfl) rfl (by decide) dX1_passOn_68 (fun c7 hc7 fc7 => ?_)
          refine go_iload_n (pc := 71) rfl dX1_passOn_71 ?_
          refine go_iload_n (pc := 72) rfl dX1_passOn_72 ?_
          refine go_invV (pc := 73) (sl := 0) (s_X0_tellsAside l (d + 0) hvx c7 hc7 l1 (by rw [show (l1 : Int32).toInt = l1.toInt from (ti_rfl l1)]; omega) (by rw [show (l1 : Int32).toInt = l1.toInt from (ti_rfl l1)]; omega) l2) mL_X1_124 iM_X0_tellsAside sM_X0_tellsAside (hvx.sh (by rcases hc7 with rfl | rfl <;> rfl)) rfl rfl rfl (Nat.le_of_ble_eq_true rfl) (show d + 0 + 2 + 1 ≤ d + 3 by omega) (show 8 + (3 + 11) + 40 * (d + 0 + 2) ≤ 40 * (d + 3) by omega) (g_c0 hvx.ln) (Nat.le_of_ble_eq_true rfl) dX1_passOn_73 ?_
          intro r h8 hq _
          obtain ⟨v9, rfl, v9l, v9u, rfl⟩ := hq
          refine go_istore (pc := 76) (Nat.le_of_ble_eq_true rfl) dX1_passOn_76 (go_lv (lv2 := [(0, .ref 57), (1, .int l1), (2, .int l2), (3, .int l3), (4, .int v9)]) rfl ?_)
          refine go_iload_n (pc := 78) rfl dX1_passOn_78 ?_
          refine go_aload_n (pc := 79) rfl dX1_passOn_79 ?_
          refine go_aload_n (pc := 80) rfl dX1_passOn_80 ?_
          refine gi_getC (pc := 81) hvx fL_X1_30 rfl (Nat.le_of_ble_eq_true rfl) rfl (by decide) dX1_passOn_81 (fun c10 hc10 fc10 => ?_)
          refine gi_getF (pc := 84) (q := c10 + 13) hvx fL_X1_76 (by rcases hc10 with rfl | rfl <;> rfl) (Nat.le_of_ble_eq_true rfl) rfl (by rcases hc10 with rfl | rfl <;> exact hvx.rf (by decide)) dX1_passOn_84 ?_
          refine go_iload_n (pc := 87) rfl dX1_passOn_87 ?_
          refine gi_iald (pc := 88) (lo := 0) (hi := 44) (len := 40) hvx (ti_rfl l1) (by rcases hc10 with rfl | rfl <;> rfl) (by omega) (by omega) (fun _ => by rcases hc10 with rfl | rfl <;> rfl) dX1_passOn_88 (fun v11 v11l v11u v11w => ?_)
          refine go_iload (pc := 89) rfl dX1_passOn_89 ?_
          refine gf_if_eq (pc := 91) (tgt := 101) (ti_rfl v9) (by decide) dX1_passOn_91 (fun q12 => ?_) (fun q12 => ?_)
          ·
            refine go_aload_n (pc := 101) rfl dX1_passOn_101 ?_
            refine gi_getF (pc := 102) (q := 62) hvx fL_X1_24 rfl (Nat.le_of_ble_eq_true rfl) rfl (hvx.rf (by decide)) dX1_passOn_102 ?_
            refine go_iload_n (pc := 105) rfl dX1_passOn_105 ?_
            refine gi_lald (pc := 106) (len := 45) hvx (ti_rfl l1) rfl (by omega) (by omega) dX1_passOn_106 (fun v13 v13w => ?_)
            exact go_lv rfl (ih.2.2.1 v13 v11 l3 hx hvx (by omega) (by omega) (by omega) (by omega) (by omega))
          ·
            refine go_iload_n (pc := 94) rfl dX1_passOn_94 ?_
            refine go_invS (pc := 95) (sl := 0) (s_X7_bit l (d + 1) hvx l1) mL_X1_79 iM_X7_bit rfl rfl (Nat.le_of_ble_eq_true rfl) (show d + 1 + 1 + 1 ≤ d + 3 by omega) (show 8 + (1 + 11) + 40 * (d + 1 + 1) ≤ 40 * (d + 3) by omega) (g_c0 hvx.ln) (Nat.le_of_ble_eq_true rfl) dX1_passOn_95 ?_
            intro r h14 hq _
            obtain ⟨v15, rfl, rfl⟩ := hq
            refine go_goto (pc := 98) (tgt := 107) (by decide) dX1_passOn_98 ?_
            exact go_lv rfl (ih.2.2.1 v15 v11 l3 hx hvx (by omega) (by omega) (by omega) (by omega) (by omega))
      ·
        intro s0 s1 s3 hx hvx s1l s1u s3l s3u hm
        refine go_invV (pc := 107) (sl := 0) (s_X1_addTellers l (d + 1) hvx s1 (by rw [show (s1 : Int32).toInt = s1.toInt from (ti_rfl s1)]; omega) (by rw [show (s1 : Int32).toInt = s1.toInt from (ti_rfl s1)]; omega) s0) mL_X1_120 iM_X1_addTellers sM_X1_addTellers (hvx.sh rfl) rfl rfl rfl (Nat.le_of_ble_eq_true rfl) (show d + 1 + 1 + 1 ≤ d + 3 by omega) (show 8 + (6 + 11) + 40 * (d + 1 + 1) ≤ 40 * (d + 3) by omega) (g_c0 hvx.ln) (Nat.le_of_ble_eq_true rfl) dX1_passOn_107 ?_
        intro r h16 hq _
        obtain ⟨v17, rfl, v17l, v17u, hv16⟩ := hq
        refine gf_ior (pc := 110) (ti_rfl s3) (ti_rfl v17) (by omega) (by omega) (by omega) (by omega) dX1_passOn_110 (fun v18 v18l v18u => ?_)
        refine go_istore_n (pc := 111) (Nat.le_of_ble_eq_true rfl) dX1_passOn_111 (go_lv (lv2 := [(3, .int v18)]) rfl ?_)
        exact go_lv rfl (ih.2.2.2 v18 h16 hv16 (by omega) (by omega) (by omega))
      ·
        intro l3 hx hvx l3l l3u hm
        refine go_iload_n (pc := 112) rfl dX1_passOn_112 ?_
        exact gi_zret (pc := 113) (ti_rfl l3) (by omega) (by omega) ⟨_, rfl, (by rw [show (l3 : Int32).toInt = l3.toInt from (ti_rfl l3)]; omega), (by rw [show (l3 : Int32).toInt = l3.toInt from (ti_rfl l3)]; omega), hvx⟩ hvx dX1_passOn_113
  refine go_iconst (pc := 0) (v := 0) (by decide) dX1_passOn_0 ?_
  refine go_istore_n (pc := 1) (Nat.le_of_ble_eq_true rfl) dX1_passOn_1 (go_lv (lv2 := [(0, .ref 57), (1, .int a2), (2, .int a3), (3, .int 0)]) rfl ?_)
  refine go_aload_n (pc := 2) rfl dX1_passOn_2 ?_
  refine gi_getC (pc := 3) hv fL_X1_30 rfl (Nat.le_of_ble_eq_true rfl) rfl (by decide) dX1_passOn_3 (fun c19 hc19 fc19 => ?_)
  refine go_iload_n (pc := 6) rfl dX1_passOn_6 ?_
  refine go_invV (pc := 7) (sl := 0) (s_X0_goesStraight l (d + 0) hv c19 hc19 a2 (by rw [show (a2 : Int32).toInt = a2.toInt from (ti_rfl a2)]; omega) (by rw [show (a2 : Int32).toInt = a2.toInt from (ti_rfl a2)]; omega)) mL_X1_114 iM_X0_goesStraight sM_X0_goesStraight (hv.sh (by rcases hc19 with rfl | rfl <;> rfl)) rfl rfl rfl (Nat.le_of_ble_eq_true rfl) (show d + 0 + 2 + 1 ≤ d + 3 by omega) (show 8 + (2 + 11) + 40 * (d + 0 + 2) ≤ 40 * (d + 3) by omega) (g_c0 hv.ln) (Nat.le_of_ble_eq_true rfl) dX1_passOn_7 ?_
  intro r h20 hq _
  obtain ⟨v21, rfl, v21l, v21u, rfl⟩ := hq
  refine gf_if_eq (pc := 10) (tgt := 56) (ti_rfl v21) (by decide) dX1_passOn_10 (fun q22 => ?_) (fun q22 => ?_)
  ·
    have z23 : (0 : Int32).toInt = 0 := (ti_c (v := 0) (a := 0) (by decide))
    exact go_lv rfl ((key 17).2.1 a2 a3 0 h hv (by omega) (by omega) (by omega) (by omega) (by omega))
  ·
    refine go_aload_n (pc := 13) rfl dX1_passOn_13 ?_
    refine gi_getC (pc := 14) hv fL_X1_30 rfl (Nat.le_of_ble_eq_true rfl) rfl (by decide) dX1_passOn_14 (fun c24 hc24 fc24 => ?_)
    refine go_iload_n (pc := 17) rfl dX1_passOn_17 ?_
    refine go_iload_n (pc := 18) rfl dX1_passOn_18 ?_
    refine go_invV (pc := 19) (sl := 0) (s_X0_tellsStraight l (d + 0) hv c24 hc24 a2 (by rw [show (a2 : Int32).toInt = a2.toInt from (ti_rfl a2)]; omega) (by rw [show (a2 : Int32).toInt = a2.toInt from (ti_rfl a2)]; omega) a3) mL_X1_117 iM_X0_tellsStraight sM_X0_tellsStraight (hv.sh (by rcases hc24 with rfl | rfl <;> rfl)) rfl rfl rfl (Nat.le_of_ble_eq_true rfl) (show d + 0 + 2 + 1 ≤ d + 3 by omega) (show 8 + (3 + 11) + 40 * (d + 0 + 2) ≤ 40 * (d + 3) by omega) (g_c0 hv.ln) (Nat.le_of_ble_eq_true rfl) dX1_passOn_19 ?_
    intro r h25 hq _
    obtain ⟨v26, rfl, v26l, v26u, rfl⟩ := hq
    refine go_istore (pc := 22) (Nat.le_of_ble_eq_true rfl) dX1_passOn_22 (go_lv (lv2 := [(0, .ref 57), (1, .int a2), (2, .int a3), (3, .int 0), (4, .int v26)]) rfl ?_)
    refine go_aload_n (pc := 24) rfl dX1_passOn_24 ?_
    refine go_aload_n (pc := 25) rfl dX1_passOn_25 ?_
    refine gi_getC (pc := 26) hv fL_X1_30 rfl (Nat.le_of_ble_eq_true rfl) rfl (by decide) dX1_passOn_26 (fun c27 hc27 fc27 => ?_)
    refine gi_getF (pc := 29) (q := c27 + 12) hv fL_X1_68 (by rcases hc27 with rfl | rfl <;> rfl) (Nat.le_of_ble_eq_true rfl) rfl (by rcases hc27 with rfl | rfl <;> exact hv.rf (by decide)) dX1_passOn_29 ?_
    refine go_iload_n (pc := 32) rfl dX1_passOn_32 ?_
    refine gi_iald (pc := 33) (lo := 0) (hi := 44) (len := 40) hv (ti_rfl a2) (by rcases hc27 with rfl | rfl <;> rfl) (by omega) (by omega) (fun _ => by rcases hc27 with rfl | rfl <;> rfl) dX1_passOn_33 (fun v28 v28l v28u v28w => ?_)
    refine go_iload (pc := 34) rfl dX1_passOn_34 ?_
    refine gf_if_eq (pc := 36) (tgt := 46) (ti_rfl v26) (by decide) dX1_passOn_36 (fun q29 => ?_) (fun q29 => ?_)
    ·
      refine go_aload_n (pc := 46) rfl dX1_passOn_46 ?_
      refine gi_getF (pc := 47) (q := 62) hv fL_X1_24 rfl (Nat.le_of_ble_eq_true rfl) rfl (hv.rf (by decide)) dX1_passOn_47 ?_
      refine go_iload_n (pc := 50) rfl dX1_passOn_50 ?_
      refine gi_lald (pc := 51) (len := 45) hv (ti_rfl a2) rfl (by omega) (by omega) dX1_passOn_51 (fun v30 v30w => ?_)
      exact go_lv rfl ((key 17).1 a2 a3 v30 v28 h hv (by omega) (by omega) (by omega) (by omega) (by omega))
    ·
      refine go_iload_n (pc := 39) rfl dX1_passOn_39 ?_
      refine go_invS (pc := 40) (sl := 0) (s_X7_bit l (d + 1) hv a2) mL_X1_79 iM_X7_bit rfl rfl (Nat.le_of_ble_eq_true rfl) (show d + 1 + 1 + 1 ≤ d + 3 by omega) (show 8 + (1 + 11) + 40 * (d + 1 + 1) ≤ 40 * (d + 3) by omega) (g_c0 hv.ln) (Nat.le_of_ble_eq_true rfl) dX1_passOn_40 ?_
      intro r h31 hq _
      obtain ⟨v32, rfl, rfl⟩ := hq
      refine go_goto (pc := 43) (tgt := 52) (by decide) dX1_passOn_43 ?_
      exact go_lv rfl ((key 17).1 a2 a3 v32 v28 h hv (by omega) (by omega) (by omega) (by omega) (by omega))
set_option maxHeartbeats 4000000 in
set_option maxRecDepth 100000 in
theorem s_X1_findTellers (l : Launch) (d : Nat) {P : PP} {h : HP} (hv : Iv P h) (a2 : Int32) (a2l : 0 ≤ a2.toInt) (a2u : a2.toInt ≤ 9) : Mt l yX1_findTellers cX1_findTellers 5 none (d + 4) [.ref 57, .int a2] h 0 0 (fun r h' => r = none ∧ Iv P h') := by
  refine Mt_iv hv (by decide) (Nat.le_of_ble_eq_true rfl) ?_
  show Go l RX1 cX1_findTellers 5 (g_rm (d + 4) 0 0) "findTellers" none 117 0 0 (fun _ _ => True) (fun r h' => r = none ∧ Iv P h') 0 0 [(0, .ref 57), (1, .int a2)] [] h
  have key : ∀ n : Nat, (∀ (l1 : Int32) (hx : HP), Iv P hx → 0 ≤ l1.toInt → l1.toInt ≤ 9 → (387282 : Int) < n → Go l RX1 cX1_findTellers 5 (g_rm (d + 4) 0 0) "findTellers" none 117 0 0 (fun _ _ => True) (fun r h' => r = none ∧ Iv P h') 0 20 [(0, .ref 57), (1, .int l1)] [] hx) ∧ (∀ (l1 : Int32) (l2 : Int32) (hx : HP), Iv P hx → 0 ≤ l1.toInt → l1.toInt ≤ 9 → 0 ≤ l2.toInt → l2.toInt ≤ 5 → (3 * (5 - l2.toInt) + 387262 : Int) < n → Go l RX1 cX1_findTellers 5 (g_rm (d + 4) 0 0) "findTellers" none 117 0 0 (fun _ _ => True) (fun r h' => r = none ∧ Iv P h') 0 22 [(0, .ref 57), (1, .int l1), (2, .int l2)] [] hx) ∧ (∀ (l1 : Int32) (hx : HP), Iv P hx → 0 ≤ l1.toInt → l1.toInt ≤ 9 → (387260 : Int) < n → Go l RX1 cX1_findTellers 5 (g_rm (d + 4) 0 0) "findTellers" none 117 0 0 (fun _ _ => True) (fun r h' => r = none ∧ Iv P h') 0 60 [(0, .ref 57), (1, .int l1)] [] hx) ∧ (∀ (l1 : Int32) (l2 : Int32) (l3 : Int32) (hx : HP), Iv P hx → 0 ≤ l1.toInt → l1.toInt ≤ 9 → 0 ≤ l2.toInt → l2.toInt ≤ 1 → 0 ≤ l3.toInt → l3.toInt ≤ 3000 → (129 * (3000 - l3.toInt) + 129 : Int) < n → Go l RX1 cX1_findTellers 5 (g_rm (d + 4) 0 0) "findTellers" none 117 0 0 (fun _ _ => True) (fun r h' => r = none ∧ Iv P h') 0 64 [(0, .ref 57), (1, .int l1), (2, .int l2), (3, .int l3)] [] hx) ∧ (∀ (l1 : Int32) (l2 : Int32) (l3 : Int32) (l4 : Int32) (hx : HP), Iv P hx → 0 ≤ l1.toInt → l1.toInt ≤ 9 → 0 ≤ l2.toInt → l2.toInt ≤ 1 → 0 ≤ l3.toInt → l3.toInt ≤ 2025 → 0 ≤ l4.toInt → l4.toInt ≤ 40 → (3 * (40 - l4.toInt) + 129 * (3000 - l3.toInt) + 4 : Int) < n → Go l RX1 cX1_findTellers 5 (g_rm (d + 4) 0 0) "findTellers" none 117 0 0 (fun _ _ => True) (fun r h' => r = none ∧ Iv P h') 0 80 [(0, .ref 57), (1, .int l1), (2, .int l2), (3, .int l3), (4, .int l4)] [] hx) ∧ (∀  (hx : HP), Iv P hx → (1 : Int) < n → Go l RX1 cX1_findTellers 5 (g_rm (d + 4) 0 0) "findTellers" none 117 0 0 (fun _ _ => True) (fun r h' => r = none ∧ Iv P h') 0 114 [] [] hx) := by
    intro n
    induction n with
    | zero => exact ⟨(by intros; omega), (by intros; omega), (by intros; omega), (by intros; omega), (by intros; omega), (by intros; omega)⟩
    | succ n ih =>
      refine ⟨?_, ?_, ?_, ?_, ?_, ?_⟩
      ·
        intro l1 hx hvx l1l l1u hm
        refine go_iconst (pc := 20) (v := 0) (by decide) dX1_findTellers_20 ?_
        refine go_istore_n (pc := 21) (Nat.le_of_ble_eq_true rfl) dX1_findTellers_21 (go_lv (lv2 := [(0, .ref 57), (1, .int l1), (2, .int 0)]) rfl ?_)
        have z1 : (0 : Int32).toInt = 0 := (ti_c (v := 0) (a := 0) (by decide))
        exact go_lv rfl (ih.2.1 l1 0 hx hvx (by omega) (by omega) (by omega) (by omega) (by omega))
      ·
        intro l1 l2 hx hvx l1l l1u l2l l2u hm
        refine go_iload_n (pc := 22) rfl dX1_findTellers_22 ?_
        refine go_aload_n (pc := 23) rfl dX1_findTellers_23 ?_
        refine gi_getC (pc := 24) hvx fL_X1_30 rfl (Nat.le_of_ble_eq_true rfl) rfl (by decide) dX1_findTellers_24 (fun c2 hc2 fc2 => ?_)
        refine gi_get (pc := 27) (lo := 0) (hi := 5) hvx fL_X1_90 (by rcases hc2 with rfl | rfl <;> rfl) (Nat.le_of_ble_eq_true rfl) rfl (by rcases hc2 with rfl | rfl <;> rfl) dX1_findTellers_27 (fun v3 v3l v3u v3w => ?_)
        refine gf_icmp_ge (pc := 30) (tgt := 60) (ti_rfl l2) (ti_rfl v3) (by decide) dX1_findTellers_30 (fun q4 => ?_) (fun q4 => ?_)
        ·
          exact go_lv rfl (ih.2.2.1 l1 hx hvx (by omega) (by omega) (by omega))
        ·
          refine go_aload_n (pc := 33) rfl dX1_findTellers_33 ?_
          refine gi_getF (pc := 34) (q := 62) hvx fL_X1_24 rfl (Nat.le_of_ble_eq_true rfl) rfl (hvx.rf (by decide)) dX1_findTellers_34 ?_
          refine go_aload_n (pc := 37) rfl dX1_findTellers_37 ?_
          refine gi_getC (pc := 38) hvx fL_X1_30 rfl (Nat.le_of_ble_eq_true rfl) rfl (by decide) dX1_findTellers_38 (fun c5 hc5 fc5 => ?_)
          refine gi_getF (pc := 41) (q := c5 + 1) hvx fL_X1_93 (by rcases hc5 with rfl | rfl <;> rfl) (Nat.le_of_ble_eq_true rfl) rfl (by rcases hc5 with rfl | rfl <;> exact hvx.rf (by decide)) dX1_findTellers_41 ?_
          refine go_iload_n (pc := 44) rfl dX1_findTellers_44 ?_
          refine gi_iald (pc := 45) (lo := 0) (hi := 44) (len := 5) hvx (ti_rfl l2) (by rcases hc5 with rfl | rfl <;> rfl) (by omega) (by omega) (fun _ => by rcases hc5 with rfl | rfl <;> rfl) dX1_findTellers_45 (fun v6 v6l v6u v6w => ?_)
          refine go_bipush (pc := 46) (v := 40) (by decide) dX1_findTellers_46 ?_
          refine go_iload_n (pc := 48) rfl dX1_findTellers_48 ?_
          refine gf_iadd (pc := 49) (ti_c (v := 40) (a := 40) (by decide)) (ti_rfl l2) (by omega) (by omega) dX1_findTellers_49 (fun v7 e8 => ?_)
          refine go_invS (pc := 50) (sl := 0) (s_X7_bit l (d + 2) hvx v7) mL_X1_79 iM_X7_bit rfl rfl (Nat.le_of_ble_eq_true rfl) (show d + 2 + 1 + 1 ≤ d + 4 by omega) (show 8 + (1 + 11) + 40 * (d + 2 + 1) ≤ 40 * (d + 4) by omega) (g_c0 hvx.ln) (Nat.le_of_ble_eq_true rfl) dX1_findTellers_50 ?_
          intro r h9 hq _
          obtain ⟨v10, rfl, rfl⟩ := hq
          refine gi_last (pc := 53) (len := 45) hvx (ti_rfl v6) rfl (by omega) (by omega) dX1_findTellers_53 (fun h11 hv11 hv11e => ?_)
          refine gf_iinc (pc := 54) (Nat.le_of_ble_eq_true rfl) rfl (ti_rfl l2) (ti_c (by decide)) (by omega) (by omega) dX1_findTellers_54 (fun v12 e13 => ?_)
          refine go_lv (lv2 := [(0, .ref 57), (1, .int l1), (2, .int v12)]) rfl ?_
          refine go_goto (pc := 57) (tgt := 22) (by decide) dX1_findTellers_57 ?_
          have z14 : (v12 : Int32).toInt = (l2.toInt + 1) := e13
          exact go_lv rfl (ih.2.1 l1 v12 h11 hv11 (by omega) (by omega) (by omega) (by omega) (by omega))
      ·
        intro l1 hx hvx l1l l1u hm
        refine go_iconst (pc := 60) (v := 1) (by decide) dX1_findTellers_60 ?_
        refine go_istore_n (pc := 61) (Nat.le_of_ble_eq_true rfl) dX1_findTellers_61 (go_lv (lv2 := [(0, .ref 57), (1, .int l1), (2, .int 1)]) rfl ?_)
        refine go_iconst (pc := 62) (v := 0) (by decide) dX1_findTellers_62 ?_
        refine go_istore_n (pc := 63) (Nat.le_of_ble_eq_true rfl) dX1_findTellers_63 (go_lv (lv2 := [(0, .ref 57), (1, .int l1), (2, .int 1), (3, .int 0)]) rfl ?_)
        have z15 : (1 : Int32).toInt = 1 := (ti_c (v := 1) (a := 1) (by decide))
        have z16 : (0 : Int32).toInt = 0 := (ti_c (v := 0) (a := 0) (by decide))
        exact go_lv rfl (ih.2.2.2.1 l1 1 0 hx hvx (by omega) (by omega) (by omega) (by omega) (by omega) (by omega) (by omega))
      ·
        intro l1 l2 l3 hx hvx l1l l1u l2l l2u l3l l3u hm
        refine go_iload_n (pc := 64) rfl dX1_findTellers_64 ?_
        refine go_sipush (pc := 65) (v := 2025) (by decide) dX1_findTellers_65 ?_
        refine gf_icmp_ge (pc := 68) (tgt := 114) (ti_rfl l3) (ti_c (v := 2025) (a := 2025) (by decide)) (by decide) dX1_findTellers_68 (fun q17 => ?_) (fun q17 => ?_)
        ·
          exact go_lv rfl (ih.2.2.2.2.2  hx hvx  (by omega))
        ·
          refine go_iload_n (pc := 71) rfl dX1_findTellers_71 ?_
          refine gf_if_eq (pc := 72) (tgt := 114) (ti_rfl l2) (by decide) dX1_findTellers_72 (fun q18 => ?_) (fun q18 => ?_)
          ·
            exact go_lv rfl (ih.2.2.2.2.2  hx hvx  (by omega))
          ·
            refine go_iconst (pc := 75) (v := 0) (by decide) dX1_findTellers_75 ?_
            refine go_istore_n (pc := 76) (Nat.le_of_ble_eq_true rfl) dX1_findTellers_76 (go_lv (lv2 := [(0, .ref 57), (1, .int l1), (2, .int 0), (3, .int l3)]) rfl ?_)
            refine go_iconst (pc := 77) (v := 0) (by decide) dX1_findTellers_77 ?_
            refine go_istore (pc := 78) (Nat.le_of_ble_eq_true rfl) dX1_findTellers_78 (go_lv (lv2 := [(0, .ref 57), (1, .int l1), (2, .int 0), (3, .int l3), (4, .int 0)]) rfl ?_)
            have z19 : (0 : Int32).toInt = 0 := (ti_c (v := 0) (a := 0) (by decide))
            have z20 : (0 : Int32).toInt = 0 := (ti_c (v := 0) (a := 0) (by decide))
            exact go_lv rfl (ih.2.2.2.2.1 l1 0 l3 0 hx hvx (by omega) (by omega) (by omega) (by omega) (by omega) (by omega) (by omega) (by omega) (by omega))
      ·
        intro l1 l2 l3 l4 hx hvx l1l l1u l2l l2u l3l l3u l4l l4u hm
        refine go_iload (pc := 80) rfl dX1_findTellers_80 ?_
        refine go_aload_n (pc := 82) rfl dX1_findTellers_82 ?_
        refine gi_getC (pc := 83) hvx fL_X1_30 rfl (Nat.le_of_ble_eq_true rfl) rfl (by decide) dX1_findTellers_83 (fun c21 hc21 fc21 => ?_)
        refine gi_get (pc := 86) (lo := 0) (hi := 40) hvx fL_X1_62 (by rcases hc21 with rfl | rfl <;> rfl) (Nat.le_of_ble_eq_true rfl) rfl (by rcases hc21 with rfl | rfl <;> rfl) dX1_findTellers_86 (fun v22 v22l v22u v22w => ?_)
        refine gf_icmp_ge (pc := 89) (tgt := 108) (ti_rfl l4) (ti_rfl v22) (by decide) dX1_findTellers_89 (fun q23 => ?_) (fun q23 => ?_)
        ·
          refine gf_iinc (pc := 108) (Nat.le_of_ble_eq_true rfl) rfl (ti_rfl l3) (ti_c (by decide)) (by omega) (by omega) dX1_findTellers_108 (fun v24 e25 => ?_)
          refine go_lv (lv2 := [(0, .ref 57), (1, .int l1), (2, .int l2), (3, .int v24), (4, .int l4)]) rfl ?_
          refine go_goto (pc := 111) (tgt := 64) (by decide) dX1_findTellers_111 ?_
          have z26 : (v24 : Int32).toInt = (l3.toInt + 1) := e25
          exact go_lv rfl (ih.2.2.2.1 l1 l2 v24 hx hvx (by omega) (by omega) (by omega) (by omega) (by omega) (by omega) (by omega))
        ·
          refine go_iload_n (pc := 92) rfl dX1_findTellers_92 ?_
          refine go_aload_n (pc := 93) rfl dX1_findTellers_93 ?_
          refine go_iload (pc := 94) rfl dX1_findTellers_94 ?_
          refine go_iload_n (pc := 96) rfl dX1_findTellers_96 ?_
          refine go_invV (pc := 97) (sl := 0) (s_X1_passOn l (d + 0) hvx l4 (by rw [show (l4 : Int32).toInt = l4.toInt from (ti_rfl l4)]; omega) (by rw [show (l4 : Int32).toInt = l4.toInt from (ti_rfl l4)]; omega) l1) mL_X1_110 iM_X1_passOn sM_X1_passOn (hvx.sh rfl) rfl rfl rfl (Nat.le_of_ble_eq_true rfl) (show d + 0 + 3 + 1 ≤ d + 4 by omega) (show 8 + (5 + 11) + 40 * (d + 0 + 3) ≤ 40 * (d + 4) by omega) (g_c0 hvx.ln) (Nat.le_of_ble_eq_true rfl) dX1_findTellers_97 ?_
          intro r h27 hq _
          obtain ⟨v28, rfl, v28l, v28u, hv27⟩ := hq
          refine gf_ior (pc := 100) (ti_rfl l2) (ti_rfl v28) (by omega) (by omega) (by omega) (by omega) dX1_findTellers_100 (fun v29 v29l v29u => ?_)
          refine go_istore_n (pc := 101) (Nat.le_of_ble_eq_true rfl) dX1_findTellers_101 (go_lv (lv2 := [(0, .ref 57), (1, .int l1), (2, .int v29), (3, .int l3), (4, .int l4)]) rfl ?_)
          refine gf_iinc (pc := 102) (Nat.le_of_ble_eq_true rfl) rfl (ti_rfl l4) (ti_c (by decide)) (by omega) (by omega) dX1_findTellers_102 (fun v30 e31 => ?_)
          refine go_lv (lv2 := [(0, .ref 57), (1, .int l1), (2, .int v29), (3, .int l3), (4, .int v30)]) rfl ?_
          refine go_goto (pc := 105) (tgt := 80) (by decide) dX1_findTellers_105 ?_
          have z32 : (v30 : Int32).toInt = (l4.toInt + 1) := e31
          exact go_lv rfl (ih.2.2.2.2.1 l1 v29 l3 v30 h27 hv27 (by omega) (by omega) (by omega) (by omega) (by omega) (by omega) (by omega) (by omega) (by omega))
      ·
        intro hx hvx hm
        exact gi_vret (pc := 114) ⟨rfl, hvx⟩ hvx dX1_findTellers_114
  refine go_aload_n (pc := 0) rfl dX1_findTellers_0 ?_
  refine gi_getF (pc := 1) (q := 62) hv fL_X1_24 rfl (Nat.le_of_ble_eq_true rfl) rfl (hv.rf (by decide)) dX1_findTellers_1 ?_
  refine go_lconst (pc := 4) (v := 0) (by decide) dX1_findTellers_4 ?_
  refine go_invS (pc := 5) (sl := 0) (s_J7_fill_d0a16_at62 l (d + 2) hv (0 : Int64)) mL_X1_34 iM_J7_fill_d0a16 rfl rfl (Nat.le_of_ble_eq_true rfl) (show d + 2 + 1 + 1 ≤ d + 4 by omega) (show 8 + (5 + 11) + 40 * (d + 2 + 1) ≤ 40 * (d + 4) by omega) (g_c0 hv.ln) (Nat.le_of_ble_eq_true rfl) dX1_findTellers_5 ?_
  intro r h33 hq _
  obtain ⟨rfl, hv33⟩ := hq
  refine go_iload_n (pc := 8) rfl dX1_findTellers_8 ?_
  refine go_iconst (pc := 9) (v := 2) (by decide) dX1_findTellers_9 ?_
  refine gf_icmp_lt (pc := 10) (tgt := 20) (ti_rfl a2) (ti_c (v := 2) (a := 2) (by decide)) (by decide) dX1_findTellers_10 (fun q34 => ?_) (fun q34 => ?_)
  ·
    exact go_lv rfl ((key 387295).1 a2 h33 hv33 (by omega) (by omega) (by omega))
  ·
    refine go_iload_n (pc := 13) rfl dX1_findTellers_13 ?_
    refine go_invS (pc := 14) (sl := 0) (s_X7_isField l (d + 2) hv33 a2) mL_X1_107 iM_X7_isField rfl rfl (Nat.le_of_ble_eq_true rfl) (show d + 2 + 1 + 1 ≤ d + 4 by omega) (show 8 + (1 + 11) + 40 * (d + 2 + 1) ≤ 40 * (d + 4) by omega) (g_c0 hv33.ln) (Nat.le_of_ble_eq_true rfl) dX1_findTellers_14 ?_
    intro r h35 hq _
    obtain ⟨v37, rfl, v37l, v37u, rfl, f38, f36⟩ := hq
    refine gf_if_eq (pc := 17) (tgt := 60) (ti_rfl v37) (by decide) dX1_findTellers_17 (fun q39 => ?_) (fun q39 => ?_)
    ·
      exact go_lv rfl ((key 387295).2.2.1 a2 h33 hv33 (by omega) (by omega) (by omega))
    ·
      exact go_lv rfl ((key 387295).1 a2 h33 hv33 (by omega) (by omega) (by omega))
set_option maxHeartbeats 4000000 in
set_option maxRecDepth 100000 in
theorem s_X1_tieUse (l : Launch) (d : Nat) {P : PP} {h : HP} (hv : Iv P h) (a2 : Int32) (a2l : 0 ≤ a2.toInt) (a2u : a2.toInt ≤ 44) (a3 : Int32) (a3l : 0 ≤ a3.toInt) (a3u : a3.toInt ≤ 12) (a4 : Int32) (a4l : 0 ≤ a4.toInt) (a4u : a4.toInt ≤ 9) : Mt l yX1_tieUse cX1_tieUse 8 none (d + 2) [.ref 57, .int a2, .int a3, .int a4] h 0 0 (fun r h' => r = none ∧ Iv P h') := by
  refine Mt_iv hv (by decide) (Nat.le_of_ble_eq_true rfl) ?_
  show Go l RX1 cX1_tieUse 8 (g_rm (d + 2) 0 0) "tieUse" none 117 0 0 (fun _ _ => True) (fun r h' => r = none ∧ Iv P h') 0 0 [(0, .ref 57), (1, .int a2), (2, .int a3), (3, .int a4)] [] h
  have key : ∀ n : Nat, (∀ (l1 : Int32) (l2 : Int32) (l3 : Int32) (l4 : Int64) (s0 : Int32) (hx : HP), Iv P hx → 0 ≤ l1.toInt → l1.toInt ≤ 44 → 0 ≤ l2.toInt → l2.toInt ≤ 12 → 0 ≤ l3.toInt → l3.toInt ≤ 9 → 0 ≤ s0.toInt → s0.toInt ≤ 5 → (3 : Int) < n → Go l RX1 cX1_tieUse 8 (g_rm (d + 2) 0 0) "tieUse" none 117 0 0 (fun _ _ => True) (fun r h' => r = none ∧ Iv P h') 0 23 [(0, .ref 57), (1, .int l1), (2, .int l2), (3, .int l3), (4, .long l4)] [.int s0] hx) ∧ (∀ (l1 : Int32) (l2 : Int32) (l4 : Int64) (l6 : Int32) (s0 : Int32) (hx : HP), Iv P hx → 0 ≤ l1.toInt → l1.toInt ≤ 44 → 0 ≤ l2.toInt → l2.toInt ≤ 12 → 0 ≤ l6.toInt → l6.toInt ≤ 5 → 0 ≤ s0.toInt → s0.toInt ≤ 9 → (2 : Int) < n → Go l RX1 cX1_tieUse 8 (g_rm (d + 2) 0 0) "tieUse" none 117 0 0 (fun _ _ => True) (fun r h' => r = none ∧ Iv P h') 0 40 [(0, .ref 57), (1, .int l1), (2, .int l2), (4, .long l4), (6, .int l6)] [.int s0] hx) ∧ (∀  (hx : HP), Iv P hx → (1 : Int) < n → Go l RX1 cX1_tieUse 8 (g_rm (d + 2) 0 0) "tieUse" none 117 0 0 (fun _ _ => True) (fun r h' => r = none ∧ Iv P h') 0 125 [] [] hx) := by
    intro n
    induction n with
    | zero => exact ⟨(by intros; omega), (by intros; omega), (by intros; omega)⟩
    | succ n ih =>
      refine ⟨?_, ?_, ?_⟩
      ·
        intro l1 l2 l3 l4 s0 hx hvx l1l l1u l2l l2u l3l l3u s0l s0u hm
        refine go_istore (pc := 23) (Nat.le_of_ble_eq_true rfl) dX1_tieUse_23 (go_lv (lv2 := [(0, .ref 57), (1, .int l1), (2, .int l2), (3, .int l3), (4, .long l4), (6, .int s0)]) rfl ?_)
        refine go_iload_n (pc := 25) rfl dX1_tieUse_25 ?_
        refine go_invS (pc := 26) (sl := 0) (s_X7_isField l (d + 0) hvx l3) mL_X1_107 iM_X7_isField rfl rfl (Nat.le_of_ble_eq_true rfl) (show d + 0 + 1 + 1 ≤ d + 2 by omega) (show 8 + (1 + 11) + 40 * (d + 0 + 1) ≤ 40 * (d + 2) by omega) (g_c0 hvx.ln) (Nat.le_of_ble_eq_true rfl) dX1_tieUse_26 ?_
        intro r h1 hq _
        obtain ⟨v3, rfl, v3l, v3u, rfl, f4, f2⟩ := hq
        refine gf_if_eq (pc := 29) (tgt := 39) (ti_rfl v3) (by decide) dX1_tieUse_29 (fun q5 => ?_) (fun q5 => ?_)
        ·
          refine go_iload_n (pc := 39) rfl dX1_tieUse_39 ?_
          exact go_lv rfl (ih.2.1 l1 l2 l4 s0 l3 hx hvx (by omega) (by omega) (by omega) (by omega) (by omega) (by omega) (by omega) (by omega) (by omega))
        ·
          refine go_iload_n (pc := 32) rfl dX1_tieUse_32 ?_
          refine go_invS (pc := 33) (sl := 0) (s_X7_portOfField l (d + 0) hvx l3 (by rw [show (l3 : Int32).toInt = l3.toInt from (ti_rfl l3)]; omega) (by rw [show (l3 : Int32).toInt = l3.toInt from (ti_rfl l3)]; omega)) mL_X1_137 iM_X7_portOfField rfl rfl (Nat.le_of_ble_eq_true rfl) (show d + 0 + 1 + 1 ≤ d + 2 by omega) (show 8 + (1 + 11) + 40 * (d + 0 + 1) ≤ 40 * (d + 2) by omega) (g_c0 hvx.ln) (Nat.le_of_ble_eq_true rfl) dX1_tieUse_33 ?_
          intro r h6 hq _
          obtain ⟨v7, rfl, v7l, v7u, rfl⟩ := hq
          refine go_goto (pc := 36) (tgt := 40) (by decide) dX1_tieUse_36 ?_
          exact go_lv rfl (ih.2.1 l1 l2 l4 s0 v7 hx hvx (by omega) (by omega) (by omega) (by omega) (by omega) (by omega) (by omega) (by omega) (by omega))
      ·
        intro l1 l2 l4 l6 s0 hx hvx l1l l1u l2l l2u l6l l6u s0l s0u hm
        refine go_istore (pc := 40) (Nat.le_of_ble_eq_true rfl) dX1_tieUse_40 (go_lv (lv2 := [(0, .ref 57), (1, .int l1), (2, .int l2), (4, .long l4), (6, .int l6), (7, .int s0)]) rfl ?_)
        refine go_aload_n (pc := 42) rfl dX1_tieUse_42 ?_
        refine go_iload_n (pc := 43) rfl dX1_tieUse_43 ?_
        refine go_iload_n (pc := 44) rfl dX1_tieUse_44 ?_
        refine go_iconst (pc := 45) (v := 0) (by decide) dX1_tieUse_45 ?_
        refine go_lload (pc := 46) rfl dX1_tieUse_46 ?_
        refine go_ldc2 (pc := 48) kL_X1_60 dX1_tieUse_48 ?_
        refine gu_land (pc := 51) dX1_tieUse_51 (fun v8 => ?_)
        refine go_aload_n (pc := 52) rfl dX1_tieUse_52 ?_
        refine gi_getC (pc := 53) hvx fL_X1_30 rfl (Nat.le_of_ble_eq_true rfl) rfl (by decide) dX1_tieUse_53 (fun c9 hc9 fc9 => ?_)
        refine gi_getL (pc := 56) hvx fL_X1_141 (by rcases hc9 with rfl | rfl <;> rfl) (Nat.le_of_ble_eq_true rfl) rfl dX1_tieUse_56 (fun v10 => ?_)
        refine go_ldc2 (pc := 59) kL_X1_145 dX1_tieUse_59 ?_
        refine gu_lxor (pc := 62) dX1_tieUse_62 (fun v11 => ?_)
        refine gu_land (pc := 63) dX1_tieUse_63 (fun v12 => ?_)
        refine go_invV (pc := 64) (sl := 0) (s_X1_tie l (d + 0) hvx l1 (by rw [show (l1 : Int32).toInt = l1.toInt from (ti_rfl l1)]; omega) (by rw [show (l1 : Int32).toInt = l1.toInt from (ti_rfl l1)]; omega) l2 (by rw [show (l2 : Int32).toInt = l2.toInt from (ti_rfl l2)]; omega) (by rw [show (l2 : Int32).toInt = l2.toInt from (ti_rfl l2)]; omega) 0 (by rw [show (0 : Int32).toInt = 0 from (ti_c (v := 0) (a := 0) (by decide))]; omega) (by rw [show (0 : Int32).toInt = 0 from (ti_c (v := 0) (a := 0) (by decide))]; omega) v12) mL_X1_103 iM_X1_tie sM_X1_tie (hvx.sh rfl) rfl rfl rfl (Nat.le_of_ble_eq_true rfl) (show d + 0 + 1 + 1 ≤ d + 2 by omega) (show 8 + (6 + 11) + 40 * (d + 0 + 1) ≤ 40 * (d + 2) by omega) (g_c0 hvx.ln) (Nat.le_of_ble_eq_true rfl) dX1_tieUse_64 ?_
        intro r h13 hq _
        obtain ⟨rfl, hv13⟩ := hq
        refine go_aload_n (pc := 67) rfl dX1_tieUse_67 ?_
        refine go_iload_n (pc := 68) rfl dX1_tieUse_68 ?_
        refine go_iload_n (pc := 69) rfl dX1_tieUse_69 ?_
        refine go_bipush (pc := 70) (v := 7) (by decide) dX1_tieUse_70 ?_
        refine go_iload (pc := 72) rfl dX1_tieUse_72 ?_
        refine gf_iadd (pc := 74) (ti_c (v := 7) (a := 7) (by decide)) (ti_rfl l6) (by omega) (by omega) dX1_tieUse_74 (fun v14 e15 => ?_)
        refine go_lload (pc := 75) rfl dX1_tieUse_75 ?_
        refine go_aload_n (pc := 77) rfl dX1_tieUse_77 ?_
        refine gi_getC (pc := 78) hv13 fL_X1_30 rfl (Nat.le_of_ble_eq_true rfl) rfl (by decide) dX1_tieUse_78 (fun c16 hc16 fc16 => ?_)
        refine gi_getL (pc := 81) hv13 fL_X1_141 (by rcases hc16 with rfl | rfl <;> rfl) (Nat.le_of_ble_eq_true rfl) rfl dX1_tieUse_81 (fun v17 => ?_)
        refine gu_land (pc := 84) dX1_tieUse_84 (fun v18 => ?_)
        refine go_invV (pc := 85) (sl := 0) (s_X1_tie l (d + 0) hv13 l1 (by rw [show (l1 : Int32).toInt = l1.toInt from (ti_rfl l1)]; omega) (by rw [show (l1 : Int32).toInt = l1.toInt from (ti_rfl l1)]; omega) l2 (by rw [show (l2 : Int32).toInt = l2.toInt from (ti_rfl l2)]; omega) (by rw [show (l2 : Int32).toInt = l2.toInt from (ti_rfl l2)]; omega) v14 (by rw [show (v14 : Int32).toInt = (7 + l6.toInt) from e15]; omega) (by rw [show (v14 : Int32).toInt = (7 + l6.toInt) from e15]; omega) v18) mL_X1_103 iM_X1_tie sM_X1_tie (hv13.sh rfl) rfl rfl rfl (Nat.le_of_ble_eq_true rfl) (show d + 0 + 1 + 1 ≤ d + 2 by omega) (show 8 + (6 + 11) + 40 * (d + 0 + 1) ≤ 40 * (d + 2) by omega) (g_c0 hv13.ln) (Nat.le_of_ble_eq_true rfl) dX1_tieUse_85 ?_
        intro r h19 hq _
        obtain ⟨rfl, hv19⟩ := hq
        refine go_aload_n (pc := 88) rfl dX1_tieUse_88 ?_
        refine go_iload_n (pc := 89) rfl dX1_tieUse_89 ?_
        refine go_iload_n (pc := 90) rfl dX1_tieUse_90 ?_
        refine go_iconst (pc := 91) (v := 1) (by decide) dX1_tieUse_91 ?_
        refine go_iload (pc := 92) rfl dX1_tieUse_92 ?_
        refine gf_iadd (pc := 94) (ti_c (v := 1) (a := 1) (by decide)) (ti_rfl s0) (by omega) (by omega) dX1_tieUse_94 (fun v20 e21 => ?_)
        refine go_lload (pc := 95) rfl dX1_tieUse_95 ?_
        refine go_ldc2 (pc := 97) kL_X1_147 dX1_tieUse_97 ?_
        refine gu_land (pc := 100) dX1_tieUse_100 (fun v22 => ?_)
        refine go_invV (pc := 101) (sl := 0) (s_X1_tie l (d + 0) hv19 l1 (by rw [show (l1 : Int32).toInt = l1.toInt from (ti_rfl l1)]; omega) (by rw [show (l1 : Int32).toInt = l1.toInt from (ti_rfl l1)]; omega) l2 (by rw [show (l2 : Int32).toInt = l2.toInt from (ti_rfl l2)]; omega) (by rw [show (l2 : Int32).toInt = l2.toInt from (ti_rfl l2)]; omega) v20 (by rw [show (v20 : Int32).toInt = (1 + s0.toInt) from e21]; omega) (by rw [show (v20 : Int32).toInt = (1 + s0.toInt) from e21]; omega) v22) mL_X1_103 iM_X1_tie sM_X1_tie (hv19.sh rfl) rfl rfl rfl (Nat.le_of_ble_eq_true rfl) (show d + 0 + 1 + 1 ≤ d + 2 by omega) (show 8 + (6 + 11) + 40 * (d + 0 + 1) ≤ 40 * (d + 2) by omega) (g_c0 hv19.ln) (Nat.le_of_ble_eq_true rfl) dX1_tieUse_101 ?_
        intro r h23 hq _
        obtain ⟨rfl, hv23⟩ := hq
        refine go_iload_n (pc := 104) rfl dX1_tieUse_104 ?_
        refine go_bipush (pc := 105) (v := 40) (by decide) dX1_tieUse_105 ?_
        refine gf_icmp_ge (pc := 107) (tgt := 125) (ti_rfl l1) (ti_c (v := 40) (a := 40) (by decide)) (by decide) dX1_tieUse_107 (fun q24 => ?_) (fun q24 => ?_)
        ·
          exact go_lv rfl (ih.2.2  h23 hv23  (by omega))
        ·
          refine go_aload_n (pc := 110) rfl dX1_tieUse_110 ?_
          refine gi_getF (pc := 111) (q := 59) hv23 fL_X1_15 rfl (Nat.le_of_ble_eq_true rfl) rfl (hv23.rf (by decide)) dX1_tieUse_111 ?_
          refine go_iload_n (pc := 114) rfl dX1_tieUse_114 ?_
          refine go_dup2 (pc := 115) rfl rfl dX1_tieUse_115 ?_
          refine gi_lald (pc := 116) (len := 40) hv23 (ti_rfl l1) rfl (by omega) (by omega) dX1_tieUse_116 (fun v25 v25w => ?_)
          refine go_lload (pc := 117) rfl dX1_tieUse_117 ?_
          refine go_ldc2 (pc := 119) kL_X1_60 dX1_tieUse_119 ?_
          refine gu_land (pc := 122) dX1_tieUse_122 (fun v26 => ?_)
          refine gu_lor (pc := 123) dX1_tieUse_123 (fun v27 => ?_)
          refine gi_last (pc := 124) (len := 40) hv23 (ti_rfl l1) rfl (by omega) (by omega) dX1_tieUse_124 (fun h28 hv28 hv28e => ?_)
          exact go_lv rfl (ih.2.2  h28 hv28  (by omega))
      ·
        intro hx hvx hm
        exact gi_vret (pc := 125) ⟨rfl, hvx⟩ hvx dX1_tieUse_125
  refine go_aload_n (pc := 0) rfl dX1_tieUse_0 ?_
  refine gi_getF (pc := 1) (q := 62) hv fL_X1_24 rfl (Nat.le_of_ble_eq_true rfl) rfl (hv.rf (by decide)) dX1_tieUse_1 ?_
  refine go_iload_n (pc := 4) rfl dX1_tieUse_4 ?_
  refine gi_lald (pc := 5) (len := 45) hv (ti_rfl a2) rfl (by omega) (by omega) dX1_tieUse_5 (fun v29 v29w => ?_)
  refine go_lstore (pc := 6) (Nat.le_of_ble_eq_true rfl) dX1_tieUse_6 (go_lv (lv2 := [(0, .ref 57), (1, .int a2), (2, .int a3), (3, .int a4), (4, .long v29)]) rfl ?_)
  refine go_iload_n (pc := 8) rfl dX1_tieUse_8 ?_
  refine go_invS (pc := 9) (sl := 0) (s_X7_isField l (d + 0) hv a4) mL_X1_107 iM_X7_isField rfl rfl (Nat.le_of_ble_eq_true rfl) (show d + 0 + 1 + 1 ≤ d + 2 by omega) (show 8 + (1 + 11) + 40 * (d + 0 + 1) ≤ 40 * (d + 2) by omega) (g_c0 hv.ln) (Nat.le_of_ble_eq_true rfl) dX1_tieUse_9 ?_
  intro r h30 hq _
  obtain ⟨v32, rfl, v32l, v32u, rfl, f33, f31⟩ := hq
  refine gf_if_eq (pc := 12) (tgt := 22) (ti_rfl v32) (by decide) dX1_tieUse_12 (fun q34 => ?_) (fun q34 => ?_)
  ·
    refine go_iconst (pc := 22) (v := 0) (by decide) dX1_tieUse_22 ?_
    have z35 : (0 : Int32).toInt = 0 := (ti_c (v := 0) (a := 0) (by decide))
    exact go_lv rfl ((key 16).1 a2 a3 a4 v29 0 h hv (by omega) (by omega) (by omega) (by omega) (by omega) (by omega) (by omega) (by omega) (by omega))
  ·
    refine go_iload_n (pc := 15) rfl dX1_tieUse_15 ?_
    refine go_invS (pc := 16) (sl := 0) (s_X7_portOfField l (d + 0) hv a4 (by rw [show (a4 : Int32).toInt = a4.toInt from (ti_rfl a4)]; omega) (by rw [show (a4 : Int32).toInt = a4.toInt from (ti_rfl a4)]; omega)) mL_X1_137 iM_X7_portOfField rfl rfl (Nat.le_of_ble_eq_true rfl) (show d + 0 + 1 + 1 ≤ d + 2 by omega) (show 8 + (1 + 11) + 40 * (d + 0 + 1) ≤ 40 * (d + 2) by omega) (g_c0 hv.ln) (Nat.le_of_ble_eq_true rfl) dX1_tieUse_16 ?_
    intro r h36 hq _
    obtain ⟨v37, rfl, v37l, v37u, rfl⟩ := hq
    refine go_goto (pc := 19) (tgt := 23) (by decide) dX1_tieUse_19 ?_
    exact go_lv rfl ((key 16).1 a2 a3 a4 v29 v37 h hv (by omega) (by omega) (by omega) (by omega) (by omega) (by omega) (by omega) (by omega) (by omega))
set_option maxHeartbeats 4000000 in
set_option maxRecDepth 100000 in
theorem s_X1_tieByValue (l : Launch) (d : Nat) {P : PP} {h : HP} (hv : Iv P h) (a2 : Int32) (a2l : 0 ≤ a2.toInt) (a2u : a2.toInt ≤ 9) : Mt l yX1_tieByValue cX1_tieByValue 4 none (d + 3) [.ref 57, .int a2] h 0 0 (fun r h' => r = none ∧ Iv P h') := by
  refine Mt_iv hv (by decide) (Nat.le_of_ble_eq_true rfl) ?_
  show Go l RX1 cX1_tieByValue 4 (g_rm (d + 3) 0 0) "tieByValue" none 117 0 0 (fun _ _ => True) (fun r h' => r = none ∧ Iv P h') 0 0 [(0, .ref 57), (1, .int a2)] [] h
  have key : ∀ n : Nat, (∀ (l1 : Int32) (l2 : Int32) (hx : HP), Iv P hx → 0 ≤ l1.toInt → l1.toInt ≤ 9 → 0 ≤ l2.toInt → l2.toInt ≤ 40 → (9 * (40 - l2.toInt) + 30 : Int) < n → Go l RX1 cX1_tieByValue 4 (g_rm (d + 3) 0 0) "tieByValue" none 117 0 0 (fun _ _ => True) (fun r h' => r = none ∧ Iv P h') 0 2 [(0, .ref 57), (1, .int l1), (2, .int l2)] [] hx) ∧ (∀ (l1 : Int32) (l2 : Int32) (s0 : Int32) (hx : HP), Iv P hx → 0 ≤ l1.toInt → l1.toInt ≤ 9 → 0 ≤ l2.toInt → l2.toInt ≤ 39 → 0 ≤ s0.toInt → s0.toInt ≤ 1 → (9 * (40 - l2.toInt) + 29 : Int) < n → Go l RX1 cX1_tieByValue 4 (g_rm (d + 3) 0 0) "tieByValue" none 117 0 0 (fun _ _ => True) (fun r h' => r = none ∧ Iv P h') 0 31 [(0, .ref 57), (1, .int l1), (2, .int l2)] [.int s0] hx) ∧ (∀ (l1 : Int32) (l2 : Int32) (l3 : Int32) (s0 : Int32) (s1 : Int32) (hx : HP), Iv P hx → 0 ≤ l1.toInt → l1.toInt ≤ 9 → 0 ≤ l2.toInt → l2.toInt ≤ 39 → 0 ≤ l3.toInt → l3.toInt ≤ 1 → 0 ≤ s0.toInt → s0.toInt ≤ 1 → 0 ≤ s1.toInt → s1.toInt ≤ 39 → (9 * (40 - l2.toInt) + 28 : Int) < n → Go l RX1 cX1_tieByValue 4 (g_rm (d + 3) 0 0) "tieByValue" none 117 0 0 (fun _ _ => True) (fun r h' => r = none ∧ Iv P h') 0 56 [(0, .ref 57), (1, .int l1), (2, .int l2), (3, .int l3)] [.int s0, .int s1, .ref 57] hx) ∧ (∀ (l1 : Int32) (l2 : Int32) (l3 : Int32) (hx : HP), Iv P hx → 0 ≤ l1.toInt → l1.toInt ≤ 9 → 0 ≤ l2.toInt → l2.toInt ≤ 39 → 0 ≤ l3.toInt → l3.toInt ≤ 1 → (9 * (40 - l2.toInt) + 27 : Int) < n → Go l RX1 cX1_tieByValue 4 (g_rm (d + 3) 0 0) "tieByValue" none 117 0 0 (fun _ _ => True) (fun r h' => r = none ∧ Iv P h') 0 60 [(0, .ref 57), (1, .int l1), (2, .int l2), (3, .int l3)] [] hx) ∧ (∀ (l1 : Int32) (l2 : Int32) (l3 : Int32) (s0 : Int32) (s1 : Int32) (hx : HP), Iv P hx → 0 ≤ l1.toInt → l1.toInt ≤ 9 → 0 ≤ l2.toInt → l2.toInt ≤ 39 → 0 ≤ l3.toInt → l3.toInt ≤ 1 → 0 ≤ s0.toInt → s0.toInt ≤ 2 → 0 ≤ s1.toInt → s1.toInt ≤ 39 → (9 * (40 - l2.toInt) + 26 : Int) < n → Go l RX1 cX1_tieByValue 4 (g_rm (d + 3) 0 0) "tieByValue" none 117 0 0 (fun _ _ => True) (fun r h' => r = none ∧ Iv P h') 0 84 [(0, .ref 57), (1, .int l1), (2, .int l2), (3, .int l3)] [.int s0, .int s1, .ref 57] hx) ∧ (∀ (l1 : Int32) (l2 : Int32) (l3 : Int32) (hx : HP), Iv P hx → 0 ≤ l1.toInt → l1.toInt ≤ 9 → 0 ≤ l2.toInt → l2.toInt ≤ 39 → 0 ≤ l3.toInt → l3.toInt ≤ 1 → (9 * (40 - l2.toInt) + 25 : Int) < n → Go l RX1 cX1_tieByValue 4 (g_rm (d + 3) 0 0) "tieByValue" none 117 0 0 (fun _ _ => True) (fun r h' => r = none ∧ Iv P h') 0 88 [(0, .ref 57), (1, .int l1), (2, .int l2), (3, .int l3)] [] hx) ∧ (∀ (l1 : Int32) (l2 : Int32) (hx : HP), Iv P hx → 0 ≤ l1.toInt → l1.toInt ≤ 9 → 0 ≤ l2.toInt → l2.toInt ≤ 39 → (9 * (40 - l2.toInt) + 24 : Int) < n → Go l RX1 cX1_tieByValue 4 (g_rm (d + 3) 0 0) "tieByValue" none 117 0 0 (fun _ _ => True) (fun r h' => r = none ∧ Iv P h') 0 111 [(0, .ref 57), (1, .int l1), (2, .int l2)] [] hx) ∧ (∀ (l1 : Int32) (l2 : Int32) (hx : HP), Iv P hx → 6 ≤ l1.toInt → l1.toInt ≤ 9 → 0 ≤ l2.toInt → l2.toInt ≤ 5 → (3 * (5 - l2.toInt) + 3 : Int) < n → Go l RX1 cX1_tieByValue 4 (g_rm (d + 3) 0 0) "tieByValue" none 117 0 0 (fun _ _ => True) (fun r h' => r = none ∧ Iv P h') 0 126 [(0, .ref 57), (1, .int l1), (2, .int l2)] [] hx) ∧ (∀  (hx : HP), Iv P hx → (1 : Int) < n → Go l RX1 cX1_tieByValue 4 (g_rm (d + 3) 0 0) "tieByValue" none 117 0 0 (fun _ _ => True) (fun r h' => r = none ∧ Iv P h') 0 159 [] [] hx) := by
    intro n
    induction n with
    | zero => exact ⟨(by intros; omega), (by intros; omega), (by intros; omega), (by intros; omega), (by intros; omega), (by intros; omega), (by intros; omega), (by intros; omega), (by intros; omega)⟩
    | succ n ih =>
      refine ⟨?_, ?_, ?_, ?_, ?_, ?_, ?_, ?_, ?_⟩
      ·
        intro l1 l2 hx hvx l1l l1u l2l l2u hm
        refine go_iload_n (pc := 2) rfl dX1_tieByValue_2 ?_
        refine go_aload_n (pc := 3) rfl dX1_tieByValue_3 ?_
        refine gi_getC (pc := 4) hvx fL_X1_30 rfl (Nat.le_of_ble_eq_true rfl) rfl (by decide) dX1_tieByValue_4 (fun c1 hc1 fc1 => ?_)
        refine gi_get (pc := 7) (lo := 0) (hi := 40) hvx fL_X1_62 (by rcases hc1 with rfl | rfl <;> rfl) (Nat.le_of_ble_eq_true rfl) rfl (by rcases hc1 with rfl | rfl <;> rfl) dX1_tieByValue_7 (fun v2 v2l v2u v2w => ?_)
        refine gf_icmp_ge (pc := 10) (tgt := 117) (ti_rfl l2) (ti_rfl v2) (by decide) dX1_tieByValue_10 (fun q3 => ?_) (fun q3 => ?_)
        ·
          refine go_iload_n (pc := 117) rfl dX1_tieByValue_117 ?_
          refine go_invS (pc := 118) (sl := 0) (s_X7_isField l (d + 1) hvx l1) mL_X1_107 iM_X7_isField rfl rfl (Nat.le_of_ble_eq_true rfl) (show d + 1 + 1 + 1 ≤ d + 3 by omega) (show 8 + (1 + 11) + 40 * (d + 1 + 1) ≤ 40 * (d + 3) by omega) (g_c0 hvx.ln) (Nat.le_of_ble_eq_true rfl) dX1_tieByValue_118 ?_
          intro r h4 hq _
          obtain ⟨v6, rfl, v6l, v6u, rfl, f7, f5⟩ := hq
          refine gf_if_eq (pc := 121) (tgt := 159) (ti_rfl v6) (by decide) dX1_tieByValue_121 (fun q8 => ?_) (fun q8 => ?_)
          ·
            exact go_lv rfl (ih.2.2.2.2.2.2.2.2  hx hvx  (by omega))
          ·
            refine go_iconst (pc := 124) (v := 0) (by decide) dX1_tieByValue_124 ?_
            refine go_istore_n (pc := 125) (Nat.le_of_ble_eq_true rfl) dX1_tieByValue_125 (go_lv (lv2 := [(0, .ref 57), (1, .int l1), (2, .int 0)]) rfl ?_)
            have z9 : (0 : Int32).toInt = 0 := (ti_c (v := 0) (a := 0) (by decide))
            exact go_lv rfl (ih.2.2.2.2.2.2.2.1 l1 0 hx hvx (by omega) (by omega) (by omega) (by omega) (by omega))
        ·
          refine go_aload_n (pc := 13) rfl dX1_tieByValue_13 ?_
          refine gi_getC (pc := 14) hvx fL_X1_30 rfl (Nat.le_of_ble_eq_true rfl) rfl (by decide) dX1_tieByValue_14 (fun c10 hc10 fc10 => ?_)
          refine gi_getF (pc := 17) (q := c10 + 2) hvx fL_X1_100 (by rcases hc10 with rfl | rfl <;> rfl) (Nat.le_of_ble_eq_true rfl) rfl (by rcases hc10 with rfl | rfl <;> exact hvx.rf (by decide)) dX1_tieByValue_17 ?_
          refine go_iload_n (pc := 20) rfl dX1_tieByValue_20 ?_
          refine gi_iald (pc := 21) (lo := 0) (hi := 5) (len := 40) hvx (ti_rfl l2) (by rcases hc10 with rfl | rfl <;> rfl) (by omega) (by omega) (fun _ => by rcases hc10 with rfl | rfl <;> rfl) dX1_tieByValue_21 (fun v11 v11l v11u v11w => ?_)
          refine go_iconst (pc := 22) (v := 1) (by decide) dX1_tieByValue_22 ?_
          refine gf_icmp_ne (pc := 23) (tgt := 30) (ti_rfl v11) (ti_c (v := 1) (a := 1) (by decide)) (by decide) dX1_tieByValue_23 (fun q12 => ?_) (fun q12 => ?_)
          ·
            refine go_iconst (pc := 30) (v := 0) (by decide) dX1_tieByValue_30 ?_
            have z13 : (0 : Int32).toInt = 0 := (ti_c (v := 0) (a := 0) (by decide))
            exact go_lv rfl (ih.2.1 l1 l2 0 hx hvx (by omega) (by omega) (by omega) (by omega) (by omega) (by omega) (by omega))
          ·
            refine go_iconst (pc := 26) (v := 1) (by decide) dX1_tieByValue_26 ?_
            refine go_goto (pc := 27) (tgt := 31) (by decide) dX1_tieByValue_27 ?_
            have z14 : (1 : Int32).toInt = 1 := (ti_c (v := 1) (a := 1) (by decide))
            exact go_lv rfl (ih.2.1 l1 l2 1 hx hvx (by omega) (by omega) (by omega) (by omega) (by omega) (by omega) (by omega))
      ·
        intro l1 l2 s0 hx hvx l1l l1u l2l l2u s0l s0u hm
        refine go_istore_n (pc := 31) (Nat.le_of_ble_eq_true rfl) dX1_tieByValue_31 (go_lv (lv2 := [(0, .ref 57), (1, .int l1), (2, .int l2), (3, .int s0)]) rfl ?_)
        refine go_aload_n (pc := 32) rfl dX1_tieByValue_32 ?_
        refine gi_getC (pc := 33) hvx fL_X1_30 rfl (Nat.le_of_ble_eq_true rfl) rfl (by decide) dX1_tieByValue_33 (fun c15 hc15 fc15 => ?_)
        refine gi_getF (pc := 36) (q := c15 + 9) hvx fL_X1_127 (by rcases hc15 with rfl | rfl <;> rfl) (Nat.le_of_ble_eq_true rfl) rfl (by rcases hc15 with rfl | rfl <;> exact hvx.rf (by decide)) dX1_tieByValue_36 ?_
        refine go_iload_n (pc := 39) rfl dX1_tieByValue_39 ?_
        refine gi_iald (pc := 40) (lo := -2147483648) (hi := 2147483647) (len := 40) hvx (ti_rfl l2) (by rcases hc15 with rfl | rfl <;> rfl) (by omega) (by omega) (fun _ => by rcases hc15 with rfl | rfl <;> rfl) dX1_tieByValue_40 (fun v16 v16l v16u v16w => ?_)
        refine go_iload_n (pc := 41) rfl dX1_tieByValue_41 ?_
        refine gf_icmp_ne (pc := 42) (tgt := 60) (ti_rfl v16) (ti_rfl l1) (by decide) dX1_tieByValue_42 (fun q17 => ?_) (fun q17 => ?_)
        ·
          exact go_lv rfl (ih.2.2.2.1 l1 l2 s0 hx hvx (by omega) (by omega) (by omega) (by omega) (by omega) (by omega) (by omega))
        ·
          refine go_aload_n (pc := 45) rfl dX1_tieByValue_45 ?_
          refine go_iload_n (pc := 46) rfl dX1_tieByValue_46 ?_
          refine go_iload_n (pc := 47) rfl dX1_tieByValue_47 ?_
          refine gf_if_eq (pc := 48) (tgt := 55) (ti_rfl s0) (by decide) dX1_tieByValue_48 (fun q18 => ?_) (fun q18 => ?_)
          ·
            refine go_iconst (pc := 55) (v := 0) (by decide) dX1_tieByValue_55 ?_
            have z19 : (0 : Int32).toInt = 0 := (ti_c (v := 0) (a := 0) (by decide))
            exact go_lv rfl (ih.2.2.1 l1 l2 s0 0 l2 hx hvx (by omega) (by omega) (by omega) (by omega) (by omega) (by omega) (by omega) (by omega) (by omega) (by omega) (by omega))
          ·
            refine go_iconst (pc := 51) (v := 1) (by decide) dX1_tieByValue_51 ?_
            refine go_goto (pc := 52) (tgt := 56) (by decide) dX1_tieByValue_52 ?_
            have z20 : (1 : Int32).toInt = 1 := (ti_c (v := 1) (a := 1) (by decide))
            exact go_lv rfl (ih.2.2.1 l1 l2 s0 1 l2 hx hvx (by omega) (by omega) (by omega) (by omega) (by omega) (by omega) (by omega) (by omega) (by omega) (by omega) (by omega))
      ·
        intro l1 l2 l3 s0 s1 hx hvx l1l l1u l2l l2u l3l l3u s0l s0u s1l s1u hm
        refine go_iload_n (pc := 56) rfl dX1_tieByValue_56 ?_
        refine go_invV (pc := 57) (sl := 0) (s_X1_tieUse l (d + 0) hvx s1 (by rw [show (s1 : Int32).toInt = s1.toInt from (ti_rfl s1)]; omega) (by rw [show (s1 : Int32).toInt = s1.toInt from (ti_rfl s1)]; omega) s0 (by rw [show (s0 : Int32).toInt = s0.toInt from (ti_rfl s0)]; omega) (by rw [show (s0 : Int32).toInt = s0.toInt from (ti_rfl s0)]; omega) l1 (by rw [show (l1 : Int32).toInt = l1.toInt from (ti_rfl l1)]; omega) (by rw [show (l1 : Int32).toInt = l1.toInt from (ti_rfl l1)]; omega)) mL_X1_130 iM_X1_tieUse sM_X1_tieUse (hvx.sh rfl) rfl rfl rfl (Nat.le_of_ble_eq_true rfl) (show d + 0 + 2 + 1 ≤ d + 3 by omega) (show 8 + (8 + 11) + 40 * (d + 0 + 2) ≤ 40 * (d + 3) by omega) (g_c0 hvx.ln) (Nat.le_of_ble_eq_true rfl) dX1_tieByValue_57 ?_
        intro r h21 hq _
        obtain ⟨rfl, hv21⟩ := hq
        exact go_lv rfl (ih.2.2.2.1 l1 l2 l3 h21 hv21 (by omega) (by omega) (by omega) (by omega) (by omega) (by omega) (by omega))
      ·
        intro l1 l2 l3 hx hvx l1l l1u l2l l2u l3l l3u hm
        refine go_aload_n (pc := 60) rfl dX1_tieByValue_60 ?_
        refine gi_getC (pc := 61) hvx fL_X1_30 rfl (Nat.le_of_ble_eq_true rfl) rfl (by decide) dX1_tieByValue_61 (fun c22 hc22 fc22 => ?_)
        refine gi_getF (pc := 64) (q := c22 + 10) hvx fL_X1_134 (by rcases hc22 with rfl | rfl <;> rfl) (Nat.le_of_ble_eq_true rfl) rfl (by rcases hc22 with rfl | rfl <;> exact hvx.rf (by decide)) dX1_tieByValue_64 ?_
        refine go_iload_n (pc := 67) rfl dX1_tieByValue_67 ?_
        refine gi_iald (pc := 68) (lo := -2147483648) (hi := 2147483647) (len := 40) hvx (ti_rfl l2) (by rcases hc22 with rfl | rfl <;> rfl) (by omega) (by omega) (fun _ => by rcases hc22 with rfl | rfl <;> rfl) dX1_tieByValue_68 (fun v23 v23l v23u v23w => ?_)
        refine go_iload_n (pc := 69) rfl dX1_tieByValue_69 ?_
        refine gf_icmp_ne (pc := 70) (tgt := 88) (ti_rfl v23) (ti_rfl l1) (by decide) dX1_tieByValue_70 (fun q24 => ?_) (fun q24 => ?_)
        ·
          exact go_lv rfl (ih.2.2.2.2.2.1 l1 l2 l3 hx hvx (by omega) (by omega) (by omega) (by omega) (by omega) (by omega) (by omega))
        ·
          refine go_aload_n (pc := 73) rfl dX1_tieByValue_73 ?_
          refine go_iload_n (pc := 74) rfl dX1_tieByValue_74 ?_
          refine go_iload_n (pc := 75) rfl dX1_tieByValue_75 ?_
          refine gf_if_eq (pc := 76) (tgt := 83) (ti_rfl l3) (by decide) dX1_tieByValue_76 (fun q25 => ?_) (fun q25 => ?_)
          ·
            refine go_iconst (pc := 83) (v := 0) (by decide) dX1_tieByValue_83 ?_
            have z26 : (0 : Int32).toInt = 0 := (ti_c (v := 0) (a := 0) (by decide))
            exact go_lv rfl (ih.2.2.2.2.1 l1 l2 l3 0 l2 hx hvx (by omega) (by omega) (by omega) (by omega) (by omega) (by omega) (by omega) (by omega) (by omega) (by omega) (by omega))
          ·
            refine go_iconst (pc := 79) (v := 2) (by decide) dX1_tieByValue_79 ?_
            refine go_goto (pc := 80) (tgt := 84) (by decide) dX1_tieByValue_80 ?_
            have z27 : (2 : Int32).toInt = 2 := (ti_c (v := 2) (a := 2) (by decide))
            exact go_lv rfl (ih.2.2.2.2.1 l1 l2 l3 2 l2 hx hvx (by omega) (by omega) (by omega) (by omega) (by omega) (by omega) (by omega) (by omega) (by omega) (by omega) (by omega))
      ·
        intro l1 l2 l3 s0 s1 hx hvx l1l l1u l2l l2u l3l l3u s0l s0u s1l s1u hm
        refine go_iload_n (pc := 84) rfl dX1_tieByValue_84 ?_
        refine go_invV (pc := 85) (sl := 0) (s_X1_tieUse l (d + 0) hvx s1 (by rw [show (s1 : Int32).toInt = s1.toInt from (ti_rfl s1)]; omega) (by rw [show (s1 : Int32).toInt = s1.toInt from (ti_rfl s1)]; omega) s0 (by rw [show (s0 : Int32).toInt = s0.toInt from (ti_rfl s0)]; omega) (by rw [show (s0 : Int32).toInt = s0.toInt from (ti_rfl s0)]; omega) l1 (by rw [show (l1 : Int32).toInt = l1.toInt from (ti_rfl l1)]; omega) (by rw [show (l1 : Int32).toInt = l1.toInt from (ti_rfl l1)]; omega)) mL_X1_130 iM_X1_tieUse sM_X1_tieUse (hvx.sh rfl) rfl rfl rfl (Nat.le_of_ble_eq_true rfl) (show d + 0 + 2 + 1 ≤ d + 3 by omega) (show 8 + (8 + 11) + 40 * (d + 0 + 2) ≤ 40 * (d + 3) by omega) (g_c0 hvx.ln) (Nat.le_of_ble_eq_true rfl) dX1_tieByValue_85 ?_
        intro r h28 hq _
        obtain ⟨rfl, hv28⟩ := hq
        exact go_lv rfl (ih.2.2.2.2.2.1 l1 l2 l3 h28 hv28 (by omega) (by omega) (by omega) (by omega) (by omega) (by omega) (by omega))
      ·
        intro l1 l2 l3 hx hvx l1l l1u l2l l2u l3l l3u hm
        refine go_iload_n (pc := 88) rfl dX1_tieByValue_88 ?_
        refine gf_if_eq (pc := 89) (tgt := 111) (ti_rfl l3) (by decide) dX1_tieByValue_89 (fun q29 => ?_) (fun q29 => ?_)
        ·
          exact go_lv rfl (ih.2.2.2.2.2.2.1 l1 l2 hx hvx (by omega) (by omega) (by omega) (by omega) (by omega))
        ·
          refine go_iload_n (pc := 92) rfl dX1_tieByValue_92 ?_
          refine go_invS (pc := 93) (sl := 0) (s_X7_isField l (d + 1) hvx l1) mL_X1_107 iM_X7_isField rfl rfl (Nat.le_of_ble_eq_true rfl) (show d + 1 + 1 + 1 ≤ d + 3 by omega) (show 8 + (1 + 11) + 40 * (d + 1 + 1) ≤ 40 * (d + 3) by omega) (g_c0 hvx.ln) (Nat.le_of_ble_eq_true rfl) dX1_tieByValue_93 ?_
          intro r h30 hq _
          obtain ⟨v32, rfl, v32l, v32u, rfl, f33, f31⟩ := hq
          refine gf_if_eq (pc := 96) (tgt := 111) (ti_rfl v32) (by decide) dX1_tieByValue_96 (fun q34 => ?_) (fun q34 => ?_)
          ·
            exact go_lv rfl (ih.2.2.2.2.2.2.1 l1 l2 hx hvx (by omega) (by omega) (by omega) (by omega) (by omega))
          ·
            refine go_aload_n (pc := 99) rfl dX1_tieByValue_99 ?_
            refine go_iload_n (pc := 100) rfl dX1_tieByValue_100 ?_
            refine go_iconst (pc := 101) (v := 1) (by decide) dX1_tieByValue_101 ?_
            refine go_iload_n (pc := 102) rfl dX1_tieByValue_102 ?_
            refine go_invS (pc := 103) (sl := 0) (s_X7_portOfField l (d + 1) hvx l1 (by rw [show (l1 : Int32).toInt = l1.toInt from (ti_rfl l1)]; omega) (by rw [show (l1 : Int32).toInt = l1.toInt from (ti_rfl l1)]; omega)) mL_X1_137 iM_X7_portOfField rfl rfl (Nat.le_of_ble_eq_true rfl) (show d + 1 + 1 + 1 ≤ d + 3 by omega) (show 8 + (1 + 11) + 40 * (d + 1 + 1) ≤ 40 * (d + 3) by omega) (g_c0 hvx.ln) (Nat.le_of_ble_eq_true rfl) dX1_tieByValue_103 ?_
            intro r h35 hq _
            obtain ⟨v36, rfl, v36l, v36u, rfl⟩ := hq
            refine gf_iadd (pc := 106) (ti_c (v := 1) (a := 1) (by decide)) (ti_rfl v36) (by omega) (by omega) dX1_tieByValue_106 (fun v37 e38 => ?_)
            refine go_iload_n (pc := 107) rfl dX1_tieByValue_107 ?_
            refine go_invV (pc := 108) (sl := 0) (s_X1_tieUse l (d + 0) hvx l2 (by rw [show (l2 : Int32).toInt = l2.toInt from (ti_rfl l2)]; omega) (by rw [show (l2 : Int32).toInt = l2.toInt from (ti_rfl l2)]; omega) v37 (by rw [show (v37 : Int32).toInt = (1 + v36.toInt) from e38]; omega) (by rw [show (v37 : Int32).toInt = (1 + v36.toInt) from e38]; omega) l1 (by rw [show (l1 : Int32).toInt = l1.toInt from (ti_rfl l1)]; omega) (by rw [show (l1 : Int32).toInt = l1.toInt from (ti_rfl l1)]; omega)) mL_X1_130 iM_X1_tieUse sM_X1_tieUse (hvx.sh rfl) rfl rfl rfl (Nat.le_of_ble_eq_true rfl) (show d + 0 + 2 + 1 ≤ d + 3 by omega) (show 8 + (8 + 11) + 40 * (d + 0 + 2) ≤ 40 * (d + 3) by omega) (g_c0 hvx.ln) (Nat.le_of_ble_eq_true rfl) dX1_tieByValue_108 ?_
            intro r h39 hq _
            obtain ⟨rfl, hv39⟩ := hq
            exact go_lv rfl (ih.2.2.2.2.2.2.1 l1 l2 h39 hv39 (by omega) (by omega) (by omega) (by omega) (by omega))
      ·
        intro l1 l2 hx hvx l1l l1u l2l l2u hm
        refine gf_iinc (pc := 111) (Nat.le_of_ble_eq_true rfl) rfl (ti_rfl l2) (ti_c (by decide)) (by omega) (by omega) dX1_tieByValue_111 (fun v40 e41 => ?_)
        refine go_lv (lv2 := [(0, .ref 57), (1, .int l1), (2, .int v40)]) rfl ?_
        refine go_goto (pc := 114) (tgt := 2) (by decide) dX1_tieByValue_114 ?_
        have z42 : (v40 : Int32).toInt = (l2.toInt + 1) := e41
        exact go_lv rfl (ih.1 l1 v40 hx hvx (by omega) (by omega) (by omega) (by omega) (by omega))
      ·
        intro l1 l2 hx hvx l1l l1u l2l l2u hm
        refine go_iload_n (pc := 126) rfl dX1_tieByValue_126 ?_
        refine go_aload_n (pc := 127) rfl dX1_tieByValue_127 ?_
        refine gi_getC (pc := 128) hvx fL_X1_30 rfl (Nat.le_of_ble_eq_true rfl) rfl (by decide) dX1_tieByValue_128 (fun c43 hc43 fc43 => ?_)
        refine gi_get (pc := 131) (lo := 0) (hi := 5) hvx fL_X1_90 (by rcases hc43 with rfl | rfl <;> rfl) (Nat.le_of_ble_eq_true rfl) rfl (by rcases hc43 with rfl | rfl <;> rfl) dX1_tieByValue_131 (fun v44 v44l v44u v44w => ?_)
        refine gf_icmp_ge (pc := 134) (tgt := 159) (ti_rfl l2) (ti_rfl v44) (by decide) dX1_tieByValue_134 (fun q45 => ?_) (fun q45 => ?_)
        ·
          exact go_lv rfl (ih.2.2.2.2.2.2.2.2  hx hvx  (by omega))
        ·
          refine go_aload_n (pc := 137) rfl dX1_tieByValue_137 ?_
          refine go_bipush (pc := 138) (v := 40) (by decide) dX1_tieByValue_138 ?_
          refine go_iload_n (pc := 140) rfl dX1_tieByValue_140 ?_
          refine gf_iadd (pc := 141) (ti_c (v := 40) (a := 40) (by decide)) (ti_rfl l2) (by omega) (by omega) dX1_tieByValue_141 (fun v46 e47 => ?_)
          refine go_bipush (pc := 142) (v := 7) (by decide) dX1_tieByValue_142 ?_
          refine go_iload_n (pc := 144) rfl dX1_tieByValue_144 ?_
          refine go_invS (pc := 145) (sl := 0) (s_X7_portOfField l (d + 1) hvx l1 (by rw [show (l1 : Int32).toInt = l1.toInt from (ti_rfl l1)]; omega) (by rw [show (l1 : Int32).toInt = l1.toInt from (ti_rfl l1)]; omega)) mL_X1_137 iM_X7_portOfField rfl rfl (Nat.le_of_ble_eq_true rfl) (show d + 1 + 1 + 1 ≤ d + 3 by omega) (show 8 + (1 + 11) + 40 * (d + 1 + 1) ≤ 40 * (d + 3) by omega) (g_c0 hvx.ln) (Nat.le_of_ble_eq_true rfl) dX1_tieByValue_145 ?_
          intro r h48 hq _
          obtain ⟨v49, rfl, v49l, v49u, rfl⟩ := hq
          refine gf_iadd (pc := 148) (ti_c (v := 7) (a := 7) (by decide)) (ti_rfl v49) (by omega) (by omega) dX1_tieByValue_148 (fun v50 e51 => ?_)
          refine go_iload_n (pc := 149) rfl dX1_tieByValue_149 ?_
          refine go_invV (pc := 150) (sl := 0) (s_X1_tieUse l (d + 0) hvx v46 (by rw [show (v46 : Int32).toInt = (40 + l2.toInt) from e47]; omega) (by rw [show (v46 : Int32).toInt = (40 + l2.toInt) from e47]; omega) v50 (by rw [show (v50 : Int32).toInt = (7 + v49.toInt) from e51]; omega) (by rw [show (v50 : Int32).toInt = (7 + v49.toInt) from e51]; omega) l1 (by rw [show (l1 : Int32).toInt = l1.toInt from (ti_rfl l1)]; omega) (by rw [show (l1 : Int32).toInt = l1.toInt from (ti_rfl l1)]; omega)) mL_X1_130 iM_X1_tieUse sM_X1_tieUse (hvx.sh rfl) rfl rfl rfl (Nat.le_of_ble_eq_true rfl) (show d + 0 + 2 + 1 ≤ d + 3 by omega) (show 8 + (8 + 11) + 40 * (d + 0 + 2) ≤ 40 * (d + 3) by omega) (g_c0 hvx.ln) (Nat.le_of_ble_eq_true rfl) dX1_tieByValue_150 ?_
          intro r h52 hq _
          obtain ⟨rfl, hv52⟩ := hq
          refine gf_iinc (pc := 153) (Nat.le_of_ble_eq_true rfl) rfl (ti_rfl l2) (ti_c (by decide)) (by omega) (by omega) dX1_tieByValue_153 (fun v53 e54 => ?_)
          refine go_lv (lv2 := [(0, .ref 57), (1, .int l1), (2, .int v53)]) rfl ?_
          refine go_goto (pc := 156) (tgt := 126) (by decide) dX1_tieByValue_156 ?_
          have z55 : (v53 : Int32).toInt = (l2.toInt + 1) := e54
          exact go_lv rfl (ih.2.2.2.2.2.2.2.1 l1 v53 h52 hv52 (by omega) (by omega) (by omega) (by omega) (by omega))
      ·
        intro hx hvx hm
        exact gi_vret (pc := 159) ⟨rfl, hvx⟩ hvx dX1_tieByValue_159
  refine go_iconst (pc := 0) (v := 0) (by decide) dX1_tieByValue_0 ?_
  refine go_istore_n (pc := 1) (Nat.le_of_ble_eq_true rfl) dX1_tieByValue_1 (go_lv (lv2 := [(0, .ref 57), (1, .int a2), (2, .int 0)]) rfl ?_)
  have z56 : (0 : Int32).toInt = 0 := (ti_c (v := 0) (a := 0) (by decide))
  exact go_lv rfl ((key 413).1 a2 0 h hv (by omega) (by omega) (by omega) (by omega) (by omega))
set_option maxHeartbeats 4000000 in
set_option maxRecDepth 100000 in
theorem s_X1_tieEnds (l : Launch) (d : Nat) {P : PP} {h : HP} (hv : Iv P h)  : Mt l yX1_tieEnds cX1_tieEnds 4 none (d + 3) [.ref 57] h 0 0 (fun r h' => r = none ∧ Iv P h') := by
  refine Mt_iv hv (by decide) (Nat.le_of_ble_eq_true rfl) ?_
  show Go l RX1 cX1_tieEnds 4 (g_rm (d + 3) 0 0) "tieEnds" none 117 0 0 (fun _ _ => True) (fun r h' => r = none ∧ Iv P h') 0 0 [(0, .ref 57)] [] h
  have key : ∀ n : Nat, (∀ (l1 : Int32) (hx : HP), Iv P hx → 0 ≤ l1.toInt → l1.toInt ≤ 40 → (8 * (40 - l1.toInt) + 7 : Int) < n → Go l RX1 cX1_tieEnds 4 (g_rm (d + 3) 0 0) "tieEnds" none 117 0 0 (fun _ _ => True) (fun r h' => r = none ∧ Iv P h') 0 2 [(0, .ref 57), (1, .int l1)] [] hx) ∧ (∀ (l1 : Int32) (hx : HP), Iv P hx → 0 ≤ l1.toInt → l1.toInt ≤ 39 → (8 * (40 - l1.toInt) + 6 : Int) < n → Go l RX1 cX1_tieEnds 4 (g_rm (d + 3) 0 0) "tieEnds" none 117 0 0 (fun _ _ => True) (fun r h' => r = none ∧ Iv P h') 0 40 [(0, .ref 57), (1, .int l1)] [] hx) ∧ (∀ (l1 : Int32) (s0 : Int32) (hx : HP), Iv P hx → 0 ≤ l1.toInt → l1.toInt ≤ 39 → 0 ≤ s0.toInt → s0.toInt ≤ 1 → (8 * (40 - l1.toInt) + 5 : Int) < n → Go l RX1 cX1_tieEnds 4 (g_rm (d + 3) 0 0) "tieEnds" none 117 0 0 (fun _ _ => True) (fun r h' => r = none ∧ Iv P h') 0 58 [(0, .ref 57), (1, .int l1)] [.int s0] hx) ∧ (∀ (l1 : Int32) (l2 : Int32) (l3 : Int32) (s0 : Int32) (s1 : Int32) (s2 : Int32) (hx : HP), Iv P hx → 0 ≤ l1.toInt → l1.toInt ≤ 39 → 0 ≤ l2.toInt → l2.toInt ≤ 1 → -1 ≤ l3.toInt → l3.toInt ≤ 4 → 0 ≤ s0.toInt → s0.toInt ≤ 7 → 7 ≤ s1.toInt → s1.toInt ≤ 7 → 39 ≤ s2.toInt → s2.toInt ≤ 44 → (8 * (40 - l1.toInt) + 4 : Int) < n → Go l RX1 cX1_tieEnds 4 (g_rm (d + 3) 0 0) "tieEnds" none 117 0 0 (fun _ _ => True) (fun r h' => r = none ∧ Iv P h') 0 86 [(0, .ref 57), (1, .int l1), (2, .int l2), (3, .int l3)] [.int s0, .int s1, .int s2, .ref 57] hx) ∧ (∀ (l1 : Int32) (s0 : Int32) (s1 : Int32) (s2 : Int32) (hx : HP), Iv P hx → 0 ≤ l1.toInt → l1.toInt ≤ 39 → 0 ≤ s0.toInt → s0.toInt ≤ 8 → 8 ≤ s1.toInt → s1.toInt ≤ 8 → 39 ≤ s2.toInt → s2.toInt ≤ 44 → (8 * (40 - l1.toInt) + 3 : Int) < n → Go l RX1 cX1_tieEnds 4 (g_rm (d + 3) 0 0) "tieEnds" none 117 0 0 (fun _ _ => True) (fun r h' => r = none ∧ Iv P h') 0 125 [(0, .ref 57), (1, .int l1)] [.int s0, .int s1, .int s2, .ref 57] hx) ∧ (∀ (l1 : Int32) (hx : HP), Iv P hx → 0 ≤ l1.toInt → l1.toInt ≤ 39 → (8 * (40 - l1.toInt) + 2 : Int) < n → Go l RX1 cX1_tieEnds 4 (g_rm (d + 3) 0 0) "tieEnds" none 117 0 0 (fun _ _ => True) (fun r h' => r = none ∧ Iv P h') 0 132 [(0, .ref 57), (1, .int l1)] [] hx) := by
    intro n
    induction n with
    | zero => exact ⟨(by intros; omega), (by intros; omega), (by intros; omega), (by intros; omega), (by intros; omega), (by intros; omega)⟩
    | succ n ih =>
      refine ⟨?_, ?_, ?_, ?_, ?_, ?_⟩
      ·
        intro l1 hx hvx l1l l1u hm
        refine go_iload_n (pc := 2) rfl dX1_tieEnds_2 ?_
        refine go_aload_n (pc := 3) rfl dX1_tieEnds_3 ?_
        refine gi_getC (pc := 4) hvx fL_X1_30 rfl (Nat.le_of_ble_eq_true rfl) rfl (by decide) dX1_tieEnds_4 (fun c1 hc1 fc1 => ?_)
        refine gi_get (pc := 7) (lo := 0) (hi := 40) hvx fL_X1_62 (by rcases hc1 with rfl | rfl <;> rfl) (Nat.le_of_ble_eq_true rfl) rfl (by rcases hc1 with rfl | rfl <;> rfl) dX1_tieEnds_7 (fun v2 v2l v2u v2w => ?_)
        refine gf_icmp_ge (pc := 10) (tgt := 138) (ti_rfl l1) (ti_rfl v2) (by decide) dX1_tieEnds_10 (fun q3 => ?_) (fun q3 => ?_)
        ·
          exact gi_vret (pc := 138) ⟨rfl, hvx⟩ hvx dX1_tieEnds_138
        ·
          refine go_aload_n (pc := 13) rfl dX1_tieEnds_13 ?_
          refine gi_getC (pc := 14) hvx fL_X1_30 rfl (Nat.le_of_ble_eq_true rfl) rfl (by decide) dX1_tieEnds_14 (fun c4 hc4 fc4 => ?_)
          refine gi_getF (pc := 17) (q := c4 + 2) hvx fL_X1_100 (by rcases hc4 with rfl | rfl <;> rfl) (Nat.le_of_ble_eq_true rfl) rfl (by rcases hc4 with rfl | rfl <;> exact hvx.rf (by decide)) dX1_tieEnds_17 ?_
          refine go_iload_n (pc := 20) rfl dX1_tieEnds_20 ?_
          refine gi_iald (pc := 21) (lo := 0) (hi := 5) (len := 40) hvx (ti_rfl l1) (by rcases hc4 with rfl | rfl <;> rfl) (by omega) (by omega) (fun _ => by rcases hc4 with rfl | rfl <;> rfl) dX1_tieEnds_21 (fun v5 v5l v5u v5w => ?_)
          refine go_iconst (pc := 22) (v := 5) (by decide) dX1_tieEnds_22 ?_
          refine gf_icmp_eq (pc := 23) (tgt := 40) (ti_rfl v5) (ti_c (v := 5) (a := 5) (by decide)) (by decide) dX1_tieEnds_23 (fun q6 => ?_) (fun q6 => ?_)
          ·
            exact go_lv rfl (ih.2.1 l1 hx hvx (by omega) (by omega) (by omega))
          ·
            refine go_aload_n (pc := 26) rfl dX1_tieEnds_26 ?_
            refine gi_getC (pc := 27) hvx fL_X1_30 rfl (Nat.le_of_ble_eq_true rfl) rfl (by decide) dX1_tieEnds_27 (fun c7 hc7 fc7 => ?_)
            refine go_iload_n (pc := 30) rfl dX1_tieEnds_30 ?_
            refine go_invV (pc := 31) (sl := 0) (s_X0_escapes l (d + 0) hvx c7 hc7 l1 (by rw [show (l1 : Int32).toInt = l1.toInt from (ti_rfl l1)]; omega) (by rw [show (l1 : Int32).toInt = l1.toInt from (ti_rfl l1)]; omega)) mL_X1_149 iM_X0_escapes sM_X0_escapes (hvx.sh (by rcases hc7 with rfl | rfl <;> rfl)) rfl rfl rfl (Nat.le_of_ble_eq_true rfl) (show d + 0 + 2 + 1 ≤ d + 3 by omega) (show 8 + (2 + 11) + 40 * (d + 0 + 2) ≤ 40 * (d + 3) by omega) (g_c0 hvx.ln) (Nat.le_of_ble_eq_true rfl) dX1_tieEnds_31 ?_
            intro r h8 hq _
            obtain ⟨v9, rfl, v9l, v9u, rfl⟩ := hq
            refine gf_if_ne (pc := 34) (tgt := 40) (ti_rfl v9) (by decide) dX1_tieEnds_34 (fun q10 => ?_) (fun q10 => ?_)
            ·
              exact go_lv rfl (ih.2.1 l1 hx hvx (by omega) (by omega) (by omega))
            ·
              refine go_goto (pc := 37) (tgt := 132) (by decide) dX1_tieEnds_37 ?_
              exact go_lv rfl (ih.2.2.2.2.2 l1 hx hvx (by omega) (by omega) (by omega))
      ·
        intro l1 hx hvx l1l l1u hm
        refine go_aload_n (pc := 40) rfl dX1_tieEnds_40 ?_
        refine gi_getC (pc := 41) hvx fL_X1_30 rfl (Nat.le_of_ble_eq_true rfl) rfl (by decide) dX1_tieEnds_41 (fun c11 hc11 fc11 => ?_)
        refine gi_getF (pc := 44) (q := c11 + 2) hvx fL_X1_100 (by rcases hc11 with rfl | rfl <;> rfl) (Nat.le_of_ble_eq_true rfl) rfl (by rcases hc11 with rfl | rfl <;> exact hvx.rf (by decide)) dX1_tieEnds_44 ?_
        refine go_iload_n (pc := 47) rfl dX1_tieEnds_47 ?_
        refine gi_iald (pc := 48) (lo := 0) (hi := 5) (len := 40) hvx (ti_rfl l1) (by rcases hc11 with rfl | rfl <;> rfl) (by omega) (by omega) (fun _ => by rcases hc11 with rfl | rfl <;> rfl) dX1_tieEnds_48 (fun v12 v12l v12u v12w => ?_)
        refine go_iconst (pc := 49) (v := 1) (by decide) dX1_tieEnds_49 ?_
        refine gf_icmp_ne (pc := 50) (tgt := 57) (ti_rfl v12) (ti_c (v := 1) (a := 1) (by decide)) (by decide) dX1_tieEnds_50 (fun q13 => ?_) (fun q13 => ?_)
        ·
          refine go_iconst (pc := 57) (v := 0) (by decide) dX1_tieEnds_57 ?_
          have z14 : (0 : Int32).toInt = 0 := (ti_c (v := 0) (a := 0) (by decide))
          exact go_lv rfl (ih.2.2.1 l1 0 hx hvx (by omega) (by omega) (by omega) (by omega) (by omega))
        ·
          refine go_iconst (pc := 53) (v := 1) (by decide) dX1_tieEnds_53 ?_
          refine go_goto (pc := 54) (tgt := 58) (by decide) dX1_tieEnds_54 ?_
          have z15 : (1 : Int32).toInt = 1 := (ti_c (v := 1) (a := 1) (by decide))
          exact go_lv rfl (ih.2.2.1 l1 1 hx hvx (by omega) (by omega) (by omega) (by omega) (by omega))
      ·
        intro l1 s0 hx hvx l1l l1u s0l s0u hm
        refine go_istore_n (pc := 58) (Nat.le_of_ble_eq_true rfl) dX1_tieEnds_58 (go_lv (lv2 := [(0, .ref 57), (1, .int l1), (2, .int s0)]) rfl ?_)
        refine go_aload_n (pc := 59) rfl dX1_tieEnds_59 ?_
        refine gi_getC (pc := 60) hvx fL_X1_30 rfl (Nat.le_of_ble_eq_true rfl) rfl (by decide) dX1_tieEnds_60 (fun c16 hc16 fc16 => ?_)
        refine gi_getF (pc := 63) (q := c16 + 3) hvx fL_X1_152 (by rcases hc16 with rfl | rfl <;> rfl) (Nat.le_of_ble_eq_true rfl) rfl (by rcases hc16 with rfl | rfl <;> exact hvx.rf (by decide)) dX1_tieEnds_63 ?_
        refine go_iload_n (pc := 66) rfl dX1_tieEnds_66 ?_
        refine gi_iald (pc := 67) (lo := -1) (hi := 4) (len := 40) hvx (ti_rfl l1) (by rcases hc16 with rfl | rfl <;> rfl) (by omega) (by omega) (fun _ => by rcases hc16 with rfl | rfl <;> rfl) dX1_tieEnds_67 (fun v17 v17l v17u v17w => ?_)
        refine go_istore_n (pc := 68) (Nat.le_of_ble_eq_true rfl) dX1_tieEnds_68 (go_lv (lv2 := [(0, .ref 57), (1, .int l1), (2, .int s0), (3, .int v17)]) rfl ?_)
        refine go_aload_n (pc := 69) rfl dX1_tieEnds_69 ?_
        refine go_bipush (pc := 70) (v := 40) (by decide) dX1_tieEnds_70 ?_
        refine go_iload_n (pc := 72) rfl dX1_tieEnds_72 ?_
        refine gf_iadd (pc := 73) (ti_c (v := 40) (a := 40) (by decide)) (ti_rfl v17) (by omega) (by omega) dX1_tieEnds_73 (fun v18 e19 => ?_)
        refine go_bipush (pc := 74) (v := 7) (by decide) dX1_tieEnds_74 ?_
        refine go_iload_n (pc := 76) rfl dX1_tieEnds_76 ?_
        refine gf_if_eq (pc := 77) (tgt := 85) (ti_rfl s0) (by decide) dX1_tieEnds_77 (fun q20 => ?_) (fun q20 => ?_)
        ·
          refine go_iconst (pc := 85) (v := 0) (by decide) dX1_tieEnds_85 ?_
          have z21 : (0 : Int32).toInt = 0 := (ti_c (v := 0) (a := 0) (by decide))
          have z22 : (7 : Int32).toInt = 7 := (ti_c (v := 7) (a := 7) (by decide))
          have z23 : (v18 : Int32).toInt = (40 + v17.toInt) := e19
          exact go_lv rfl (ih.2.2.2.1 l1 s0 v17 0 7 v18 hx hvx (by omega) (by omega) (by omega) (by omega) (by omega) (by omega) (by omega) (by omega) (by omega) (by omega) (by omega) (by omega) (by omega))
        ·
          refine go_bipush (pc := 80) (v := 7) (by decide) dX1_tieEnds_80 ?_
          refine go_goto (pc := 82) (tgt := 86) (by decide) dX1_tieEnds_82 ?_
          have z24 : (7 : Int32).toInt = 7 := (ti_c (v := 7) (a := 7) (by decide))
          have z25 : (7 : Int32).toInt = 7 := (ti_c (v := 7) (a := 7) (by decide))
          have z26 : (v18 : Int32).toInt = (40 + v17.toInt) := e19
          exact go_lv rfl (ih.2.2.2.1 l1 s0 v17 7 7 v18 hx hvx (by omega) (by omega) (by omega) (by omega) (by omega) (by omega) (by omega) (by omega) (by omega) (by omega) (by omega) (by omega) (by omega))
      ·
        intro l1 l2 l3 s0 s1 s2 hx hvx l1l l1u l2l l2u l3l l3u s0l s0u s1l s1u s2l s2u hm
        refine go_iload_n (pc := 86) rfl dX1_tieEnds_86 ?_
        refine go_invS (pc := 87) (sl := 0) (s_X7_bit l (d + 1) hvx l1) mL_X1_79 iM_X7_bit rfl rfl (Nat.le_of_ble_eq_true rfl) (show d + 1 + 1 + 1 ≤ d + 3 by omega) (show 8 + (1 + 11) + 40 * (d + 1 + 1) ≤ 40 * (d + 3) by omega) (g_c0 hvx.ln) (Nat.le_of_ble_eq_true rfl) dX1_tieEnds_87 ?_
        intro r h27 hq _
        obtain ⟨v28, rfl, rfl⟩ := hq
        refine go_invV (pc := 90) (sl := 0) (s_X1_tie l (d + 1) hvx s2 (by rw [show (s2 : Int32).toInt = s2.toInt from (ti_rfl s2)]; omega) (by rw [show (s2 : Int32).toInt = s2.toInt from (ti_rfl s2)]; omega) s1 (by rw [show (s1 : Int32).toInt = s1.toInt from (ti_rfl s1)]; omega) (by rw [show (s1 : Int32).toInt = s1.toInt from (ti_rfl s1)]; omega) s0 (by rw [show (s0 : Int32).toInt = s0.toInt from (ti_rfl s0)]; omega) (by rw [show (s0 : Int32).toInt = s0.toInt from (ti_rfl s0)]; omega) v28) mL_X1_103 iM_X1_tie sM_X1_tie (hvx.sh rfl) rfl rfl rfl (Nat.le_of_ble_eq_true rfl) (show d + 1 + 1 + 1 ≤ d + 3 by omega) (show 8 + (6 + 11) + 40 * (d + 1 + 1) ≤ 40 * (d + 3) by omega) (g_c0 hvx.ln) (Nat.le_of_ble_eq_true rfl) dX1_tieEnds_90 ?_
        intro r h29 hq _
        obtain ⟨rfl, hv29⟩ := hq
        refine go_aload_n (pc := 93) rfl dX1_tieEnds_93 ?_
        refine gi_getC (pc := 94) hv29 fL_X1_30 rfl (Nat.le_of_ble_eq_true rfl) rfl (by decide) dX1_tieEnds_94 (fun c30 hc30 fc30 => ?_)
        refine gi_get (pc := 97) (lo := -2147483648) (hi := 2147483647) hv29 fL_X1_155 (by rcases hc30 with rfl | rfl <;> rfl) (Nat.le_of_ble_eq_true rfl) rfl (by rcases hc30 with rfl | rfl <;> rfl) dX1_tieEnds_97 (fun v31 v31l v31u v31w => ?_)
        refine gu_i2l (pc := 100) dX1_tieEnds_100 (fun v32 => ?_)
        refine go_iload_n (pc := 101) rfl dX1_tieEnds_101 ?_
        refine go_invS (pc := 102) (sl := 0) (s_X7_has l (d + 1) hv29 v32 l3) mL_X1_56 iM_X7_has rfl rfl (Nat.le_of_ble_eq_true rfl) (show d + 1 + 1 + 1 ≤ d + 3 by omega) (show 8 + (3 + 11) + 40 * (d + 1 + 1) ≤ 40 * (d + 3) by omega) (g_c0 hv29.ln) (Nat.le_of_ble_eq_true rfl) dX1_tieEnds_102 ?_
        intro r h33 hq _
        obtain ⟨v34, rfl, v34l, v34u, rfl⟩ := hq
        refine gf_if_eq (pc := 105) (tgt := 132) (ti_rfl v34) (by decide) dX1_tieEnds_105 (fun q35 => ?_) (fun q35 => ?_)
        ·
          exact go_lv rfl (ih.2.2.2.2.2 l1 h29 hv29 (by omega) (by omega) (by omega))
        ·
          refine go_aload_n (pc := 108) rfl dX1_tieEnds_108 ?_
          refine go_bipush (pc := 109) (v := 40) (by decide) dX1_tieEnds_109 ?_
          refine go_iload_n (pc := 111) rfl dX1_tieEnds_111 ?_
          refine gf_iadd (pc := 112) (ti_c (v := 40) (a := 40) (by decide)) (ti_rfl l3) (by omega) (by omega) dX1_tieEnds_112 (fun v36 e37 => ?_)
          refine go_bipush (pc := 113) (v := 8) (by decide) dX1_tieEnds_113 ?_
          refine go_iload_n (pc := 115) rfl dX1_tieEnds_115 ?_
          refine gf_if_eq (pc := 116) (tgt := 124) (ti_rfl l2) (by decide) dX1_tieEnds_116 (fun q38 => ?_) (fun q38 => ?_)
          ·
            refine go_iconst (pc := 124) (v := 0) (by decide) dX1_tieEnds_124 ?_
            have z39 : (0 : Int32).toInt = 0 := (ti_c (v := 0) (a := 0) (by decide))
            have z40 : (8 : Int32).toInt = 8 := (ti_c (v := 8) (a := 8) (by decide))
            have z41 : (v36 : Int32).toInt = (40 + l3.toInt) := e37
            exact go_lv rfl (ih.2.2.2.2.1 l1 0 8 v36 h29 hv29 (by omega) (by omega) (by omega) (by omega) (by omega) (by omega) (by omega) (by omega) (by omega))
          ·
            refine go_bipush (pc := 119) (v := 8) (by decide) dX1_tieEnds_119 ?_
            refine go_goto (pc := 121) (tgt := 125) (by decide) dX1_tieEnds_121 ?_
            have z42 : (8 : Int32).toInt = 8 := (ti_c (v := 8) (a := 8) (by decide))
            have z43 : (8 : Int32).toInt = 8 := (ti_c (v := 8) (a := 8) (by decide))
            have z44 : (v36 : Int32).toInt = (40 + l3.toInt) := e37
            exact go_lv rfl (ih.2.2.2.2.1 l1 8 8 v36 h29 hv29 (by omega) (by omega) (by omega) (by omega) (by omega) (by omega) (by omega) (by omega) (by omega))
      ·
        intro l1 s0 s1 s2 hx hvx l1l l1u s0l s0u s1l s1u s2l s2u hm
        refine go_iload_n (pc := 125) rfl dX1_tieEnds_125 ?_
        refine go_invS (pc := 126) (sl := 0) (s_X7_bit l (d + 1) hvx l1) mL_X1_79 iM_X7_bit rfl rfl (Nat.le_of_ble_eq_true rfl) (show d + 1 + 1 + 1 ≤ d + 3 by omega) (show 8 + (1 + 11) + 40 * (d + 1 + 1) ≤ 40 * (d + 3) by omega) (g_c0 hvx.ln) (Nat.le_of_ble_eq_true rfl) dX1_tieEnds_126 ?_
        intro r h45 hq _
        obtain ⟨v46, rfl, rfl⟩ := hq
        refine go_invV (pc := 129) (sl := 0) (s_X1_tie l (d + 1) hvx s2 (by rw [show (s2 : Int32).toInt = s2.toInt from (ti_rfl s2)]; omega) (by rw [show (s2 : Int32).toInt = s2.toInt from (ti_rfl s2)]; omega) s1 (by rw [show (s1 : Int32).toInt = s1.toInt from (ti_rfl s1)]; omega) (by rw [show (s1 : Int32).toInt = s1.toInt from (ti_rfl s1)]; omega) s0 (by rw [show (s0 : Int32).toInt = s0.toInt from (ti_rfl s0)]; omega) (by rw [show (s0 : Int32).toInt = s0.toInt from (ti_rfl s0)]; omega) v46) mL_X1_103 iM_X1_tie sM_X1_tie (hvx.sh rfl) rfl rfl rfl (Nat.le_of_ble_eq_true rfl) (show d + 1 + 1 + 1 ≤ d + 3 by omega) (show 8 + (6 + 11) + 40 * (d + 1 + 1) ≤ 40 * (d + 3) by omega) (g_c0 hvx.ln) (Nat.le_of_ble_eq_true rfl) dX1_tieEnds_129 ?_
        intro r h47 hq _
        obtain ⟨rfl, hv47⟩ := hq
        exact go_lv rfl (ih.2.2.2.2.2 l1 h47 hv47 (by omega) (by omega) (by omega))
      ·
        intro l1 hx hvx l1l l1u hm
        refine gf_iinc (pc := 132) (Nat.le_of_ble_eq_true rfl) rfl (ti_rfl l1) (ti_c (by decide)) (by omega) (by omega) dX1_tieEnds_132 (fun v48 e49 => ?_)
        refine go_lv (lv2 := [(0, .ref 57), (1, .int v48)]) rfl ?_
        refine go_goto (pc := 135) (tgt := 2) (by decide) dX1_tieEnds_135 ?_
        have z50 : (v48 : Int32).toInt = (l1.toInt + 1) := e49
        exact go_lv rfl (ih.1 v48 hx hvx (by omega) (by omega) (by omega))
  refine go_iconst (pc := 0) (v := 0) (by decide) dX1_tieEnds_0 ?_
  refine go_istore_n (pc := 1) (Nat.le_of_ble_eq_true rfl) dX1_tieEnds_1 (go_lv (lv2 := [(0, .ref 57), (1, .int 0)]) rfl ?_)
  have z51 : (0 : Int32).toInt = 0 := (ti_c (v := 0) (a := 0) (by decide))
  exact go_lv rfl ((key 349).1 0 h hv (by omega) (by omega) (by omega))
set_option maxHeartbeats 4000000 in
set_option maxRecDepth 100000 in
theorem s_X1_tieCalls (l : Launch) (d : Nat) {P : PP} {h : HP} (hv : Iv P h)  : Mt l yX1_tieCalls cX1_tieCalls 3 none (d + 2) [.ref 57] h 0 0 (fun r h' => r = none ∧ Iv P h') := by
  refine Mt_iv hv (by decide) (Nat.le_of_ble_eq_true rfl) ?_
  show Go l RX1 cX1_tieCalls 3 (g_rm (d + 2) 0 0) "tieCalls" none 117 0 0 (fun _ _ => True) (fun r h' => r = none ∧ Iv P h') 0 0 [(0, .ref 57)] [] h
  have key : ∀ n : Nat, (∀ (l1 : Int32) (hx : HP), Iv P hx → 0 ≤ l1.toInt → l1.toInt ≤ 40 → (46 * (40 - l1.toInt) + 45 : Int) < n → Go l RX1 cX1_tieCalls 3 (g_rm (d + 2) 0 0) "tieCalls" none 117 0 0 (fun _ _ => True) (fun r h' => r = none ∧ Iv P h') 0 2 [(0, .ref 57), (1, .int l1)] [] hx) ∧ (∀ (l1 : Int32) (l2 : Int32) (hx : HP), Iv P hx → 0 ≤ l1.toInt → l1.toInt ≤ 39 → 1 ≤ l2.toInt → l2.toInt ≤ 13 → (3 * (13 - l2.toInt) + 46 * (40 - l1.toInt) + 4 : Int) < n → Go l RX1 cX1_tieCalls 3 (g_rm (d + 2) 0 0) "tieCalls" none 117 0 0 (fun _ _ => True) (fun r h' => r = none ∧ Iv P h') 0 28 [(0, .ref 57), (1, .int l1), (2, .int l2)] [] hx) ∧ (∀ (l1 : Int32) (hx : HP), Iv P hx → 0 ≤ l1.toInt → l1.toInt ≤ 39 → (46 * (40 - l1.toInt) + 2 : Int) < n → Go l RX1 cX1_tieCalls 3 (g_rm (d + 2) 0 0) "tieCalls" none 117 0 0 (fun _ _ => True) (fun r h' => r = none ∧ Iv P h') 0 51 [(0, .ref 57), (1, .int l1)] [] hx) := by
    intro n
    induction n with
    | zero => exact ⟨(by intros; omega), (by intros; omega), (by intros; omega)⟩
    | succ n ih =>
      refine ⟨?_, ?_, ?_⟩
      ·
        intro l1 hx hvx l1l l1u hm
        refine go_iload_n (pc := 2) rfl dX1_tieCalls_2 ?_
        refine go_aload_n (pc := 3) rfl dX1_tieCalls_3 ?_
        refine gi_getC (pc := 4) hvx fL_X1_30 rfl (Nat.le_of_ble_eq_true rfl) rfl (by decide) dX1_tieCalls_4 (fun c1 hc1 fc1 => ?_)
        refine gi_get (pc := 7) (lo := 0) (hi := 40) hvx fL_X1_62 (by rcases hc1 with rfl | rfl <;> rfl) (Nat.le_of_ble_eq_true rfl) rfl (by rcases hc1 with rfl | rfl <;> rfl) dX1_tieCalls_7 (fun v2 v2l v2u v2w => ?_)
        refine gf_icmp_ge (pc := 10) (tgt := 57) (ti_rfl l1) (ti_rfl v2) (by decide) dX1_tieCalls_10 (fun q3 => ?_) (fun q3 => ?_)
        ·
          exact gi_vret (pc := 57) ⟨rfl, hvx⟩ hvx dX1_tieCalls_57
        ·
          refine go_aload_n (pc := 13) rfl dX1_tieCalls_13 ?_
          refine gi_getC (pc := 14) hvx fL_X1_30 rfl (Nat.le_of_ble_eq_true rfl) rfl (by decide) dX1_tieCalls_14 (fun c4 hc4 fc4 => ?_)
          refine gi_getF (pc := 17) (q := c4 + 2) hvx fL_X1_100 (by rcases hc4 with rfl | rfl <;> rfl) (Nat.le_of_ble_eq_true rfl) rfl (by rcases hc4 with rfl | rfl <;> exact hvx.rf (by decide)) dX1_tieCalls_17 ?_
          refine go_iload_n (pc := 20) rfl dX1_tieCalls_20 ?_
          refine gi_iald (pc := 21) (lo := 0) (hi := 5) (len := 40) hvx (ti_rfl l1) (by rcases hc4 with rfl | rfl <;> rfl) (by omega) (by omega) (fun _ => by rcases hc4 with rfl | rfl <;> rfl) dX1_tieCalls_21 (fun v5 v5l v5u v5w => ?_)
          refine go_iconst (pc := 22) (v := 1) (by decide) dX1_tieCalls_22 ?_
          refine gf_icmp_ne (pc := 23) (tgt := 51) (ti_rfl v5) (ti_c (v := 1) (a := 1) (by decide)) (by decide) dX1_tieCalls_23 (fun q6 => ?_) (fun q6 => ?_)
          ·
            exact go_lv rfl (ih.2.2 l1 hx hvx (by omega) (by omega) (by omega))
          ·
            refine go_iconst (pc := 26) (v := 1) (by decide) dX1_tieCalls_26 ?_
            refine go_istore_n (pc := 27) (Nat.le_of_ble_eq_true rfl) dX1_tieCalls_27 (go_lv (lv2 := [(0, .ref 57), (1, .int l1), (2, .int 1)]) rfl ?_)
            have z7 : (1 : Int32).toInt = 1 := (ti_c (v := 1) (a := 1) (by decide))
            exact go_lv rfl (ih.2.1 l1 1 hx hvx (by omega) (by omega) (by omega) (by omega) (by omega))
      ·
        intro l1 l2 hx hvx l1l l1u l2l l2u hm
        refine go_iload_n (pc := 28) rfl dX1_tieCalls_28 ?_
        refine go_bipush (pc := 29) (v := 13) (by decide) dX1_tieCalls_29 ?_
        refine gf_icmp_ge (pc := 31) (tgt := 51) (ti_rfl l2) (ti_c (v := 13) (a := 13) (by decide)) (by decide) dX1_tieCalls_31 (fun q8 => ?_) (fun q8 => ?_)
        ·
          exact go_lv rfl (ih.2.2 l1 hx hvx (by omega) (by omega) (by omega))
        ·
          refine go_aload_n (pc := 34) rfl dX1_tieCalls_34 ?_
          refine go_iload_n (pc := 35) rfl dX1_tieCalls_35 ?_
          refine go_iload_n (pc := 36) rfl dX1_tieCalls_36 ?_
          refine go_iconst (pc := 37) (v := 0) (by decide) dX1_tieCalls_37 ?_
          refine go_iload_n (pc := 38) rfl dX1_tieCalls_38 ?_
          refine go_invS (pc := 39) (sl := 0) (s_X7_bit l (d + 0) hvx l1) mL_X1_79 iM_X7_bit rfl rfl (Nat.le_of_ble_eq_true rfl) (show d + 0 + 1 + 1 ≤ d + 2 by omega) (show 8 + (1 + 11) + 40 * (d + 0 + 1) ≤ 40 * (d + 2) by omega) (g_c0 hvx.ln) (Nat.le_of_ble_eq_true rfl) dX1_tieCalls_39 ?_
          intro r h9 hq _
          obtain ⟨v10, rfl, rfl⟩ := hq
          refine go_invV (pc := 42) (sl := 0) (s_X1_tie l (d + 0) hvx l1 (by rw [show (l1 : Int32).toInt = l1.toInt from (ti_rfl l1)]; omega) (by rw [show (l1 : Int32).toInt = l1.toInt from (ti_rfl l1)]; omega) l2 (by rw [show (l2 : Int32).toInt = l2.toInt from (ti_rfl l2)]; omega) (by rw [show (l2 : Int32).toInt = l2.toInt from (ti_rfl l2)]; omega) 0 (by rw [show (0 : Int32).toInt = 0 from (ti_c (v := 0) (a := 0) (by decide))]; omega) (by rw [show (0 : Int32).toInt = 0 from (ti_c (v := 0) (a := 0) (by decide))]; omega) v10) mL_X1_103 iM_X1_tie sM_X1_tie (hvx.sh rfl) rfl rfl rfl (Nat.le_of_ble_eq_true rfl) (show d + 0 + 1 + 1 ≤ d + 2 by omega) (show 8 + (6 + 11) + 40 * (d + 0 + 1) ≤ 40 * (d + 2) by omega) (g_c0 hvx.ln) (Nat.le_of_ble_eq_true rfl) dX1_tieCalls_42 ?_
          intro r h11 hq _
          obtain ⟨rfl, hv11⟩ := hq
          refine gf_iinc (pc := 45) (Nat.le_of_ble_eq_true rfl) rfl (ti_rfl l2) (ti_c (by decide)) (by omega) (by omega) dX1_tieCalls_45 (fun v12 e13 => ?_)
          refine go_lv (lv2 := [(0, .ref 57), (1, .int l1), (2, .int v12)]) rfl ?_
          refine go_goto (pc := 48) (tgt := 28) (by decide) dX1_tieCalls_48 ?_
          have z14 : (v12 : Int32).toInt = (l2.toInt + 1) := e13
          exact go_lv rfl (ih.2.1 l1 v12 h11 hv11 (by omega) (by omega) (by omega) (by omega) (by omega))
      ·
        intro l1 hx hvx l1l l1u hm
        refine gf_iinc (pc := 51) (Nat.le_of_ble_eq_true rfl) rfl (ti_rfl l1) (ti_c (by decide)) (by omega) (by omega) dX1_tieCalls_51 (fun v15 e16 => ?_)
        refine go_lv (lv2 := [(0, .ref 57), (1, .int v15)]) rfl ?_
        refine go_goto (pc := 54) (tgt := 2) (by decide) dX1_tieCalls_54 ?_
        have z17 : (v15 : Int32).toInt = (l1.toInt + 1) := e16
        exact go_lv rfl (ih.1 v15 hx hvx (by omega) (by omega) (by omega))
  refine go_iconst (pc := 0) (v := 0) (by decide) dX1_tieCalls_0 ?_
  refine go_istore_n (pc := 1) (Nat.le_of_ble_eq_true rfl) dX1_tieCalls_1 (go_lv (lv2 := [(0, .ref 57), (1, .int 0)]) rfl ?_)
  have z18 : (0 : Int32).toInt = 0 := (ti_c (v := 0) (a := 0) (by decide))
  exact go_lv rfl ((key 1945).1 0 h hv (by omega) (by omega) (by omega))
set_option maxHeartbeats 4000000 in
set_option maxRecDepth 100000 in
theorem s_X1_build (l : Launch) (d : Nat) {P : PP} {h : HP} (hv : Iv P h) (c2 : Nat) (hc2 : c2 = 2 ∨ c2 = 18) : Mt l yX1_build cX1_build 3 none (d + 5) [.ref 57, .ref c2] h 0 0 (fun r h' => r = none ∧ Iv P h') := by
  refine Mt_iv hv (by decide) (Nat.le_of_ble_eq_true rfl) ?_
  show Go l RX1 cX1_build 3 (g_rm (d + 5) 0 0) "build" none 117 0 0 (fun _ _ => True) (fun r h' => r = none ∧ Iv P h') 0 0 [(0, .ref 57), (1, .ref c2)] [] h
  have key : ∀ n : Nat, (∀ (l2 : Int32) (hx : HP), Iv P hx → 0 ≤ l2.toInt → l2.toInt ≤ 10 → (3 * (10 - l2.toInt) + 2 : Int) < n → Go l RX1 cX1_build 3 (g_rm (d + 5) 0 0) "build" none 117 0 0 (fun _ _ => True) (fun r h' => r = none ∧ Iv P h') 0 35 [(0, .ref 57), (2, .int l2)] [] hx) := by
    intro n
    induction n with
    | zero => exact (by intros; omega)
    | succ n ih =>
      refine ?_
      ·
        intro l2 hx hvx l2l l2u hm
        refine go_iload_n (pc := 35) rfl dX1_build_35 ?_
        refine go_bipush (pc := 36) (v := 10) (by decide) dX1_build_36 ?_
        refine gf_icmp_ge (pc := 38) (tgt := 57) (ti_rfl l2) (ti_c (v := 10) (a := 10) (by decide)) (by decide) dX1_build_38 (fun q1 => ?_) (fun q1 => ?_)
        ·
          refine go_aload_n (pc := 57) rfl dX1_build_57 ?_
          refine go_invV (pc := 58) (sl := 0) (s_X1_tieEnds l (d + 1) hvx ) mL_X1_50 iM_X1_tieEnds sM_X1_tieEnds (hvx.sh rfl) rfl rfl rfl (Nat.le_of_ble_eq_true rfl) (show d + 1 + 3 + 1 ≤ d + 5 by omega) (show 8 + (4 + 11) + 40 * (d + 1 + 3) ≤ 40 * (d + 5) by omega) (g_c0 hvx.ln) (Nat.le_of_ble_eq_true rfl) dX1_build_58 ?_
          intro r h2 hq _
          obtain ⟨rfl, hv2⟩ := hq
          refine go_aload_n (pc := 61) rfl dX1_build_61 ?_
          refine go_invV (pc := 62) (sl := 0) (s_X1_tieCalls l (d + 2) hv2 ) mL_X1_53 iM_X1_tieCalls sM_X1_tieCalls (hv2.sh rfl) rfl rfl rfl (Nat.le_of_ble_eq_true rfl) (show d + 2 + 2 + 1 ≤ d + 5 by omega) (show 8 + (3 + 11) + 40 * (d + 2 + 2) ≤ 40 * (d + 5) by omega) (g_c0 hv2.ln) (Nat.le_of_ble_eq_true rfl) dX1_build_62 ?_
          intro r h3 hq _
          obtain ⟨rfl, hv3⟩ := hq
          exact gi_vret (pc := 65) ⟨rfl, hv3⟩ hv3 dX1_build_65
        ·
          refine go_aload_n (pc := 41) rfl dX1_build_41 ?_
          refine go_iload_n (pc := 42) rfl dX1_build_42 ?_
          refine go_invV (pc := 43) (sl := 0) (s_X1_findTellers l (d + 0) hvx l2 (by rw [show (l2 : Int32).toInt = l2.toInt from (ti_rfl l2)]; omega) (by rw [show (l2 : Int32).toInt = l2.toInt from (ti_rfl l2)]; omega)) mL_X1_43 iM_X1_findTellers sM_X1_findTellers (hvx.sh rfl) rfl rfl rfl (Nat.le_of_ble_eq_true rfl) (show d + 0 + 4 + 1 ≤ d + 5 by omega) (show 8 + (5 + 11) + 40 * (d + 0 + 4) ≤ 40 * (d + 5) by omega) (g_c0 hvx.ln) (Nat.le_of_ble_eq_true rfl) dX1_build_43 ?_
          intro r h4 hq _
          obtain ⟨rfl, hv4⟩ := hq
          refine go_aload_n (pc := 46) rfl dX1_build_46 ?_
          refine go_iload_n (pc := 47) rfl dX1_build_47 ?_
          refine go_invV (pc := 48) (sl := 0) (s_X1_tieByValue l (d + 1) hv4 l2 (by rw [show (l2 : Int32).toInt = l2.toInt from (ti_rfl l2)]; omega) (by rw [show (l2 : Int32).toInt = l2.toInt from (ti_rfl l2)]; omega)) mL_X1_47 iM_X1_tieByValue sM_X1_tieByValue (hv4.sh rfl) rfl rfl rfl (Nat.le_of_ble_eq_true rfl) (show d + 1 + 3 + 1 ≤ d + 5 by omega) (show 8 + (4 + 11) + 40 * (d + 1 + 3) ≤ 40 * (d + 5) by omega) (g_c0 hv4.ln) (Nat.le_of_ble_eq_true rfl) dX1_build_48 ?_
          intro r h5 hq _
          obtain ⟨rfl, hv5⟩ := hq
          refine gf_iinc (pc := 51) (Nat.le_of_ble_eq_true rfl) rfl (ti_rfl l2) (ti_c (by decide)) (by omega) (by omega) dX1_build_51 (fun v6 e7 => ?_)
          refine go_lv (lv2 := [(0, .ref 57), (2, .int v6)]) rfl ?_
          refine go_goto (pc := 54) (tgt := 35) (by decide) dX1_build_54 ?_
          have z8 : (v6 : Int32).toInt = (l2.toInt + 1) := e7
          exact go_lv rfl (ih v6 h5 hv5 (by omega) (by omega) (by omega))
  refine go_aload_n (pc := 0) rfl dX1_build_0 ?_
  refine go_aload_n (pc := 1) rfl dX1_build_1 ?_
  refine gi_putC (pc := 2) hv hc2 (fP_X1_30 _) rfl (Nat.le_of_ble_eq_true rfl) rfl (fun _ => rfl) (fun _ => rfl) (by decide) (by decide) (by decide) (by decide) dX1_build_2 (fun h9 hv9 hv9e => ?_)
  refine go_aload_n (pc := 5) rfl dX1_build_5 ?_
  refine gi_getF (pc := 6) (q := 58) hv9 fL_X1_9 rfl (Nat.le_of_ble_eq_true rfl) rfl (hv9.rf (by decide)) dX1_build_6 ?_
  refine go_lconst (pc := 9) (v := 0) (by decide) dX1_build_9 ?_
  refine go_invS (pc := 10) (sl := 0) (s_J7_fill_d0a16_at58 l (d + 3) hv9 (0 : Int64)) mL_X1_34 iM_J7_fill_d0a16 rfl rfl (Nat.le_of_ble_eq_true rfl) (show d + 3 + 1 + 1 ≤ d + 5 by omega) (show 8 + (5 + 11) + 40 * (d + 3 + 1) ≤ 40 * (d + 5) by omega) (g_c0 hv9.ln) (Nat.le_of_ble_eq_true rfl) dX1_build_10 ?_
  intro r h10 hq _
  obtain ⟨rfl, hv10⟩ := hq
  refine go_aload_n (pc := 13) rfl dX1_build_13 ?_
  refine gi_getF (pc := 14) (q := 59) hv10 fL_X1_15 rfl (Nat.le_of_ble_eq_true rfl) rfl (hv10.rf (by decide)) dX1_build_14 ?_
  refine go_lconst (pc := 17) (v := 0) (by decide) dX1_build_17 ?_
  refine go_invS (pc := 18) (sl := 0) (s_J7_fill_d0a16_at59 l (d + 3) hv10 (0 : Int64)) mL_X1_34 iM_J7_fill_d0a16 rfl rfl (Nat.le_of_ble_eq_true rfl) (show d + 3 + 1 + 1 ≤ d + 5 by omega) (show 8 + (5 + 11) + 40 * (d + 3 + 1) ≤ 40 * (d + 5) by omega) (g_c0 hv10.ln) (Nat.le_of_ble_eq_true rfl) dX1_build_18 ?_
  intro r h11 hq _
  obtain ⟨rfl, hv11⟩ := hq
  refine go_aload_n (pc := 21) rfl dX1_build_21 ?_
  refine gi_getF (pc := 22) (q := 60) hv11 fL_X1_18 rfl (Nat.le_of_ble_eq_true rfl) rfl (hv11.rf (by decide)) dX1_build_22 ?_
  refine go_lconst (pc := 25) (v := 0) (by decide) dX1_build_25 ?_
  refine go_invS (pc := 26) (sl := 0) (s_J7_fill_d0a16_at60 l (d + 3) hv11 (0 : Int64)) mL_X1_34 iM_J7_fill_d0a16 rfl rfl (Nat.le_of_ble_eq_true rfl) (show d + 3 + 1 + 1 ≤ d + 5 by omega) (show 8 + (5 + 11) + 40 * (d + 3 + 1) ≤ 40 * (d + 5) by omega) (g_c0 hv11.ln) (Nat.le_of_ble_eq_true rfl) dX1_build_26 ?_
  intro r h12 hq _
  obtain ⟨rfl, hv12⟩ := hq
  refine go_aload_n (pc := 29) rfl dX1_build_29 ?_
  refine go_invV (pc := 30) (sl := 0) (s_X1_tieByWay l (d + 0) hv12 ) mL_X1_40 iM_X1_tieByWay sM_X1_tieByWay (hv12.sh rfl) rfl rfl rfl (Nat.le_of_ble_eq_true rfl) (show d + 0 + 4 + 1 ≤ d + 5 by omega) (show 8 + (2 + 11) + 40 * (d + 0 + 4) ≤ 40 * (d + 5) by omega) (g_c0 hv12.ln) (Nat.le_of_ble_eq_true rfl) dX1_build_30 ?_
  intro r h13 hq _
  obtain ⟨rfl, hv13⟩ := hq
  refine go_iconst (pc := 33) (v := 0) (by decide) dX1_build_33 ?_
  refine go_istore_n (pc := 34) (Nat.le_of_ble_eq_true rfl) dX1_build_34 (go_lv (lv2 := [(0, .ref 57), (1, .ref c2), (2, .int 0)]) rfl ?_)
  have z14 : (0 : Int32).toInt = 0 := (ti_c (v := 0) (a := 0) (by decide))
  exact go_lv rfl ((key 49) 0 h13 hv13 (by omega) (by omega) (by omega))
