theorem dX4_add_0 : decode cX4_add 0 = .ok (.lload_n 3, 1) := by decide +kernel
theorem dX4_add_1 : decode cX4_add 1 = .ok (.aload_n 1, 1) := by decide +kernel
theorem dX4_add_2 : decode cX4_add 2 = .ok (.iload_n 2, 1) := by decide +kernel
theorem dX4_add_3 : decode cX4_add 3 = .ok (.laload, 1) := by decide +kernel
theorem dX4_add_4 : decode cX4_add 4 = .ok (.ldc2_w 109, 3) := by decide +kernel
theorem dX4_add_7 : decode cX4_add 7 = .ok (.lxor, 1) := by decide +kernel
theorem dX4_add_8 : decode cX4_add 8 = .ok (.land, 1) := by decide +kernel
theorem dX4_add_9 : decode cX4_add 9 = .ok (.lstore 5, 2) := by decide +kernel
theorem dX4_add_11 : decode cX4_add 11 = .ok (.lload 5, 2) := by decide +kernel
theorem dX4_add_13 : decode cX4_add 13 = .ok (.lconst 0, 1) := by decide +kernel
theorem dX4_add_14 : decode cX4_add 14 = .ok (.lcmp, 1) := by decide +kernel
theorem dX4_add_15 : decode cX4_add 15 = .ok (.ifCond .ne 4, 3) := by decide +kernel
theorem dX4_add_18 : decode cX4_add 18 = .ok (.return_, 1) := by decide +kernel
theorem dX4_add_19 : decode cX4_add 19 = .ok (.aload_n 1, 1) := by decide +kernel
theorem dX4_add_20 : decode cX4_add 20 = .ok (.iload_n 2, 1) := by decide +kernel
theorem dX4_add_21 : decode cX4_add 21 = .ok (.dup2, 1) := by decide +kernel
theorem dX4_add_22 : decode cX4_add 22 = .ok (.laload, 1) := by decide +kernel
theorem dX4_add_23 : decode cX4_add 23 = .ok (.lload 5, 2) := by decide +kernel
theorem dX4_add_25 : decode cX4_add 25 = .ok (.lor, 1) := by decide +kernel
theorem dX4_add_26 : decode cX4_add 26 = .ok (.lastore, 1) := by decide +kernel
theorem dX4_add_27 : decode cX4_add 27 = .ok (.iconst 0, 1) := by decide +kernel
theorem dX4_add_28 : decode cX4_add 28 = .ok (.istore 7, 2) := by decide +kernel
theorem dX4_add_30 : decode cX4_add 30 = .ok (.iload 7, 2) := by decide +kernel
theorem dX4_add_32 : decode cX4_add 32 = .ok (.bipush 45, 2) := by decide +kernel
theorem dX4_add_34 : decode cX4_add 34 = .ok (.if_icmp .ge 69, 3) := by decide +kernel
theorem dX4_add_37 : decode cX4_add 37 = .ok (.lload 5, 2) := by decide +kernel
theorem dX4_add_39 : decode cX4_add 39 = .ok (.iload 7, 2) := by decide +kernel
theorem dX4_add_41 : decode cX4_add 41 = .ok (.lushr, 1) := by decide +kernel
theorem dX4_add_42 : decode cX4_add 42 = .ok (.lconst 0, 1) := by decide +kernel
theorem dX4_add_43 : decode cX4_add 43 = .ok (.lcmp, 1) := by decide +kernel
theorem dX4_add_44 : decode cX4_add 44 = .ok (.ifCond .eq 59, 3) := by decide +kernel
theorem dX4_add_47 : decode cX4_add 47 = .ok (.lload 5, 2) := by decide +kernel
theorem dX4_add_49 : decode cX4_add 49 = .ok (.iload 7, 2) := by decide +kernel
theorem dX4_add_51 : decode cX4_add 51 = .ok (.lushr, 1) := by decide +kernel
theorem dX4_add_52 : decode cX4_add 52 = .ok (.lconst 1, 1) := by decide +kernel
theorem dX4_add_53 : decode cX4_add 53 = .ok (.land, 1) := by decide +kernel
theorem dX4_add_54 : decode cX4_add 54 = .ok (.lconst 0, 1) := by decide +kernel
theorem dX4_add_55 : decode cX4_add 55 = .ok (.lcmp, 1) := by decide +kernel
theorem dX4_add_56 : decode cX4_add 56 = .ok (.ifCond .eq 41, 3) := by decide +kernel
theorem dX4_add_59 : decode cX4_add 59 = .ok (.aload_n 0, 1) := by decide +kernel
theorem dX4_add_60 : decode cX4_add 60 = .ok (.getfield 32, 3) := by decide +kernel
theorem dX4_add_63 : decode cX4_add 63 = .ok (.aload_n 0, 1) := by decide +kernel
theorem dX4_add_64 : decode cX4_add 64 = .ok (.getfield 29, 3) := by decide +kernel
theorem dX4_add_67 : decode cX4_add 67 = .ok (.arraylength, 1) := by decide +kernel
theorem dX4_add_68 : decode cX4_add 68 = .ok (.if_icmp .ge 29, 3) := by decide +kernel
theorem dX4_add_71 : decode cX4_add 71 = .ok (.aload_n 0, 1) := by decide +kernel
theorem dX4_add_72 : decode cX4_add 72 = .ok (.getfield 29, 3) := by decide +kernel
theorem dX4_add_75 : decode cX4_add 75 = .ok (.aload_n 0, 1) := by decide +kernel
theorem dX4_add_76 : decode cX4_add 76 = .ok (.getfield 32, 3) := by decide +kernel
theorem dX4_add_79 : decode cX4_add 79 = .ok (.iload 7, 2) := by decide +kernel
theorem dX4_add_81 : decode cX4_add 81 = .ok (.bipush 13, 2) := by decide +kernel
theorem dX4_add_83 : decode cX4_add 83 = .ok (.imul, 1) := by decide +kernel
theorem dX4_add_84 : decode cX4_add 84 = .ok (.iload_n 2, 1) := by decide +kernel
theorem dX4_add_85 : decode cX4_add 85 = .ok (.iadd, 1) := by decide +kernel
theorem dX4_add_86 : decode cX4_add 86 = .ok (.iastore, 1) := by decide +kernel
theorem dX4_add_87 : decode cX4_add 87 = .ok (.aload_n 0, 1) := by decide +kernel
theorem dX4_add_88 : decode cX4_add 88 = .ok (.dup, 1) := by decide +kernel
theorem dX4_add_89 : decode cX4_add 89 = .ok (.getfield 32, 3) := by decide +kernel
theorem dX4_add_92 : decode cX4_add 92 = .ok (.iconst 1, 1) := by decide +kernel
theorem dX4_add_93 : decode cX4_add 93 = .ok (.iadd, 1) := by decide +kernel
theorem dX4_add_94 : decode cX4_add 94 = .ok (.putfield 32, 3) := by decide +kernel
theorem dX4_add_97 : decode cX4_add 97 = .ok (.iinc 7 1, 3) := by decide +kernel
theorem dX4_add_100 : decode cX4_add 100 = .ok (.goto (-70), 3) := by decide +kernel
theorem dX4_add_103 : decode cX4_add 103 = .ok (.return_, 1) := by decide +kernel
theorem dX4_backFrom_0 : decode cX4_backFrom 0 = .ok (.aload_n 0, 1) := by decide +kernel
theorem dX4_backFrom_1 : decode cX4_backFrom 1 = .ok (.getfield 39, 3) := by decide +kernel
theorem dX4_backFrom_4 : decode cX4_backFrom 4 = .ok (.iload_n 1, 1) := by decide +kernel
theorem dX4_backFrom_5 : decode cX4_backFrom 5 = .ok (.invokestatic 102, 3) := by decide +kernel
theorem dX4_backFrom_8 : decode cX4_backFrom 8 = .ok (.ifCond .ne 35, 3) := by decide +kernel
theorem dX4_backFrom_11 : decode cX4_backFrom 11 = .ok (.aload_n 0, 1) := by decide +kernel
theorem dX4_backFrom_12 : decode cX4_backFrom 12 = .ok (.iload_n 1, 1) := by decide +kernel
theorem dX4_backFrom_13 : decode cX4_backFrom 13 = .ok (.invokevirtual 129, 3) := by decide +kernel
theorem dX4_backFrom_16 : decode cX4_backFrom 16 = .ok (.aload_n 0, 1) := by decide +kernel
theorem dX4_backFrom_17 : decode cX4_backFrom 17 = .ok (.invokevirtual 133, 3) := by decide +kernel
theorem dX4_backFrom_20 : decode cX4_backFrom 20 = .ok (.aload_n 0, 1) := by decide +kernel
theorem dX4_backFrom_21 : decode cX4_backFrom 21 = .ok (.getfield 36, 3) := by decide +kernel
theorem dX4_backFrom_24 : decode cX4_backFrom 24 = .ok (.iload_n 1, 1) := by decide +kernel
theorem dX4_backFrom_25 : decode cX4_backFrom 25 = .ok (.aload_n 0, 1) := by decide +kernel
theorem dX4_backFrom_26 : decode cX4_backFrom 26 = .ok (.invokevirtual 136, 3) := by decide +kernel
theorem dX4_backFrom_29 : decode cX4_backFrom 29 = .ok (.lastore, 1) := by decide +kernel
theorem dX4_backFrom_30 : decode cX4_backFrom 30 = .ok (.aload_n 0, 1) := by decide +kernel
theorem dX4_backFrom_31 : decode cX4_backFrom 31 = .ok (.dup, 1) := by decide +kernel
theorem dX4_backFrom_32 : decode cX4_backFrom 32 = .ok (.getfield 39, 3) := by decide +kernel
theorem dX4_backFrom_35 : decode cX4_backFrom 35 = .ok (.iload_n 1, 1) := by decide +kernel
theorem dX4_backFrom_36 : decode cX4_backFrom 36 = .ok (.invokestatic 91, 3) := by decide +kernel
theorem dX4_backFrom_39 : decode cX4_backFrom 39 = .ok (.lor, 1) := by decide +kernel
theorem dX4_backFrom_40 : decode cX4_backFrom 40 = .ok (.putfield 39, 3) := by decide +kernel
theorem dX4_backFrom_43 : decode cX4_backFrom 43 = .ok (.aload_n 0, 1) := by decide +kernel
theorem dX4_backFrom_44 : decode cX4_backFrom 44 = .ok (.getfield 36, 3) := by decide +kernel
theorem dX4_backFrom_47 : decode cX4_backFrom 47 = .ok (.iload_n 1, 1) := by decide +kernel
theorem dX4_backFrom_48 : decode cX4_backFrom 48 = .ok (.laload, 1) := by decide +kernel
theorem dX4_backFrom_49 : decode cX4_backFrom 49 = .ok (.lreturn, 1) := by decide +kernel
theorem dX4_backFromOut_0 : decode cX4_backFromOut 0 = .ok (.aload_n 0, 1) := by decide +kernel
theorem dX4_backFromOut_1 : decode cX4_backFromOut 1 = .ok (.invokevirtual 88, 3) := by decide +kernel
theorem dX4_backFromOut_4 : decode cX4_backFromOut 4 = .ok (.aload_n 0, 1) := by decide +kernel
theorem dX4_backFromOut_5 : decode cX4_backFromOut 5 = .ok (.aload_n 0, 1) := by decide +kernel
theorem dX4_backFromOut_6 : decode cX4_backFromOut 6 = .ok (.getfield 23, 3) := by decide +kernel
theorem dX4_backFromOut_9 : decode cX4_backFromOut 9 = .ok (.bipush 7, 2) := by decide +kernel
theorem dX4_backFromOut_11 : decode cX4_backFromOut 11 = .ok (.iload_n 2, 1) := by decide +kernel
theorem dX4_backFromOut_12 : decode cX4_backFromOut 12 = .ok (.iadd, 1) := by decide +kernel
theorem dX4_backFromOut_13 : decode cX4_backFromOut 13 = .ok (.bipush 40, 2) := by decide +kernel
theorem dX4_backFromOut_15 : decode cX4_backFromOut 15 = .ok (.iload_n 1, 1) := by decide +kernel
theorem dX4_backFromOut_16 : decode cX4_backFromOut 16 = .ok (.iadd, 1) := by decide +kernel
theorem dX4_backFromOut_17 : decode cX4_backFromOut 17 = .ok (.invokestatic 91, 3) := by decide +kernel
theorem dX4_backFromOut_20 : decode cX4_backFromOut 20 = .ok (.invokevirtual 94, 3) := by decide +kernel
theorem dX4_backFromOut_23 : decode cX4_backFromOut 23 = .ok (.aload_n 0, 1) := by decide +kernel
theorem dX4_backFromOut_24 : decode cX4_backFromOut 24 = .ok (.invokevirtual 133, 3) := by decide +kernel
theorem dX4_backFromOut_27 : decode cX4_backFromOut 27 = .ok (.aload_n 0, 1) := by decide +kernel
theorem dX4_backFromOut_28 : decode cX4_backFromOut 28 = .ok (.invokevirtual 136, 3) := by decide +kernel
theorem dX4_backFromOut_31 : decode cX4_backFromOut 31 = .ok (.lreturn, 1) := by decide +kernel
theorem dX4_beginFrom_0 : decode cX4_beginFrom 0 = .ok (.aload_n 0, 1) := by decide +kernel
theorem dX4_beginFrom_1 : decode cX4_beginFrom 1 = .ok (.invokevirtual 88, 3) := by decide +kernel
theorem dX4_beginFrom_4 : decode cX4_beginFrom 4 = .ok (.aload_n 0, 1) := by decide +kernel
theorem dX4_beginFrom_5 : decode cX4_beginFrom 5 = .ok (.getfield 58, 3) := by decide +kernel
theorem dX4_beginFrom_8 : decode cX4_beginFrom 8 = .ok (.getfield 124, 3) := by decide +kernel
theorem dX4_beginFrom_11 : decode cX4_beginFrom 11 = .ok (.iload_n 1, 1) := by decide +kernel
theorem dX4_beginFrom_12 : decode cX4_beginFrom 12 = .ok (.iaload, 1) := by decide +kernel
theorem dX4_beginFrom_13 : decode cX4_beginFrom 13 = .ok (.iconst 1, 1) := by decide +kernel
theorem dX4_beginFrom_14 : decode cX4_beginFrom 14 = .ok (.if_icmp .ne 8, 3) := by decide +kernel
theorem dX4_beginFrom_17 : decode cX4_beginFrom 17 = .ok (.bipush 13, 2) := by decide +kernel
theorem dX4_beginFrom_19 : decode cX4_beginFrom 19 = .ok (.goto 4, 3) := by decide +kernel
theorem dX4_beginFrom_22 : decode cX4_beginFrom 22 = .ok (.iconst 1, 1) := by decide +kernel
theorem dX4_beginFrom_23 : decode cX4_beginFrom 23 = .ok (.istore_n 2, 1) := by decide +kernel
theorem dX4_beginFrom_24 : decode cX4_beginFrom 24 = .ok (.iconst 0, 1) := by decide +kernel
theorem dX4_beginFrom_25 : decode cX4_beginFrom 25 = .ok (.istore_n 3, 1) := by decide +kernel
theorem dX4_beginFrom_26 : decode cX4_beginFrom 26 = .ok (.iload_n 3, 1) := by decide +kernel
theorem dX4_beginFrom_27 : decode cX4_beginFrom 27 = .ok (.iload_n 2, 1) := by decide +kernel
theorem dX4_beginFrom_28 : decode cX4_beginFrom 28 = .ok (.if_icmp .ge 22, 3) := by decide +kernel
theorem dX4_beginFrom_31 : decode cX4_beginFrom 31 = .ok (.aload_n 0, 1) := by decide +kernel
theorem dX4_beginFrom_32 : decode cX4_beginFrom 32 = .ok (.aload_n 0, 1) := by decide +kernel
theorem dX4_beginFrom_33 : decode cX4_beginFrom 33 = .ok (.getfield 23, 3) := by decide +kernel
theorem dX4_beginFrom_36 : decode cX4_beginFrom 36 = .ok (.iload_n 3, 1) := by decide +kernel
theorem dX4_beginFrom_37 : decode cX4_beginFrom 37 = .ok (.iload_n 1, 1) := by decide +kernel
theorem dX4_beginFrom_38 : decode cX4_beginFrom 38 = .ok (.invokestatic 91, 3) := by decide +kernel
theorem dX4_beginFrom_41 : decode cX4_beginFrom 41 = .ok (.invokevirtual 94, 3) := by decide +kernel
theorem dX4_beginFrom_44 : decode cX4_beginFrom 44 = .ok (.iinc 3 1, 3) := by decide +kernel
theorem dX4_beginFrom_47 : decode cX4_beginFrom 47 = .ok (.goto (-21), 3) := by decide +kernel
theorem dX4_beginFrom_50 : decode cX4_beginFrom 50 = .ok (.return_, 1) := by decide +kernel
theorem dX4_clearFound_0 : decode cX4_clearFound 0 = .ok (.aload_n 0, 1) := by decide +kernel
theorem dX4_clearFound_1 : decode cX4_clearFound 1 = .ok (.getfield 23, 3) := by decide +kernel
theorem dX4_clearFound_4 : decode cX4_clearFound 4 = .ok (.lconst 0, 1) := by decide +kernel
theorem dX4_clearFound_5 : decode cX4_clearFound 5 = .ok (.invokestatic 106, 3) := by decide +kernel
theorem dX4_clearFound_8 : decode cX4_clearFound 8 = .ok (.aload_n 0, 1) := by decide +kernel
theorem dX4_clearFound_9 : decode cX4_clearFound 9 = .ok (.getfield 26, 3) := by decide +kernel
theorem dX4_clearFound_12 : decode cX4_clearFound 12 = .ok (.lconst 0, 1) := by decide +kernel
theorem dX4_clearFound_13 : decode cX4_clearFound 13 = .ok (.invokestatic 106, 3) := by decide +kernel
theorem dX4_clearFound_16 : decode cX4_clearFound 16 = .ok (.aload_n 0, 1) := by decide +kernel
theorem dX4_clearFound_17 : decode cX4_clearFound 17 = .ok (.iconst 0, 1) := by decide +kernel
theorem dX4_clearFound_18 : decode cX4_clearFound 18 = .ok (.putfield 32, 3) := by decide +kernel
theorem dX4_clearFound_21 : decode cX4_clearFound 21 = .ok (.return_, 1) := by decide +kernel
theorem dX4_completeCalls_0 : decode cX4_completeCalls 0 = .ok (.iconst 0, 1) := by decide +kernel
theorem dX4_completeCalls_1 : decode cX4_completeCalls 1 = .ok (.istore_n 1, 1) := by decide +kernel
theorem dX4_completeCalls_2 : decode cX4_completeCalls 2 = .ok (.iconst 0, 1) := by decide +kernel
theorem dX4_completeCalls_3 : decode cX4_completeCalls 3 = .ok (.istore_n 2, 1) := by decide +kernel
theorem dX4_completeCalls_4 : decode cX4_completeCalls 4 = .ok (.iload_n 2, 1) := by decide +kernel
theorem dX4_completeCalls_5 : decode cX4_completeCalls 5 = .ok (.aload_n 0, 1) := by decide +kernel
theorem dX4_completeCalls_6 : decode cX4_completeCalls 6 = .ok (.getfield 58, 3) := by decide +kernel
theorem dX4_completeCalls_9 : decode cX4_completeCalls 9 = .ok (.getfield 65, 3) := by decide +kernel
theorem dX4_completeCalls_12 : decode cX4_completeCalls 12 = .ok (.if_icmp .ge 91, 3) := by decide +kernel
theorem dX4_completeCalls_15 : decode cX4_completeCalls 15 = .ok (.iconst 1, 1) := by decide +kernel
theorem dX4_completeCalls_16 : decode cX4_completeCalls 16 = .ok (.istore_n 3, 1) := by decide +kernel
theorem dX4_completeCalls_17 : decode cX4_completeCalls 17 = .ok (.iload_n 3, 1) := by decide +kernel
theorem dX4_completeCalls_18 : decode cX4_completeCalls 18 = .ok (.bipush 7, 2) := by decide +kernel
theorem dX4_completeCalls_20 : decode cX4_completeCalls 20 = .ok (.if_icmp .ge 77, 3) := by decide +kernel
theorem dX4_completeCalls_23 : decode cX4_completeCalls 23 = .ok (.aload_n 0, 1) := by decide +kernel
theorem dX4_completeCalls_24 : decode cX4_completeCalls 24 = .ok (.getfield 26, 3) := by decide +kernel
theorem dX4_completeCalls_27 : decode cX4_completeCalls 27 = .ok (.iload_n 3, 1) := by decide +kernel
theorem dX4_completeCalls_28 : decode cX4_completeCalls 28 = .ok (.laload, 1) := by decide +kernel
theorem dX4_completeCalls_29 : decode cX4_completeCalls 29 = .ok (.bipush 40, 2) := by decide +kernel
theorem dX4_completeCalls_31 : decode cX4_completeCalls 31 = .ok (.iload_n 2, 1) := by decide +kernel
theorem dX4_completeCalls_32 : decode cX4_completeCalls 32 = .ok (.iadd, 1) := by decide +kernel
theorem dX4_completeCalls_33 : decode cX4_completeCalls 33 = .ok (.invokestatic 102, 3) := by decide +kernel
theorem dX4_completeCalls_36 : decode cX4_completeCalls 36 = .ok (.ifCond .eq 55, 3) := by decide +kernel
theorem dX4_completeCalls_39 : decode cX4_completeCalls 39 = .ok (.aload_n 0, 1) := by decide +kernel
theorem dX4_completeCalls_40 : decode cX4_completeCalls 40 = .ok (.getfield 15, 3) := by decide +kernel
theorem dX4_completeCalls_43 : decode cX4_completeCalls 43 = .ok (.iload_n 2, 1) := by decide +kernel
theorem dX4_completeCalls_44 : decode cX4_completeCalls 44 = .ok (.laload, 1) := by decide +kernel
theorem dX4_completeCalls_45 : decode cX4_completeCalls 45 = .ok (.aload_n 0, 1) := by decide +kernel
theorem dX4_completeCalls_46 : decode cX4_completeCalls 46 = .ok (.getfield 26, 3) := by decide +kernel
theorem dX4_completeCalls_49 : decode cX4_completeCalls 49 = .ok (.iconst 0, 1) := by decide +kernel
theorem dX4_completeCalls_50 : decode cX4_completeCalls 50 = .ok (.laload, 1) := by decide +kernel
theorem dX4_completeCalls_51 : decode cX4_completeCalls 51 = .ok (.land, 1) := by decide +kernel
theorem dX4_completeCalls_52 : decode cX4_completeCalls 52 = .ok (.aload_n 0, 1) := by decide +kernel
theorem dX4_completeCalls_53 : decode cX4_completeCalls 53 = .ok (.getfield 23, 3) := by decide +kernel
theorem dX4_completeCalls_56 : decode cX4_completeCalls 56 = .ok (.iload_n 3, 1) := by decide +kernel
theorem dX4_completeCalls_57 : decode cX4_completeCalls 57 = .ok (.laload, 1) := by decide +kernel
theorem dX4_completeCalls_58 : decode cX4_completeCalls 58 = .ok (.ldc2_w 109, 3) := by decide +kernel
theorem dX4_completeCalls_61 : decode cX4_completeCalls 61 = .ok (.lxor, 1) := by decide +kernel
theorem dX4_completeCalls_62 : decode cX4_completeCalls 62 = .ok (.land, 1) := by decide +kernel
theorem dX4_completeCalls_63 : decode cX4_completeCalls 63 = .ok (.lstore 4, 2) := by decide +kernel
theorem dX4_completeCalls_65 : decode cX4_completeCalls 65 = .ok (.aload_n 0, 1) := by decide +kernel
theorem dX4_completeCalls_66 : decode cX4_completeCalls 66 = .ok (.aload_n 0, 1) := by decide +kernel
theorem dX4_completeCalls_67 : decode cX4_completeCalls 67 = .ok (.getfield 23, 3) := by decide +kernel
theorem dX4_completeCalls_70 : decode cX4_completeCalls 70 = .ok (.iload_n 3, 1) := by decide +kernel
theorem dX4_completeCalls_71 : decode cX4_completeCalls 71 = .ok (.lload 4, 2) := by decide +kernel
theorem dX4_completeCalls_73 : decode cX4_completeCalls 73 = .ok (.invokevirtual 94, 3) := by decide +kernel
theorem dX4_completeCalls_76 : decode cX4_completeCalls 76 = .ok (.iload_n 1, 1) := by decide +kernel
theorem dX4_completeCalls_77 : decode cX4_completeCalls 77 = .ok (.lload 4, 2) := by decide +kernel
theorem dX4_completeCalls_79 : decode cX4_completeCalls 79 = .ok (.lconst 0, 1) := by decide +kernel
theorem dX4_completeCalls_80 : decode cX4_completeCalls 80 = .ok (.lcmp, 1) := by decide +kernel
theorem dX4_completeCalls_81 : decode cX4_completeCalls 81 = .ok (.ifCond .eq 7, 3) := by decide +kernel
theorem dX4_completeCalls_84 : decode cX4_completeCalls 84 = .ok (.iconst 1, 1) := by decide +kernel
theorem dX4_completeCalls_85 : decode cX4_completeCalls 85 = .ok (.goto 4, 3) := by decide +kernel
theorem dX4_completeCalls_88 : decode cX4_completeCalls 88 = .ok (.iconst 0, 1) := by decide +kernel
theorem dX4_completeCalls_89 : decode cX4_completeCalls 89 = .ok (.ior, 1) := by decide +kernel
theorem dX4_completeCalls_90 : decode cX4_completeCalls 90 = .ok (.istore_n 1, 1) := by decide +kernel
theorem dX4_completeCalls_91 : decode cX4_completeCalls 91 = .ok (.iinc 3 1, 3) := by decide +kernel
theorem dX4_completeCalls_94 : decode cX4_completeCalls 94 = .ok (.goto (-77), 3) := by decide +kernel
theorem dX4_completeCalls_97 : decode cX4_completeCalls 97 = .ok (.iinc 2 1, 3) := by decide +kernel
theorem dX4_completeCalls_100 : decode cX4_completeCalls 100 = .ok (.goto (-96), 3) := by decide +kernel
theorem dX4_completeCalls_103 : decode cX4_completeCalls 103 = .ok (.iload_n 1, 1) := by decide +kernel
theorem dX4_completeCalls_104 : decode cX4_completeCalls 104 = .ok (.ireturn, 1) := by decide +kernel
theorem dX4_findKept_0 : decode cX4_findKept 0 = .ok (.aload_n 0, 1) := by decide +kernel
theorem dX4_findKept_1 : decode cX4_findKept 1 = .ok (.iload_n 1, 1) := by decide +kernel
theorem dX4_findKept_2 : decode cX4_findKept 2 = .ok (.invokevirtual 129, 3) := by decide +kernel
theorem dX4_findKept_5 : decode cX4_findKept 5 = .ok (.aload_n 0, 1) := by decide +kernel
theorem dX4_findKept_6 : decode cX4_findKept 6 = .ok (.invokevirtual 133, 3) := by decide +kernel
theorem dX4_findKept_9 : decode cX4_findKept 9 = .ok (.iconst 1, 1) := by decide +kernel
theorem dX4_findKept_10 : decode cX4_findKept 10 = .ok (.istore_n 2, 1) := by decide +kernel
theorem dX4_findKept_11 : decode cX4_findKept 11 = .ok (.iconst 0, 1) := by decide +kernel
theorem dX4_findKept_12 : decode cX4_findKept 12 = .ok (.istore_n 3, 1) := by decide +kernel
theorem dX4_findKept_13 : decode cX4_findKept 13 = .ok (.iload_n 3, 1) := by decide +kernel
theorem dX4_findKept_14 : decode cX4_findKept 14 = .ok (.sipush 240, 3) := by decide +kernel
theorem dX4_findKept_17 : decode cX4_findKept 17 = .ok (.if_icmp .gt 22, 3) := by decide +kernel
theorem dX4_findKept_20 : decode cX4_findKept 20 = .ok (.iload_n 2, 1) := by decide +kernel
theorem dX4_findKept_21 : decode cX4_findKept 21 = .ok (.ifCond .eq 18, 3) := by decide +kernel
theorem dX4_findKept_24 : decode cX4_findKept 24 = .ok (.aload_n 0, 1) := by decide +kernel
theorem dX4_findKept_25 : decode cX4_findKept 25 = .ok (.invokevirtual 149, 3) := by decide +kernel
theorem dX4_findKept_28 : decode cX4_findKept 28 = .ok (.istore_n 2, 1) := by decide +kernel
theorem dX4_findKept_29 : decode cX4_findKept 29 = .ok (.aload_n 0, 1) := by decide +kernel
theorem dX4_findKept_30 : decode cX4_findKept 30 = .ok (.invokevirtual 133, 3) := by decide +kernel
theorem dX4_findKept_33 : decode cX4_findKept 33 = .ok (.iinc 3 1, 3) := by decide +kernel
theorem dX4_findKept_36 : decode cX4_findKept 36 = .ok (.goto (-23), 3) := by decide +kernel
theorem dX4_findKept_39 : decode cX4_findKept 39 = .ok (.aload_n 0, 1) := by decide +kernel
theorem dX4_findKept_40 : decode cX4_findKept 40 = .ok (.invokevirtual 136, 3) := by decide +kernel
theorem dX4_findKept_43 : decode cX4_findKept 43 = .ok (.lreturn, 1) := by decide +kernel
theorem dX4_findOn_0 : decode cX4_findOn 0 = .ok (.aload_n 0, 1) := by decide +kernel
theorem dX4_findOn_1 : decode cX4_findOn 1 = .ok (.aload_n 0, 1) := by decide +kernel
theorem dX4_findOn_2 : decode cX4_findOn 2 = .ok (.getfield 23, 3) := by decide +kernel
theorem dX4_findOn_5 : decode cX4_findOn 5 = .ok (.iconst 1, 1) := by decide +kernel
theorem dX4_findOn_6 : decode cX4_findOn 6 = .ok (.invokevirtual 98, 3) := by decide +kernel
theorem dX4_findOn_9 : decode cX4_findOn 9 = .ok (.iconst 0, 1) := by decide +kernel
theorem dX4_findOn_10 : decode cX4_findOn 10 = .ok (.istore_n 1, 1) := by decide +kernel
theorem dX4_findOn_11 : decode cX4_findOn 11 = .ok (.iload_n 1, 1) := by decide +kernel
theorem dX4_findOn_12 : decode cX4_findOn 12 = .ok (.bipush 13, 2) := by decide +kernel
theorem dX4_findOn_14 : decode cX4_findOn 14 = .ok (.if_icmp .ge 24, 3) := by decide +kernel
theorem dX4_findOn_17 : decode cX4_findOn 17 = .ok (.aload_n 0, 1) := by decide +kernel
theorem dX4_findOn_18 : decode cX4_findOn 18 = .ok (.aload_n 0, 1) := by decide +kernel
theorem dX4_findOn_19 : decode cX4_findOn 19 = .ok (.getfield 26, 3) := by decide +kernel
theorem dX4_findOn_22 : decode cX4_findOn 22 = .ok (.iload_n 1, 1) := by decide +kernel
theorem dX4_findOn_23 : decode cX4_findOn 23 = .ok (.aload_n 0, 1) := by decide +kernel
theorem dX4_findOn_24 : decode cX4_findOn 24 = .ok (.getfield 23, 3) := by decide +kernel
theorem dX4_findOn_27 : decode cX4_findOn 27 = .ok (.iload_n 1, 1) := by decide +kernel
theorem dX4_findOn_28 : decode cX4_findOn 28 = .ok (.laload, 1) := by decide +kernel
theorem dX4_findOn_29 : decode cX4_findOn 29 = .ok (.invokevirtual 94, 3) := by decide +kernel
theorem dX4_findOn_32 : decode cX4_findOn 32 = .ok (.iinc 1 1, 3) := by decide +kernel
theorem dX4_findOn_35 : decode cX4_findOn 35 = .ok (.goto (-24), 3) := by decide +kernel
theorem dX4_findOn_38 : decode cX4_findOn 38 = .ok (.aload_n 0, 1) := by decide +kernel
theorem dX4_findOn_39 : decode cX4_findOn 39 = .ok (.aload_n 0, 1) := by decide +kernel
theorem dX4_findOn_40 : decode cX4_findOn 40 = .ok (.getfield 26, 3) := by decide +kernel
theorem dX4_findOn_43 : decode cX4_findOn 43 = .ok (.iconst 2, 1) := by decide +kernel
theorem dX4_findOn_44 : decode cX4_findOn 44 = .ok (.invokevirtual 98, 3) := by decide +kernel
theorem dX4_findOn_47 : decode cX4_findOn 47 = .ok (.return_, 1) := by decide +kernel
theorem dX4_followCall_0 : decode cX4_followCall 0 = .ok (.aload_n 0, 1) := by decide +kernel
theorem dX4_followCall_1 : decode cX4_followCall 1 = .ok (.getfield 58, 3) := by decide +kernel
theorem dX4_followCall_4 : decode cX4_followCall 4 = .ok (.getfield 121, 3) := by decide +kernel
theorem dX4_followCall_7 : decode cX4_followCall 7 = .ok (.iload_n 2, 1) := by decide +kernel
theorem dX4_followCall_8 : decode cX4_followCall 8 = .ok (.iaload, 1) := by decide +kernel
theorem dX4_followCall_9 : decode cX4_followCall 9 = .ok (.istore 5, 2) := by decide +kernel
theorem dX4_followCall_11 : decode cX4_followCall 11 = .ok (.iload 5, 2) := by decide +kernel
theorem dX4_followCall_13 : decode cX4_followCall 13 = .ok (.ifCond .ge 4, 3) := by decide +kernel
theorem dX4_followCall_16 : decode cX4_followCall 16 = .ok (.return_, 1) := by decide +kernel
theorem dX4_followCall_17 : decode cX4_followCall 17 = .ok (.aload_n 0, 1) := by decide +kernel
theorem dX4_followCall_18 : decode cX4_followCall 18 = .ok (.getfield 19, 3) := by decide +kernel
theorem dX4_followCall_21 : decode cX4_followCall 21 = .ok (.iload 5, 2) := by decide +kernel
theorem dX4_followCall_23 : decode cX4_followCall 23 = .ok (.bipush 6, 2) := by decide +kernel
theorem dX4_followCall_25 : decode cX4_followCall 25 = .ok (.imul, 1) := by decide +kernel
theorem dX4_followCall_26 : decode cX4_followCall 26 = .ok (.iload_n 3, 1) := by decide +kernel
theorem dX4_followCall_27 : decode cX4_followCall 27 = .ok (.iadd, 1) := by decide +kernel
theorem dX4_followCall_28 : decode cX4_followCall 28 = .ok (.bipush 7, 2) := by decide +kernel
theorem dX4_followCall_30 : decode cX4_followCall 30 = .ok (.isub, 1) := by decide +kernel
theorem dX4_followCall_31 : decode cX4_followCall 31 = .ok (.iaload, 1) := by decide +kernel
theorem dX4_followCall_32 : decode cX4_followCall 32 = .ok (.istore 6, 2) := by decide +kernel
theorem dX4_followCall_34 : decode cX4_followCall 34 = .ok (.iconst 0, 1) := by decide +kernel
theorem dX4_followCall_35 : decode cX4_followCall 35 = .ok (.istore 7, 2) := by decide +kernel
theorem dX4_followCall_37 : decode cX4_followCall 37 = .ok (.iload 7, 2) := by decide +kernel
theorem dX4_followCall_39 : decode cX4_followCall 39 = .ok (.bipush 6, 2) := by decide +kernel
theorem dX4_followCall_41 : decode cX4_followCall 41 = .ok (.if_icmp .ge 31, 3) := by decide +kernel
theorem dX4_followCall_44 : decode cX4_followCall 44 = .ok (.iload 6, 2) := by decide +kernel
theorem dX4_followCall_46 : decode cX4_followCall 46 = .ok (.iload 7, 2) := by decide +kernel
theorem dX4_followCall_48 : decode cX4_followCall 48 = .ok (.iushr, 1) := by decide +kernel
theorem dX4_followCall_49 : decode cX4_followCall 49 = .ok (.iconst 1, 1) := by decide +kernel
theorem dX4_followCall_50 : decode cX4_followCall 50 = .ok (.iand, 1) := by decide +kernel
theorem dX4_followCall_51 : decode cX4_followCall 51 = .ok (.ifCond .eq 15, 3) := by decide +kernel
theorem dX4_followCall_54 : decode cX4_followCall 54 = .ok (.aload_n 0, 1) := by decide +kernel
theorem dX4_followCall_55 : decode cX4_followCall 55 = .ok (.aload_n 1, 1) := by decide +kernel
theorem dX4_followCall_56 : decode cX4_followCall 56 = .ok (.iconst 1, 1) := by decide +kernel
theorem dX4_followCall_57 : decode cX4_followCall 57 = .ok (.iload 7, 2) := by decide +kernel
theorem dX4_followCall_59 : decode cX4_followCall 59 = .ok (.iadd, 1) := by decide +kernel
theorem dX4_followCall_60 : decode cX4_followCall 60 = .ok (.lconst 1, 1) := by decide +kernel
theorem dX4_followCall_61 : decode cX4_followCall 61 = .ok (.iload_n 2, 1) := by decide +kernel
theorem dX4_followCall_62 : decode cX4_followCall 62 = .ok (.lshl, 1) := by decide +kernel
theorem dX4_followCall_63 : decode cX4_followCall 63 = .ok (.invokevirtual 94, 3) := by decide +kernel
theorem dX4_followCall_66 : decode cX4_followCall 66 = .ok (.iinc 7 1, 3) := by decide +kernel
theorem dX4_followCall_69 : decode cX4_followCall 69 = .ok (.goto (-32), 3) := by decide +kernel
theorem dX4_followCall_72 : decode cX4_followCall 72 = .ok (.iload 4, 2) := by decide +kernel
theorem dX4_followCall_74 : decode cX4_followCall 74 = .ok (.iconst 2, 1) := by decide +kernel
theorem dX4_followCall_75 : decode cX4_followCall 75 = .ok (.if_icmp .ne 16, 3) := by decide +kernel
theorem dX4_followCall_78 : decode cX4_followCall 78 = .ok (.aload_n 0, 1) := by decide +kernel
theorem dX4_followCall_79 : decode cX4_followCall 79 = .ok (.aload_n 1, 1) := by decide +kernel
theorem dX4_followCall_80 : decode cX4_followCall 80 = .ok (.iload_n 3, 1) := by decide +kernel
theorem dX4_followCall_81 : decode cX4_followCall 81 = .ok (.lconst 1, 1) := by decide +kernel
theorem dX4_followCall_82 : decode cX4_followCall 82 = .ok (.bipush 40, 2) := by decide +kernel
theorem dX4_followCall_84 : decode cX4_followCall 84 = .ok (.iload 5, 2) := by decide +kernel
theorem dX4_followCall_86 : decode cX4_followCall 86 = .ok (.iadd, 1) := by decide +kernel
theorem dX4_followCall_87 : decode cX4_followCall 87 = .ok (.lshl, 1) := by decide +kernel
theorem dX4_followCall_88 : decode cX4_followCall 88 = .ok (.invokevirtual 94, 3) := by decide +kernel
theorem dX4_followCall_91 : decode cX4_followCall 91 = .ok (.return_, 1) := by decide +kernel
theorem dX4_followRow_0 : decode cX4_followRow 0 = .ok (.iload_n 2, 1) := by decide +kernel
theorem dX4_followRow_1 : decode cX4_followRow 1 = .ok (.bipush 13, 2) := by decide +kernel
theorem dX4_followRow_3 : decode cX4_followRow 3 = .ok (.imul, 1) := by decide +kernel
theorem dX4_followRow_4 : decode cX4_followRow 4 = .ok (.istore_n 3, 1) := by decide +kernel
theorem dX4_followRow_5 : decode cX4_followRow 5 = .ok (.iconst 0, 1) := by decide +kernel
theorem dX4_followRow_6 : decode cX4_followRow 6 = .ok (.istore 4, 2) := by decide +kernel
theorem dX4_followRow_8 : decode cX4_followRow 8 = .ok (.iload 4, 2) := by decide +kernel
theorem dX4_followRow_10 : decode cX4_followRow 10 = .ok (.bipush 13, 2) := by decide +kernel
theorem dX4_followRow_12 : decode cX4_followRow 12 = .ok (.if_icmp .ge 39, 3) := by decide +kernel
theorem dX4_followRow_15 : decode cX4_followRow 15 = .ok (.aload_n 0, 1) := by decide +kernel
theorem dX4_followRow_16 : decode cX4_followRow 16 = .ok (.getfield 54, 3) := by decide +kernel
theorem dX4_followRow_19 : decode cX4_followRow 19 = .ok (.getfield 118, 3) := by decide +kernel
theorem dX4_followRow_22 : decode cX4_followRow 22 = .ok (.iload_n 3, 1) := by decide +kernel
theorem dX4_followRow_23 : decode cX4_followRow 23 = .ok (.iload 4, 2) := by decide +kernel
theorem dX4_followRow_25 : decode cX4_followRow 25 = .ok (.iadd, 1) := by decide +kernel
theorem dX4_followRow_26 : decode cX4_followRow 26 = .ok (.laload, 1) := by decide +kernel
theorem dX4_followRow_27 : decode cX4_followRow 27 = .ok (.lstore 5, 2) := by decide +kernel
theorem dX4_followRow_29 : decode cX4_followRow 29 = .ok (.lload 5, 2) := by decide +kernel
theorem dX4_followRow_31 : decode cX4_followRow 31 = .ok (.lconst 0, 1) := by decide +kernel
theorem dX4_followRow_32 : decode cX4_followRow 32 = .ok (.lcmp, 1) := by decide +kernel
theorem dX4_followRow_33 : decode cX4_followRow 33 = .ok (.ifCond .eq 12, 3) := by decide +kernel
theorem dX4_followRow_36 : decode cX4_followRow 36 = .ok (.aload_n 0, 1) := by decide +kernel
theorem dX4_followRow_37 : decode cX4_followRow 37 = .ok (.aload_n 1, 1) := by decide +kernel
theorem dX4_followRow_38 : decode cX4_followRow 38 = .ok (.iload 4, 2) := by decide +kernel
theorem dX4_followRow_40 : decode cX4_followRow 40 = .ok (.lload 5, 2) := by decide +kernel
theorem dX4_followRow_42 : decode cX4_followRow 42 = .ok (.invokevirtual 94, 3) := by decide +kernel
theorem dX4_followRow_45 : decode cX4_followRow 45 = .ok (.iinc 4 1, 3) := by decide +kernel
theorem dX4_followRow_48 : decode cX4_followRow 48 = .ok (.goto (-40), 3) := by decide +kernel
theorem dX4_followRow_51 : decode cX4_followRow 51 = .ok (.return_, 1) := by decide +kernel
theorem dX4_forget_0 : decode cX4_forget 0 = .ok (.aload_n 0, 1) := by decide +kernel
theorem dX4_forget_1 : decode cX4_forget 1 = .ok (.iconst 0, 1) := by decide +kernel
theorem dX4_forget_2 : decode cX4_forget 2 = .ok (.putfield 9, 3) := by decide +kernel
theorem dX4_forget_5 : decode cX4_forget 5 = .ok (.return_, 1) := by decide +kernel
theorem dX4_forthFrom_0 : decode cX4_forthFrom 0 = .ok (.lconst 0, 1) := by decide +kernel
theorem dX4_forthFrom_1 : decode cX4_forthFrom 1 = .ok (.lstore_n 2, 1) := by decide +kernel
theorem dX4_forthFrom_2 : decode cX4_forthFrom 2 = .ok (.iconst 0, 1) := by decide +kernel
theorem dX4_forthFrom_3 : decode cX4_forthFrom 3 = .ok (.istore 4, 2) := by decide +kernel
theorem dX4_forthFrom_5 : decode cX4_forthFrom 5 = .ok (.iload 4, 2) := by decide +kernel
theorem dX4_forthFrom_7 : decode cX4_forthFrom 7 = .ok (.aload_n 0, 1) := by decide +kernel
theorem dX4_forthFrom_8 : decode cX4_forthFrom 8 = .ok (.getfield 58, 3) := by decide +kernel
theorem dX4_forthFrom_11 : decode cX4_forthFrom 11 = .ok (.getfield 140, 3) := by decide +kernel
theorem dX4_forthFrom_14 : decode cX4_forthFrom 14 = .ok (.if_icmp .ge 30, 3) := by decide +kernel
theorem dX4_forthFrom_17 : decode cX4_forthFrom 17 = .ok (.aload_n 0, 1) := by decide +kernel
theorem dX4_forthFrom_18 : decode cX4_forthFrom 18 = .ok (.iload 4, 2) := by decide +kernel
theorem dX4_forthFrom_20 : decode cX4_forthFrom 20 = .ok (.invokevirtual 143, 3) := by decide +kernel
theorem dX4_forthFrom_23 : decode cX4_forthFrom 23 = .ok (.iload_n 1, 1) := by decide +kernel
theorem dX4_forthFrom_24 : decode cX4_forthFrom 24 = .ok (.invokestatic 102, 3) := by decide +kernel
theorem dX4_forthFrom_27 : decode cX4_forthFrom 27 = .ok (.ifCond .eq 11, 3) := by decide +kernel
theorem dX4_forthFrom_30 : decode cX4_forthFrom 30 = .ok (.lload_n 2, 1) := by decide +kernel
theorem dX4_forthFrom_31 : decode cX4_forthFrom 31 = .ok (.iload 4, 2) := by decide +kernel
theorem dX4_forthFrom_33 : decode cX4_forthFrom 33 = .ok (.invokestatic 91, 3) := by decide +kernel
theorem dX4_forthFrom_36 : decode cX4_forthFrom 36 = .ok (.lor, 1) := by decide +kernel
theorem dX4_forthFrom_37 : decode cX4_forthFrom 37 = .ok (.lstore_n 2, 1) := by decide +kernel
theorem dX4_forthFrom_38 : decode cX4_forthFrom 38 = .ok (.iinc 4 1, 3) := by decide +kernel
theorem dX4_forthFrom_41 : decode cX4_forthFrom 41 = .ok (.goto (-36), 3) := by decide +kernel
theorem dX4_forthFrom_44 : decode cX4_forthFrom 44 = .ok (.lload_n 2, 1) := by decide +kernel
theorem dX4_forthFrom_45 : decode cX4_forthFrom 45 = .ok (.lreturn, 1) := by decide +kernel
theorem dX4_growThrough_0 : decode cX4_growThrough 0 = .ok (.iconst 0, 1) := by decide +kernel
theorem dX4_growThrough_1 : decode cX4_growThrough 1 = .ok (.istore_n 1, 1) := by decide +kernel
theorem dX4_growThrough_2 : decode cX4_growThrough 2 = .ok (.iconst 0, 1) := by decide +kernel
theorem dX4_growThrough_3 : decode cX4_growThrough 3 = .ok (.istore_n 2, 1) := by decide +kernel
theorem dX4_growThrough_4 : decode cX4_growThrough 4 = .ok (.iload_n 2, 1) := by decide +kernel
theorem dX4_growThrough_5 : decode cX4_growThrough 5 = .ok (.aload_n 0, 1) := by decide +kernel
theorem dX4_growThrough_6 : decode cX4_growThrough 6 = .ok (.getfield 58, 3) := by decide +kernel
theorem dX4_growThrough_9 : decode cX4_growThrough 9 = .ok (.getfield 65, 3) := by decide +kernel
theorem dX4_growThrough_12 : decode cX4_growThrough 12 = .ok (.if_icmp .ge 68, 3) := by decide +kernel
theorem dX4_growThrough_15 : decode cX4_growThrough 15 = .ok (.iconst 0, 1) := by decide +kernel
theorem dX4_growThrough_16 : decode cX4_growThrough 16 = .ok (.istore_n 3, 1) := by decide +kernel
theorem dX4_growThrough_17 : decode cX4_growThrough 17 = .ok (.iload_n 3, 1) := by decide +kernel
theorem dX4_growThrough_18 : decode cX4_growThrough 18 = .ok (.bipush 6, 2) := by decide +kernel
theorem dX4_growThrough_20 : decode cX4_growThrough 20 = .ok (.if_icmp .ge 54, 3) := by decide +kernel
theorem dX4_growThrough_23 : decode cX4_growThrough 23 = .ok (.aload_n 0, 1) := by decide +kernel
theorem dX4_growThrough_24 : decode cX4_growThrough 24 = .ok (.iload_n 2, 1) := by decide +kernel
theorem dX4_growThrough_25 : decode cX4_growThrough 25 = .ok (.iload_n 3, 1) := by decide +kernel
theorem dX4_growThrough_26 : decode cX4_growThrough 26 = .ok (.invokevirtual 84, 3) := by decide +kernel
theorem dX4_growThrough_29 : decode cX4_growThrough 29 = .ok (.istore 4, 2) := by decide +kernel
theorem dX4_growThrough_31 : decode cX4_growThrough 31 = .ok (.iload_n 1, 1) := by decide +kernel
theorem dX4_growThrough_32 : decode cX4_growThrough 32 = .ok (.iload 4, 2) := by decide +kernel
theorem dX4_growThrough_34 : decode cX4_growThrough 34 = .ok (.aload_n 0, 1) := by decide +kernel
theorem dX4_growThrough_35 : decode cX4_growThrough 35 = .ok (.getfield 19, 3) := by decide +kernel
theorem dX4_growThrough_38 : decode cX4_growThrough 38 = .ok (.iload_n 2, 1) := by decide +kernel
theorem dX4_growThrough_39 : decode cX4_growThrough 39 = .ok (.bipush 6, 2) := by decide +kernel
theorem dX4_growThrough_41 : decode cX4_growThrough 41 = .ok (.imul, 1) := by decide +kernel
theorem dX4_growThrough_42 : decode cX4_growThrough 42 = .ok (.iload_n 3, 1) := by decide +kernel
theorem dX4_growThrough_43 : decode cX4_growThrough 43 = .ok (.iadd, 1) := by decide +kernel
theorem dX4_growThrough_44 : decode cX4_growThrough 44 = .ok (.iaload, 1) := by decide +kernel
theorem dX4_growThrough_45 : decode cX4_growThrough 45 = .ok (.if_icmp .eq 7, 3) := by decide +kernel
theorem dX4_growThrough_48 : decode cX4_growThrough 48 = .ok (.iconst 1, 1) := by decide +kernel
theorem dX4_growThrough_49 : decode cX4_growThrough 49 = .ok (.goto 4, 3) := by decide +kernel
theorem dX4_growThrough_52 : decode cX4_growThrough 52 = .ok (.iconst 0, 1) := by decide +kernel
theorem dX4_growThrough_53 : decode cX4_growThrough 53 = .ok (.ior, 1) := by decide +kernel
theorem dX4_growThrough_54 : decode cX4_growThrough 54 = .ok (.istore_n 1, 1) := by decide +kernel
theorem dX4_growThrough_55 : decode cX4_growThrough 55 = .ok (.aload_n 0, 1) := by decide +kernel
theorem dX4_growThrough_56 : decode cX4_growThrough 56 = .ok (.getfield 19, 3) := by decide +kernel
theorem dX4_growThrough_59 : decode cX4_growThrough 59 = .ok (.iload_n 2, 1) := by decide +kernel
theorem dX4_growThrough_60 : decode cX4_growThrough 60 = .ok (.bipush 6, 2) := by decide +kernel
theorem dX4_growThrough_62 : decode cX4_growThrough 62 = .ok (.imul, 1) := by decide +kernel
theorem dX4_growThrough_63 : decode cX4_growThrough 63 = .ok (.iload_n 3, 1) := by decide +kernel
theorem dX4_growThrough_64 : decode cX4_growThrough 64 = .ok (.iadd, 1) := by decide +kernel
theorem dX4_growThrough_65 : decode cX4_growThrough 65 = .ok (.iload 4, 2) := by decide +kernel
theorem dX4_growThrough_67 : decode cX4_growThrough 67 = .ok (.iastore, 1) := by decide +kernel
theorem dX4_growThrough_68 : decode cX4_growThrough 68 = .ok (.iinc 3 1, 3) := by decide +kernel
theorem dX4_growThrough_71 : decode cX4_growThrough 71 = .ok (.goto (-54), 3) := by decide +kernel
theorem dX4_growThrough_74 : decode cX4_growThrough 74 = .ok (.iinc 2 1, 3) := by decide +kernel
theorem dX4_growThrough_77 : decode cX4_growThrough 77 = .ok (.goto (-73), 3) := by decide +kernel
theorem dX4_growThrough_80 : decode cX4_growThrough 80 = .ok (.iload_n 1, 1) := by decide +kernel
theorem dX4_growThrough_81 : decode cX4_growThrough 81 = .ok (.ireturn, 1) := by decide +kernel
theorem dX4_insFrom_0 : decode cX4_insFrom 0 = .ok (.aload_n 0, 1) := by decide +kernel
theorem dX4_insFrom_1 : decode cX4_insFrom 1 = .ok (.invokevirtual 88, 3) := by decide +kernel
theorem dX4_insFrom_4 : decode cX4_insFrom 4 = .ok (.aload_n 0, 1) := by decide +kernel
theorem dX4_insFrom_5 : decode cX4_insFrom 5 = .ok (.aload_n 0, 1) := by decide +kernel
theorem dX4_insFrom_6 : decode cX4_insFrom 6 = .ok (.getfield 26, 3) := by decide +kernel
theorem dX4_insFrom_9 : decode cX4_insFrom 9 = .ok (.bipush 7, 2) := by decide +kernel
theorem dX4_insFrom_11 : decode cX4_insFrom 11 = .ok (.iload_n 2, 1) := by decide +kernel
theorem dX4_insFrom_12 : decode cX4_insFrom 12 = .ok (.iadd, 1) := by decide +kernel
theorem dX4_insFrom_13 : decode cX4_insFrom 13 = .ok (.bipush 40, 2) := by decide +kernel
theorem dX4_insFrom_15 : decode cX4_insFrom 15 = .ok (.iload_n 1, 1) := by decide +kernel
theorem dX4_insFrom_16 : decode cX4_insFrom 16 = .ok (.iadd, 1) := by decide +kernel
theorem dX4_insFrom_17 : decode cX4_insFrom 17 = .ok (.invokestatic 91, 3) := by decide +kernel
theorem dX4_insFrom_20 : decode cX4_insFrom 20 = .ok (.invokevirtual 94, 3) := by decide +kernel
theorem dX4_insFrom_23 : decode cX4_insFrom 23 = .ok (.aload_n 0, 1) := by decide +kernel
theorem dX4_insFrom_24 : decode cX4_insFrom 24 = .ok (.aload_n 0, 1) := by decide +kernel
theorem dX4_insFrom_25 : decode cX4_insFrom 25 = .ok (.getfield 26, 3) := by decide +kernel
theorem dX4_insFrom_28 : decode cX4_insFrom 28 = .ok (.iconst 0, 1) := by decide +kernel
theorem dX4_insFrom_29 : decode cX4_insFrom 29 = .ok (.invokevirtual 98, 3) := by decide +kernel
theorem dX4_insFrom_32 : decode cX4_insFrom 32 = .ok (.iconst 0, 1) := by decide +kernel
theorem dX4_insFrom_33 : decode cX4_insFrom 33 = .ok (.istore_n 3, 1) := by decide +kernel
theorem dX4_insFrom_34 : decode cX4_insFrom 34 = .ok (.iconst 0, 1) := by decide +kernel
theorem dX4_insFrom_35 : decode cX4_insFrom 35 = .ok (.istore 4, 2) := by decide +kernel
theorem dX4_insFrom_37 : decode cX4_insFrom 37 = .ok (.iload 4, 2) := by decide +kernel
theorem dX4_insFrom_39 : decode cX4_insFrom 39 = .ok (.bipush 6, 2) := by decide +kernel
theorem dX4_insFrom_41 : decode cX4_insFrom 41 = .ok (.if_icmp .ge 35, 3) := by decide +kernel
theorem dX4_insFrom_44 : decode cX4_insFrom 44 = .ok (.aload_n 0, 1) := by decide +kernel
theorem dX4_insFrom_45 : decode cX4_insFrom 45 = .ok (.getfield 26, 3) := by decide +kernel
theorem dX4_insFrom_48 : decode cX4_insFrom 48 = .ok (.iconst 1, 1) := by decide +kernel
theorem dX4_insFrom_49 : decode cX4_insFrom 49 = .ok (.iload 4, 2) := by decide +kernel
theorem dX4_insFrom_51 : decode cX4_insFrom 51 = .ok (.iadd, 1) := by decide +kernel
theorem dX4_insFrom_52 : decode cX4_insFrom 52 = .ok (.laload, 1) := by decide +kernel
theorem dX4_insFrom_53 : decode cX4_insFrom 53 = .ok (.bipush 40, 2) := by decide +kernel
theorem dX4_insFrom_55 : decode cX4_insFrom 55 = .ok (.iload_n 1, 1) := by decide +kernel
theorem dX4_insFrom_56 : decode cX4_insFrom 56 = .ok (.iadd, 1) := by decide +kernel
theorem dX4_insFrom_57 : decode cX4_insFrom 57 = .ok (.invokestatic 102, 3) := by decide +kernel
theorem dX4_insFrom_60 : decode cX4_insFrom 60 = .ok (.ifCond .eq 10, 3) := by decide +kernel
theorem dX4_insFrom_63 : decode cX4_insFrom 63 = .ok (.iload_n 3, 1) := by decide +kernel
theorem dX4_insFrom_64 : decode cX4_insFrom 64 = .ok (.iconst 1, 1) := by decide +kernel
theorem dX4_insFrom_65 : decode cX4_insFrom 65 = .ok (.iload 4, 2) := by decide +kernel
theorem dX4_insFrom_67 : decode cX4_insFrom 67 = .ok (.ishl, 1) := by decide +kernel
theorem dX4_insFrom_68 : decode cX4_insFrom 68 = .ok (.ior, 1) := by decide +kernel
theorem dX4_insFrom_69 : decode cX4_insFrom 69 = .ok (.istore_n 3, 1) := by decide +kernel
theorem dX4_insFrom_70 : decode cX4_insFrom 70 = .ok (.iinc 4 1, 3) := by decide +kernel
theorem dX4_insFrom_73 : decode cX4_insFrom 73 = .ok (.goto (-36), 3) := by decide +kernel
theorem dX4_insFrom_76 : decode cX4_insFrom 76 = .ok (.iload_n 3, 1) := by decide +kernel
theorem dX4_insFrom_77 : decode cX4_insFrom 77 = .ok (.ireturn, 1) := by decide +kernel
theorem dX4_keptFor_0 : decode cX4_keptFor 0 = .ok (.aload_n 0, 1) := by decide +kernel
theorem dX4_keptFor_1 : decode cX4_keptFor 1 = .ok (.getfield 46, 3) := by decide +kernel
theorem dX4_keptFor_4 : decode cX4_keptFor 4 = .ok (.iload_n 1, 1) := by decide +kernel
theorem dX4_keptFor_5 : decode cX4_keptFor 5 = .ok (.invokestatic 102, 3) := by decide +kernel
theorem dX4_keptFor_8 : decode cX4_keptFor 8 = .ok (.ifCond .ne 27, 3) := by decide +kernel
theorem dX4_keptFor_11 : decode cX4_keptFor 11 = .ok (.aload_n 0, 1) := by decide +kernel
theorem dX4_keptFor_12 : decode cX4_keptFor 12 = .ok (.getfield 43, 3) := by decide +kernel
theorem dX4_keptFor_15 : decode cX4_keptFor 15 = .ok (.iload_n 1, 1) := by decide +kernel
theorem dX4_keptFor_16 : decode cX4_keptFor 16 = .ok (.aload_n 0, 1) := by decide +kernel
theorem dX4_keptFor_17 : decode cX4_keptFor 17 = .ok (.iload_n 1, 1) := by decide +kernel
theorem dX4_keptFor_18 : decode cX4_keptFor 18 = .ok (.invokevirtual 146, 3) := by decide +kernel
theorem dX4_keptFor_21 : decode cX4_keptFor 21 = .ok (.lastore, 1) := by decide +kernel
theorem dX4_keptFor_22 : decode cX4_keptFor 22 = .ok (.aload_n 0, 1) := by decide +kernel
theorem dX4_keptFor_23 : decode cX4_keptFor 23 = .ok (.dup, 1) := by decide +kernel
theorem dX4_keptFor_24 : decode cX4_keptFor 24 = .ok (.getfield 46, 3) := by decide +kernel
theorem dX4_keptFor_27 : decode cX4_keptFor 27 = .ok (.iload_n 1, 1) := by decide +kernel
theorem dX4_keptFor_28 : decode cX4_keptFor 28 = .ok (.invokestatic 91, 3) := by decide +kernel
theorem dX4_keptFor_31 : decode cX4_keptFor 31 = .ok (.lor, 1) := by decide +kernel
theorem dX4_keptFor_32 : decode cX4_keptFor 32 = .ok (.putfield 46, 3) := by decide +kernel
theorem dX4_keptFor_35 : decode cX4_keptFor 35 = .ok (.aload_n 0, 1) := by decide +kernel
theorem dX4_keptFor_36 : decode cX4_keptFor 36 = .ok (.getfield 43, 3) := by decide +kernel
theorem dX4_keptFor_39 : decode cX4_keptFor 39 = .ok (.iload_n 1, 1) := by decide +kernel
theorem dX4_keptFor_40 : decode cX4_keptFor 40 = .ok (.laload, 1) := by decide +kernel
theorem dX4_keptFor_41 : decode cX4_keptFor 41 = .ok (.lreturn, 1) := by decide +kernel
theorem dX4_leadsThrough_0 : decode cX4_leadsThrough 0 = .ok (.aload_n 0, 1) := by decide +kernel
theorem dX4_leadsThrough_1 : decode cX4_leadsThrough 1 = .ok (.getfield 19, 3) := by decide +kernel
theorem dX4_leadsThrough_4 : decode cX4_leadsThrough 4 = .ok (.iload_n 1, 1) := by decide +kernel
theorem dX4_leadsThrough_5 : decode cX4_leadsThrough 5 = .ok (.bipush 6, 2) := by decide +kernel
theorem dX4_leadsThrough_7 : decode cX4_leadsThrough 7 = .ok (.imul, 1) := by decide +kernel
theorem dX4_leadsThrough_8 : decode cX4_leadsThrough 8 = .ok (.iload_n 3, 1) := by decide +kernel
theorem dX4_leadsThrough_9 : decode cX4_leadsThrough 9 = .ok (.iadd, 1) := by decide +kernel
theorem dX4_leadsThrough_10 : decode cX4_leadsThrough 10 = .ok (.iaload, 1) := by decide +kernel
theorem dX4_leadsThrough_11 : decode cX4_leadsThrough 11 = .ok (.i2l, 1) := by decide +kernel
theorem dX4_leadsThrough_12 : decode cX4_leadsThrough 12 = .ok (.iload_n 2, 1) := by decide +kernel
theorem dX4_leadsThrough_13 : decode cX4_leadsThrough 13 = .ok (.invokestatic 102, 3) := by decide +kernel
theorem dX4_leadsThrough_16 : decode cX4_leadsThrough 16 = .ok (.ireturn, 1) := by decide +kernel
theorem dX4_prepare_0 : decode cX4_prepare 0 = .ok (.aload_n 0, 1) := by decide +kernel
theorem dX4_prepare_1 : decode cX4_prepare 1 = .ok (.getfield 9, 3) := by decide +kernel
theorem dX4_prepare_4 : decode cX4_prepare 4 = .ok (.ifCond .eq 4, 3) := by decide +kernel
theorem dX4_prepare_7 : decode cX4_prepare 7 = .ok (.return_, 1) := by decide +kernel
theorem dX4_prepare_8 : decode cX4_prepare 8 = .ok (.aload_n 0, 1) := by decide +kernel
theorem dX4_prepare_9 : decode cX4_prepare 9 = .ok (.iconst 1, 1) := by decide +kernel
theorem dX4_prepare_10 : decode cX4_prepare 10 = .ok (.putfield 9, 3) := by decide +kernel
theorem dX4_prepare_13 : decode cX4_prepare 13 = .ok (.aload_n 0, 1) := by decide +kernel
theorem dX4_prepare_14 : decode cX4_prepare 14 = .ok (.aload_n 1, 1) := by decide +kernel
theorem dX4_prepare_15 : decode cX4_prepare 15 = .ok (.putfield 58, 3) := by decide +kernel
theorem dX4_prepare_18 : decode cX4_prepare 18 = .ok (.aload_n 0, 1) := by decide +kernel
theorem dX4_prepare_19 : decode cX4_prepare 19 = .ok (.getfield 54, 3) := by decide +kernel
theorem dX4_prepare_22 : decode cX4_prepare 22 = .ok (.aload_n 0, 1) := by decide +kernel
theorem dX4_prepare_23 : decode cX4_prepare 23 = .ok (.getfield 58, 3) := by decide +kernel
theorem dX4_prepare_26 : decode cX4_prepare 26 = .ok (.invokevirtual 62, 3) := by decide +kernel
theorem dX4_prepare_29 : decode cX4_prepare 29 = .ok (.aload_n 0, 1) := by decide +kernel
theorem dX4_prepare_30 : decode cX4_prepare 30 = .ok (.lconst 0, 1) := by decide +kernel
theorem dX4_prepare_31 : decode cX4_prepare 31 = .ok (.putfield 39, 3) := by decide +kernel
theorem dX4_prepare_34 : decode cX4_prepare 34 = .ok (.aload_n 0, 1) := by decide +kernel
theorem dX4_prepare_35 : decode cX4_prepare 35 = .ok (.lconst 0, 1) := by decide +kernel
theorem dX4_prepare_36 : decode cX4_prepare 36 = .ok (.putfield 46, 3) := by decide +kernel
theorem dX4_prepare_39 : decode cX4_prepare 39 = .ok (.iconst 0, 1) := by decide +kernel
theorem dX4_prepare_40 : decode cX4_prepare 40 = .ok (.istore_n 2, 1) := by decide +kernel
theorem dX4_prepare_41 : decode cX4_prepare 41 = .ok (.iload_n 2, 1) := by decide +kernel
theorem dX4_prepare_42 : decode cX4_prepare 42 = .ok (.aload_n 0, 1) := by decide +kernel
theorem dX4_prepare_43 : decode cX4_prepare 43 = .ok (.getfield 58, 3) := by decide +kernel
theorem dX4_prepare_46 : decode cX4_prepare 46 = .ok (.getfield 65, 3) := by decide +kernel
theorem dX4_prepare_49 : decode cX4_prepare 49 = .ok (.if_icmp .ge 23, 3) := by decide +kernel
theorem dX4_prepare_52 : decode cX4_prepare 52 = .ok (.aload_n 0, 1) := by decide +kernel
theorem dX4_prepare_53 : decode cX4_prepare 53 = .ok (.getfield 15, 3) := by decide +kernel
theorem dX4_prepare_56 : decode cX4_prepare 56 = .ok (.iload_n 2, 1) := by decide +kernel
theorem dX4_prepare_57 : decode cX4_prepare 57 = .ok (.aload_n 0, 1) := by decide +kernel
theorem dX4_prepare_58 : decode cX4_prepare 58 = .ok (.getfield 58, 3) := by decide +kernel
theorem dX4_prepare_61 : decode cX4_prepare 61 = .ok (.iload_n 2, 1) := by decide +kernel
theorem dX4_prepare_62 : decode cX4_prepare 62 = .ok (.invokevirtual 70, 3) := by decide +kernel
theorem dX4_prepare_65 : decode cX4_prepare 65 = .ok (.lastore, 1) := by decide +kernel
theorem dX4_prepare_66 : decode cX4_prepare 66 = .ok (.iinc 2 1, 3) := by decide +kernel
theorem dX4_prepare_69 : decode cX4_prepare 69 = .ok (.goto (-28), 3) := by decide +kernel
theorem dX4_prepare_72 : decode cX4_prepare 72 = .ok (.aload_n 0, 1) := by decide +kernel
theorem dX4_prepare_73 : decode cX4_prepare 73 = .ok (.getfield 19, 3) := by decide +kernel
theorem dX4_prepare_76 : decode cX4_prepare 76 = .ok (.iconst 0, 1) := by decide +kernel
theorem dX4_prepare_77 : decode cX4_prepare 77 = .ok (.invokestatic 74, 3) := by decide +kernel
theorem dX4_prepare_80 : decode cX4_prepare 80 = .ok (.iconst 1, 1) := by decide +kernel
theorem dX4_prepare_81 : decode cX4_prepare 81 = .ok (.istore_n 2, 1) := by decide +kernel
theorem dX4_prepare_82 : decode cX4_prepare 82 = .ok (.iconst 0, 1) := by decide +kernel
theorem dX4_prepare_83 : decode cX4_prepare 83 = .ok (.istore_n 3, 1) := by decide +kernel
theorem dX4_prepare_84 : decode cX4_prepare 84 = .ok (.iload_n 3, 1) := by decide +kernel
theorem dX4_prepare_85 : decode cX4_prepare 85 = .ok (.sipush 180, 3) := by decide +kernel
theorem dX4_prepare_88 : decode cX4_prepare 88 = .ok (.if_icmp .gt 18, 3) := by decide +kernel
theorem dX4_prepare_91 : decode cX4_prepare 91 = .ok (.iload_n 2, 1) := by decide +kernel
theorem dX4_prepare_92 : decode cX4_prepare 92 = .ok (.ifCond .eq 14, 3) := by decide +kernel
theorem dX4_prepare_95 : decode cX4_prepare 95 = .ok (.aload_n 0, 1) := by decide +kernel
theorem dX4_prepare_96 : decode cX4_prepare 96 = .ok (.invokevirtual 80, 3) := by decide +kernel
theorem dX4_prepare_99 : decode cX4_prepare 99 = .ok (.istore_n 2, 1) := by decide +kernel
theorem dX4_prepare_100 : decode cX4_prepare 100 = .ok (.iinc 3 1, 3) := by decide +kernel
theorem dX4_prepare_103 : decode cX4_prepare 103 = .ok (.goto (-19), 3) := by decide +kernel
theorem dX4_prepare_106 : decode cX4_prepare 106 = .ok (.return_, 1) := by decide +kernel
theorem dX4_spread_0 : decode cX4_spread 0 = .ok (.iconst 0, 1) := by decide +kernel
theorem dX4_spread_1 : decode cX4_spread 1 = .ok (.istore_n 3, 1) := by decide +kernel
theorem dX4_spread_2 : decode cX4_spread 2 = .ok (.iload_n 3, 1) := by decide +kernel
theorem dX4_spread_3 : decode cX4_spread 3 = .ok (.aload_n 0, 1) := by decide +kernel
theorem dX4_spread_4 : decode cX4_spread 4 = .ok (.getfield 29, 3) := by decide +kernel
theorem dX4_spread_7 : decode cX4_spread 7 = .ok (.arraylength, 1) := by decide +kernel
theorem dX4_spread_8 : decode cX4_spread 8 = .ok (.if_icmp .ge 113, 3) := by decide +kernel
theorem dX4_spread_11 : decode cX4_spread 11 = .ok (.iload_n 3, 1) := by decide +kernel
theorem dX4_spread_12 : decode cX4_spread 12 = .ok (.aload_n 0, 1) := by decide +kernel
theorem dX4_spread_13 : decode cX4_spread 13 = .ok (.getfield 32, 3) := by decide +kernel
theorem dX4_spread_16 : decode cX4_spread 16 = .ok (.if_icmp .ge 105, 3) := by decide +kernel
theorem dX4_spread_19 : decode cX4_spread 19 = .ok (.aload_n 0, 1) := by decide +kernel
theorem dX4_spread_20 : decode cX4_spread 20 = .ok (.getfield 29, 3) := by decide +kernel
theorem dX4_spread_23 : decode cX4_spread 23 = .ok (.iload_n 3, 1) := by decide +kernel
theorem dX4_spread_24 : decode cX4_spread 24 = .ok (.iaload, 1) := by decide +kernel
theorem dX4_spread_25 : decode cX4_spread 25 = .ok (.bipush 13, 2) := by decide +kernel
theorem dX4_spread_27 : decode cX4_spread 27 = .ok (.idiv, 1) := by decide +kernel
theorem dX4_spread_28 : decode cX4_spread 28 = .ok (.istore 4, 2) := by decide +kernel
theorem dX4_spread_30 : decode cX4_spread 30 = .ok (.aload_n 0, 1) := by decide +kernel
theorem dX4_spread_31 : decode cX4_spread 31 = .ok (.getfield 29, 3) := by decide +kernel
theorem dX4_spread_34 : decode cX4_spread 34 = .ok (.iload_n 3, 1) := by decide +kernel
theorem dX4_spread_35 : decode cX4_spread 35 = .ok (.iaload, 1) := by decide +kernel
theorem dX4_spread_36 : decode cX4_spread 36 = .ok (.bipush 13, 2) := by decide +kernel
theorem dX4_spread_38 : decode cX4_spread 38 = .ok (.irem, 1) := by decide +kernel
theorem dX4_spread_39 : decode cX4_spread 39 = .ok (.istore 5, 2) := by decide +kernel
theorem dX4_spread_41 : decode cX4_spread 41 = .ok (.aload_n 0, 1) := by decide +kernel
theorem dX4_spread_42 : decode cX4_spread 42 = .ok (.aload_n 1, 1) := by decide +kernel
theorem dX4_spread_43 : decode cX4_spread 43 = .ok (.aload_n 0, 1) := by decide +kernel
theorem dX4_spread_44 : decode cX4_spread 44 = .ok (.getfield 29, 3) := by decide +kernel
theorem dX4_spread_47 : decode cX4_spread 47 = .ok (.iload_n 3, 1) := by decide +kernel
theorem dX4_spread_48 : decode cX4_spread 48 = .ok (.iaload, 1) := by decide +kernel
theorem dX4_spread_49 : decode cX4_spread 49 = .ok (.invokevirtual 111, 3) := by decide +kernel
theorem dX4_spread_52 : decode cX4_spread 52 = .ok (.iload 4, 2) := by decide +kernel
theorem dX4_spread_54 : decode cX4_spread 54 = .ok (.bipush 40, 2) := by decide +kernel
theorem dX4_spread_56 : decode cX4_spread 56 = .ok (.if_icmp .ge 23, 3) := by decide +kernel
theorem dX4_spread_59 : decode cX4_spread 59 = .ok (.iload 5, 2) := by decide +kernel
theorem dX4_spread_61 : decode cX4_spread 61 = .ok (.bipush 7, 2) := by decide +kernel
theorem dX4_spread_63 : decode cX4_spread 63 = .ok (.if_icmp .lt 16, 3) := by decide +kernel
theorem dX4_spread_66 : decode cX4_spread 66 = .ok (.aload_n 0, 1) := by decide +kernel
theorem dX4_spread_67 : decode cX4_spread 67 = .ok (.aload_n 1, 1) := by decide +kernel
theorem dX4_spread_68 : decode cX4_spread 68 = .ok (.iload 4, 2) := by decide +kernel
theorem dX4_spread_70 : decode cX4_spread 70 = .ok (.iload 5, 2) := by decide +kernel
theorem dX4_spread_72 : decode cX4_spread 72 = .ok (.iload_n 2, 1) := by decide +kernel
theorem dX4_spread_73 : decode cX4_spread 73 = .ok (.invokevirtual 114, 3) := by decide +kernel
theorem dX4_spread_76 : decode cX4_spread 76 = .ok (.goto 39, 3) := by decide +kernel
theorem dX4_spread_79 : decode cX4_spread 79 = .ok (.iload 4, 2) := by decide +kernel
theorem dX4_spread_81 : decode cX4_spread 81 = .ok (.bipush 40, 2) := by decide +kernel
theorem dX4_spread_83 : decode cX4_spread 83 = .ok (.if_icmp .lt 32, 3) := by decide +kernel
theorem dX4_spread_86 : decode cX4_spread 86 = .ok (.iload 5, 2) := by decide +kernel
theorem dX4_spread_88 : decode cX4_spread 88 = .ok (.bipush 7, 2) := by decide +kernel
theorem dX4_spread_90 : decode cX4_spread 90 = .ok (.if_icmp .ge 25, 3) := by decide +kernel
theorem dX4_spread_93 : decode cX4_spread 93 = .ok (.iload_n 2, 1) := by decide +kernel
theorem dX4_spread_94 : decode cX4_spread 94 = .ok (.iconst 1, 1) := by decide +kernel
theorem dX4_spread_95 : decode cX4_spread 95 = .ok (.if_icmp .ne 20, 3) := by decide +kernel
theorem dX4_spread_98 : decode cX4_spread 98 = .ok (.aload_n 0, 1) := by decide +kernel
theorem dX4_spread_99 : decode cX4_spread 99 = .ok (.aload_n 1, 1) := by decide +kernel
theorem dX4_spread_100 : decode cX4_spread 100 = .ok (.iload 5, 2) := by decide +kernel
theorem dX4_spread_102 : decode cX4_spread 102 = .ok (.aload_n 0, 1) := by decide +kernel
theorem dX4_spread_103 : decode cX4_spread 103 = .ok (.getfield 15, 3) := by decide +kernel
theorem dX4_spread_106 : decode cX4_spread 106 = .ok (.iload 4, 2) := by decide +kernel
theorem dX4_spread_108 : decode cX4_spread 108 = .ok (.bipush 40, 2) := by decide +kernel
theorem dX4_spread_110 : decode cX4_spread 110 = .ok (.isub, 1) := by decide +kernel
theorem dX4_spread_111 : decode cX4_spread 111 = .ok (.laload, 1) := by decide +kernel
theorem dX4_spread_112 : decode cX4_spread 112 = .ok (.invokevirtual 94, 3) := by decide +kernel
theorem dX4_spread_115 : decode cX4_spread 115 = .ok (.iinc 3 1, 3) := by decide +kernel
theorem dX4_spread_118 : decode cX4_spread 118 = .ok (.goto (-116), 3) := by decide +kernel
theorem dX4_spread_121 : decode cX4_spread 121 = .ok (.aload_n 0, 1) := by decide +kernel
theorem dX4_spread_122 : decode cX4_spread 122 = .ok (.iconst 0, 1) := by decide +kernel
theorem dX4_spread_123 : decode cX4_spread 123 = .ok (.putfield 32, 3) := by decide +kernel
theorem dX4_spread_126 : decode cX4_spread 126 = .ok (.return_, 1) := by decide +kernel
theorem dX4_statementsFound_0 : decode cX4_statementsFound 0 = .ok (.lconst 0, 1) := by decide +kernel
theorem dX4_statementsFound_1 : decode cX4_statementsFound 1 = .ok (.lstore_n 1, 1) := by decide +kernel
theorem dX4_statementsFound_2 : decode cX4_statementsFound 2 = .ok (.iconst 0, 1) := by decide +kernel
theorem dX4_statementsFound_3 : decode cX4_statementsFound 3 = .ok (.istore_n 3, 1) := by decide +kernel
theorem dX4_statementsFound_4 : decode cX4_statementsFound 4 = .ok (.iload_n 3, 1) := by decide +kernel
theorem dX4_statementsFound_5 : decode cX4_statementsFound 5 = .ok (.bipush 13, 2) := by decide +kernel
theorem dX4_statementsFound_7 : decode cX4_statementsFound 7 = .ok (.if_icmp .ge 18, 3) := by decide +kernel
theorem dX4_statementsFound_10 : decode cX4_statementsFound 10 = .ok (.lload_n 1, 1) := by decide +kernel
theorem dX4_statementsFound_11 : decode cX4_statementsFound 11 = .ok (.aload_n 0, 1) := by decide +kernel
theorem dX4_statementsFound_12 : decode cX4_statementsFound 12 = .ok (.getfield 26, 3) := by decide +kernel
theorem dX4_statementsFound_15 : decode cX4_statementsFound 15 = .ok (.iload_n 3, 1) := by decide +kernel
theorem dX4_statementsFound_16 : decode cX4_statementsFound 16 = .ok (.laload, 1) := by decide +kernel
theorem dX4_statementsFound_17 : decode cX4_statementsFound 17 = .ok (.lor, 1) := by decide +kernel
theorem dX4_statementsFound_18 : decode cX4_statementsFound 18 = .ok (.lstore_n 1, 1) := by decide +kernel
theorem dX4_statementsFound_19 : decode cX4_statementsFound 19 = .ok (.iinc 3 1, 3) := by decide +kernel
theorem dX4_statementsFound_22 : decode cX4_statementsFound 22 = .ok (.goto (-18), 3) := by decide +kernel
theorem dX4_statementsFound_25 : decode cX4_statementsFound 25 = .ok (.lload_n 1, 1) := by decide +kernel
theorem dX4_statementsFound_26 : decode cX4_statementsFound 26 = .ok (.ldc2_w 127, 3) := by decide +kernel
theorem dX4_statementsFound_29 : decode cX4_statementsFound 29 = .ok (.land, 1) := by decide +kernel
theorem dX4_statementsFound_30 : decode cX4_statementsFound 30 = .ok (.lreturn, 1) := by decide +kernel
