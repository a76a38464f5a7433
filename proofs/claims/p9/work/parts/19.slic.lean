theorem dX4_add_0 : decode cX4_add 0 = .ok (.lload_n 3, 1) := by decide +kernel
theorem dX4_add_1 : decode cX4_add 1 = .ok (.aload_n 1, 1) := by decide +kernel
theorem dX4_add_2 : decode cX4_add 2 = .ok (.iload_n 2, 1) := by decide +kernel
theorem dX4_add_3 : decode cX4_add 3 = .ok (.laload, 1) := by decide +kernel
theorem dX4_add_4 : decode cX4_add 4 = .ok (.ldc2_w 109, 3) := by decide +kernel
theorem dX4_add_7 : decode cX4_add 7 = .ok (.lxor, 1) := by decide +kernel
theorem dX4_add_8 : decode cX4_add 8 = .ok (.land, 1) := by decide +kernel
theorem dX4_add_9 : decode cX4_add 9 = .ok (.lstore 5, 2) := by decide +kernel
theorem dX4_add_11 : decode cX4_add 11 = .ok (.lload 5, 2) := by decide +kernel
theorem dX4_add_13 : decode cX4_add 13 = .ok (.lconst 0, 1) := by decide +kernel
theorem dX4_add_14 : decode cX4_add 14 = .ok (.lcmp, 1) := by decide +kernel
theorem dX4_add_15 : decode cX4_add 15 = .ok (.ifCond .ne 4, 3) := by decide +kernel
theorem dX4_add_18 : decode cX4_add 18 = .ok (.return_, 1) := by decide +kernel
theorem dX4_add_19 : decode cX4_add 19 = .ok (.aload_n 1, 1) := by decide +kernel
theorem dX4_add_20 : decode cX4_add 20 = .ok (.iload_n 2, 1) := by decide +kernel
theorem dX4_add_21 : decode cX4_add 21 = .ok (.dup2, 1) := by decide +kernel
theorem dX4_add_22 : decode cX4_add 22 = .ok (.laload, 1) := by decide +kernel
theorem dX4_add_23 : decode cX4_add 23 = .ok (.lload 5, 2) := by decide +kernel
theorem dX4_add_25 : decode cX4_add 25 = .ok (.lor, 1) := by decide +kernel
theorem dX4_add_26 : decode cX4_add 26 = .ok (.lastore, 1) := by decide +kernel
theorem dX4_add_27 : decode cX4_add 27 = .ok (.iconst 0, 1) := by decide +kernel
theorem dX4_add_28 : decode cX4_add 28 = .ok (.istore 7, 2) := by decide +kernel
theorem dX4_add_30 : decode cX4_add 30 = .ok (.iload 7, 2) := by decide +kernel
theorem dX4_add_32 : decode cX4_add 32 = .ok (.bipush 45, 2) := by decide +kernel
theorem dX4_add_34 : decode cX4_add 34 = .ok (.if_icmp .ge 69, 3) := by decide +kernel
theorem dX4_add_37 : decode cX4_add 37 = .ok (.lload 5, 2) := by decide +kernel
theorem dX4_add_39 : decode cX4_add 39 = .ok (.iload 7, 2) := by decide +kernel
theorem dX4_add_41 : decode cX4_add 41 = .ok (.lushr, 1) := by decide +kernel
theorem dX4_add_42 : decode cX4_add 42 = .ok (.lconst 0, 1) := by decide +kernel
theorem dX4_add_43 : decode cX4_add 43 = .ok (.lcmp, 1) := by decide +kernel
theorem dX4_add_44 : decode cX4_add 44 = .ok (.ifCond .eq 59, 3) := by decide +kernel
theorem dX4_add_47 : decode cX4_add 47 = .ok (.lload 5, 2) := by decide +kernel
theorem dX4_add_49 : decode cX4_add 49 = .ok (.iload 7, 2) := by decide +kernel
theorem dX4_add_51 : decode cX4_add 51 = .ok (.lushr, 1) := by decide +kernel
theorem dX4_add_52 : decode cX4_add 52 = .ok (.lconst 1, 1) := by decide +kernel
theorem dX4_add_53 : decode cX4_add 53 = .ok (.land, 1) := by decide +kernel
theorem dX4_add_54 : decode cX4_add 54 = .ok (.lconst 0, 1) := by decide +kernel
theorem dX4_add_55 : decode cX4_add 55 = .ok (.lcmp, 1) := by decide +kernel
theorem dX4_add_56 : decode cX4_add 56 = .ok (.ifCond .eq 41, 3) := by decide +kernel
theorem dX4_add_59 : decode cX4_add 59 = .ok (.aload_n 0, 1) := by decide +kernel
theorem dX4_add_60 : decode cX4_add 60 = .ok (.getfield 32, 3) := by decide +kernel
theorem dX4_add_63 : decode cX4_add 63 = .ok (.aload_n 0, 1) := by decide +kernel
theorem dX4_add_64 : decode cX4_add 64 = .ok (.getfield 29, 3) := by decide +kernel
theorem dX4_add_67 : decode cX4_add 67 = .ok (.arraylength, 1) := by decide +kernel
theorem dX4_add_68 : decode cX4_add 68 = .ok (.if_icmp .ge 29, 3) := by decide +kernel
theorem dX4_add_71 : decode cX4_add 71 = .ok (.aload_n 0, 1) := by decide +kernel
theorem dX4_add_72 : decode cX4_add 72 = .ok (.getfield 29, 3) := by decide +kernel
theorem dX4_add_75 : decode cX4_add 75 = .ok (.aload_n 0, 1) := by decide +kernel
theorem dX4_add_76 : decode cX4_add 76 = .ok (.getfield 32, 3) := by decide +kernel
theorem dX4_add_79 : decode cX4_add 79 = .ok (.iload 7, 2) := by decide +kernel
theorem dX4_add_81 : decode cX4_add 81 = .ok (.bipush 13, 2) := by decide +kernel
theorem dX4_add_83 : decode cX4_add 83 = .ok (.imul, 1) := by decide +kernel
theorem dX4_add_84 : decode cX4_add 84 = .ok (.iload_n 2, 1) := by decide +kernel
theorem dX4_add_85 : decode cX4_add 85 = .ok (.iadd, 1) := by decide +kernel
theorem dX4_add_86 : decode cX4_add 86 = .ok (.iastore, 1) := by decide +kernel
theorem dX4_add_87 : decode cX4_add 87 = .ok (.aload_n 0, 1) := by decide +kernel
theorem dX4_add_88 : decode cX4_add 88 = .ok (.dup, 1) := by decide +kernel
theorem dX4_add_89 : decode cX4_add 89 = .ok (.getfield 32, 3) := by decide +kernel
theorem dX4_add_92 : decode cX4_add 92 = .ok (.iconst 1, 1) := by decide +kernel
theorem dX4_add_93 : decode cX4_add 93 = .ok (.iadd, 1) := by decide +kernel
theorem dX4_add_94 : decode cX4_add 94 = .ok (.putfield 32, 3) := by decide +kernel
theorem dX4_add_97 : decode cX4_add 97 = .ok (.iinc 7 1, 3) := by decide +kernel
theorem dX4_add_100 : decode cX4_add 100 = .ok (.goto (-70), 3) := by decide +kernel
theorem dX4_add_103 : decode cX4_add 103 = .ok (.return_, 1) := by decide +kernel
theorem dX4_backFrom_0 : decode cX4_backFrom 0 = .ok (.aload_n 0, 1) := by decide +kernel
theorem dX4_backFrom_1 : decode cX4_backFrom 1 = .ok (.getfield 39, 3) := by decide +kernel
theorem dX4_backFrom_4 : decode cX4_backFrom 4 = .ok (.iload_n 1, 1) := by decide +kernel
theorem dX4_backFrom_5 : decode cX4_backFrom 5 = .ok (.invokestatic 102, 3) := by decide +kernel
theorem dX4_backFrom_8 : decode cX4_backFrom 8 = .ok (.ifCond .ne 35, 3) := by decide +kernel
theorem dX4_backFrom_11 : decode cX4_backFrom 11 = .ok (.aload_n 0, 1) := by decide +kernel
theorem dX4_backFrom_12 : decode cX4_backFrom 12 = .ok (.iload_n 1, 1) := by decide +kernel
theorem dX4_backFrom_13 : decode cX4_backFrom 13 = .ok (.invokevirtual 129, 3) := by decide +kernel
theorem dX4_backFrom_16 : decode cX4_backFrom 16 = .ok (.aload_n 0, 1) := by decide +kernel
theorem dX4_backFrom_17 : decode cX4_backFrom 17 = .ok (.invokevirtual 133, 3) := by decide +kernel
theorem dX4_backFrom_20 : decode cX4_backFrom 20 = .ok (.aload_n 0, 1) := by decide +kernel
theorem dX4_backFrom_21 : decode cX4_backFrom 21 = .ok (.getfield 36, 3) := by decide +kernel
theorem dX4_backFrom_24 : decode cX4_backFrom 24 = .ok (.iload_n 1, 1) := by decide +kernel
theorem dX4_backFrom_25 : decode cX4_backFrom 25 = .ok (.aload_n 0, 1) := by decide +kernel
theorem dX4_backFrom_26 : decode cX4_backFrom 26 = .ok (.invokevirtual 136, 3) := by decide +kernel
theorem dX4_backFrom_29 : decode cX4_backFrom 29 = .ok (.lastore, 1) := by decide +kernel
theorem dX4_backFrom_30 : decode cX4_backFrom 30 = .ok (.aload_n 0, 1) := by decide +kernel
theorem dX4_backFrom_31 : decode cX4_backFrom 31 = .ok (.dup, 1) := by decide +kernel
theorem dX4_backFrom_32 : decode cX4_backFrom 32 = .ok (.getfield 39, 3) := by decide +kernel
theorem dX4_backFrom_35 : decode cX4_backFrom 35 = .ok (.iload_n 1, 1) := by decide +kernel
theorem dX4_backFrom_36 : decode cX4_backFrom 36 = .ok (.invokestatic 91, 3) := by decide +kernel
theorem dX4_backFrom_39 : decode cX4_backFrom 39 = .ok (.lor, 1) := by decide +kernel
theorem dX4_backFrom_40 : decode cX4_backFrom 40 = .ok (.putfield 39, 3) := by decide +kernel
theorem dX4_backFrom_43 : decode cX4_backFrom 43 = .ok (.aload_n 0, 1) := by decide +kernel
theorem dX4_backFrom_44 : decode cX4_backFrom 44 = .ok (.getfield 36, 3) := by decide +kernel
theorem dX4_backFrom_47 : decode cX4_backFrom 47 = .ok (.iload_n 1, 1) := by decide +kernel
theorem dX4_backFrom_48 : decode cX4_backFrom 48 = .ok (.laload, 1) := by decide +kernel
theorem dX4_backFrom_49 : decode cX4_backFrom 49 = .ok (.lreturn, 1) := by decide +kernel
theorem dX4_backFromOut_0 : decode cX4_backFromOut 0 = .ok (.aload_n 0, 1) := by decide +kernel
theorem dX4_backFromOut_1 : decode cX4_backFromOut 1 = .ok (.invokevirtual 88, 3) := by decide +kernel
theorem dX4_backFromOut_4 : decode cX4_backFromOut 4 = .ok (.aload_n 0, 1) := by decide +kernel
theorem dX4_backFromOut_5 : decode cX4_backFromOut 5 = .ok (.aload_n 0, 1) := by decide +kernel
theorem dX4_backFromOut_6 : decode cX4_backFromOut 6 = .ok (.getfield 23, 3) := by decide +kernel
theorem dX4_backFromOut_9 : decode cX4_backFromOut 9 = .ok (.bipush 7, 2) := by decide +kernel
theorem dX4_backFromOut_11 : decode cX4_backFromOut 11 = .ok (.iload_n 2, 1) := by decide +kernel
theorem dX4_backFromOut_12 : decode cX4_backFromOut 12 = .ok (.iadd, 1) := by decide +kernel
theorem dX4_backFromOut_13 : decode cX4_backFromOut 13 = .ok (.bipush 40, 2) := by decide +kernel
theorem dX4_backFromOut_15 : decode cX4_backFromOut 15 = .ok (.iload_n 1, 1) := by decide +kernel
theorem dX4_backFromOut_16 : decode cX4_backFromOut 16 = .ok (.iadd, 1) := by decide +kernel
theorem dX4_backFromOut_17 : decode cX4_backFromOut 17 = .ok (.invokestatic 91, 3) := by decide +kernel
theorem dX4_backFromOut_20 : decode cX4_backFromOut 20 = .ok (.invokevirtual 94, 3) := by decide +kernel
theorem dX4_backFromOut_23 : decode cX4_backFromOut 23 = .ok (.aload_n 0, 1) := by decide +kernel
theorem dX4_backFromOut_24 : decode cX4_backFromOut 24 = .ok (.invokevirtual 133, 3) := by decide +kernel
theorem dX4_backFromOut_27 : decode cX4_backFromOut 27 = .ok (.aload_n 0, 1) := by decide +kernel
theorem dX4_backFromOut_28 : decode cX4_backFromOut 28 = .ok (.invokevirtual 136, 3) := by decide +kernel
theorem dX4_backFromOut_31 : decode cX4_backFromOut 31 = .ok (.lreturn, 1) := by decide +kernel
theorem dX4_beginFrom_0 : decode cX4_beginFrom 0 = .ok (.aload_n 0, 1) := by decide +kernel
theorem dX4_beginFrom_1 : decode cX4_beginFrom 1 = .ok (.invokevirtual 88, 3) := by decide +kernel
theorem dX4_beginFrom_4 : decode cX4_beginFrom 4 = .ok (.aload_n 0, 1) := by decide +kernel
theorem dX4_beginFrom_5 : decode cX4_beginFrom 5 = .ok (.getfield 58, 3) := by decide +kernel
theorem dX4_beginFrom_8 : decode cX4_beginFrom 8 = .ok (.getfield 124, 3) := by decide +kernel
theorem dX4_beginFrom_11 : decode cX4_beginFrom 11 = .ok (.iload_n 1, 1) := by decide +kernel
theorem dX4_beginFrom_12 : decode cX4_beginFrom 12 = .ok (.iaload, 1) := by decide +kernel
theorem dX4_beginFrom_13 : decode cX4_beginFrom 13 = .ok (.iconst 1, 1) := by decide +kernel
theorem dX4_beginFrom_14 : decode cX4_beginFrom 14 = .ok (.if_icmp .ne 8, 3) := by decide +kernel
theorem dX4_beginFrom_17 : decode cX4_beginFrom 17 = .ok (.bipush 13, 2) := by decide +kernel
theorem dX4_beginFrom_19 : decode cX4_beginFrom 19 = .ok (.goto 4, 3) := by decide +kernel
theorem dX4_beginFrom_22 : decode cX4_beginFrom 22 = .ok (.iconst 1, 1) := by decide +kernel
theorem dX4_beginFrom_23 : decode cX4_beginFrom 23 = .ok (.istore_n 2, 1) := by decide +kernel
theorem dX4_beginFrom_24 : decode cX4_beginFrom 24 = .ok (.iconst 0, 1) := by decide +kernel
theorem dX4_beginFrom_25 : decode cX4_beginFrom 25 = .ok (.istore_n 3, 1) := by decide +kernel
theorem dX4_beginFrom_26 : decode cX4_beginFrom 26 = .ok (.iload_n 3, 1) := by decide +kernel
theorem dX4_beginFrom_27 : decode cX4_beginFrom 27 = .ok (.iload_n 2, 1) := by decide +kernel
theorem dX4_beginFrom_28 : decode cX4_beginFrom 28 = .ok (.if_icmp .ge 22, 3) := by decide +kernel
theorem dX4_beginFrom_31 : decode cX4_beginFrom 31 = .ok (.aload_n 0, 1) := by decide +kernel
theorem dX4_beginFrom_32 : decode cX4_beginFrom 32 = .ok (.aload_n 0, 1) := by decide +kernel
theorem dX4_beginFrom_33 : decode cX4_beginFrom 33 = .ok (.getfield 23, 3) := by decide +kernel
theorem dX4_beginFrom_36 : decode cX4_beginFrom 36 = .ok (.iload_n 3, 1) := by decide +kernel
theorem dX4_beginFrom_37 : decode cX4_beginFrom 37 = .ok (.iload_n 1, 1) := by decide +kernel
theorem dX4_beginFrom_38 : decode cX4_beginFrom 38 = .ok (.invokestatic 91, 3) := by decide +kernel
theorem dX4_beginFrom_41 : decode cX4_beginFrom 41 = .ok (.invokevirtual 94, 3) := by decide +kernel
theorem dX4_beginFrom_44 : decode cX4_beginFrom 44 = .ok (.iinc 3 1, 3) := by decide +kernel
theorem dX4_beginFrom_47 : decode cX4_beginFrom 47 = .ok (.goto (-21), 3) := by decide +kernel
theorem dX4_beginFrom_50 : decode cX4_beginFrom 50 = .ok (.return_, 1) := by decide +kernel
theorem dX4_clearFound_0 : decode cX4_clearFound 0 = .ok (.aload_n 0, 1) := by decide +kernel
theorem dX4_clearFound_1 : decode cX4_clearFound 1 = .ok (.getfield 23, 3) := by decide +kernel
theorem dX4_clearFound_4 : decode cX4_clearFound 4 = .ok (.lconst 0, 1) := by decide +kernel
theorem dX4_clearFound_5 : decode cX4_clearFound 5 = .ok (.invokestatic 106, 3) := by decide +kernel
theorem dX4_clearFound_8 : decode cX4_clearFound 8 = .ok (.aload_n 0, 1) := by decide +kernel
theorem dX4_clearFound_9 : decode cX4_clearFound 9 = .ok (.getfield 26, 3) := by decide +kernel
theorem dX4_clearFound_12 : decode cX4_clearFound 12 = .ok (.lconst 0, 1) := by decide +kernel
theorem dX4_clearFound_13 : decode cX4_clearFound 13 = .ok (.invokestatic 106, 3) := by decide +kernel
theorem dX4_clearFound_16 : decode cX4_clearFound 16 = .ok (.aload_n 0, 1) := by decide +kernel
theorem dX4_clearFound_17 : decode cX4_clearFound 17 = .ok (.iconst 0, 1) := by decide +kernel
theorem dX4_clearFound_18 : decode cX4_clearFound 18 = .ok (.putfield 32, 3) := by decide +kernel
theorem dX4_clearFound_21 : decode cX4_clearFound 21 = .ok (.return_, 1) := by decide +kernel
theorem dX4_completeCalls_0 : decode cX4_completeCalls 0 = .ok (.iconst 0, 1) := by decide +kernel
theorem dX4_completeCalls_1 : decode cX4_completeCalls 1 = .ok (.istore_n 1, 1) := by decide +kernel
theorem dX4_completeCalls_2 : decode cX4_completeCalls 2 = .ok (.iconst 0, 1) := by decide +kernel
theorem dX4_completeCalls_3 : decode cX4_completeCalls 3 = .ok (.istore_n 2, 1) := by decide +kernel
theorem dX4_completeCalls_4 : decode cX4_completeCalls 4 = .ok (.iload_n 2, 1) := by decide +kernel
theorem dX4_completeCalls_5 : decode cX4_completeCalls 5 = .ok (.aload_n 0, 1) := by decide +kernel
theorem dX4_completeCalls_6 : decode cX4_completeCalls 6 = .ok (.getfield 58, 3) := by decide +kernel
theorem dX4_completeCalls_9 : decode cX4_completeCalls 9 = .ok (.getfield 65, 3) := by decide +kernel
theorem dX4_completeCalls_12 : decode cX4_completeCalls 12 = .ok (.if_icmp .ge 91, 3) := by decide +kernel
theorem dX4_completeCalls_15 : decode cX4_completeCalls 15 = .ok (.iconst 1, 1) := by decide +kernel
theorem dX4_completeCalls_16 : decode cX4_completeCalls 16 = .ok (.istore_n 3, 1) := by decide +kernel
theorem dX4_completeCalls_17 : decode cX4_completeCalls 17 = .ok (.iload_n 3, 1) := by decide +kernel
theorem dX4_completeCalls_18 : decode cX4_completeCalls 18 = .ok (.bipush 7, 2) := by decide +kernel
theorem dX4_completeCalls_20 : decode cX4_completeCalls 20 = .ok (.if_icmp .ge 77, 3) := by decide +kernel
theorem dX4_completeCalls_23 : decode cX4_completeCalls 23 = .ok (.aload_n 0, 1) := by decide +kernel
theorem dX4_completeCalls_24 : decode cX4_completeCalls 24 = .ok (.getfield 26, 3) := by decide +kernel
theorem dX4_completeCalls_27 : decode cX4_completeCalls 27 = .ok (.iload_n 3, 1) := by decide +kernel
theorem dX4_completeCalls_28 : decode cX4_completeCalls 28 = .ok (.laload, 1) := by decide +kernel
theorem dX4_completeCalls_29 : decode cX4_completeCalls 29 = .ok (.bipush 40, 2) := by decide +kernel
theorem dX4_completeCalls_31 : decode cX4_completeCalls 31 = .ok (.iload_n 2, 1) := by decide +kernel
theorem dX4_completeCalls_32 : decode cX4_completeCalls 32 = .ok (.iadd, 1) := by decide +kernel
theorem dX4_completeCalls_33 : decode cX4_completeCalls 33 = .ok (.invokestatic 102, 3) := by decide +kernel
theorem dX4_completeCalls_36 : decode cX4_completeCalls 36 = .ok (.ifCond .eq 55, 3) := by decide +kernel
theorem dX4_completeCalls_39 : decode cX4_completeCalls 39 = .ok (.aload_n 0, 1) := by decide +kernel
theorem dX4_completeCalls_40 : decode cX4_completeCalls 40 = .ok (.getfield 15, 3) := by decide +kernel
theorem dX4_completeCalls_43 : decode cX4_completeCalls 43 = .ok (.iload_n 2, 1) := by decide +kernel
theorem dX4_completeCalls_44 : decode cX4_completeCalls 44 = .ok (.laload, 1) := by decide +kernel
theorem dX4_completeCalls_45 : decode cX4_completeCalls 45 = .ok (.aload_n 0, 1) := by decide +kernel
theorem dX4_completeCalls_46 : decode cX4_completeCalls 46 = .ok (.getfield 26, 3) := by decide +kernel
theorem dX4_completeCalls_49 : decode cX4_completeCalls 49 = .ok (.iconst 0, 1) := by decide +kernel
theorem dX4_completeCalls_50 : decode cX4_completeCalls 50 = .ok (.laload, 1) := by decide +kernel
theorem dX4_completeCalls_51 : decode cX4_completeCalls 51 = .ok (.land, 1) := by decide +kernel
theorem dX4_completeCalls_52 : decode cX4_completeCalls 52 = .ok (.aload_n 0, 1) := by decide +kernel
theorem dX4_completeCalls_53 : decode cX4_completeCalls 53 = .ok (.getfield 23, 3) := by decide +kernel
theorem dX4_completeCalls_56 : decode cX4_completeCalls 56 = .ok (.iload_n 3, 1) := by decide +kernel
theorem dX4_completeCalls_57 : decode cX4_completeCalls 57 = .ok (.laload, 1) := by decide +kernel
theorem dX4_completeCalls_58 : decode cX4_completeCalls 58 = .ok (.ldc2_w 109, 3) := by decide +kernel
theorem dX4_completeCalls_61 : decode cX4_completeCalls 61 = .ok (.lxor, 1) := by decide +kernel
theorem dX4_completeCalls_62 : decode cX4_completeCalls 62 = .ok (.land, 1) := by decide +kernel
theorem dX4_completeCalls_63 : decode cX4_completeCalls 63 = .ok (.lstore 4, 2) := by decide +kernel
theorem dX4_completeCalls_65 : decode cX4_completeCalls 65 = .ok (.aload_n 0, 1) := by decide +kernel
theorem dX4_completeCalls_66 : decode cX4_completeCalls 66 = .ok (.aload_n 0, 1) := by decide +kernel
theorem dX4_completeCalls_67 : decode cX4_completeCalls 67 = .ok (.getfield 23, 3) := by decide +kernel
theorem dX4_completeCalls_70 : decode cX4_completeCalls 70 = .ok (.iload_n 3, 1) := by decide +kernel
theorem dX4_completeCalls_71 : decode cX4_completeCalls 71 = .ok (.lload 4, 2) := by decide +kernel
theorem dX4_completeCalls_73 : decode cX4_completeCalls 73 = .ok (.invokevirtual 94, 3) := by decide +kernel
theorem dX4_completeCalls_76 : decode cX4_completeCalls 76 = .ok (.iload_n 1, 1) := by decide +kernel
theorem dX4_completeCalls_77 : decode cX4_completeCalls 77 = .ok (.lload 4, 2) := by decide +kernel
theorem dX4_completeCalls_79 : decode cX4_completeCalls 79 = .ok (.lconst 0, 1) := by decide +kernel
theorem dX4_completeCalls_80 : decode cX4_completeCalls 80 = .ok (.lcmp, 1) := by decide +kernel
theorem dX4_completeCalls_81 : decode cX4_completeCalls 81 = .ok (.ifCond .eq 7, 3) := by decide +kernel
theorem dX4_completeCalls_84 : decode cX4_completeCalls 84 = .ok (.iconst 1, 1) := by decide +kernel
theorem dX4_completeCalls_85 : decode cX4_completeCalls 85 = .ok (.goto 4, 3) := by decide +kernel
theorem dX4_completeCalls_88 : decode cX4_completeCalls 88 = .ok (.iconst 0, 1) := by decide +kernel
theorem dX4_completeCalls_89 : decode cX4_completeCalls 89 = .ok (.ior, 1) := by decide +kernel
theorem dX4_completeCalls_90 : decode cX4_completeCalls 90 = .ok (.istore_n 1, 1) := by decide +kernel
theorem dX4_completeCalls_91 : decode cX4_completeCalls 91 = .ok (.iinc 3 1, 3) := by decide +kernel
theorem dX4_completeCalls_94 : decode cX4_completeCalls 94 = .ok (.goto (-77), 3) := by decide +kernel
theorem dX4_completeCalls_97 : decode cX4_completeCalls 97 = .ok (.iinc 2 1, 3) := by decide +kernel
theorem dX4_completeCalls_100 : decode cX4_completeCalls 100 = .ok (.goto (-96), 3) := by decide +kernel
theorem dX4_completeCalls_103 : decode cX4_completeCalls 103 = .ok (.iload_n 1, 1) := by decide +kernel
theorem dX4_completeCalls_104 : decode cX4_completeCalls 104 = .ok (.ireturn, 1) := by decide +kernel
theorem dX4_findKept_0 : decode cX4_findKept 0 = .ok (.aload_n 0, 1) := by decide +kernel
theorem dX4_findKept_1 : decode cX4_findKept 1 = .ok (.iload_n 1, 1) := by decide +kernel
theorem dX4_findKept_2 : decode cX4_findKept 2 = .ok (.invokevirtual 129, 3) := by decide +kernel
theorem dX4_findKept_5 : decode cX4_findKept 5 = .ok (.aload_n 0, 1) := by decide +kernel
theorem dX4_findKept_6 : decode cX4_findKept 6 = .ok (.invokevirtual 133, 3) := by decide +kernel
theorem dX4_findKept_9 : decode cX4_findKept 9 = .ok (.iconst 1, 1) := by decide +kernel
theorem dX4_findKept_10 : decode cX4_findKept 10 = .ok (.istore_n 2, 1) := by decide +kernel
theorem dX4_findKept_11 : decode cX4_findKept 11 = .ok (.iconst 0, 1) := by decide +kernel
theorem dX4_findKept_12 : decode cX4_findKept 12 = .ok (.istore_n 3, 1) := by decide +kernel
theorem dX4_findKept_13 : decode cX4_findKept 13 = .ok (.iload_n 3, 1) := by decide +kernel
theorem dX4_findKept_14 : decode cX4_findKept 14 = .ok (.sipush 240, 3) := by decide +kernel
theorem dX4_findKept_17 : decode cX4_findKept 17 = .ok (.if_icmp .gt 22, 3) := by decide +kernel
theorem dX4_findKept_20 : decode cX4_findKept 20 = .ok (.iload_n 2, 1) := by decide +kernel
theorem dX4_findKept_21 : decode cX4_findKept 21 = .ok (.ifCond .eq 18, 3) := by decide +kernel
theorem dX4_findKept_24 : decode cX4_findKept 24 = .ok (.aload_n 0, 1) := by decide +kernel
theorem dX4_findKept_25 : decode cX4_findKept 25 = .ok (.invokevirtual 149, 3) := by decide +kernel
theorem dX4_findKept_28 : decode cX4_findKept 28 = .ok (.istore_n 2, 1) := by decide +kernel
theorem dX4_findKept_29 : decode cX4_findKept 29 = .ok (.aload_n 0, 1) := by decide +kernel
theorem dX4_findKept_30 : decode cX4_findKept 30 = .ok (.invokevirtual 133, 3) := by decide +kernel
theorem dX4_findKept_33 : decode cX4_findKept 33 = .ok (.iinc 3 1, 3) := by decide +kernel
theorem dX4_findKept_36 : decode cX4_findKept 36 = .ok (.goto (-23), 3) := by decide +kernel
theorem dX4_findKept_39 : decode cX4_findKept 39 = .ok (.aload_n 0, 1) := by decide +kernel
theorem dX4_findKept_40 : decode cX4_findKept 40 = .ok (.invokevirtual 136, 3) := by decide +kernel
theorem dX4_findKept_43 : decode cX4_findKept 43 = .ok (.lreturn, 1) := by decide +kernel
theorem dX4_findOn_0 : decode cX4_findOn 0 = .ok (.aload_n 0, 1) := by decide +kernel
theorem dX4_findOn_1 : decode cX4_findOn 1 = .ok (.aload_n 0, 1) := by decide +kernel
theorem dX4_findOn_2 : decode cX4_findOn 2 = .ok (.getfield 23, 3) := by decide +kernel
theorem dX4_findOn_5 : decode cX4_findOn 5 = .ok (.iconst 1, 1) := by decide +kernel
theorem dX4_findOn_6 : decode cX4_findOn 6 = .ok (.invokevirtual 98, 3) := by decide +kernel
theorem dX4_findOn_9 : decode cX4_findOn 9 = .ok (.iconst 0, 1) := by decide +kernel
theorem dX4_findOn_10 : decode cX4_findOn 10 = .ok (.istore_n 1, 1) := by decide +kernel
theorem dX4_findOn_11 : decode cX4_findOn 11 = .ok (.iload_n 1, 1) := by decide +kernel
theorem dX4_findOn_12 : decode cX4_findOn 12 = .ok (.bipush 13, 2) := by decide +kernel
theorem dX4_findOn_14 : decode cX4_findOn 14 = .ok (.if_icmp .ge 24, 3) := by decide +kernel
theorem dX4_findOn_17 : decode cX4_findOn 17 = .ok (.aload_n 0, 1) := by decide +kernel
theorem dX4_findOn_18 : decode cX4_findOn 18 = .ok (.aload_n 0, 1) := by decide +kernel
theorem dX4_findOn_19 : decode cX4_findOn 19 = .ok (.getfield 26, 3) := by decide +kernel
theorem dX4_findOn_22 : decode cX4_findOn 22 = .ok (.iload_n 1, 1) := by decide +kernel
theorem dX4_findOn_23 : decode cX4_findOn 23 = .ok (.aload_n 0, 1) := by decide +kernel
theorem dX4_findOn_24 : decode cX4_findOn 24 = .ok (.getfield 23, 3) := by decide +kernel
theorem dX4_findOn_27 : decode cX4_findOn 27 = .ok (.iload_n 1, 1) := by decide +kernel
theorem dX4_findOn_28 : decode cX4_findOn 28 = .ok (.laload, 1) := by decide +kernel
theorem dX4_findOn_29 : decode cX4_findOn 29 = .ok (.invokevirtual 94, 3) := by decide +kernel
theorem dX4_findOn_32 : decode cX4_findOn 32 = .ok (.iinc 1 1, 3) := by decide +kernel
theorem dX4_findOn_35 : decode cX4_findOn 35 = .ok (.goto (-24), 3) := by decide +kernel
theorem dX4_findOn_38 : decode cX4_findOn 38 = .ok (.aload_n 0, 1) := by decide +kernel
theorem dX4_findOn_39 : decode cX4_findOn 39 = .ok (.aload_n 0, 1) := by decide +kernel
theorem dX4_findOn_40 : decode cX4_findOn 40 = .ok (.getfield 26, 3) := by decide +kernel
theorem dX4_findOn_43 : decode cX4_findOn 43 = .ok (.iconst 2, 1) := by decide +kernel
theorem dX4_findOn_44 : decode cX4_findOn 44 = .ok (.invokevirtual 98, 3) := by decide +kernel
theorem dX4_findOn_47 : decode cX4_findOn 47 = .ok (.return_, 1) := by decide +kernel
theorem dX4_followCall_0 : decode cX4_followCall 0 = .ok (.aload_n 0, 1) := by decide +kernel
theorem dX4_followCall_1 : decode cX4_followCall 1 = .ok (.getfield 58, 3) := by decide +kernel
theorem dX4_followCall_4 : decode cX4_followCall 4 = .ok (.getfield 121, 3) := by decide +kernel
theorem dX4_followCall_7 : decode cX4_followCall 7 = .ok (.iload_n 2, 1) := by decide +kernel
theorem dX4_followCall_8 : decode cX4_followCall 8 = .ok (.iaload, 1) := by decide +kernel
theorem dX4_followCall_9 : decode cX4_followCall 9 = .ok (.istore 5, 2) := by decide +kernel
theorem dX4_followCall_11 : decode cX4_followCall 11 = .ok (.iload 5, 2) := by decide +kernel
theorem dX4_followCall_13 : decode cX4_followCall 13 = .ok (.ifCond .ge 4, 3) := by decide +kernel
theorem dX4_followCall_16 : decode cX4_followCall 16 = .ok (.return_, 1) := by decide +kernel
theorem dX4_followCall_17 : decode cX4_followCall 17 = .ok (.aload_n 0, 1) := by decide +kernel
theorem dX4_followCall_18 : decode cX4_followCall 18 = .ok (.getfield 19, 3) := by decide +kernel
theorem dX4_followCall_21 : decode cX4_followCall 21 = .ok (.iload 5, 2) := by decide +kernel
theorem dX4_followCall_23 : decode cX4_followCall 23 = .ok (.bipush 6, 2) := by decide +kernel
theorem dX4_followCall_25 : decode cX4_followCall 25 = .ok (.imul, 1) := by decide +kernel
theorem dX4_followCall_26 : decode cX4_followCall 26 = .ok (.iload_n 3, 1) := by decide +kernel
theorem dX4_followCall_27 : decode cX4_followCall 27 = .ok (.iadd, 1) := by decide +kernel
theorem dX4_followCall_28 : decode cX4_followCall 28 = .ok (.bipush 7, 2) := by decide +kernel
theorem dX4_followCall_30 : decode cX4_followCall 30 = .ok (.isub, 1) := by decide +kernel
theorem dX4_followCall_31 : decode cX4_followCall 31 = .ok (.iaload, 1) := by decide +kernel
theorem dX4_followCall_32 : decode cX4_followCall 32 = .ok (.istore 6, 2) := by decide +kernel
theorem dX4_followCall_34 : decode cX4_followCall 34 = .ok (.iconst 0, 1) := by decide +kernel
theorem dX4_followCall_35 : decode cX4_followCall 35 = .ok (.istore 7, 2) := by decide +kernel
theorem dX4_followCall_37 : decode cX4_followCall 37 = .ok (.iload 7, 2) := by decide +kernel
theorem dX4_followCall_39 : decode cX4_followCall 39 = .ok (.bipush 6, 2) := by decide +kernel
theorem dX4_followCall_41 : decode cX4_followCall 41 = .ok (.if_icmp .ge 31, 3) := by decide +kernel
theorem dX4_followCall_44 : decode cX4_followCall 44 = .ok (.iload 6, 2) := by decide +kernel
theorem dX4_followCall_46 : decode cX4_followCall 46 = .ok (.iload 7, 2) := by decide +kernel
theorem dX4_followCall_48 : decode cX4_followCall 48 = .ok (.iushr, 1) := by decide +kernel
theorem dX4_followCall_49 : decode cX4_followCall 49 = .ok (.iconst 1, 1) := by decide +kernel
theorem dX4_followCall_50 : decode cX4_followCall 50 = .ok (.iand, 1) := by decide +kernel
theorem dX4_followCall_51 : decode cX4_followCall 51 = .ok (.ifCond .eq 15, 3) := by decide +kernel
theorem dX4_followCall_54 : decode cX4_followCall 54 = .ok (.aload_n 0, 1) := by decide +kernel
theorem dX4_followCall_55 : decode cX4_followCall 55 = .ok (.aload_n 1, 1) := by decide +kernel
theorem dX4_followCall_56 : decode cX4_followCall 56 = .ok (.iconst 1, 1) := by decide +kernel
theorem dX4_followCall_57 : decode cX4_followCall 57 = .ok (.iload 7, 2) := by decide +kernel
theorem dX4_followCall_59 : decode cX4_followCall 59 = .ok (.iadd, 1) := by decide +kernel
theorem dX4_followCall_60 : decode cX4_followCall 60 = .ok (.lconst 1, 1) := by decide +kernel
theorem dX4_followCall_61 : decode cX4_followCall 61 = .ok (.iload_n 2, 1) := by decide +kernel
theorem dX4_followCall_62 : decode cX4_followCall 62 = .ok (.lshl, 1) := by decide +kernel
theorem dX4_followCall_63 : decode cX4_followCall 63 = .ok (.invokevirtual 94, 3) := by decide +kernel
theorem dX4_followCall_66 : decode cX4_followCall 66 = .ok (.iinc 7 1, 3) := by decide +kernel
theorem dX4_followCall_69 : decode cX4_followCall 69 = .ok (.goto (-32), 3) := by decide +kernel
theorem dX4_followCall_72 : decode cX4_followCall 72 = .ok (.iload 4, 2) := by decide +kernel
theorem dX4_followCall_74 : decode cX4_followCall 74 = .ok (.iconst 2, 1) := by decide +kernel
theorem dX4_followCall_75 : decode cX4_followCall 75 = .ok (.if_icmp .ne 16, 3) := by decide +kernel
theorem dX4_followCall_78 : decode cX4_followCall 78 = .ok (.aload_n 0, 1) := by decide +kernel
theorem dX4_followCall_79 : decode cX4_followCall 79 = .ok (.aload_n 1, 1) := by decide +kernel
theorem dX4_followCall_80 : decode cX4_followCall 80 = .ok (.iload_n 3, 1) := by decide +kernel
theorem dX4_followCall_81 : decode cX4_followCall 81 = .ok (.lconst 1, 1) := by decide +kernel
theorem dX4_followCall_82 : decode cX4_followCall 82 = .ok (.bipush 40, 2) := by decide +kernel
theorem dX4_followCall_84 : decode cX4_followCall 84 = .ok (.iload 5, 2) := by decide +kernel
theorem dX4_followCall_86 : decode cX4_followCall 86 = .ok (.iadd, 1) := by decide +kernel
theorem dX4_followCall_87 : decode cX4_followCall 87 = .ok (.lshl, 1) := by decide +kernel
theorem dX4_followCall_88 : decode cX4_followCall 88 = .ok (.invokevirtual 94, 3) := by decide +kernel
theorem dX4_followCall_91 : decode cX4_followCall 91 = .ok (.return_, 1) := by decide +kernel
theorem dX4_followRow_0 : decode cX4_followRow 0 = .ok (.iload_n 2, 1) := by decide +kernel
theorem dX4_followRow_1 : decode cX4_followRow 1 = .ok (.bipush 13, 2) := by decide +kernel
theorem dX4_followRow_3 : decode cX4_followRow 3 = .ok (.imul, 1) := by decide +kernel
theorem dX4_followRow_4 : decode cX4_followRow 4 = .ok (.istore_n 3, 1) := by decide +kernel
theorem dX4_followRow_5 : decode cX4_followRow 5 = .ok (.iconst 0, 1) := by decide +kernel
theorem dX4_followRow_6 : decode cX4_followRow 6 = .ok (.istore 4, 2) := by decide +kernel
theorem dX4_followRow_8 : decode cX4_followRow 8 = .ok (.iload 4, 2) := by decide +kernel
theorem dX4_followRow_10 : decode cX4_followRow 10 = .ok (.bipush 13, 2) := by decide +kernel
theorem dX4_followRow_12 : decode cX4_followRow 12 = .ok (.if_icmp .ge 39, 3) := by decide +kernel
theorem dX4_followRow_15 : decode cX4_followRow 15 = .ok (.aload_n 0, 1) := by decide +kernel
theorem dX4_followRow_16 : decode cX4_followRow 16 = .ok (.getfield 54, 3) := by decide +kernel
theorem dX4_followRow_19 : decode cX4_followRow 19 = .ok (.getfield 118, 3) := by decide +kernel
theorem dX4_followRow_22 : decode cX4_followRow 22 = .ok (.iload_n 3, 1) := by decide +kernel
theorem dX4_followRow_23 : decode cX4_followRow 23 = .ok (.iload 4, 2) := by decide +kernel
theorem dX4_followRow_25 : decode cX4_followRow 25 = .ok (.iadd, 1) := by decide +kernel
theorem dX4_followRow_26 : decode cX4_followRow 26 = .ok (.laload, 1) := by decide +kernel
theorem dX4_followRow_27 : decode cX4_followRow 27 = .ok (.lstore 5, 2) := by decide +kernel
theorem dX4_followRow_29 : decode cX4_followRow 29 = .ok (.lload 5, 2) := by decide +kernel
theorem dX4_followRow_31 : decode cX4_followRow 31 = .ok (.lconst 0, 1) := by decide +kernel
theorem dX4_followRow_32 : decode cX4_followRow 32 = .ok (.lcmp, 1) := by decide +kernel
theorem dX4_followRow_33 : decode cX4_followRow 33 = .ok (.ifCond .eq 12, 3) := by decide +kernel
theorem dX4_followRow_36 : decode cX4_followRow 36 = .ok (.aload_n 0, 1) := by decide +kernel
theorem dX4_followRow_37 : decode cX4_followRow 37 = .ok (.aload_n 1, 1) := by decide +kernel
theorem dX4_followRow_38 : decode cX4_followRow 38 = .ok (.iload 4, 2) := by decide +kernel
theorem dX4_followRow_40 : decode cX4_followRow 40 = .ok (.lload 5, 2) := by decide +kernel
theorem dX4_followRow_42 : decode cX4_followRow 42 = .ok (.invokevirtual 94, 3) := by decide +kernel
theorem dX4_followRow_45 : decode cX4_followRow 45 = .ok (.iinc 4 1, 3) := by decide +kernel
theorem dX4_followRow_48 : decode cX4_followRow 48 = .ok (.goto (-40), 3) := by decide +kernel
theorem dX4_followRow_51 : decode cX4_followRow 51 = .ok (.return_, 1) := by decide +kernel
theorem dX4_forget_0 : decode cX4_forget 0 = .ok (.aload_n 0, 1) := by decide +kernel
theorem dX4_forget_1 : decode cX4_forget 1 = .ok (.iconst 0, 1) := by decide +kernel
theorem dX4_forget_2 : decode cX4_forget 2 = .ok (.putfield 9, 3) := by decide +kernel
theorem dX4_forget_5 : decode cX4_forget 5 = .ok (.return_, 1) := by decide +kernel
theorem dX4_forthFrom_0 : decode cX4_forthFrom 0 = .ok (.lconst 0, 1) := by decide +kernel
theorem dX4_forthFrom_1 : decode cX4_forthFrom 1 = .ok (.lstore_n 2, 1) := by decide +kernel
theorem dX4_forthFrom_2 : decode cX4_forthFrom 2 = .ok (.iconst 0, 1) := by decide +kernel
theorem dX4_forthFrom_3 : decode cX4_forthFrom 3 = .ok (.istore 4, 2) := by decide +kernel
theorem dX4_forthFrom_5 : decode cX4_forthFrom 5 = .ok (.iload 4, 2) := by decide +kernel
theorem dX4_forthFrom_7 : decode cX4_forthFrom 7 = .ok (.aload_n 0, 1) := by decide +kernel
theorem dX4_forthFrom_8 : decode cX4_forthFrom 8 = .ok (.getfield 58, 3) := by decide +kernel
theorem dX4_forthFrom_11 : decode cX4_forthFrom 11 = .ok (.getfield 140, 3) := by decide +kernel
theorem dX4_forthFrom_14 : decode cX4_forthFrom 14 = .ok (.if_icmp .ge 30, 3) := by decide +kernel
theorem dX4_forthFrom_17 : decode cX4_forthFrom 17 = .ok (.aload_n 0, 1) := by decide +kernel
theorem dX4_forthFrom_18 : decode cX4_forthFrom 18 = .ok (.iload 4, 2) := by decide +kernel
theorem dX4_forthFrom_20 : decode cX4_forthFrom 20 = .ok (.invokevirtual 143, 3) := by decide +kernel
theorem dX4_forthFrom_23 : decode cX4_forthFrom 23 = .ok (.iload_n 1, 1) := by decide +kernel
theorem dX4_forthFrom_24 : decode cX4_forthFrom 24 = .ok (.invokestatic 102, 3) := by decide +kernel
theorem dX4_forthFrom_27 : decode cX4_forthFrom 27 = .ok (.ifCond .eq 11, 3) := by decide +kernel
theorem dX4_forthFrom_30 : decode cX4_forthFrom 30 = .ok (.lload_n 2, 1) := by decide +kernel
theorem dX4_forthFrom_31 : decode cX4_forthFrom 31 = .ok (.iload 4, 2) := by decide +kernel
theorem dX4_forthFrom_33 : decode cX4_forthFrom 33 = .ok (.invokestatic 91, 3) := by decide +kernel
theorem dX4_forthFrom_36 : decode cX4_forthFrom 36 = .ok (.lor, 1) := by decide +kernel
theorem dX4_forthFrom_37 : decode cX4_forthFrom 37 = .ok (.lstore_n 2, 1) := by decide +kernel
theorem dX4_forthFrom_38 : decode cX4_forthFrom 38 = .ok (.iinc 4 1, 3) := by decide +kernel
theorem dX4_forthFrom_41 : decode cX4_forthFrom 41 = .ok (.goto (-36), 3) := by decide +kernel
theorem dX4_forthFrom_44 : decode cX4_forthFrom 44 = .ok (.lload_n 2, 1) := by decide +kernel
theorem dX4_forthFrom_45 : decode cX4_forthFrom 45 = .ok (.lreturn, 1) := by decide +kernel
theorem dX4_growThrough_0 : decode cX4_growThrough 0 = .ok (.iconst 0, 1) := by decide +kernel
theorem dX4_growThrough_1 : decode cX4_growThrough 1 = .ok (.istore_n 1, 1) := by decide +kernel
theorem dX4_growThrough_2 : decode cX4_growThrough 2 = .ok (.iconst 0, 1) := by decide +kernel
theorem dX4_growThrough_3 : decode cX4_growThrough 3 = .ok (.istore_n 2, 1) := by decide +kernel
theorem dX4_growThrough_4 : decode cX4_growThrough 4 = .ok (.iload_n 2, 1) := by decide +kernel
theorem dX4_growThrough_5 : decode cX4_growThrough 5 = .ok (.aload_n 0, 1) := by decide +kernel
theorem dX4_growThrough_6 : decode cX4_growThrough 6 = .ok (.getfield 58, 3) := by decide +kernel
theorem dX4_growThrough_9 : decode cX4_growThrough 9 = .ok (.getfield 65, 3) := by decide +kernel
theorem dX4_growThrough_12 : decode cX4_growThrough 12 = .ok (.if_icmp .ge 68, 3) := by decide +kernel
theorem dX4_growThrough_15 : decode cX4_growThrough 15 = .ok (.iconst 0, 1) := by decide +kernel
theorem dX4_growThrough_16 : decode cX4_growThrough 16 = .ok (.istore_n 3, 1) := by decide +kernel
theorem dX4_growThrough_17 : decode cX4_growThrough 17 = .ok (.iload_n 3, 1) := by decide +kernel
theorem dX4_growThrough_18 : decode cX4_growThrough 18 = .ok (.bipush 6, 2) := by decide +kernel
theorem dX4_growThrough_20 : decode cX4_growThrough 20 = .ok (.if_icmp .ge 54, 3) := by decide +kernel
theorem dX4_growThrough_23 : decode cX4_growThrough 23 = .ok (.aload_n 0, 1) := by decide +kernel
theorem dX4_growThrough_24 : decode cX4_growThrough 24 = .ok (.iload_n 2, 1) := by decide +kernel
theorem dX4_growThrough_25 : decode cX4_growThrough 25 = .ok (.iload_n 3, 1) := by decide +kernel
theorem dX4_growThrough_26 : decode cX4_growThrough 26 = .ok (.invokevirtual 84, 3) := by decide +kernel
theorem dX4_growThrough_29 : decode cX4_growThrough 29 = .ok (.istore 4, 2) := by decide +kernel
theorem dX4_growThrough_31 : decode cX4_growThrough 31 = .ok (.iload_n 1, 1) := by decide +kernel
theorem dX4_growThrough_32 : decode cX4_growThrough 32 = .ok (.iload 4, 2) := by decide +kernel
theorem dX4_growThrough_34 : decode cX4_growThrough 34 = .ok (.aload_n 0, 1) := by decide +kernel
theorem dX4_growThrough_35 : decode cX4_growThrough 35 = .ok (.getfield 19, 3) := by decide +kernel
theorem dX4_growThrough_38 : decode cX4_growThrough 38 = .ok (.iload_n 2, 1) := by decide +kernel
theorem dX4_growThrough_39 : decode cX4_growThrough 39 = .ok (.bipush 6, 2) := by decide +kernel
theorem dX4_growThrough_41 : decode cX4_growThrough 41 = .ok (.imul, 1) := by decide +kernel
theorem dX4_growThrough_42 : decode cX4_growThrough 42 = .ok (.iload_n 3, 1) := by decide +kernel
theorem dX4_growThrough_43 : decode cX4_growThrough 43 = .ok (.iadd, 1) := by decide +kernel
theorem dX4_growThrough_44 : decode cX4_growThrough 44 = .ok (.iaload, 1) := by decide +kernel
theorem dX4_growThrough_45 : decode cX4_growThrough 45 = .ok (.if_icmp .eq 7, 3) := by decide +kernel
theorem dX4_growThrough_48 : decode cX4_growThrough 48 = .ok (.iconst 1, 1) := by decide +kernel
theorem dX4_growThrough_49 : decode cX4_growThrough 49 = .ok (.goto 4, 3) := by decide +kernel
theorem dX4_growThrough_52 : decode cX4_growThrough 52 = .ok (.iconst 0, 1) := by decide +kernel
theorem dX4_growThrough_53 : decode cX4_growThrough 53 = .ok (.ior, 1) := by decide +kernel
theorem dX4_growThrough_54 : decode cX4_growThrough 54 = .ok (.istore_n 1, 1) := by decide +kernel
theorem dX4_growThrough_55 : decode cX4_growThrough 55 = .ok (.aload_n 0, 1) := by decide +kernel
theorem dX4_growThrough_56 : decode cX4_growThrough 56 = .ok (.getfield 19, 3) := by decide +kernel
theorem dX4_growThrough_59 : decode cX4_growThrough 59 = .ok (.iload_n 2, 1) := by decide +kernel
theorem dX4_growThrough_60 : decode cX4_growThrough 60 = .ok (.bipush 6, 2) := by decide +kernel
theorem dX4_growThrough_62 : decode cX4_growThrough 62 = .ok (.imul, 1) := by decide +kernel
theorem dX4_growThrough_63 : decode cX4_growThrough 63 = .ok (.iload_n 3, 1) := by decide +kernel
theorem dX4_growThrough_64 : decode cX4_growThrough 64 = .ok (.iadd, 1) := by decide +kernel
theorem dX4_growThrough_65 : decode cX4_growThrough 65 = .ok (.iload 4, 2) := by decide +kernel
theorem dX4_growThrough_67 : decode cX4_growThrough 67 = .ok (.iastore, 1) := by decide +kernel
theorem dX4_growThrough_68 : decode cX4_growThrough 68 = .ok (.iinc 3 1, 3) := by decide +kernel
theorem dX4_growThrough_71 : decode cX4_growThrough 71 = .ok (.goto (-54), 3) := by decide +kernel
theorem dX4_growThrough_74 : decode cX4_growThrough 74 = .ok (.iinc 2 1, 3) := by decide +kernel
theorem dX4_growThrough_77 : decode cX4_growThrough 77 = .ok (.goto (-73), 3) := by decide +kernel
theorem dX4_growThrough_80 : decode cX4_growThrough 80 = .ok (.iload_n 1, 1) := by decide +kernel
theorem dX4_growThrough_81 : decode cX4_growThrough 81 = .ok (.ireturn, 1) := by decide +kernel
theorem dX4_insFrom_0 : decode cX4_insFrom 0 = .ok (.aload_n 0, 1) := by decide +kernel
theorem dX4_insFrom_1 : decode cX4_insFrom 1 = .ok (.invokevirtual 88, 3) := by decide +kernel
theorem dX4_insFrom_4 : decode cX4_insFrom 4 = .ok (.aload_n 0, 1) := by decide +kernel
theorem dX4_insFrom_5 : decode cX4_insFrom 5 = .ok (.aload_n 0, 1) := by decide +kernel
theorem dX4_insFrom_6 : decode cX4_insFrom 6 = .ok (.getfield 26, 3) := by decide +kernel
theorem dX4_insFrom_9 : decode cX4_insFrom 9 = .ok (.bipush 7, 2) := by decide +kernel
theorem dX4_insFrom_11 : decode cX4_insFrom 11 = .ok (.iload_n 2, 1) := by decide +kernel
theorem dX4_insFrom_12 : decode cX4_insFrom 12 = .ok (.iadd, 1) := by decide +kernel
theorem dX4_insFrom_13 : decode cX4_insFrom 13 = .ok (.bipush 40, 2) := by decide +kernel
theorem dX4_insFrom_15 : decode cX4_insFrom 15 = .ok (.iload_n 1, 1) := by decide +kernel
theorem dX4_insFrom_16 : decode cX4_insFrom 16 = .ok (.iadd, 1) := by decide +kernel
theorem dX4_insFrom_17 : decode cX4_insFrom 17 = .ok (.invokestatic 91, 3) := by decide +kernel
theorem dX4_insFrom_20 : decode cX4_insFrom 20 = .ok (.invokevirtual 94, 3) := by decide +kernel
theorem dX4_insFrom_23 : decode cX4_insFrom 23 = .ok (.aload_n 0, 1) := by decide +kernel
theorem dX4_insFrom_24 : decode cX4_insFrom 24 = .ok (.aload_n 0, 1) := by decide +kernel
theorem dX4_insFrom_25 : decode cX4_insFrom 25 = .ok (.getfield 26, 3) := by decide +kernel
theorem dX4_insFrom_28 : decode cX4_insFrom 28 = .ok (.iconst 0, 1) := by decide +kernel
theorem dX4_insFrom_29 : decode cX4_insFrom 29 = .ok (.invokevirtual 98, 3) := by decide +kernel
theorem dX4_insFrom_32 : decode cX4_insFrom 32 = .ok (.iconst 0, 1) := by decide +kernel
theorem dX4_insFrom_33 : decode cX4_insFrom 33 = .ok (.istore_n 3, 1) := by decide +kernel
theorem dX4_insFrom_34 : decode cX4_insFrom 34 = .ok (.iconst 0, 1) := by decide +kernel
theorem dX4_insFrom_35 : decode cX4_insFrom 35 = .ok (.istore 4, 2) := by decide +kernel
theorem dX4_insFrom_37 : decode cX4_insFrom 37 = .ok (.iload 4, 2) := by decide +kernel
theorem dX4_insFrom_39 : decode cX4_insFrom 39 = .ok (.bipush 6, 2) := by decide +kernel
theorem dX4_insFrom_41 : decode cX4_insFrom 41 = .ok (.if_icmp .ge 35, 3) := by decide +kernel
theorem dX4_insFrom_44 : decode cX4_insFrom 44 = .ok (.aload_n 0, 1) := by decide +kernel
theorem dX4_insFrom_45 : decode cX4_insFrom 45 = .ok (.getfield 26, 3) := by decide +kernel
theorem dX4_insFrom_48 : decode cX4_insFrom 48 = .ok (.iconst 1, 1) := by decide +kernel
theorem dX4_insFrom_49 : decode cX4_insFrom 49 = .ok (.iload 4, 2) := by decide +kernel
theorem dX4_insFrom_51 : decode cX4_insFrom 51 = .ok (.iadd, 1) := by decide +kernel
theorem dX4_insFrom_52 : decode cX4_insFrom 52 = .ok (.laload, 1) := by decide +kernel
theorem dX4_insFrom_53 : decode cX4_insFrom 53 = .ok (.bipush 40, 2) := by decide +kernel
theorem dX4_insFrom_55 : decode cX4_insFrom 55 = .ok (.iload_n 1, 1) := by decide +kernel
theorem dX4_insFrom_56 : decode cX4_insFrom 56 = .ok (.iadd, 1) := by decide +kernel
theorem dX4_insFrom_57 : decode cX4_insFrom 57 = .ok (.invokestatic 102, 3) := by decide +kernel
theorem dX4_insFrom_60 : decode cX4_insFrom 60 = .ok (.ifCond .eq 10, 3) := by decide +kernel
theorem dX4_insFrom_63 : decode cX4_insFrom 63 = .ok (.iload_n 3, 1) := by decide +kernel
theorem dX4_insFrom_64 : decode cX4_insFrom 64 = .ok (.iconst 1, 1) := by decide +kernel
theorem dX4_insFrom_65 : decode cX4_insFrom 65 = .ok (.iload 4, 2) := by decide +kernel
theorem dX4_insFrom_67 : decode cX4_insFrom 67 = .ok (.ishl, 1) := by decide +kernel
theorem dX4_insFrom_68 : decode cX4_insFrom 68 = .ok (.ior, 1) := by decide +kernel
theorem dX4_insFrom_69 : decode cX4_insFrom 69 = .ok (.istore_n 3, 1) := by decide +kernel
theorem dX4_insFrom_70 : decode cX4_insFrom 70 = .ok (.iinc 4 1, 3) := by decide +kernel
theorem dX4_insFrom_73 : decode cX4_insFrom 73 = .ok (.goto (-36), 3) := by decide +kernel
theorem dX4_insFrom_76 : decode cX4_insFrom 76 = .ok (.iload_n 3, 1) := by decide +kernel
theorem dX4_insFrom_77 : decode cX4_insFrom 77 = .ok (.ireturn, 1) := by decide +kernel
theorem dX4_keptFor_0 : decode cX4_keptFor 0 = .ok (.aload_n 0, 1) := by decide +kernel
theorem dX4_keptFor_1 : decode cX4_keptFor 1 = .ok (.getfield 46, 3) := by decide +kernel
theorem dX4_keptFor_4 : decode cX4_keptFor 4 = .ok (.iload_n 1, 1) := by decide +kernel
theorem dX4_keptFor_5 : decode cX4_keptFor 5 = .ok (.invokestatic 102, 3) := by decide +kernel
theorem dX4_keptFor_8 : decode cX4_keptFor 8 = .ok (.ifCond .ne 27, 3) := by decide +kernel
theorem dX4_keptFor_11 : decode cX4_keptFor 11 = .ok (.aload_n 0, 1) := by decide +kernel
theorem dX4_keptFor_12 : decode cX4_keptFor 12 = .ok (.getfield 43, 3) := by decide +kernel
theorem dX4_keptFor_15 : decode cX4_keptFor 15 = .ok (.iload_n 1, 1) := by decide +kernel
theorem dX4_keptFor_16 : decode cX4_keptFor 16 = .ok (.aload_n 0, 1) := by decide +kernel
theorem dX4_keptFor_17 : decode cX4_keptFor 17 = .ok (.iload_n 1, 1) := by decide +kernel
theorem dX4_keptFor_18 : decode cX4_keptFor 18 = .ok (.invokevirtual 146, 3) := by decide +kernel
theorem dX4_keptFor_21 : decode cX4_keptFor 21 = .ok (.lastore, 1) := by decide +kernel
theorem dX4_keptFor_22 : decode cX4_keptFor 22 = .ok (.aload_n 0, 1) := by decide +kernel
theorem dX4_keptFor_23 : decode cX4_keptFor 23 = .ok (.dup, 1) := by decide +kernel
theorem dX4_keptFor_24 : decode cX4_keptFor 24 = .ok (.getfield 46, 3) := by decide +kernel
theorem dX4_keptFor_27 : decode cX4_keptFor 27 = .ok (.iload_n 1, 1) := by decide +kernel
theorem dX4_keptFor_28 : decode cX4_keptFor 28 = .ok (.invokestatic 91, 3) := by decide +kernel
theorem dX4_keptFor_31 : decode cX4_keptFor 31 = .ok (.lor, 1) := by decide +kernel
theorem dX4_keptFor_32 : decode cX4_keptFor 32 = .ok (.putfield 46, 3) := by decide +kernel
theorem dX4_keptFor_35 : decode cX4_keptFor 35 = .ok (.aload_n 0, 1) := by decide +kernel
theorem dX4_keptFor_36 : decode cX4_keptFor 36 = .ok (.getfield 43, 3) := by decide +kernel
theorem dX4_keptFor_39 : decode cX4_keptFor 39 = .ok (.iload_n 1, 1) := by decide +kernel
theorem dX4_keptFor_40 : decode cX4_keptFor 40 = .ok (.laload, 1) := by decide +kernel
theorem dX4_keptFor_41 : decode cX4_keptFor 41 = .ok (.lreturn, 1) := by decide +kernel
theorem dX4_leadsThrough_0 : decode cX4_leadsThrough 0 = .ok (.aload_n 0, 1) := by decide +kernel
theorem dX4_leadsThrough_1 : decode cX4_leadsThrough 1 = .ok (.getfield 19, 3) := by decide +kernel
theorem dX4_leadsThrough_4 : decode cX4_leadsThrough 4 = .ok (.iload_n 1, 1) := by decide +kernel
theorem dX4_leadsThrough_5 : decode cX4_leadsThrough 5 = .ok (.bipush 6, 2) := by decide +kernel
theorem dX4_leadsThrough_7 : decode cX4_leadsThrough 7 = .ok (.imul, 1) := by decide +kernel
theorem dX4_leadsThrough_8 : decode cX4_leadsThrough 8 = .ok (.iload_n 3, 1) := by decide +kernel
theorem dX4_leadsThrough_9 : decode cX4_leadsThrough 9 = .ok (.iadd, 1) := by decide +kernel
theorem dX4_leadsThrough_10 : decode cX4_leadsThrough 10 = .ok (.iaload, 1) := by decide +kernel
theorem dX4_leadsThrough_11 : decode cX4_leadsThrough 11 = .ok (.i2l, 1) := by decide +kernel
theorem dX4_leadsThrough_12 : decode cX4_leadsThrough 12 = .ok (.iload_n 2, 1) := by decide +kernel
theorem dX4_leadsThrough_13 : decode cX4_leadsThrough 13 = .ok (.invokestatic 102, 3) := by decide +kernel
theorem dX4_leadsThrough_16 : decode cX4_leadsThrough 16 = .ok (.ireturn, 1) := by decide +kernel
theorem dX4_prepare_0 : decode cX4_prepare 0 = .ok (.aload_n 0, 1) := by decide +kernel
theorem dX4_prepare_1 : decode cX4_prepare 1 = .ok (.getfield 9, 3) := by decide +kernel
theorem dX4_prepare_4 : decode cX4_prepare 4 = .ok (.ifCond .eq 4, 3) := by decide +kernel
theorem dX4_prepare_7 : decode cX4_prepare 7 = .ok (.return_, 1) := by decide +kernel
theorem dX4_prepare_8 : decode cX4_prepare 8 = .ok (.aload_n 0, 1) := by decide +kernel
theorem dX4_prepare_9 : decode cX4_prepare 9 = .ok (.iconst 1, 1) := by decide +kernel
theorem dX4_prepare_10 : decode cX4_prepare 10 = .ok (.putfield 9, 3) := by decide +kernel
theorem dX4_prepare_13 : decode cX4_prepare 13 = .ok (.aload_n 0, 1) := by decide +kernel
theorem dX4_prepare_14 : decode cX4_prepare 14 = .ok (.aload_n 1, 1) := by decide +kernel
theorem dX4_prepare_15 : decode cX4_prepare 15 = .ok (.putfield 58, 3) := by decide +kernel
theorem dX4_prepare_18 : decode cX4_prepare 18 = .ok (.aload_n 0, 1) := by decide +kernel
theorem dX4_prepare_19 : decode cX4_prepare 19 = .ok (.getfield 54, 3) := by decide +kernel
theorem dX4_prepare_22 : decode cX4_prepare 22 = .ok (.aload_n 0, 1) := by decide +kernel
theorem dX4_prepare_23 : decode cX4_prepare 23 = .ok (.getfield 58, 3) := by decide +kernel
theorem dX4_prepare_26 : decode cX4_prepare 26 = .ok (.invokevirtual 62, 3) := by decide +kernel
theorem dX4_prepare_29 : decode cX4_prepare 29 = .ok (.aload_n 0, 1) := by decide +kernel
theorem dX4_prepare_30 : decode cX4_prepare 30 = .ok (.lconst 0, 1) := by decide +kernel
theorem dX4_prepare_31 : decode cX4_prepare 31 = .ok (.putfield 39, 3) := by decide +kernel
theorem dX4_prepare_34 : decode cX4_prepare 34 = .ok (.aload_n 0, 1) := by decide +kernel
theorem dX4_prepare_35 : decode cX4_prepare 35 = .ok (.lconst 0, 1) := by decide +kernel
theorem dX4_prepare_36 : decode cX4_prepare 36 = .ok (.putfield 46, 3) := by decide +kernel
theorem dX4_prepare_39 : decode cX4_prepare 39 = .ok (.iconst 0, 1) := by decide +kernel
theorem dX4_prepare_40 : decode cX4_prepare 40 = .ok (.istore_n 2, 1) := by decide +kernel
theorem dX4_prepare_41 : decode cX4_prepare 41 = .ok (.iload_n 2, 1) := by decide +kernel
theorem dX4_prepare_42 : decode cX4_prepare 42 = .ok (.aload_n 0, 1) := by decide +kernel
theorem dX4_prepare_43 : decode cX4_prepare 43 = .ok (.getfield 58, 3) := by decide +kernel
theorem dX4_prepare_46 : decode cX4_prepare 46 = .ok (.getfield 65, 3) := by decide +kernel
theorem dX4_prepare_49 : decode cX4_prepare 49 = .ok (.if_icmp .ge 23, 3) := by decide +kernel
theorem dX4_prepare_52 : decode cX4_prepare 52 = .ok (.aload_n 0, 1) := by decide +kernel
theorem dX4_prepare_53 : decode cX4_prepare 53 = .ok (.getfield 15, 3) := by decide +kernel
theorem dX4_prepare_56 : decode cX4_prepare 56 = .ok (.iload_n 2, 1) := by decide +kernel
theorem dX4_prepare_57 : decode cX4_prepare 57 = .ok (.aload_n 0, 1) := by decide +kernel
theorem dX4_prepare_58 : decode cX4_prepare 58 = .ok (.getfield 58, 3) := by decide +kernel
theorem dX4_prepare_61 : decode cX4_prepare 61 = .ok (.iload_n 2, 1) := by decide +kernel
theorem dX4_prepare_62 : decode cX4_prepare 62 = .ok (.invokevirtual 70, 3) := by decide +kernel
theorem dX4_prepare_65 : decode cX4_prepare 65 = .ok (.lastore, 1) := by decide +kernel
theorem dX4_prepare_66 : decode cX4_prepare 66 = .ok (.iinc 2 1, 3) := by decide +kernel
theorem dX4_prepare_69 : decode cX4_prepare 69 = .ok (.goto (-28), 3) := by decide +kernel
theorem dX4_prepare_72 : decode cX4_prepare 72 = .ok (.aload_n 0, 1) := by decide +kernel
theorem dX4_prepare_73 : decode cX4_prepare 73 = .ok (.getfield 19, 3) := by decide +kernel
theorem dX4_prepare_76 : decode cX4_prepare 76 = .ok (.iconst 0, 1) := by decide +kernel
theorem dX4_prepare_77 : decode cX4_prepare 77 = .ok (.invokestatic 74, 3) := by decide +kernel
theorem dX4_prepare_80 : decode cX4_prepare 80 = .ok (.iconst 1, 1) := by decide +kernel
theorem dX4_prepare_81 : decode cX4_prepare 81 = .ok (.istore_n 2, 1) := by decide +kernel
theorem dX4_prepare_82 : decode cX4_prepare 82 = .ok (.iconst 0, 1) := by decide +kernel
theorem dX4_prepare_83 : decode cX4_prepare 83 = .ok (.istore_n 3, 1) := by decide +kernel
theorem dX4_prepare_84 : decode cX4_prepare 84 = .ok (.iload_n 3, 1) := by decide +kernel
theorem dX4_prepare_85 : decode cX4_prepare 85 = .ok (.sipush 180, 3) := by decide +kernel
theorem dX4_prepare_88 : decode cX4_prepare 88 = .ok (.if_icmp .gt 18, 3) := by decide +kernel
theorem dX4_prepare_91 : decode cX4_prepare 91 = .ok (.iload_n 2, 1) := by decide +kernel
theorem dX4_prepare_92 : decode cX4_prepare 92 = .ok (.ifCond .eq 14, 3) := by decide +kernel
theorem dX4_prepare_95 : decode cX4_prepare 95 = .ok (.aload_n 0, 1) := by decide +kernel
theorem dX4_prepare_96 : decode cX4_prepare 96 = .ok (.invokevirtual 80, 3) := by decide +kernel
theorem dX4_prepare_99 : decode cX4_prepare 99 = .ok (.istore_n 2, 1) := by decide +kernel
theorem dX4_prepare_100 : decode cX4_prepare 100 = .ok (.iinc 3 1, 3) := by decide +kernel
theorem dX4_prepare_103 : decode cX4_prepare 103 = .ok (.goto (-19), 3) := by decide +kernel
theorem dX4_prepare_106 : decode cX4_prepare 106 = .ok (.return_, 1) := by decide +kernel
theorem dX4_spread_0 : decode cX4_spread 0 = .ok (.iconst 0, 1) := by decide +kernel
theorem dX4_spread_1 : decode cX4_spread 1 = .ok (.istore_n 3, 1) := by decide +kernel
theorem dX4_spread_2 : decode cX4_spread 2 = .ok (.iload_n 3, 1) := by decide +kernel
theorem dX4_spread_3 : decode cX4_spread 3 = .ok (.aload_n 0, 1) := by decide +kernel
theorem dX4_spread_4 : decode cX4_spread 4 = .ok (.getfield 29, 3) := by decide +kernel
theorem dX4_spread_7 : decode cX4_spread 7 = .ok (.arraylength, 1) := by decide +kernel
theorem dX4_spread_8 : decode cX4_spread 8 = .ok (.if_icmp .ge 113, 3) := by decide +kernel
theorem dX4_spread_11 : decode cX4_spread 11 = .ok (.iload_n 3, 1) := by decide +kernel
theorem dX4_spread_12 : decode cX4_spread 12 = .ok (.aload_n 0, 1) := by decide +kernel
theorem dX4_spread_13 : decode cX4_spread 13 = .ok (.getfield 32, 3) := by decide +kernel
theorem dX4_spread_16 : decode cX4_spread 16 = .ok (.if_icmp .ge 105, 3) := by decide +kernel
theorem dX4_spread_19 : decode cX4_spread 19 = .ok (.aload_n 0, 1) := by decide +kernel
theorem dX4_spread_20 : decode cX4_spread 20 = .ok (.getfield 29, 3) := by decide +kernel
theorem dX4_spread_23 : decode cX4_spread 23 = .ok (.iload_n 3, 1) := by decide +kernel
theorem dX4_spread_24 : decode cX4_spread 24 = .ok (.iaload, 1) := by decide +kernel
theorem dX4_spread_25 : decode cX4_spread 25 = .ok (.bipush 13, 2) := by decide +kernel
theorem dX4_spread_27 : decode cX4_spread 27 = .ok (.idiv, 1) := by decide +kernel
theorem dX4_spread_28 : decode cX4_spread 28 = .ok (.istore 4, 2) := by decide +kernel
theorem dX4_spread_30 : decode cX4_spread 30 = .ok (.aload_n 0, 1) := by decide +kernel
theorem dX4_spread_31 : decode cX4_spread 31 = .ok (.getfield 29, 3) := by decide +kernel
theorem dX4_spread_34 : decode cX4_spread 34 = .ok (.iload_n 3, 1) := by decide +kernel
theorem dX4_spread_35 : decode cX4_spread 35 = .ok (.iaload, 1) := by decide +kernel
theorem dX4_spread_36 : decode cX4_spread 36 = .ok (.bipush 13, 2) := by decide +kernel
theorem dX4_spread_38 : decode cX4_spread 38 = .ok (.irem, 1) := by decide +kernel
theorem dX4_spread_39 : decode cX4_spread 39 = .ok (.istore 5, 2) := by decide +kernel
theorem dX4_spread_41 : decode cX4_spread 41 = .ok (.aload_n 0, 1) := by decide +kernel
theorem dX4_spread_42 : decode cX4_spread 42 = .ok (.aload_n 1, 1) := by decide +kernel
theorem dX4_spread_43 : decode cX4_spread 43 = .ok (.aload_n 0, 1) := by decide +kernel
theorem dX4_spread_44 : decode cX4_spread 44 = .ok (.getfield 29, 3) := by decide +kernel
theorem dX4_spread_47 : decode cX4_spread 47 = .ok (.iload_n 3, 1) := by decide +kernel
theorem dX4_spread_48 : decode cX4_spread 48 = .ok (.iaload, 1) := by decide +kernel
theorem dX4_spread_49 : decode cX4_spread 49 = .ok (.invokevirtual 111, 3) := by decide +kernel
theorem dX4_spread_52 : decode cX4_spread 52 = .ok (.iload 4, 2) := by decide +kernel
theorem dX4_spread_54 : decode cX4_spread 54 = .ok (.bipush 40, 2) := by decide +kernel
theorem dX4_spread_56 : decode cX4_spread 56 = .ok (.if_icmp .ge 23, 3) := by decide +kernel
theorem dX4_spread_59 : decode cX4_spread 59 = .ok (.iload 5, 2) := by decide +kernel
theorem dX4_spread_61 : decode cX4_spread 61 = .ok (.bipush 7, 2) := by decide +kernel
theorem dX4_spread_63 : decode cX4_spread 63 = .ok (.if_icmp .lt 16, 3) := by decide +kernel
theorem dX4_spread_66 : decode cX4_spread 66 = .ok (.aload_n 0, 1) := by decide +kernel
theorem dX4_spread_67 : decode cX4_spread 67 = .ok (.aload_n 1, 1) := by decide +kernel
theorem dX4_spread_68 : decode cX4_spread 68 = .ok (.iload 4, 2) := by decide +kernel
theorem dX4_spread_70 : decode cX4_spread 70 = .ok (.iload 5, 2) := by decide +kernel
theorem dX4_spread_72 : decode cX4_spread 72 = .ok (.iload_n 2, 1) := by decide +kernel
theorem dX4_spread_73 : decode cX4_spread 73 = .ok (.invokevirtual 114, 3) := by decide +kernel
theorem dX4_spread_76 : decode cX4_spread 76 = .ok (.goto 39, 3) := by decide +kernel
theorem dX4_spread_79 : decode cX4_spread 79 = .ok (.iload 4, 2) := by decide +kernel
theorem dX4_spread_81 : decode cX4_spread 81 = .ok (.bipush 40, 2) := by decide +kernel
theorem dX4_spread_83 : decode cX4_spread 83 = .ok (.if_icmp .lt 32, 3) := by decide +kernel
theorem dX4_spread_86 : decode cX4_spread 86 = .ok (.iload 5, 2) := by decide +kernel
theorem dX4_spread_88 : decode cX4_spread 88 = .ok (.bipush 7, 2) := by decide +kernel
theorem dX4_spread_90 : decode cX4_spread 90 = .ok (.if_icmp .ge 25, 3) := by decide +kernel
theorem dX4_spread_93 : decode cX4_spread 93 = .ok (.iload_n 2, 1) := by decide +kernel
theorem dX4_spread_94 : decode cX4_spread 94 = .ok (.iconst 1, 1) := by decide +kernel
theorem dX4_spread_95 : decode cX4_spread 95 = .ok (.if_icmp .ne 20, 3) := by decide +kernel
theorem dX4_spread_98 : decode cX4_spread 98 = .ok (.aload_n 0, 1) := by decide +kernel
theorem dX4_spread_99 : decode cX4_spread 99 = .ok (.aload_n 1, 1) := by decide +kernel
theorem dX4_spread_100 : decode cX4_spread 100 = .ok (.iload 5, 2) := by decide +kernel
theorem dX4_spread_102 : decode cX4_spread 102 = .ok (.aload_n 0, 1) := by decide +kernel
theorem dX4_spread_103 : decode cX4_spread 103 = .ok (.getfield 15, 3) := by decide +kernel
theorem dX4_spread_106 : decode cX4_spread 106 = .ok (.iload 4, 2) := by decide +kernel
theorem dX4_spread_108 : decode cX4_spread 108 = .ok (.bipush 40, 2) := by decide +kernel
theorem dX4_spread_110 : decode cX4_spread 110 = .ok (.isub, 1) := by decide +kernel
theorem dX4_spread_111 : decode cX4_spread 111 = .ok (.laload, 1) := by decide +kernel
theorem dX4_spread_112 : decode cX4_spread 112 = .ok (.invokevirtual 94, 3) := by decide +kernel
theorem dX4_spread_115 : decode cX4_spread 115 = .ok (.iinc 3 1, 3) := by decide +kernel
theorem dX4_spread_118 : decode cX4_spread 118 = .ok (.goto (-116), 3) := by decide +kernel
theorem dX4_spread_121 : decode cX4_spread 121 = .ok (.aload_n 0, 1) := by decide +kernel
theorem dX4_spread_122 : decode cX4_spread 122 = .ok (.iconst 0, 1) := by decide +kernel
theorem dX4_spread_123 : decode cX4_spread 123 = .ok (.putfield 32, 3) := by decide +kernel
theorem dX4_spread_126 : decode cX4_spread 126 = .ok (.return_, 1) := by decide +kernel
theorem dX4_statementsFound_0 : decode cX4_statementsFound 0 = .ok (.lconst 0, 1) := by decide +kernel
theorem dX4_statementsFound_1 : decode cX4_statementsFound 1 = .ok (.lstore_n 1, 1) := by decide +kernel
theorem dX4_statementsFound_2 : decode cX4_statementsFound 2 = .ok (.iconst 0, 1) := by decide +kernel
theorem dX4_statementsFound_3 : decode cX4_statementsFound 3 = .ok (.istore_n 3, 1) := by decide +kernel
theorem dX4_statementsFound_4 : decode cX4_statementsFound 4 = .ok (.iload_n 3, 1) := by decide +kernel
theorem dX4_statementsFound_5 : decode cX4_statementsFound 5 = .ok (.bipush 13, 2) := by decide +kernel
theorem dX4_statementsFound_7 : decode cX4_statementsFound 7 = .ok (.if_icmp .ge 18, 3) := by decide +kernel
theorem dX4_statementsFound_10 : decode cX4_statementsFound 10 = .ok (.lload_n 1, 1) := by decide +kernel
theorem dX4_statementsFound_11 : decode cX4_statementsFound 11 = .ok (.aload_n 0, 1) := by decide +kernel
theorem dX4_statementsFound_12 : decode cX4_statementsFound 12 = .ok (.getfield 26, 3) := by decide +kernel
theorem dX4_statementsFound_15 : decode cX4_statementsFound 15 = .ok (.iload_n 3, 1) := by decide +kernel
theorem dX4_statementsFound_16 : decode cX4_statementsFound 16 = .ok (.laload, 1) := by decide +kernel
theorem dX4_statementsFound_17 : decode cX4_statementsFound 17 = .ok (.lor, 1) := by decide +kernel
theorem dX4_statementsFound_18 : decode cX4_statementsFound 18 = .ok (.lstore_n 1, 1) := by decide +kernel
theorem dX4_statementsFound_19 : decode cX4_statementsFound 19 = .ok (.iinc 3 1, 3) := by decide +kernel
theorem dX4_statementsFound_22 : decode cX4_statementsFound 22 = .ok (.goto (-18), 3) := by decide +kernel
theorem dX4_statementsFound_25 : decode cX4_statementsFound 25 = .ok (.lload_n 1, 1) := by decide +kernel
theorem dX4_statementsFound_26 : decode cX4_statementsFound 26 = .ok (.ldc2_w 127, 3) := by decide +kernel
theorem dX4_statementsFound_29 : decode cX4_statementsFound 29 = .ok (.land, 1) := by decide +kernel
theorem dX4_statementsFound_30 : decode cX4_statementsFound 30 = .ok (.lreturn, 1) := by decide +kernel
set_option maxHeartbeats 4000000 in
set_option maxRecDepth 100000 in
theorem s_X4_forget (l : Launch) (d : Nat) {P : PP} {h : HP} (hv : Iv P h)  : Mt l yX4_forget cX4_forget 1 none (d + 1) [.ref 49] h 0 0 (fun r h' => r = none ∧ Iv P h') := by
  refine Mt_iv hv (by decide) (Nat.le_of_ble_eq_true rfl) ?_
  show Go l RX4 cX4_forget 1 (g_rm (d + 1) 0 0) "forget" none 117 0 0 (fun _ _ => True) (fun r h' => r = none ∧ Iv P h') 0 0 [(0, .ref 49)] [] h
  refine go_aload_n (pc := 0) rfl dX4_forget_0 ?_
  refine go_iconst (pc := 1) (v := 0) (by decide) dX4_forget_1 ?_
  refine gi_put (pc := 2) (lo := 0) (hi := 1) hv (ti_c (v := 0) (a := 0) (by decide)) (fP_X4_9 _) rfl (Nat.le_of_ble_eq_true rfl) rfl rfl (by omega) (by omega) (ti_nb (by rw [show (0 : Int32).toInt = 0 from (ti_c (v := 0) (a := 0) (by decide))]; omega) (by rw [show (0 : Int32).toInt = 0 from (ti_c (v := 0) (a := 0) (by decide))]; omega)) (ti_fb (by rw [show (0 : Int32).toInt = 0 from (ti_c (v := 0) (a := 0) (by decide))]; omega) (by rw [show (0 : Int32).toInt = 0 from (ti_c (v := 0) (a := 0) (by decide))]; omega)) (by decide) (by decide) (by decide) (by decide) dX4_forget_2 (fun h1 hv1 hv1e => ?_)
  exact gi_vret (pc := 5) ⟨rfl, hv1⟩ hv1 dX4_forget_5
set_option maxHeartbeats 4000000 in
set_option maxRecDepth 100000 in
theorem s_X4_add (l : Launch) (d : Nat) {P : PP} {h : HP} (hv : Iv P h) (c2 : Nat) (hc2 : c2 = 52 ∨ c2 = 53) (a3 : Int32) (a3l : 0 ≤ a3.toInt) (a3u : a3.toInt ≤ 12) (a4 : Int64) : Mt l yX4_add cX4_add 8 none (d + 1) [.ref 49, .ref c2, .int a3, .long a4] h 0 0 (fun r h' => r = none ∧ Iv P h') := by
  refine Mt_iv hv (by decide) (Nat.le_of_ble_eq_true rfl) ?_
  show Go l RX4 cX4_add 8 (g_rm (d + 1) 0 0) "add" none 117 0 0 (fun _ _ => True) (fun r h' => r = none ∧ Iv P h') 0 0 [(0, .ref 49), (1, .ref c2), (2, .int a3), (3, .long a4)] [] h
  have key : ∀ n : Nat, (∀ (l2 : Int32) (l5 : Int64) (l7 : Int32) (hx : HP), Iv P hx → 0 ≤ l2.toInt → l2.toInt ≤ 12 → 0 ≤ l7.toInt → l7.toInt ≤ 45 → (4 * (45 - l7.toInt) + 4 : Int) < n → Go l RX4 cX4_add 8 (g_rm (d + 1) 0 0) "add" none 117 0 0 (fun _ _ => True) (fun r h' => r = none ∧ Iv P h') 0 30 [(0, .ref 49), (2, .int l2), (5, .long l5), (7, .int l7)] [] hx) ∧ (∀ (l2 : Int32) (l5 : Int64) (l7 : Int32) (hx : HP), Iv P hx → 0 ≤ l2.toInt → l2.toInt ≤ 12 → 0 ≤ l7.toInt → l7.toInt ≤ 44 → (4 * (45 - l7.toInt) + 3 : Int) < n → Go l RX4 cX4_add 8 (g_rm (d + 1) 0 0) "add" none 117 0 0 (fun _ _ => True) (fun r h' => r = none ∧ Iv P h') 0 97 [(0, .ref 49), (2, .int l2), (5, .long l5), (7, .int l7)] [] hx) ∧ (∀  (hx : HP), Iv P hx → (1 : Int) < n → Go l RX4 cX4_add 8 (g_rm (d + 1) 0 0) "add" none 117 0 0 (fun _ _ => True) (fun r h' => r = none ∧ Iv P h') 0 103 [] [] hx) := by
    intro n
    induction n with
    | zero => exact ⟨(by intros; omega), (by intros; omega), (by intros; omega)⟩
    | succ n ih =>
      refine ⟨?_, ?_, ?_⟩
      ·
        intro l2 l5 l7 hx hvx l2l l2u l7l l7u hm
        refine go_iload (pc := 30) rfl dX4_add_30 ?_
        refine go_bipush (pc := 32) (v := 45) (by decide) dX4_add_32 ?_
        refine gf_icmp_ge (pc := 34) (tgt := 103) (ti_rfl l7) (ti_c (v := 45) (a := 45) (by decide)) (by decide) dX4_add_34 (fun q1 => ?_) (fun q1 => ?_)
        ·
          exact go_lv rfl (ih.2.2  hx hvx  (by omega))
        ·
          refine go_lload (pc := 37) rfl dX4_add_37 ?_
          refine go_iload (pc := 39) rfl dX4_add_39 ?_
          refine gu_lushr (pc := 41) dX4_add_41 (fun v2 => ?_)
          refine go_lconst (pc := 42) (v := 0) (by decide) dX4_add_42 ?_
          refine gu_lcmp (pc := 43) dX4_add_43 (fun v3 => ?_)
          refine gf_if_eq (pc := 44) (tgt := 103) (ti_rfl v3) (by decide) dX4_add_44 (fun q4 => ?_) (fun q4 => ?_)
          ·
            exact go_lv rfl (ih.2.2  hx hvx  (by omega))
          ·
            refine go_lload (pc := 47) rfl dX4_add_47 ?_
            refine go_iload (pc := 49) rfl dX4_add_49 ?_
            refine gu_lushr (pc := 51) dX4_add_51 (fun v5 => ?_)
            refine go_lconst (pc := 52) (v := 1) (by decide) dX4_add_52 ?_
            refine gu_land (pc := 53) dX4_add_53 (fun v6 => ?_)
            refine go_lconst (pc := 54) (v := 0) (by decide) dX4_add_54 ?_
            refine gu_lcmp (pc := 55) dX4_add_55 (fun v7 => ?_)
            refine gf_if_eq (pc := 56) (tgt := 97) (ti_rfl v7) (by decide) dX4_add_56 (fun q8 => ?_) (fun q8 => ?_)
            ·
              exact go_lv rfl (ih.2.1 l2 l5 l7 hx hvx (by omega) (by omega) (by omega) (by omega) (by omega))
            ·
              refine go_aload_n (pc := 59) rfl dX4_add_59 ?_
              refine gi_get (pc := 60) (lo := 0) (hi := 585) hvx fL_X4_32 rfl (Nat.le_of_ble_eq_true rfl) rfl rfl dX4_add_60 (fun v9 v9l v9u v9w => ?_)
              refine go_aload_n (pc := 63) rfl dX4_add_63 ?_
              refine gi_getF (pc := 64) (q := 54) hvx fL_X4_29 rfl (Nat.le_of_ble_eq_true rfl) rfl (hvx.rf (by decide)) dX4_add_64 ?_
              refine go_alen (pc := 67) (v := 585) (hvx.sh rfl) (by decide) (by decide) dX4_add_67 ?_
              refine gf_icmp_ge (pc := 68) (tgt := 97) (ti_rfl v9) (ti_c (v := 585) (a := 585) (by decide)) (by decide) dX4_add_68 (fun q10 => ?_) (fun q10 => ?_)
              ·
                exact go_lv rfl (ih.2.1 l2 l5 l7 hx hvx (by omega) (by omega) (by omega) (by omega) (by omega))
              ·
                refine go_aload_n (pc := 71) rfl dX4_add_71 ?_
                refine gi_getF (pc := 72) (q := 54) hvx fL_X4_29 rfl (Nat.le_of_ble_eq_true rfl) rfl (hvx.rf (by decide)) dX4_add_72 ?_
                refine go_aload_n (pc := 75) rfl dX4_add_75 ?_
                refine gi_get (pc := 76) (lo := 0) (hi := 585) hvx fL_X4_32 rfl (Nat.le_of_ble_eq_true rfl) rfl rfl dX4_add_76 (fun v11 v11l v11u v11w => ?_)
                have v11r : v9 = hx.2.1 49 8 := v9w
                have v11q : TI v11 v9.toInt := by rw [v11w.trans v11r.symm]; exact (ti_rfl v9)
                refine go_iload (pc := 79) rfl dX4_add_79 ?_
                refine go_bipush (pc := 81) (v := 13) (by decide) dX4_add_81 ?_
                refine gf_imul (pc := 83) (ti_rfl l7) (ti_c (v := 13) (a := 13) (by decide)) (by omega) (by omega) dX4_add_83 (fun v12 e13 => ?_)
                refine go_iload_n (pc := 84) rfl dX4_add_84 ?_
                refine gf_iadd (pc := 85) e13 (ti_rfl l2) (by omega) (by omega) dX4_add_85 (fun v14 e15 => ?_)
                refine gi_iast (pc := 86) (lo := 0) (hi := 584) (len := 585) hvx v11q e15 rfl (by omega) (by omega) (fun _ => rfl) (by omega) (by omega) (by decide) dX4_add_86 (fun h16 hv16 hv16e => ?_)
                refine go_aload_n (pc := 87) rfl dX4_add_87 ?_
                refine go_dup (pc := 88) rfl dX4_add_88 ?_
                refine gi_get (pc := 89) (lo := 0) (hi := 585) hv16 fL_X4_32 rfl (Nat.le_of_ble_eq_true rfl) rfl rfl dX4_add_89 (fun v17 v17l v17u v17w => ?_)
                have v17r : v9 = h16.2.1 49 8 := (show v9 = h16.2.1 49 8 from by rw [hv16e]; exact (g_iI rfl v9w.symm).symm)
                have v17q : TI v17 v9.toInt := by rw [v17w.trans v17r.symm]; exact (ti_rfl v9)
                refine go_iconst (pc := 92) (v := 1) (by decide) dX4_add_92 ?_
                refine gf_iadd (pc := 93) v17q (ti_c (v := 1) (a := 1) (by decide)) (by omega) (by omega) dX4_add_93 (fun v18 e19 => ?_)
                refine gi_put (pc := 94) (lo := 0) (hi := 585) hv16 e19 (fP_X4_32 _) rfl (Nat.le_of_ble_eq_true rfl) rfl rfl (by omega) (by omega) rfl rfl (by decide) (by decide) (by decide) (by decide) dX4_add_94 (fun h20 hv20 hv20e => ?_)
                exact go_lv rfl (ih.2.1 l2 l5 l7 h20 hv20 (by omega) (by omega) (by omega) (by omega) (by omega))
      ·
        intro l2 l5 l7 hx hvx l2l l2u l7l l7u hm
        refine gf_iinc (pc := 97) (Nat.le_of_ble_eq_true rfl) rfl (ti_rfl l7) (ti_c (by decide)) (by omega) (by omega) dX4_add_97 (fun v21 e22 => ?_)
        refine go_lv (lv2 := [(0, .ref 49), (2, .int l2), (5, .long l5), (7, .int v21)]) rfl ?_
        refine go_goto (pc := 100) (tgt := 30) (by decide) dX4_add_100 ?_
        have z23 : (v21 : Int32).toInt = (l7.toInt + 1) := e22
        exact go_lv rfl (ih.1 l2 l5 v21 hx hvx (by omega) (by omega) (by omega) (by omega) (by omega))
      ·
        intro hx hvx hm
        exact gi_vret (pc := 103) ⟨rfl, hvx⟩ hvx dX4_add_103
  refine go_lload_n (pc := 0) rfl dX4_add_0 ?_
  refine go_aload_n (pc := 1) rfl dX4_add_1 ?_
  refine go_iload_n (pc := 2) rfl dX4_add_2 ?_
  refine gi_lald (pc := 3) (len := 13) hv (ti_rfl a3) (by rcases hc2 with rfl | rfl <;> rfl) (by omega) (by omega) dX4_add_3 (fun v24 v24w => ?_)
  refine go_ldc2 (pc := 4) kL_X4_109 dX4_add_4 ?_
  refine gu_lxor (pc := 7) dX4_add_7 (fun v25 => ?_)
  refine gu_land (pc := 8) dX4_add_8 (fun v26 => ?_)
  refine go_lstore (pc := 9) (Nat.le_of_ble_eq_true rfl) dX4_add_9 (go_lv (lv2 := [(0, .ref 49), (1, .ref c2), (2, .int a3), (3, .long a4), (5, .long v26)]) rfl ?_)
  refine go_lload (pc := 11) rfl dX4_add_11 ?_
  refine go_lconst (pc := 13) (v := 0) (by decide) dX4_add_13 ?_
  refine gu_lcmp (pc := 14) dX4_add_14 (fun v27 => ?_)
  refine gf_if_ne (pc := 15) (tgt := 19) (ti_rfl v27) (by decide) dX4_add_15 (fun q28 => ?_) (fun q28 => ?_)
  ·
    refine go_aload_n (pc := 19) rfl dX4_add_19 ?_
    refine go_iload_n (pc := 20) rfl dX4_add_20 ?_
    refine go_dup2 (pc := 21) rfl rfl dX4_add_21 ?_
    refine gi_lald (pc := 22) (len := 13) hv (ti_rfl a3) (by rcases hc2 with rfl | rfl <;> rfl) (by omega) (by omega) dX4_add_22 (fun v29 v29w => ?_)
    refine go_lload (pc := 23) rfl dX4_add_23 ?_
    refine gu_lor (pc := 25) dX4_add_25 (fun v30 => ?_)
    refine gi_last (pc := 26) (len := 13) hv (ti_rfl a3) (by rcases hc2 with rfl | rfl <;> rfl) (by omega) (by omega) dX4_add_26 (fun h31 hv31 hv31e => ?_)
    refine go_iconst (pc := 27) (v := 0) (by decide) dX4_add_27 ?_
    refine go_istore (pc := 28) (Nat.le_of_ble_eq_true rfl) dX4_add_28 (go_lv (lv2 := [(0, .ref 49), (1, .ref c2), (2, .int a3), (3, .long a4), (5, .long v26), (7, .int 0)]) rfl ?_)
    have z32 : (0 : Int32).toInt = 0 := (ti_c (v := 0) (a := 0) (by decide))
    exact go_lv rfl ((key 202).1 a3 v26 0 h31 hv31 (by omega) (by omega) (by omega) (by omega) (by omega))
  ·
    exact gi_vret (pc := 18) ⟨rfl, hv⟩ hv dX4_add_18
set_option maxHeartbeats 4000000 in
set_option maxRecDepth 100000 in
theorem s_X4_clearFound (l : Launch) (d : Nat) {P : PP} {h : HP} (hv : Iv P h)  : Mt l yX4_clearFound cX4_clearFound 1 none (d + 2) [.ref 49] h 0 0 (fun r h' => r = none ∧ Iv P h') := by
  refine Mt_iv hv (by decide) (Nat.le_of_ble_eq_true rfl) ?_
  show Go l RX4 cX4_clearFound 1 (g_rm (d + 2) 0 0) "clearFound" none 117 0 0 (fun _ _ => True) (fun r h' => r = none ∧ Iv P h') 0 0 [(0, .ref 49)] [] h
  refine go_aload_n (pc := 0) rfl dX4_clearFound_0 ?_
  refine gi_getF (pc := 1) (q := 52) hv fL_X4_23 rfl (Nat.le_of_ble_eq_true rfl) rfl (hv.rf (by decide)) dX4_clearFound_1 ?_
  refine go_lconst (pc := 4) (v := 0) (by decide) dX4_clearFound_4 ?_
  refine go_invS (pc := 5) (sl := 0) (s_J7_fill_d0a16_at52 l (d + 0) hv (0 : Int64)) mL_X4_106 iM_J7_fill_d0a16 rfl rfl (Nat.le_of_ble_eq_true rfl) (show d + 0 + 1 + 1 ≤ d + 2 by omega) (show 8 + (5 + 11) + 40 * (d + 0 + 1) ≤ 40 * (d + 2) by omega) (g_c0 hv.ln) (Nat.le_of_ble_eq_true rfl) dX4_clearFound_5 ?_
  intro r h1 hq _
  obtain ⟨rfl, hv1⟩ := hq
  refine go_aload_n (pc := 8) rfl dX4_clearFound_8 ?_
  refine gi_getF (pc := 9) (q := 53) hv1 fL_X4_26 rfl (Nat.le_of_ble_eq_true rfl) rfl (hv1.rf (by decide)) dX4_clearFound_9 ?_
  refine go_lconst (pc := 12) (v := 0) (by decide) dX4_clearFound_12 ?_
  refine go_invS (pc := 13) (sl := 0) (s_J7_fill_d0a16_at53 l (d + 0) hv1 (0 : Int64)) mL_X4_106 iM_J7_fill_d0a16 rfl rfl (Nat.le_of_ble_eq_true rfl) (show d + 0 + 1 + 1 ≤ d + 2 by omega) (show 8 + (5 + 11) + 40 * (d + 0 + 1) ≤ 40 * (d + 2) by omega) (g_c0 hv1.ln) (Nat.le_of_ble_eq_true rfl) dX4_clearFound_13 ?_
  intro r h2 hq _
  obtain ⟨rfl, hv2⟩ := hq
  refine go_aload_n (pc := 16) rfl dX4_clearFound_16 ?_
  refine go_iconst (pc := 17) (v := 0) (by decide) dX4_clearFound_17 ?_
  refine gi_put (pc := 18) (lo := 0) (hi := 585) hv2 (ti_c (v := 0) (a := 0) (by decide)) (fP_X4_32 _) rfl (Nat.le_of_ble_eq_true rfl) rfl rfl (by omega) (by omega) rfl rfl (by decide) (by decide) (by decide) (by decide) dX4_clearFound_18 (fun h3 hv3 hv3e => ?_)
  exact gi_vret (pc := 21) ⟨rfl, hv3⟩ hv3 dX4_clearFound_21
set_option maxHeartbeats 4000000 in
set_option maxRecDepth 100000 in
theorem s_X4_followRow (l : Launch) (d : Nat) {P : PP} {h : HP} (hv : Iv P h) (c2 : Nat) (hc2 : c2 = 52 ∨ c2 = 53) (a3 : Int32) (a3l : 0 ≤ a3.toInt) (a3u : a3.toInt ≤ 584) : Mt l yX4_followRow cX4_followRow 7 none (d + 2) [.ref 49, .ref c2, .int a3] h 0 0 (fun r h' => r = none ∧ Iv P h') := by
  refine Mt_iv hv (by decide) (Nat.le_of_ble_eq_true rfl) ?_
  show Go l RX4 cX4_followRow 7 (g_rm (d + 2) 0 0) "followRow" none 117 0 0 (fun _ _ => True) (fun r h' => r = none ∧ Iv P h') 0 0 [(0, .ref 49), (1, .ref c2), (2, .int a3)] [] h
  have key : ∀ n : Nat, (∀ (l1 : Nat) (l3 : Int32) (l4 : Int32) (hx : HP), Iv P hx → (l1 = 52 ∨ l1 = 53) → 0 ≤ l3.toInt → l3.toInt ≤ 7592 → 0 ≤ l4.toInt → l4.toInt ≤ 13 → (4 * (13 - l4.toInt) + 3 : Int) < n → Go l RX4 cX4_followRow 7 (g_rm (d + 2) 0 0) "followRow" none 117 0 0 (fun _ _ => True) (fun r h' => r = none ∧ Iv P h') 0 8 [(0, .ref 49), (1, .ref l1), (3, .int l3), (4, .int l4)] [] hx) ∧ (∀ (l1 : Nat) (l3 : Int32) (l4 : Int32) (hx : HP), Iv P hx → (l1 = 52 ∨ l1 = 53) → 0 ≤ l3.toInt → l3.toInt ≤ 7592 → 0 ≤ l4.toInt → l4.toInt ≤ 12 → (4 * (13 - l4.toInt) + 2 : Int) < n → Go l RX4 cX4_followRow 7 (g_rm (d + 2) 0 0) "followRow" none 117 0 0 (fun _ _ => True) (fun r h' => r = none ∧ Iv P h') 0 45 [(0, .ref 49), (1, .ref l1), (3, .int l3), (4, .int l4)] [] hx) := by
    intro n
    induction n with
    | zero => exact ⟨(by intros; omega), (by intros; omega)⟩
    | succ n ih =>
      refine ⟨?_, ?_⟩
      ·
        intro l1 l3 l4 hx hvx hl1 l3l l3u l4l l4u hm
        refine go_iload (pc := 8) rfl dX4_followRow_8 ?_
        refine go_bipush (pc := 10) (v := 13) (by decide) dX4_followRow_10 ?_
        refine gf_icmp_ge (pc := 12) (tgt := 51) (ti_rfl l4) (ti_c (v := 13) (a := 13) (by decide)) (by decide) dX4_followRow_12 (fun q1 => ?_) (fun q1 => ?_)
        ·
          exact gi_vret (pc := 51) ⟨rfl, hvx⟩ hvx dX4_followRow_51
        ·
          refine go_aload_n (pc := 15) rfl dX4_followRow_15 ?_
          refine gi_getF (pc := 16) (q := 57) hvx fL_X4_54 rfl (Nat.le_of_ble_eq_true rfl) rfl (hvx.rf (by decide)) dX4_followRow_16 ?_
          refine gi_getF (pc := 19) (q := 58) hvx fL_X4_118 rfl (Nat.le_of_ble_eq_true rfl) rfl (hvx.rf (by decide)) dX4_followRow_19 ?_
          refine go_iload_n (pc := 22) rfl dX4_followRow_22 ?_
          refine go_iload (pc := 23) rfl dX4_followRow_23 ?_
          refine gf_iadd (pc := 25) (ti_rfl l3) (ti_rfl l4) (by omega) (by omega) dX4_followRow_25 (fun v2 e3 => ?_)
          refine gi_lald (pc := 26) (len := 7605) hvx e3 rfl (by omega) (by omega) dX4_followRow_26 (fun v4 v4w => ?_)
          refine go_lstore (pc := 27) (Nat.le_of_ble_eq_true rfl) dX4_followRow_27 (go_lv (lv2 := [(0, .ref 49), (1, .ref l1), (3, .int l3), (4, .int l4), (5, .long v4)]) rfl ?_)
          refine go_lload (pc := 29) rfl dX4_followRow_29 ?_
          refine go_lconst (pc := 31) (v := 0) (by decide) dX4_followRow_31 ?_
          refine gu_lcmp (pc := 32) dX4_followRow_32 (fun v5 => ?_)
          refine gf_if_eq (pc := 33) (tgt := 45) (ti_rfl v5) (by decide) dX4_followRow_33 (fun q6 => ?_) (fun q6 => ?_)
          ·
            exact go_lv rfl (ih.2 l1 l3 l4 hx hvx hl1 (by omega) (by omega) (by omega) (by omega) (by omega))
          ·
            refine go_aload_n (pc := 36) rfl dX4_followRow_36 ?_
            refine go_aload_n (pc := 37) rfl dX4_followRow_37 ?_
            refine go_iload (pc := 38) rfl dX4_followRow_38 ?_
            refine go_lload (pc := 40) rfl dX4_followRow_40 ?_
            refine go_invV (pc := 42) (sl := 0) (s_X4_add l (d + 0) hvx l1 hl1 l4 (by rw [show (l4 : Int32).toInt = l4.toInt from (ti_rfl l4)]; omega) (by rw [show (l4 : Int32).toInt = l4.toInt from (ti_rfl l4)]; omega) v4) mL_X4_94 iM_X4_add sM_X4_add (hvx.sh rfl) rfl rfl rfl (Nat.le_of_ble_eq_true rfl) (show d + 0 + 1 + 1 ≤ d + 2 by omega) (show 8 + (8 + 11) + 40 * (d + 0 + 1) ≤ 40 * (d + 2) by omega) (g_c0 hvx.ln) (Nat.le_of_ble_eq_true rfl) dX4_followRow_42 ?_
            intro r h7 hq _
            obtain ⟨rfl, hv7⟩ := hq
            exact go_lv rfl (ih.2 l1 l3 l4 h7 hv7 hl1 (by omega) (by omega) (by omega) (by omega) (by omega))
      ·
        intro l1 l3 l4 hx hvx hl1 l3l l3u l4l l4u hm
        refine gf_iinc (pc := 45) (Nat.le_of_ble_eq_true rfl) rfl (ti_rfl l4) (ti_c (by decide)) (by omega) (by omega) dX4_followRow_45 (fun v8 e9 => ?_)
        refine go_lv (lv2 := [(0, .ref 49), (1, .ref l1), (3, .int l3), (4, .int v8)]) rfl ?_
        refine go_goto (pc := 48) (tgt := 8) (by decide) dX4_followRow_48 ?_
        have z10 : (v8 : Int32).toInt = (l4.toInt + 1) := e9
        exact go_lv rfl (ih.1 l1 l3 v8 hx hvx hl1 (by omega) (by omega) (by omega) (by omega) (by omega))
  refine go_iload_n (pc := 0) rfl dX4_followRow_0 ?_
  refine go_bipush (pc := 1) (v := 13) (by decide) dX4_followRow_1 ?_
  refine gf_imul (pc := 3) (ti_rfl a3) (ti_c (v := 13) (a := 13) (by decide)) (by omega) (by omega) dX4_followRow_3 (fun v11 e12 => ?_)
  refine go_istore_n (pc := 4) (Nat.le_of_ble_eq_true rfl) dX4_followRow_4 (go_lv (lv2 := [(0, .ref 49), (1, .ref c2), (2, .int a3), (3, .int v11)]) rfl ?_)
  refine go_iconst (pc := 5) (v := 0) (by decide) dX4_followRow_5 ?_
  refine go_istore (pc := 6) (Nat.le_of_ble_eq_true rfl) dX4_followRow_6 (go_lv (lv2 := [(0, .ref 49), (1, .ref c2), (2, .int a3), (3, .int v11), (4, .int 0)]) rfl ?_)
  have z13 : (v11 : Int32).toInt = (a3.toInt * 13) := e12
  have z14 : (0 : Int32).toInt = 0 := (ti_c (v := 0) (a := 0) (by decide))
  exact go_lv rfl ((key 73).1 c2 v11 0 h hv hc2 (by omega) (by omega) (by omega) (by omega) (by omega))
set_option maxHeartbeats 4000000 in
set_option maxRecDepth 100000 in
theorem s_X4_followCall (l : Launch) (d : Nat) {P : PP} {h : HP} (hv : Iv P h) (c2 : Nat) (hc2 : c2 = 52 ∨ c2 = 53) (a3 : Int32) (a3l : 0 ≤ a3.toInt) (a3u : a3.toInt ≤ 39) (a4 : Int32) (a4l : 7 ≤ a4.toInt) (a4u : a4.toInt ≤ 12) (a5 : Int32) : Mt l yX4_followCall cX4_followCall 8 none (d + 2) [.ref 49, .ref c2, .int a3, .int a4, .int a5] h 0 0 (fun r h' => r = none ∧ Iv P h') := by
  refine Mt_iv hv (by decide) (Nat.le_of_ble_eq_true rfl) ?_
  show Go l RX4 cX4_followCall 8 (g_rm (d + 2) 0 0) "followCall" none 117 0 0 (fun _ _ => True) (fun r h' => r = none ∧ Iv P h') 0 0 [(0, .ref 49), (1, .ref c2), (2, .int a3), (3, .int a4), (4, .int a5)] [] h
  have key : ∀ n : Nat, (∀ (l1 : Nat) (l2 : Int32) (l3 : Int32) (l4 : Int32) (l5 : Int32) (l6 : Int32) (l7 : Int32) (hx : HP), Iv P hx → (l1 = 52 ∨ l1 = 53) → 0 ≤ l2.toInt → l2.toInt ≤ 39 → 7 ≤ l3.toInt → l3.toInt ≤ 12 → 0 ≤ l5.toInt → l5.toInt ≤ 4 → 0 ≤ l7.toInt → l7.toInt ≤ 6 → (4 * (6 - l7.toInt) + 4 : Int) < n → Go l RX4 cX4_followCall 8 (g_rm (d + 2) 0 0) "followCall" none 117 0 0 (fun _ _ => True) (fun r h' => r = none ∧ Iv P h') 0 37 [(0, .ref 49), (1, .ref l1), (2, .int l2), (3, .int l3), (4, .int l4), (5, .int l5), (6, .int l6), (7, .int l7)] [] hx) ∧ (∀ (l1 : Nat) (l2 : Int32) (l3 : Int32) (l4 : Int32) (l5 : Int32) (l6 : Int32) (l7 : Int32) (hx : HP), Iv P hx → (l1 = 52 ∨ l1 = 53) → 0 ≤ l2.toInt → l2.toInt ≤ 39 → 7 ≤ l3.toInt → l3.toInt ≤ 12 → 0 ≤ l5.toInt → l5.toInt ≤ 4 → 0 ≤ l7.toInt → l7.toInt ≤ 5 → (4 * (6 - l7.toInt) + 3 : Int) < n → Go l RX4 cX4_followCall 8 (g_rm (d + 2) 0 0) "followCall" none 117 0 0 (fun _ _ => True) (fun r h' => r = none ∧ Iv P h') 0 66 [(0, .ref 49), (1, .ref l1), (2, .int l2), (3, .int l3), (4, .int l4), (5, .int l5), (6, .int l6), (7, .int l7)] [] hx) ∧ (∀  (hx : HP), Iv P hx → (1 : Int) < n → Go l RX4 cX4_followCall 8 (g_rm (d + 2) 0 0) "followCall" none 117 0 0 (fun _ _ => True) (fun r h' => r = none ∧ Iv P h') 0 91 [] [] hx) := by
    intro n
    induction n with
    | zero => exact ⟨(by intros; omega), (by intros; omega), (by intros; omega)⟩
    | succ n ih =>
      refine ⟨?_, ?_, ?_⟩
      ·
        intro l1 l2 l3 l4 l5 l6 l7 hx hvx hl1 l2l l2u l3l l3u l5l l5u l7l l7u hm
        refine go_iload (pc := 37) rfl dX4_followCall_37 ?_
        refine go_bipush (pc := 39) (v := 6) (by decide) dX4_followCall_39 ?_
        refine gf_icmp_ge (pc := 41) (tgt := 72) (ti_rfl l7) (ti_c (v := 6) (a := 6) (by decide)) (by decide) dX4_followCall_41 (fun q1 => ?_) (fun q1 => ?_)
        ·
          refine go_iload (pc := 72) rfl dX4_followCall_72 ?_
          refine go_iconst (pc := 74) (v := 2) (by decide) dX4_followCall_74 ?_
          refine gf_icmp_ne (pc := 75) (tgt := 91) (ti_rfl l4) (ti_c (v := 2) (a := 2) (by decide)) (by decide) dX4_followCall_75 (fun q2 => ?_) (fun q2 => ?_)
          ·
            exact go_lv rfl (ih.2.2  hx hvx  (by omega))
          ·
            refine go_aload_n (pc := 78) rfl dX4_followCall_78 ?_
            refine go_aload_n (pc := 79) rfl dX4_followCall_79 ?_
            refine go_iload_n (pc := 80) rfl dX4_followCall_80 ?_
            refine go_lconst (pc := 81) (v := 1) (by decide) dX4_followCall_81 ?_
            refine go_bipush (pc := 82) (v := 40) (by decide) dX4_followCall_82 ?_
            refine go_iload (pc := 84) rfl dX4_followCall_84 ?_
            refine gf_iadd (pc := 86) (ti_c (v := 40) (a := 40) (by decide)) (ti_rfl l5) (by omega) (by omega) dX4_followCall_86 (fun v3 e4 => ?_)
            refine gu_lshl (pc := 87) dX4_followCall_87 (fun v5 => ?_)
            refine go_invV (pc := 88) (sl := 0) (s_X4_add l (d + 0) hvx l1 hl1 l3 (by rw [show (l3 : Int32).toInt = l3.toInt from (ti_rfl l3)]; omega) (by rw [show (l3 : Int32).toInt = l3.toInt from (ti_rfl l3)]; omega) v5) mL_X4_94 iM_X4_add sM_X4_add (hvx.sh rfl) rfl rfl rfl (Nat.le_of_ble_eq_true rfl) (show d + 0 + 1 + 1 ≤ d + 2 by omega) (show 8 + (8 + 11) + 40 * (d + 0 + 1) ≤ 40 * (d + 2) by omega) (g_c0 hvx.ln) (Nat.le_of_ble_eq_true rfl) dX4_followCall_88 ?_
            intro r h6 hq _
            obtain ⟨rfl, hv6⟩ := hq
            exact go_lv rfl (ih.2.2  h6 hv6  (by omega))
        ·
          refine go_iload (pc := 44) rfl dX4_followCall_44 ?_
          refine go_iload (pc := 46) rfl dX4_followCall_46 ?_
          refine gu_iushr (pc := 48) dX4_followCall_48 (fun v7 => ?_)
          refine go_iconst (pc := 49) (v := 1) (by decide) dX4_followCall_49 ?_
          refine gf_iand (pc := 50) (ti_c (v := 1) (a := 1) (by decide)) (by omega) dX4_followCall_50 (fun v8 v8l v8u => ?_)
          refine gf_if_eq (pc := 51) (tgt := 66) (ti_rfl v8) (by decide) dX4_followCall_51 (fun q9 => ?_) (fun q9 => ?_)
          ·
            exact go_lv rfl (ih.2.1 l1 l2 l3 l4 l5 l6 l7 hx hvx hl1 (by omega) (by omega) (by omega) (by omega) (by omega) (by omega) (by omega) (by omega) (by omega))
          ·
            refine go_aload_n (pc := 54) rfl dX4_followCall_54 ?_
            refine go_aload_n (pc := 55) rfl dX4_followCall_55 ?_
            refine go_iconst (pc := 56) (v := 1) (by decide) dX4_followCall_56 ?_
            refine go_iload (pc := 57) rfl dX4_followCall_57 ?_
            refine gf_iadd (pc := 59) (ti_c (v := 1) (a := 1) (by decide)) (ti_rfl l7) (by omega) (by omega) dX4_followCall_59 (fun v10 e11 => ?_)
            refine go_lconst (pc := 60) (v := 1) (by decide) dX4_followCall_60 ?_
            refine go_iload_n (pc := 61) rfl dX4_followCall_61 ?_
            refine gu_lshl (pc := 62) dX4_followCall_62 (fun v12 => ?_)
            refine go_invV (pc := 63) (sl := 0) (s_X4_add l (d + 0) hvx l1 hl1 v10 (by rw [show (v10 : Int32).toInt = (1 + l7.toInt) from e11]; omega) (by rw [show (v10 : Int32).toInt = (1 + l7.toInt) from e11]; omega) v12) mL_X4_94 iM_X4_add sM_X4_add (hvx.sh rfl) rfl rfl rfl (Nat.le_of_ble_eq_true rfl) (show d + 0 + 1 + 1 ≤ d + 2 by omega) (show 8 + (8 + 11) + 40 * (d + 0 + 1) ≤ 40 * (d + 2) by omega) (g_c0 hvx.ln) (Nat.le_of_ble_eq_true rfl) dX4_followCall_63 ?_
            intro r h13 hq _
            obtain ⟨rfl, hv13⟩ := hq
            exact go_lv rfl (ih.2.1 l1 l2 l3 l4 l5 l6 l7 h13 hv13 hl1 (by omega) (by omega) (by omega) (by omega) (by omega) (by omega) (by omega) (by omega) (by omega))
      ·
        intro l1 l2 l3 l4 l5 l6 l7 hx hvx hl1 l2l l2u l3l l3u l5l l5u l7l l7u hm
        refine gf_iinc (pc := 66) (Nat.le_of_ble_eq_true rfl) rfl (ti_rfl l7) (ti_c (by decide)) (by omega) (by omega) dX4_followCall_66 (fun v14 e15 => ?_)
        refine go_lv (lv2 := [(0, .ref 49), (1, .ref l1), (2, .int l2), (3, .int l3), (4, .int l4), (5, .int l5), (6, .int l6), (7, .int v14)]) rfl ?_
        refine go_goto (pc := 69) (tgt := 37) (by decide) dX4_followCall_69 ?_
        have z16 : (v14 : Int32).toInt = (l7.toInt + 1) := e15
        exact go_lv rfl (ih.1 l1 l2 l3 l4 l5 l6 v14 hx hvx hl1 (by omega) (by omega) (by omega) (by omega) (by omega) (by omega) (by omega) (by omega) (by omega))
      ·
        intro hx hvx hm
        exact gi_vret (pc := 91) ⟨rfl, hvx⟩ hvx dX4_followCall_91
  refine go_aload_n (pc := 0) rfl dX4_followCall_0 ?_
  refine gi_getC (pc := 1) hv fL_X4_58 rfl (Nat.le_of_ble_eq_true rfl) rfl (by decide) dX4_followCall_1 (fun c17 hc17 fc17 => ?_)
  refine gi_getF (pc := 4) (q := c17 + 7) hv fL_X4_121 (by rcases hc17 with rfl | rfl <;> rfl) (Nat.le_of_ble_eq_true rfl) rfl (by rcases hc17 with rfl | rfl <;> exact hv.rf (by decide)) dX4_followCall_4 ?_
  refine go_iload_n (pc := 7) rfl dX4_followCall_7 ?_
  refine gi_iald (pc := 8) (lo := -2) (hi := 4) (len := 40) hv (ti_rfl a3) (by rcases hc17 with rfl | rfl <;> rfl) (by omega) (by omega) (fun _ => by rcases hc17 with rfl | rfl <;> rfl) dX4_followCall_8 (fun v18 v18l v18u v18w => ?_)
  refine go_istore (pc := 9) (Nat.le_of_ble_eq_true rfl) dX4_followCall_9 (go_lv (lv2 := [(0, .ref 49), (1, .ref c2), (2, .int a3), (3, .int a4), (4, .int a5), (5, .int v18)]) rfl ?_)
  refine go_iload (pc := 11) rfl dX4_followCall_11 ?_
  refine gf_if_ge (pc := 13) (tgt := 17) (ti_rfl v18) (by decide) dX4_followCall_13 (fun q19 => ?_) (fun q19 => ?_)
  ·
    refine go_aload_n (pc := 17) rfl dX4_followCall_17 ?_
    refine gi_getF (pc := 18) (q := 51) hv fL_X4_19 rfl (Nat.le_of_ble_eq_true rfl) rfl (hv.rf (by decide)) dX4_followCall_18 ?_
    refine go_iload (pc := 21) rfl dX4_followCall_21 ?_
    refine go_bipush (pc := 23) (v := 6) (by decide) dX4_followCall_23 ?_
    refine gf_imul (pc := 25) (ti_rfl v18) (ti_c (v := 6) (a := 6) (by decide)) (by omega) (by omega) dX4_followCall_25 (fun v20 e21 => ?_)
    refine go_iload_n (pc := 26) rfl dX4_followCall_26 ?_
    refine gf_iadd (pc := 27) e21 (ti_rfl a4) (by omega) (by omega) dX4_followCall_27 (fun v22 e23 => ?_)
    refine go_bipush (pc := 28) (v := 7) (by decide) dX4_followCall_28 ?_
    refine gf_isub (pc := 30) e23 (ti_c (v := 7) (a := 7) (by decide)) (by omega) (by omega) dX4_followCall_30 (fun v24 e25 => ?_)
    refine gi_iald (pc := 31) (lo := -2147483648) (hi := 2147483647) (len := 30) hv e25 rfl (by omega) (by omega) (fun _ => rfl) dX4_followCall_31 (fun v26 v26l v26u v26w => ?_)
    refine go_istore (pc := 32) (Nat.le_of_ble_eq_true rfl) dX4_followCall_32 (go_lv (lv2 := [(0, .ref 49), (1, .ref c2), (2, .int a3), (3, .int a4), (4, .int a5), (5, .int v18), (6, .int v26)]) rfl ?_)
    refine go_iconst (pc := 34) (v := 0) (by decide) dX4_followCall_34 ?_
    refine go_istore (pc := 35) (Nat.le_of_ble_eq_true rfl) dX4_followCall_35 (go_lv (lv2 := [(0, .ref 49), (1, .ref c2), (2, .int a3), (3, .int a4), (4, .int a5), (5, .int v18), (6, .int v26), (7, .int 0)]) rfl ?_)
    have z27 : (0 : Int32).toInt = 0 := (ti_c (v := 0) (a := 0) (by decide))
    exact go_lv rfl ((key 46).1 c2 a3 a4 a5 v18 v26 0 h hv hc2 (by omega) (by omega) (by omega) (by omega) (by omega) (by omega) (by omega) (by omega) (by omega))
  ·
    exact gi_vret (pc := 16) ⟨rfl, hv⟩ hv dX4_followCall_16
set_option maxHeartbeats 4000000 in
set_option maxRecDepth 100000 in
theorem s_X4_spread (l : Launch) (d : Nat) {P : PP} {h : HP} (hv : Iv P h) (c2 : Nat) (hc2 : c2 = 52 ∨ c2 = 53) (a3 : Int32) : Mt l yX4_spread cX4_spread 6 none (d + 3) [.ref 49, .ref c2, .int a3] h 0 0 (fun r h' => r = none ∧ Iv P h') := by
  refine Mt_iv hv (by decide) (Nat.le_of_ble_eq_true rfl) ?_
  show Go l RX4 cX4_spread 6 (g_rm (d + 3) 0 0) "spread" none 117 0 0 (fun _ _ => True) (fun r h' => r = none ∧ Iv P h') 0 0 [(0, .ref 49), (1, .ref c2), (2, .int a3)] [] h
  have key : ∀ n : Nat, (∀ (l1 : Nat) (l2 : Int32) (l3 : Int32) (hx : HP), Iv P hx → (l1 = 52 ∨ l1 = 53) → 0 ≤ l3.toInt → l3.toInt ≤ 585 → (5 * (585 - l3.toInt) + 5 : Int) < n → Go l RX4 cX4_spread 6 (g_rm (d + 3) 0 0) "spread" none 117 0 0 (fun _ _ => True) (fun r h' => r = none ∧ Iv P h') 0 2 [(0, .ref 49), (1, .ref l1), (2, .int l2), (3, .int l3)] [] hx) ∧ (∀ (l1 : Nat) (l2 : Int32) (l3 : Int32) (l4 : Int32) (l5 : Int32) (hx : HP), Iv P hx → (l1 = 52 ∨ l1 = 53) → 0 ≤ l3.toInt → l3.toInt ≤ 584 → 0 ≤ l4.toInt → l4.toInt ≤ 44 → 0 ≤ l5.toInt → l5.toInt ≤ 12 → (5 * (585 - l3.toInt) + 4 : Int) < n → Go l RX4 cX4_spread 6 (g_rm (d + 3) 0 0) "spread" none 117 0 0 (fun _ _ => True) (fun r h' => r = none ∧ Iv P h') 0 79 [(0, .ref 49), (1, .ref l1), (2, .int l2), (3, .int l3), (4, .int l4), (5, .int l5)] [] hx) ∧ (∀ (l1 : Nat) (l2 : Int32) (l3 : Int32) (hx : HP), Iv P hx → (l1 = 52 ∨ l1 = 53) → 0 ≤ l3.toInt → l3.toInt ≤ 584 → (5 * (585 - l3.toInt) + 3 : Int) < n → Go l RX4 cX4_spread 6 (g_rm (d + 3) 0 0) "spread" none 117 0 0 (fun _ _ => True) (fun r h' => r = none ∧ Iv P h') 0 115 [(0, .ref 49), (1, .ref l1), (2, .int l2), (3, .int l3)] [] hx) ∧ (∀  (hx : HP), Iv P hx → (1 : Int) < n → Go l RX4 cX4_spread 6 (g_rm (d + 3) 0 0) "spread" none 117 0 0 (fun _ _ => True) (fun r h' => r = none ∧ Iv P h') 0 121 [(0, .ref 49)] [] hx) := by
    intro n
    induction n with
    | zero => exact ⟨(by intros; omega), (by intros; omega), (by intros; omega), (by intros; omega)⟩
    | succ n ih =>
      refine ⟨?_, ?_, ?_, ?_⟩
      ·
        intro l1 l2 l3 hx hvx hl1 l3l l3u hm
        refine go_iload_n (pc := 2) rfl dX4_spread_2 ?_
        refine go_aload_n (pc := 3) rfl dX4_spread_3 ?_
        refine gi_getF (pc := 4) (q := 54) hvx fL_X4_29 rfl (Nat.le_of_ble_eq_true rfl) rfl (hvx.rf (by decide)) dX4_spread_4 ?_
        refine go_alen (pc := 7) (v := 585) (hvx.sh rfl) (by decide) (by decide) dX4_spread_7 ?_
        refine gf_icmp_ge (pc := 8) (tgt := 121) (ti_rfl l3) (ti_c (v := 585) (a := 585) (by decide)) (by decide) dX4_spread_8 (fun q1 => ?_) (fun q1 => ?_)
        ·
          exact go_lv rfl (ih.2.2.2  hx hvx  (by omega))
        ·
          refine go_iload_n (pc := 11) rfl dX4_spread_11 ?_
          refine go_aload_n (pc := 12) rfl dX4_spread_12 ?_
          refine gi_get (pc := 13) (lo := 0) (hi := 585) hvx fL_X4_32 rfl (Nat.le_of_ble_eq_true rfl) rfl rfl dX4_spread_13 (fun v2 v2l v2u v2w => ?_)
          refine gf_icmp_ge (pc := 16) (tgt := 121) (ti_rfl l3) (ti_rfl v2) (by decide) dX4_spread_16 (fun q3 => ?_) (fun q3 => ?_)
          ·
            exact go_lv rfl (ih.2.2.2  hx hvx  (by omega))
          ·
            refine go_aload_n (pc := 19) rfl dX4_spread_19 ?_
            refine gi_getF (pc := 20) (q := 54) hvx fL_X4_29 rfl (Nat.le_of_ble_eq_true rfl) rfl (hvx.rf (by decide)) dX4_spread_20 ?_
            refine go_iload_n (pc := 23) rfl dX4_spread_23 ?_
            refine gi_iald (pc := 24) (lo := 0) (hi := 584) (len := 585) hvx (ti_rfl l3) rfl (by omega) (by omega) (fun _ => rfl) dX4_spread_24 (fun v4 v4l v4u v4w => ?_)
            refine go_bipush (pc := 25) (v := 13) (by decide) dX4_spread_25 ?_
            refine gf_idiv (pc := 27) (ti_rfl v4) (ti_c (v := 13) (a := 13) (by decide)) (by omega) (by omega) dX4_spread_27 (fun v5 e6 => ?_)
            refine go_istore (pc := 28) (Nat.le_of_ble_eq_true rfl) dX4_spread_28 (go_lv (lv2 := [(0, .ref 49), (1, .ref l1), (2, .int l2), (3, .int l3), (4, .int v5)]) rfl ?_)
            refine go_aload_n (pc := 30) rfl dX4_spread_30 ?_
            refine gi_getF (pc := 31) (q := 54) hvx fL_X4_29 rfl (Nat.le_of_ble_eq_true rfl) rfl (hvx.rf (by decide)) dX4_spread_31 ?_
            refine go_iload_n (pc := 34) rfl dX4_spread_34 ?_
            refine gi_iald (pc := 35) (lo := 0) (hi := 584) (len := 585) hvx (ti_rfl l3) rfl (by omega) (by omega) (fun _ => rfl) dX4_spread_35 (fun v7 v7l v7u v7w => ?_)
            refine go_bipush (pc := 36) (v := 13) (by decide) dX4_spread_36 ?_
            refine gf_irem (pc := 38) (ti_rfl v7) (ti_c (v := 13) (a := 13) (by decide)) (by omega) (by omega) dX4_spread_38 (fun v8 e9 => ?_)
            refine go_istore (pc := 39) (Nat.le_of_ble_eq_true rfl) dX4_spread_39 (go_lv (lv2 := [(0, .ref 49), (1, .ref l1), (2, .int l2), (3, .int l3), (4, .int v5), (5, .int v8)]) rfl ?_)
            refine go_aload_n (pc := 41) rfl dX4_spread_41 ?_
            refine go_aload_n (pc := 42) rfl dX4_spread_42 ?_
            refine go_aload_n (pc := 43) rfl dX4_spread_43 ?_
            refine gi_getF (pc := 44) (q := 54) hvx fL_X4_29 rfl (Nat.le_of_ble_eq_true rfl) rfl (hvx.rf (by decide)) dX4_spread_44 ?_
            refine go_iload_n (pc := 47) rfl dX4_spread_47 ?_
            refine gi_iald (pc := 48) (lo := 0) (hi := 584) (len := 585) hvx (ti_rfl l3) rfl (by omega) (by omega) (fun _ => rfl) dX4_spread_48 (fun v10 v10l v10u v10w => ?_)
            refine go_invV (pc := 49) (sl := 0) (s_X4_followRow l (d + 0) hvx l1 hl1 v10 (by rw [show (v10 : Int32).toInt = v10.toInt from (ti_rfl v10)]; omega) (by rw [show (v10 : Int32).toInt = v10.toInt from (ti_rfl v10)]; omega)) mL_X4_111 iM_X4_followRow sM_X4_followRow (hvx.sh rfl) rfl rfl rfl (Nat.le_of_ble_eq_true rfl) (show d + 0 + 2 + 1 ≤ d + 3 by omega) (show 8 + (7 + 11) + 40 * (d + 0 + 2) ≤ 40 * (d + 3) by omega) (g_c0 hvx.ln) (Nat.le_of_ble_eq_true rfl) dX4_spread_49 ?_
            intro r h11 hq _
            obtain ⟨rfl, hv11⟩ := hq
            refine go_iload (pc := 52) rfl dX4_spread_52 ?_
            refine go_bipush (pc := 54) (v := 40) (by decide) dX4_spread_54 ?_
            refine gf_icmp_ge (pc := 56) (tgt := 79) e6 (ti_c (v := 40) (a := 40) (by decide)) (by decide) dX4_spread_56 (fun q12 => ?_) (fun q12 => ?_)
            ·
              have z13 : (v5 : Int32).toInt = (v4.toInt / 13) := e6
              have z14 : (v8 : Int32).toInt = (v7.toInt % 13) := e9
              exact go_lv rfl (ih.2.1 l1 l2 l3 v5 v8 h11 hv11 hl1 (by omega) (by omega) (by omega) (by omega) (by omega) (by omega) (by omega))
            ·
              refine go_iload (pc := 59) rfl dX4_spread_59 ?_
              refine go_bipush (pc := 61) (v := 7) (by decide) dX4_spread_61 ?_
              refine gf_icmp_lt (pc := 63) (tgt := 79) e9 (ti_c (v := 7) (a := 7) (by decide)) (by decide) dX4_spread_63 (fun q15 => ?_) (fun q15 => ?_)
              ·
                have z16 : (v5 : Int32).toInt = (v4.toInt / 13) := e6
                have z17 : (v8 : Int32).toInt = (v7.toInt % 13) := e9
                exact go_lv rfl (ih.2.1 l1 l2 l3 v5 v8 h11 hv11 hl1 (by omega) (by omega) (by omega) (by omega) (by omega) (by omega) (by omega))
              ·
                refine go_aload_n (pc := 66) rfl dX4_spread_66 ?_
                refine go_aload_n (pc := 67) rfl dX4_spread_67 ?_
                refine go_iload (pc := 68) rfl dX4_spread_68 ?_
                refine go_iload (pc := 70) rfl dX4_spread_70 ?_
                refine go_iload_n (pc := 72) rfl dX4_spread_72 ?_
                refine go_invV (pc := 73) (sl := 0) (s_X4_followCall l (d + 0) hv11 l1 hl1 v5 (by rw [show (v5 : Int32).toInt = (v4.toInt / 13) from e6]; omega) (by rw [show (v5 : Int32).toInt = (v4.toInt / 13) from e6]; omega) v8 (by rw [show (v8 : Int32).toInt = (v7.toInt % 13) from e9]; omega) (by rw [show (v8 : Int32).toInt = (v7.toInt % 13) from e9]; omega) l2) mL_X4_114 iM_X4_followCall sM_X4_followCall (hv11.sh rfl) rfl rfl rfl (Nat.le_of_ble_eq_true rfl) (show d + 0 + 2 + 1 ≤ d + 3 by omega) (show 8 + (8 + 11) + 40 * (d + 0 + 2) ≤ 40 * (d + 3) by omega) (g_c0 hv11.ln) (Nat.le_of_ble_eq_true rfl) dX4_spread_73 ?_
                intro r h18 hq _
                obtain ⟨rfl, hv18⟩ := hq
                refine go_goto (pc := 76) (tgt := 115) (by decide) dX4_spread_76 ?_
                exact go_lv rfl (ih.2.2.1 l1 l2 l3 h18 hv18 hl1 (by omega) (by omega) (by omega))
      ·
        intro l1 l2 l3 l4 l5 hx hvx hl1 l3l l3u l4l l4u l5l l5u hm
        refine go_iload (pc := 79) rfl dX4_spread_79 ?_
        refine go_bipush (pc := 81) (v := 40) (by decide) dX4_spread_81 ?_
        refine gf_icmp_lt (pc := 83) (tgt := 115) (ti_rfl l4) (ti_c (v := 40) (a := 40) (by decide)) (by decide) dX4_spread_83 (fun q19 => ?_) (fun q19 => ?_)
        ·
          exact go_lv rfl (ih.2.2.1 l1 l2 l3 hx hvx hl1 (by omega) (by omega) (by omega))
        ·
          refine go_iload (pc := 86) rfl dX4_spread_86 ?_
          refine go_bipush (pc := 88) (v := 7) (by decide) dX4_spread_88 ?_
          refine gf_icmp_ge (pc := 90) (tgt := 115) (ti_rfl l5) (ti_c (v := 7) (a := 7) (by decide)) (by decide) dX4_spread_90 (fun q20 => ?_) (fun q20 => ?_)
          ·
            exact go_lv rfl (ih.2.2.1 l1 l2 l3 hx hvx hl1 (by omega) (by omega) (by omega))
          ·
            refine go_iload_n (pc := 93) rfl dX4_spread_93 ?_
            refine go_iconst (pc := 94) (v := 1) (by decide) dX4_spread_94 ?_
            refine gf_icmp_ne (pc := 95) (tgt := 115) (ti_rfl l2) (ti_c (v := 1) (a := 1) (by decide)) (by decide) dX4_spread_95 (fun q21 => ?_) (fun q21 => ?_)
            ·
              exact go_lv rfl (ih.2.2.1 l1 l2 l3 hx hvx hl1 (by omega) (by omega) (by omega))
            ·
              refine go_aload_n (pc := 98) rfl dX4_spread_98 ?_
              refine go_aload_n (pc := 99) rfl dX4_spread_99 ?_
              refine go_iload (pc := 100) rfl dX4_spread_100 ?_
              refine go_aload_n (pc := 102) rfl dX4_spread_102 ?_
              refine gi_getF (pc := 103) (q := 50) hvx fL_X4_15 rfl (Nat.le_of_ble_eq_true rfl) rfl (hvx.rf (by decide)) dX4_spread_103 ?_
              refine go_iload (pc := 106) rfl dX4_spread_106 ?_
              refine go_bipush (pc := 108) (v := 40) (by decide) dX4_spread_108 ?_
              refine gf_isub (pc := 110) (ti_rfl l4) (ti_c (v := 40) (a := 40) (by decide)) (by omega) (by omega) dX4_spread_110 (fun v22 e23 => ?_)
              refine gi_lald (pc := 111) (len := 5) hvx e23 rfl (by omega) (by omega) dX4_spread_111 (fun v24 v24w => ?_)
              refine go_invV (pc := 112) (sl := 0) (s_X4_add l (d + 1) hvx l1 hl1 l5 (by rw [show (l5 : Int32).toInt = l5.toInt from (ti_rfl l5)]; omega) (by rw [show (l5 : Int32).toInt = l5.toInt from (ti_rfl l5)]; omega) v24) mL_X4_94 iM_X4_add sM_X4_add (hvx.sh rfl) rfl rfl rfl (Nat.le_of_ble_eq_true rfl) (show d + 1 + 1 + 1 ≤ d + 3 by omega) (show 8 + (8 + 11) + 40 * (d + 1 + 1) ≤ 40 * (d + 3) by omega) (g_c0 hvx.ln) (Nat.le_of_ble_eq_true rfl) dX4_spread_112 ?_
              intro r h25 hq _
              obtain ⟨rfl, hv25⟩ := hq
              exact go_lv rfl (ih.2.2.1 l1 l2 l3 h25 hv25 hl1 (by omega) (by omega) (by omega))
      ·
        intro l1 l2 l3 hx hvx hl1 l3l l3u hm
        refine gf_iinc (pc := 115) (Nat.le_of_ble_eq_true rfl) rfl (ti_rfl l3) (ti_c (by decide)) (by omega) (by omega) dX4_spread_115 (fun v26 e27 => ?_)
        refine go_lv (lv2 := [(0, .ref 49), (1, .ref l1), (2, .int l2), (3, .int v26)]) rfl ?_
        refine go_goto (pc := 118) (tgt := 2) (by decide) dX4_spread_118 ?_
        have z28 : (v26 : Int32).toInt = (l3.toInt + 1) := e27
        exact go_lv rfl (ih.1 l1 l2 v26 hx hvx hl1 (by omega) (by omega) (by omega))
      ·
        intro hx hvx hm
        refine go_aload_n (pc := 121) rfl dX4_spread_121 ?_
        refine go_iconst (pc := 122) (v := 0) (by decide) dX4_spread_122 ?_
        refine gi_put (pc := 123) (lo := 0) (hi := 585) hvx (ti_c (v := 0) (a := 0) (by decide)) (fP_X4_32 _) rfl (Nat.le_of_ble_eq_true rfl) rfl rfl (by omega) (by omega) rfl rfl (by decide) (by decide) (by decide) (by decide) dX4_spread_123 (fun h29 hv29 hv29e => ?_)
        exact gi_vret (pc := 126) ⟨rfl, hv29⟩ hv29 dX4_spread_126
  refine go_iconst (pc := 0) (v := 0) (by decide) dX4_spread_0 ?_
  refine go_istore_n (pc := 1) (Nat.le_of_ble_eq_true rfl) dX4_spread_1 (go_lv (lv2 := [(0, .ref 49), (1, .ref c2), (2, .int a3), (3, .int 0)]) rfl ?_)
  have z30 : (0 : Int32).toInt = 0 := (ti_c (v := 0) (a := 0) (by decide))
  exact go_lv rfl ((key 2949).1 c2 a3 0 h hv hc2 (by omega) (by omega) (by omega))
set_option maxHeartbeats 4000000 in
set_option maxRecDepth 100000 in
theorem s_X4_insFrom (l : Launch) (d : Nat) {P : PP} {h : HP} (hv : Iv P h) (a2 : Int32) (a2l : 0 ≤ a2.toInt) (a2u : a2.toInt ≤ 4) (a3 : Int32) (a3l : 0 ≤ a3.toInt) (a3u : a3.toInt ≤ 5) : Mt l yX4_insFrom cX4_insFrom 5 (some .int) (d + 4) [.ref 49, .int a2, .int a3] h 0 0 (fun r h' => ∃ v : Int32, r = some (.int v) ∧ -2147483648 ≤ v.toInt ∧ v.toInt ≤ 2147483647 ∧ Iv P h') := by
  refine Mt_iv hv (by decide) (Nat.le_of_ble_eq_true rfl) ?_
  show Go l RX4 cX4_insFrom 5 (g_rm (d + 4) 0 0) "insFrom" (some .int) 117 0 0 (fun _ _ => True) (fun r h' => ∃ v : Int32, r = some (.int v) ∧ -2147483648 ≤ v.toInt ∧ v.toInt ≤ 2147483647 ∧ Iv P h') 0 0 [(0, .ref 49), (1, .int a2), (2, .int a3)] [] h
  have key : ∀ n : Nat, (∀ (l1 : Int32) (l3 : Int32) (l4 : Int32) (hx : HP), Iv P hx → 0 ≤ l1.toInt → l1.toInt ≤ 4 → 0 ≤ l4.toInt → l4.toInt ≤ 6 → (4 * (6 - l4.toInt) + 3 : Int) < n → Go l RX4 cX4_insFrom 5 (g_rm (d + 4) 0 0) "insFrom" (some .int) 117 0 0 (fun _ _ => True) (fun r h' => ∃ v : Int32, r = some (.int v) ∧ -2147483648 ≤ v.toInt ∧ v.toInt ≤ 2147483647 ∧ Iv P h') 0 37 [(0, .ref 49), (1, .int l1), (3, .int l3), (4, .int l4)] [] hx) ∧ (∀ (l1 : Int32) (l3 : Int32) (l4 : Int32) (hx : HP), Iv P hx → 0 ≤ l1.toInt → l1.toInt ≤ 4 → 0 ≤ l4.toInt → l4.toInt ≤ 5 → (4 * (6 - l4.toInt) + 2 : Int) < n → Go l RX4 cX4_insFrom 5 (g_rm (d + 4) 0 0) "insFrom" (some .int) 117 0 0 (fun _ _ => True) (fun r h' => ∃ v : Int32, r = some (.int v) ∧ -2147483648 ≤ v.toInt ∧ v.toInt ≤ 2147483647 ∧ Iv P h') 0 70 [(0, .ref 49), (1, .int l1), (3, .int l3), (4, .int l4)] [] hx) := by
    intro n
    induction n with
    | zero => exact ⟨(by intros; omega), (by intros; omega)⟩
    | succ n ih =>
      refine ⟨?_, ?_⟩
      ·
        intro l1 l3 l4 hx hvx l1l l1u l4l l4u hm
        refine go_iload (pc := 37) rfl dX4_insFrom_37 ?_
        refine go_bipush (pc := 39) (v := 6) (by decide) dX4_insFrom_39 ?_
        refine gf_icmp_ge (pc := 41) (tgt := 76) (ti_rfl l4) (ti_c (v := 6) (a := 6) (by decide)) (by decide) dX4_insFrom_41 (fun q1 => ?_) (fun q1 => ?_)
        ·
          refine go_iload_n (pc := 76) rfl dX4_insFrom_76 ?_
          exact gi_iret (pc := 77) (ti_rfl l3) ⟨_, rfl, (ti_lo _), (ti_hi _), hvx⟩ hvx dX4_insFrom_77
        ·
          refine go_aload_n (pc := 44) rfl dX4_insFrom_44 ?_
          refine gi_getF (pc := 45) (q := 53) hvx fL_X4_26 rfl (Nat.le_of_ble_eq_true rfl) rfl (hvx.rf (by decide)) dX4_insFrom_45 ?_
          refine go_iconst (pc := 48) (v := 1) (by decide) dX4_insFrom_48 ?_
          refine go_iload (pc := 49) rfl dX4_insFrom_49 ?_
          refine gf_iadd (pc := 51) (ti_c (v := 1) (a := 1) (by decide)) (ti_rfl l4) (by omega) (by omega) dX4_insFrom_51 (fun v2 e3 => ?_)
          refine gi_lald (pc := 52) (len := 13) hvx e3 rfl (by omega) (by omega) dX4_insFrom_52 (fun v4 v4w => ?_)
          refine go_bipush (pc := 53) (v := 40) (by decide) dX4_insFrom_53 ?_
          refine go_iload_n (pc := 55) rfl dX4_insFrom_55 ?_
          refine gf_iadd (pc := 56) (ti_c (v := 40) (a := 40) (by decide)) (ti_rfl l1) (by omega) (by omega) dX4_insFrom_56 (fun v5 e6 => ?_)
          refine go_invS (pc := 57) (sl := 0) (s_X7_has l (d + 2) hvx v4 v5) mL_X4_102 iM_X7_has rfl rfl (Nat.le_of_ble_eq_true rfl) (show d + 2 + 1 + 1 ≤ d + 4 by omega) (show 8 + (3 + 11) + 40 * (d + 2 + 1) ≤ 40 * (d + 4) by omega) (g_c0 hvx.ln) (Nat.le_of_ble_eq_true rfl) dX4_insFrom_57 ?_
          intro r h7 hq _
          obtain ⟨v8, rfl, v8l, v8u, rfl⟩ := hq
          refine gf_if_eq (pc := 60) (tgt := 70) (ti_rfl v8) (by decide) dX4_insFrom_60 (fun q9 => ?_) (fun q9 => ?_)
          ·
            exact go_lv rfl (ih.2 l1 l3 l4 hx hvx (by omega) (by omega) (by omega) (by omega) (by omega))
          ·
            refine go_iload_n (pc := 63) rfl dX4_insFrom_63 ?_
            refine go_iconst (pc := 64) (v := 1) (by decide) dX4_insFrom_64 ?_
            refine go_iload (pc := 65) rfl dX4_insFrom_65 ?_
            refine gu_ishl (pc := 67) dX4_insFrom_67 (fun v10 => ?_)
            refine gu_ior (pc := 68) dX4_insFrom_68 (fun v11 => ?_)
            refine go_istore_n (pc := 69) (Nat.le_of_ble_eq_true rfl) dX4_insFrom_69 (go_lv (lv2 := [(0, .ref 49), (1, .int l1), (3, .int v11), (4, .int l4)]) rfl ?_)
            exact go_lv rfl (ih.2 l1 v11 l4 hx hvx (by omega) (by omega) (by omega) (by omega) (by omega))
      ·
        intro l1 l3 l4 hx hvx l1l l1u l4l l4u hm
        refine gf_iinc (pc := 70) (Nat.le_of_ble_eq_true rfl) rfl (ti_rfl l4) (ti_c (by decide)) (by omega) (by omega) dX4_insFrom_70 (fun v12 e13 => ?_)
        refine go_lv (lv2 := [(0, .ref 49), (1, .int l1), (3, .int l3), (4, .int v12)]) rfl ?_
        refine go_goto (pc := 73) (tgt := 37) (by decide) dX4_insFrom_73 ?_
        have z14 : (v12 : Int32).toInt = (l4.toInt + 1) := e13
        exact go_lv rfl (ih.1 l1 l3 v12 hx hvx (by omega) (by omega) (by omega) (by omega) (by omega))
  refine go_aload_n (pc := 0) rfl dX4_insFrom_0 ?_
  refine go_invV (pc := 1) (sl := 0) (s_X4_clearFound l (d + 1) hv ) mL_X4_88 iM_X4_clearFound sM_X4_clearFound (hv.sh rfl) rfl rfl rfl (Nat.le_of_ble_eq_true rfl) (show d + 1 + 2 + 1 ≤ d + 4 by omega) (show 8 + (1 + 11) + 40 * (d + 1 + 2) ≤ 40 * (d + 4) by omega) (g_c0 hv.ln) (Nat.le_of_ble_eq_true rfl) dX4_insFrom_1 ?_
  intro r h15 hq _
  obtain ⟨rfl, hv15⟩ := hq
  refine go_aload_n (pc := 4) rfl dX4_insFrom_4 ?_
  refine go_aload_n (pc := 5) rfl dX4_insFrom_5 ?_
  refine gi_getF (pc := 6) (q := 53) hv15 fL_X4_26 rfl (Nat.le_of_ble_eq_true rfl) rfl (hv15.rf (by decide)) dX4_insFrom_6 ?_
  refine go_bipush (pc := 9) (v := 7) (by decide) dX4_insFrom_9 ?_
  refine go_iload_n (pc := 11) rfl dX4_insFrom_11 ?_
  refine gf_iadd (pc := 12) (ti_c (v := 7) (a := 7) (by decide)) (ti_rfl a3) (by omega) (by omega) dX4_insFrom_12 (fun v16 e17 => ?_)
  refine go_bipush (pc := 13) (v := 40) (by decide) dX4_insFrom_13 ?_
  refine go_iload_n (pc := 15) rfl dX4_insFrom_15 ?_
  refine gf_iadd (pc := 16) (ti_c (v := 40) (a := 40) (by decide)) (ti_rfl a2) (by omega) (by omega) dX4_insFrom_16 (fun v18 e19 => ?_)
  refine go_invS (pc := 17) (sl := 0) (s_X7_bit l (d + 2) hv15 v18) mL_X4_91 iM_X7_bit rfl rfl (Nat.le_of_ble_eq_true rfl) (show d + 2 + 1 + 1 ≤ d + 4 by omega) (show 8 + (1 + 11) + 40 * (d + 2 + 1) ≤ 40 * (d + 4) by omega) (g_c0 hv15.ln) (Nat.le_of_ble_eq_true rfl) dX4_insFrom_17 ?_
  intro r h20 hq _
  obtain ⟨v21, rfl, rfl⟩ := hq
  refine go_invV (pc := 20) (sl := 0) (s_X4_add l (d + 2) hv15 53 (by decide) v16 (by rw [show (v16 : Int32).toInt = (7 + a3.toInt) from e17]; omega) (by rw [show (v16 : Int32).toInt = (7 + a3.toInt) from e17]; omega) v21) mL_X4_94 iM_X4_add sM_X4_add (hv15.sh rfl) rfl rfl rfl (Nat.le_of_ble_eq_true rfl) (show d + 2 + 1 + 1 ≤ d + 4 by omega) (show 8 + (8 + 11) + 40 * (d + 2 + 1) ≤ 40 * (d + 4) by omega) (g_c0 hv15.ln) (Nat.le_of_ble_eq_true rfl) dX4_insFrom_20 ?_
  intro r h22 hq _
  obtain ⟨rfl, hv22⟩ := hq
  refine go_aload_n (pc := 23) rfl dX4_insFrom_23 ?_
  refine go_aload_n (pc := 24) rfl dX4_insFrom_24 ?_
  refine gi_getF (pc := 25) (q := 53) hv22 fL_X4_26 rfl (Nat.le_of_ble_eq_true rfl) rfl (hv22.rf (by decide)) dX4_insFrom_25 ?_
  refine go_iconst (pc := 28) (v := 0) (by decide) dX4_insFrom_28 ?_
  refine go_invV (pc := 29) (sl := 0) (s_X4_spread l (d + 0) hv22 53 (by decide) 0) mL_X4_98 iM_X4_spread sM_X4_spread (hv22.sh rfl) rfl rfl rfl (Nat.le_of_ble_eq_true rfl) (show d + 0 + 3 + 1 ≤ d + 4 by omega) (show 8 + (6 + 11) + 40 * (d + 0 + 3) ≤ 40 * (d + 4) by omega) (g_c0 hv22.ln) (Nat.le_of_ble_eq_true rfl) dX4_insFrom_29 ?_
  intro r h23 hq _
  obtain ⟨rfl, hv23⟩ := hq
  refine go_iconst (pc := 32) (v := 0) (by decide) dX4_insFrom_32 ?_
  refine go_istore_n (pc := 33) (Nat.le_of_ble_eq_true rfl) dX4_insFrom_33 (go_lv (lv2 := [(0, .ref 49), (1, .int a2), (2, .int a3), (3, .int 0)]) rfl ?_)
  refine go_iconst (pc := 34) (v := 0) (by decide) dX4_insFrom_34 ?_
  refine go_istore (pc := 35) (Nat.le_of_ble_eq_true rfl) dX4_insFrom_35 (go_lv (lv2 := [(0, .ref 49), (1, .int a2), (2, .int a3), (3, .int 0), (4, .int 0)]) rfl ?_)
  have z24 : (0 : Int32).toInt = 0 := (ti_c (v := 0) (a := 0) (by decide))
  have z25 : (0 : Int32).toInt = 0 := (ti_c (v := 0) (a := 0) (by decide))
  exact go_lv rfl ((key 45).1 a2 0 0 h23 hv23 (by omega) (by omega) (by omega) (by omega) (by omega))
set_option maxHeartbeats 4000000 in
set_option maxRecDepth 100000 in
theorem s_X4_growThrough (l : Launch) (d : Nat) {P : PP} {h : HP} (hv : Iv P h)  : Mt l yX4_growThrough cX4_growThrough 5 (some .boolean) (d + 5) [.ref 49] h 0 0 (fun r h' => ∃ v : Int32, r = some (.int v) ∧ 0 ≤ v.toInt ∧ v.toInt ≤ 1 ∧ Iv P h') := by
  refine Mt_iv hv (by decide) (Nat.le_of_ble_eq_true rfl) ?_
  show Go l RX4 cX4_growThrough 5 (g_rm (d + 5) 0 0) "growThrough" (some .boolean) 117 0 0 (fun _ _ => True) (fun r h' => ∃ v : Int32, r = some (.int v) ∧ 0 ≤ v.toInt ∧ v.toInt ≤ 1 ∧ Iv P h') 0 0 [(0, .ref 49)] [] h
  have key : ∀ n : Nat, (∀ (l1 : Int32) (l2 : Int32) (hx : HP), Iv P hx → 0 ≤ l1.toInt → l1.toInt ≤ 1 → 0 ≤ l2.toInt → l2.toInt ≤ 5 → (35 * (5 - l2.toInt) + 34 : Int) < n → Go l RX4 cX4_growThrough 5 (g_rm (d + 5) 0 0) "growThrough" (some .boolean) 117 0 0 (fun _ _ => True) (fun r h' => ∃ v : Int32, r = some (.int v) ∧ 0 ≤ v.toInt ∧ v.toInt ≤ 1 ∧ Iv P h') 0 4 [(0, .ref 49), (1, .int l1), (2, .int l2)] [] hx) ∧ (∀ (l1 : Int32) (l2 : Int32) (l3 : Int32) (hx : HP), Iv P hx → 0 ≤ l1.toInt → l1.toInt ≤ 1 → 0 ≤ l2.toInt → l2.toInt ≤ 4 → 0 ≤ l3.toInt → l3.toInt ≤ 6 → (4 * (6 - l3.toInt) + 35 * (5 - l2.toInt) + 4 : Int) < n → Go l RX4 cX4_growThrough 5 (g_rm (d + 5) 0 0) "growThrough" (some .boolean) 117 0 0 (fun _ _ => True) (fun r h' => ∃ v : Int32, r = some (.int v) ∧ 0 ≤ v.toInt ∧ v.toInt ≤ 1 ∧ Iv P h') 0 17 [(0, .ref 49), (1, .int l1), (2, .int l2), (3, .int l3)] [] hx) ∧ (∀ (l2 : Int32) (l3 : Int32) (l4 : Int32) (s0 : Int32) (s1 : Int32) (hx : HP), Iv P hx → 0 ≤ l2.toInt → l2.toInt ≤ 4 → 0 ≤ l3.toInt → l3.toInt ≤ 5 → 0 ≤ s0.toInt → s0.toInt ≤ 1 → 0 ≤ s1.toInt → s1.toInt ≤ 1 → (4 * (6 - l3.toInt) + 35 * (5 - l2.toInt) + 3 : Int) < n → Go l RX4 cX4_growThrough 5 (g_rm (d + 5) 0 0) "growThrough" (some .boolean) 117 0 0 (fun _ _ => True) (fun r h' => ∃ v : Int32, r = some (.int v) ∧ 0 ≤ v.toInt ∧ v.toInt ≤ 1 ∧ Iv P h') 0 53 [(0, .ref 49), (2, .int l2), (3, .int l3), (4, .int l4)] [.int s0, .int s1] hx) := by
    intro n
    induction n with
    | zero => exact ⟨(by intros; omega), (by intros; omega), (by intros; omega)⟩
    | succ n ih =>
      refine ⟨?_, ?_, ?_⟩
      ·
        intro l1 l2 hx hvx l1l l1u l2l l2u hm
        refine go_iload_n (pc := 4) rfl dX4_growThrough_4 ?_
        refine go_aload_n (pc := 5) rfl dX4_growThrough_5 ?_
        refine gi_getC (pc := 6) hvx fL_X4_58 rfl (Nat.le_of_ble_eq_true rfl) rfl (by decide) dX4_growThrough_6 (fun c1 hc1 fc1 => ?_)
        refine gi_get (pc := 9) (lo := 0) (hi := 5) hvx fL_X4_65 (by rcases hc1 with rfl | rfl <;> rfl) (Nat.le_of_ble_eq_true rfl) rfl (by rcases hc1 with rfl | rfl <;> rfl) dX4_growThrough_9 (fun v2 v2l v2u v2w => ?_)
        refine gf_icmp_ge (pc := 12) (tgt := 80) (ti_rfl l2) (ti_rfl v2) (by decide) dX4_growThrough_12 (fun q3 => ?_) (fun q3 => ?_)
        ·
          refine go_iload_n (pc := 80) rfl dX4_growThrough_80 ?_
          exact gi_zret (pc := 81) (ti_rfl l1) (by omega) (by omega) ⟨_, rfl, (by rw [show (l1 : Int32).toInt = l1.toInt from (ti_rfl l1)]; omega), (by rw [show (l1 : Int32).toInt = l1.toInt from (ti_rfl l1)]; omega), hvx⟩ hvx dX4_growThrough_81
        ·
          refine go_iconst (pc := 15) (v := 0) (by decide) dX4_growThrough_15 ?_
          refine go_istore_n (pc := 16) (Nat.le_of_ble_eq_true rfl) dX4_growThrough_16 (go_lv (lv2 := [(0, .ref 49), (1, .int l1), (2, .int l2), (3, .int 0)]) rfl ?_)
          have z4 : (0 : Int32).toInt = 0 := (ti_c (v := 0) (a := 0) (by decide))
          exact go_lv rfl (ih.2.1 l1 l2 0 hx hvx (by omega) (by omega) (by omega) (by omega) (by omega) (by omega) (by omega))
      ·
        intro l1 l2 l3 hx hvx l1l l1u l2l l2u l3l l3u hm
        refine go_iload_n (pc := 17) rfl dX4_growThrough_17 ?_
        refine go_bipush (pc := 18) (v := 6) (by decide) dX4_growThrough_18 ?_
        refine gf_icmp_ge (pc := 20) (tgt := 74) (ti_rfl l3) (ti_c (v := 6) (a := 6) (by decide)) (by decide) dX4_growThrough_20 (fun q5 => ?_) (fun q5 => ?_)
        ·
          refine gf_iinc (pc := 74) (Nat.le_of_ble_eq_true rfl) rfl (ti_rfl l2) (ti_c (by decide)) (by omega) (by omega) dX4_growThrough_74 (fun v6 e7 => ?_)
          refine go_lv (lv2 := [(0, .ref 49), (1, .int l1), (2, .int v6), (3, .int l3)]) rfl ?_
          refine go_goto (pc := 77) (tgt := 4) (by decide) dX4_growThrough_77 ?_
          have z8 : (v6 : Int32).toInt = (l2.toInt + 1) := e7
          exact go_lv rfl (ih.1 l1 v6 hx hvx (by omega) (by omega) (by omega) (by omega) (by omega))
        ·
          refine go_aload_n (pc := 23) rfl dX4_growThrough_23 ?_
          refine go_iload_n (pc := 24) rfl dX4_growThrough_24 ?_
          refine go_iload_n (pc := 25) rfl dX4_growThrough_25 ?_
          refine go_invV (pc := 26) (sl := 0) (s_X4_insFrom l (d + 0) hvx l2 (by rw [show (l2 : Int32).toInt = l2.toInt from (ti_rfl l2)]; omega) (by rw [show (l2 : Int32).toInt = l2.toInt from (ti_rfl l2)]; omega) l3 (by rw [show (l3 : Int32).toInt = l3.toInt from (ti_rfl l3)]; omega) (by rw [show (l3 : Int32).toInt = l3.toInt from (ti_rfl l3)]; omega)) mL_X4_84 iM_X4_insFrom sM_X4_insFrom (hvx.sh rfl) rfl rfl rfl (Nat.le_of_ble_eq_true rfl) (show d + 0 + 4 + 1 ≤ d + 5 by omega) (show 8 + (5 + 11) + 40 * (d + 0 + 4) ≤ 40 * (d + 5) by omega) (g_c0 hvx.ln) (Nat.le_of_ble_eq_true rfl) dX4_growThrough_26 ?_
          intro r h9 hq _
          obtain ⟨v10, rfl, v10l, v10u, hv9⟩ := hq
          refine go_istore (pc := 29) (Nat.le_of_ble_eq_true rfl) dX4_growThrough_29 (go_lv (lv2 := [(0, .ref 49), (1, .int l1), (2, .int l2), (3, .int l3), (4, .int v10)]) rfl ?_)
          refine go_iload_n (pc := 31) rfl dX4_growThrough_31 ?_
          refine go_iload (pc := 32) rfl dX4_growThrough_32 ?_
          refine go_aload_n (pc := 34) rfl dX4_growThrough_34 ?_
          refine gi_getF (pc := 35) (q := 51) hv9 fL_X4_19 rfl (Nat.le_of_ble_eq_true rfl) rfl (hv9.rf (by decide)) dX4_growThrough_35 ?_
          refine go_iload_n (pc := 38) rfl dX4_growThrough_38 ?_
          refine go_bipush (pc := 39) (v := 6) (by decide) dX4_growThrough_39 ?_
          refine gf_imul (pc := 41) (ti_rfl l2) (ti_c (v := 6) (a := 6) (by decide)) (by omega) (by omega) dX4_growThrough_41 (fun v11 e12 => ?_)
          refine go_iload_n (pc := 42) rfl dX4_growThrough_42 ?_
          refine gf_iadd (pc := 43) e12 (ti_rfl l3) (by omega) (by omega) dX4_growThrough_43 (fun v13 e14 => ?_)
          refine gi_iald (pc := 44) (lo := -2147483648) (hi := 2147483647) (len := 30) hv9 e14 rfl (by omega) (by omega) (fun _ => rfl) dX4_growThrough_44 (fun v15 v15l v15u v15w => ?_)
          refine gf_icmp_eq (pc := 45) (tgt := 52) (ti_rfl v10) (ti_rfl v15) (by decide) dX4_growThrough_45 (fun q16 => ?_) (fun q16 => ?_)
          ·
            refine go_iconst (pc := 52) (v := 0) (by decide) dX4_growThrough_52 ?_
            have z17 : (0 : Int32).toInt = 0 := (ti_c (v := 0) (a := 0) (by decide))
            exact go_lv rfl (ih.2.2 l2 l3 v10 0 l1 h9 hv9 (by omega) (by omega) (by omega) (by omega) (by omega) (by omega) (by omega) (by omega) (by omega))
          ·
            refine go_iconst (pc := 48) (v := 1) (by decide) dX4_growThrough_48 ?_
            refine go_goto (pc := 49) (tgt := 53) (by decide) dX4_growThrough_49 ?_
            have z18 : (1 : Int32).toInt = 1 := (ti_c (v := 1) (a := 1) (by decide))
            exact go_lv rfl (ih.2.2 l2 l3 v10 1 l1 h9 hv9 (by omega) (by omega) (by omega) (by omega) (by omega) (by omega) (by omega) (by omega) (by omega))
      ·
        intro l2 l3 l4 s0 s1 hx hvx l2l l2u l3l l3u s0l s0u s1l s1u hm
        refine gf_ior (pc := 53) (ti_rfl s1) (ti_rfl s0) (by omega) (by omega) (by omega) (by omega) dX4_growThrough_53 (fun v19 v19l v19u => ?_)
        refine go_istore_n (pc := 54) (Nat.le_of_ble_eq_true rfl) dX4_growThrough_54 (go_lv (lv2 := [(0, .ref 49), (1, .int v19), (2, .int l2), (3, .int l3), (4, .int l4)]) rfl ?_)
        refine go_aload_n (pc := 55) rfl dX4_growThrough_55 ?_
        refine gi_getF (pc := 56) (q := 51) hvx fL_X4_19 rfl (Nat.le_of_ble_eq_true rfl) rfl (hvx.rf (by decide)) dX4_growThrough_56 ?_
        refine go_iload_n (pc := 59) rfl dX4_growThrough_59 ?_
        refine go_bipush (pc := 60) (v := 6) (by decide) dX4_growThrough_60 ?_
        refine gf_imul (pc := 62) (ti_rfl l2) (ti_c (v := 6) (a := 6) (by decide)) (by omega) (by omega) dX4_growThrough_62 (fun v20 e21 => ?_)
        refine go_iload_n (pc := 63) rfl dX4_growThrough_63 ?_
        refine gf_iadd (pc := 64) e21 (ti_rfl l3) (by omega) (by omega) dX4_growThrough_64 (fun v22 e23 => ?_)
        refine go_iload (pc := 65) rfl dX4_growThrough_65 ?_
        refine gi_iast (pc := 67) (lo := -2147483648) (hi := 2147483647) (len := 30) hvx e23 (ti_rfl l4) rfl (by omega) (by omega) (fun _ => rfl) (ti_ge (ti_rfl l4)) (ti_le2 (ti_rfl l4)) (by decide) dX4_growThrough_67 (fun h24 hv24 hv24e => ?_)
        refine gf_iinc (pc := 68) (Nat.le_of_ble_eq_true rfl) rfl (ti_rfl l3) (ti_c (by decide)) (by omega) (by omega) dX4_growThrough_68 (fun v25 e26 => ?_)
        refine go_lv (lv2 := [(0, .ref 49), (1, .int v19), (2, .int l2), (3, .int v25), (4, .int l4)]) rfl ?_
        refine go_goto (pc := 71) (tgt := 17) (by decide) dX4_growThrough_71 ?_
        have z27 : (v25 : Int32).toInt = (l3.toInt + 1) := e26
        exact go_lv rfl (ih.2.1 v19 l2 v25 h24 hv24 (by omega) (by omega) (by omega) (by omega) (by omega) (by omega) (by omega))
  refine go_iconst (pc := 0) (v := 0) (by decide) dX4_growThrough_0 ?_
  refine go_istore_n (pc := 1) (Nat.le_of_ble_eq_true rfl) dX4_growThrough_1 (go_lv (lv2 := [(0, .ref 49), (1, .int 0)]) rfl ?_)
  refine go_iconst (pc := 2) (v := 0) (by decide) dX4_growThrough_2 ?_
  refine go_istore_n (pc := 3) (Nat.le_of_ble_eq_true rfl) dX4_growThrough_3 (go_lv (lv2 := [(0, .ref 49), (1, .int 0), (2, .int 0)]) rfl ?_)
  have z28 : (0 : Int32).toInt = 0 := (ti_c (v := 0) (a := 0) (by decide))
  have z29 : (0 : Int32).toInt = 0 := (ti_c (v := 0) (a := 0) (by decide))
  exact go_lv rfl ((key 258).1 0 0 h hv (by omega) (by omega) (by omega) (by omega) (by omega))
set_option maxHeartbeats 4000000 in
set_option maxRecDepth 100000 in
theorem s_X4_leadsThrough (l : Launch) (d : Nat) {P : PP} {h : HP} (hv : Iv P h) (a2 : Int32) (a2l : 0 ≤ a2.toInt) (a2u : a2.toInt ≤ 4) (a3 : Int32) (a4 : Int32) (a4l : 0 ≤ a4.toInt) (a4u : a4.toInt ≤ 5) : Mt l yX4_leadsThrough cX4_leadsThrough 4 (some .boolean) (d + 2) [.ref 49, .int a2, .int a3, .int a4] h 0 0 (fun r h' => ∃ v : Int32, r = some (.int v) ∧ 0 ≤ v.toInt ∧ v.toInt ≤ 1 ∧ h = h') := by
  refine Mt_iv hv (by decide) (Nat.le_of_ble_eq_true rfl) ?_
  show Go l RX4 cX4_leadsThrough 4 (g_rm (d + 2) 0 0) "leadsThrough" (some .boolean) 117 0 0 (fun _ _ => True) (fun r h' => ∃ v : Int32, r = some (.int v) ∧ 0 ≤ v.toInt ∧ v.toInt ≤ 1 ∧ h = h') 0 0 [(0, .ref 49), (1, .int a2), (2, .int a3), (3, .int a4)] [] h
  refine go_aload_n (pc := 0) rfl dX4_leadsThrough_0 ?_
  refine gi_getF (pc := 1) (q := 51) hv fL_X4_19 rfl (Nat.le_of_ble_eq_true rfl) rfl (hv.rf (by decide)) dX4_leadsThrough_1 ?_
  refine go_iload_n (pc := 4) rfl dX4_leadsThrough_4 ?_
  refine go_bipush (pc := 5) (v := 6) (by decide) dX4_leadsThrough_5 ?_
  refine gf_imul (pc := 7) (ti_rfl a2) (ti_c (v := 6) (a := 6) (by decide)) (by omega) (by omega) dX4_leadsThrough_7 (fun v1 e2 => ?_)
  refine go_iload_n (pc := 8) rfl dX4_leadsThrough_8 ?_
  refine gf_iadd (pc := 9) e2 (ti_rfl a4) (by omega) (by omega) dX4_leadsThrough_9 (fun v3 e4 => ?_)
  refine gi_iald (pc := 10) (lo := -2147483648) (hi := 2147483647) (len := 30) hv e4 rfl (by omega) (by omega) (fun _ => rfl) dX4_leadsThrough_10 (fun v5 v5l v5u v5w => ?_)
  refine gu_i2l (pc := 11) dX4_leadsThrough_11 (fun v6 => ?_)
  refine go_iload_n (pc := 12) rfl dX4_leadsThrough_12 ?_
  refine go_invS (pc := 13) (sl := 0) (s_X7_has l (d + 0) hv v6 a3) mL_X4_102 iM_X7_has rfl rfl (Nat.le_of_ble_eq_true rfl) (show d + 0 + 1 + 1 ≤ d + 2 by omega) (show 8 + (3 + 11) + 40 * (d + 0 + 1) ≤ 40 * (d + 2) by omega) (g_c0 hv.ln) (Nat.le_of_ble_eq_true rfl) dX4_leadsThrough_13 ?_
  intro r h7 hq _
  obtain ⟨v8, rfl, v8l, v8u, rfl⟩ := hq
  exact gi_zret (pc := 16) (ti_rfl v8) (by omega) (by omega) ⟨_, rfl, (by rw [show (v8 : Int32).toInt = v8.toInt from (ti_rfl v8)]; omega), (by rw [show (v8 : Int32).toInt = v8.toInt from (ti_rfl v8)]; omega), rfl⟩ hv dX4_leadsThrough_16
set_option maxHeartbeats 4000000 in
set_option maxRecDepth 100000 in
theorem s_X4_prepare (l : Launch) (d : Nat) {P : PP} {h : HP} (hv : Iv P h) (c2 : Nat) (hc2 : c2 = 2 ∨ c2 = 18) : Mt l yX4_prepare cX4_prepare 4 none (d + 6) [.ref 49, .ref c2] h 0 0 (fun r h' => r = none ∧ Iv P h') := by
  refine Mt_iv hv (by decide) (Nat.le_of_ble_eq_true rfl) ?_
  show Go l RX4 cX4_prepare 4 (g_rm (d + 6) 0 0) "prepare" none 117 0 0 (fun _ _ => True) (fun r h' => r = none ∧ Iv P h') 0 0 [(0, .ref 49), (1, .ref c2)] [] h
  have key : ∀ n : Nat, (∀ (l2 : Int32) (hx : HP), Iv P hx → 0 ≤ l2.toInt → l2.toInt ≤ 5 → (3 * (5 - l2.toInt) + 729 : Int) < n → Go l RX4 cX4_prepare 4 (g_rm (d + 6) 0 0) "prepare" none 117 0 0 (fun _ _ => True) (fun r h' => r = none ∧ Iv P h') 0 41 [(0, .ref 49), (2, .int l2)] [] hx) ∧ (∀ (l2 : Int32) (l3 : Int32) (hx : HP), Iv P hx → 0 ≤ l2.toInt → l2.toInt ≤ 1 → 0 ≤ l3.toInt → l3.toInt ≤ 240 → (3 * (240 - l3.toInt) + 3 : Int) < n → Go l RX4 cX4_prepare 4 (g_rm (d + 6) 0 0) "prepare" none 117 0 0 (fun _ _ => True) (fun r h' => r = none ∧ Iv P h') 0 84 [(0, .ref 49), (2, .int l2), (3, .int l3)] [] hx) ∧ (∀  (hx : HP), Iv P hx → (1 : Int) < n → Go l RX4 cX4_prepare 4 (g_rm (d + 6) 0 0) "prepare" none 117 0 0 (fun _ _ => True) (fun r h' => r = none ∧ Iv P h') 0 106 [] [] hx) := by
    intro n
    induction n with
    | zero => exact ⟨(by intros; omega), (by intros; omega), (by intros; omega)⟩
    | succ n ih =>
      refine ⟨?_, ?_, ?_⟩
      ·
        intro l2 hx hvx l2l l2u hm
        refine go_iload_n (pc := 41) rfl dX4_prepare_41 ?_
        refine go_aload_n (pc := 42) rfl dX4_prepare_42 ?_
        refine gi_getC (pc := 43) hvx fL_X4_58 rfl (Nat.le_of_ble_eq_true rfl) rfl (by decide) dX4_prepare_43 (fun c1 hc1 fc1 => ?_)
        refine gi_get (pc := 46) (lo := 0) (hi := 5) hvx fL_X4_65 (by rcases hc1 with rfl | rfl <;> rfl) (Nat.le_of_ble_eq_true rfl) rfl (by rcases hc1 with rfl | rfl <;> rfl) dX4_prepare_46 (fun v2 v2l v2u v2w => ?_)
        refine gf_icmp_ge (pc := 49) (tgt := 72) (ti_rfl l2) (ti_rfl v2) (by decide) dX4_prepare_49 (fun q3 => ?_) (fun q3 => ?_)
        ·
          refine go_aload_n (pc := 72) rfl dX4_prepare_72 ?_
          refine gi_getF (pc := 73) (q := 51) hvx fL_X4_19 rfl (Nat.le_of_ble_eq_true rfl) rfl (hvx.rf (by decide)) dX4_prepare_73 ?_
          refine go_iconst (pc := 76) (v := 0) (by decide) dX4_prepare_76 ?_
          refine go_invS (pc := 77) (sl := 0) (s_J7_fill_53178_at51 l (d + 4) hvx 0) mL_X4_74 iM_J7_fill_53178 rfl rfl (Nat.le_of_ble_eq_true rfl) (show d + 4 + 1 + 1 ≤ d + 6 by omega) (show 8 + (4 + 11) + 40 * (d + 4 + 1) ≤ 40 * (d + 6) by omega) (g_c0 hvx.ln) (Nat.le_of_ble_eq_true rfl) dX4_prepare_77 ?_
          intro r h4 hq _
          obtain ⟨rfl, hv4⟩ := hq
          refine go_iconst (pc := 80) (v := 1) (by decide) dX4_prepare_80 ?_
          refine go_istore_n (pc := 81) (Nat.le_of_ble_eq_true rfl) dX4_prepare_81 (go_lv (lv2 := [(0, .ref 49), (2, .int 1)]) rfl ?_)
          refine go_iconst (pc := 82) (v := 0) (by decide) dX4_prepare_82 ?_
          refine go_istore_n (pc := 83) (Nat.le_of_ble_eq_true rfl) dX4_prepare_83 (go_lv (lv2 := [(0, .ref 49), (2, .int 1), (3, .int 0)]) rfl ?_)
          have z5 : (1 : Int32).toInt = 1 := (ti_c (v := 1) (a := 1) (by decide))
          have z6 : (0 : Int32).toInt = 0 := (ti_c (v := 0) (a := 0) (by decide))
          exact go_lv rfl (ih.2.1 1 0 h4 hv4 (by omega) (by omega) (by omega) (by omega) (by omega))
        ·
          refine go_aload_n (pc := 52) rfl dX4_prepare_52 ?_
          refine gi_getF (pc := 53) (q := 50) hvx fL_X4_15 rfl (Nat.le_of_ble_eq_true rfl) rfl (hvx.rf (by decide)) dX4_prepare_53 ?_
          refine go_iload_n (pc := 56) rfl dX4_prepare_56 ?_
          refine go_aload_n (pc := 57) rfl dX4_prepare_57 ?_
          refine gi_getC (pc := 58) hvx fL_X4_58 rfl (Nat.le_of_ble_eq_true rfl) rfl (by decide) dX4_prepare_58 (fun c7 hc7 fc7 => ?_)
          refine go_iload_n (pc := 61) rfl dX4_prepare_61 ?_
          refine go_invV (pc := 62) (sl := 0) (s_X0_callsOf l (d + 3) hvx c7 hc7 l2) mL_X4_70 iM_X0_callsOf sM_X0_callsOf (hvx.sh (by rcases hc7 with rfl | rfl <;> rfl)) rfl rfl rfl (Nat.le_of_ble_eq_true rfl) (show d + 3 + 2 + 1 ≤ d + 6 by omega) (show 8 + (5 + 11) + 40 * (d + 3 + 2) ≤ 40 * (d + 6) by omega) (g_c0 hvx.ln) (Nat.le_of_ble_eq_true rfl) dX4_prepare_62 ?_
          intro r h8 hq _
          obtain ⟨v9, rfl, rfl⟩ := hq
          refine gi_last (pc := 65) (len := 5) hvx (ti_rfl l2) rfl (by omega) (by omega) dX4_prepare_65 (fun h10 hv10 hv10e => ?_)
          refine gf_iinc (pc := 66) (Nat.le_of_ble_eq_true rfl) rfl (ti_rfl l2) (ti_c (by decide)) (by omega) (by omega) dX4_prepare_66 (fun v11 e12 => ?_)
          refine go_lv (lv2 := [(0, .ref 49), (2, .int v11)]) rfl ?_
          refine go_goto (pc := 69) (tgt := 41) (by decide) dX4_prepare_69 ?_
          have z13 : (v11 : Int32).toInt = (l2.toInt + 1) := e12
          exact go_lv rfl (ih.1 v11 h10 hv10 (by omega) (by omega) (by omega))
      ·
        intro l2 l3 hx hvx l2l l2u l3l l3u hm
        refine go_iload_n (pc := 84) rfl dX4_prepare_84 ?_
        refine go_sipush (pc := 85) (v := 180) (by decide) dX4_prepare_85 ?_
        refine gf_icmp_gt (pc := 88) (tgt := 106) (ti_rfl l3) (ti_c (v := 180) (a := 180) (by decide)) (by decide) dX4_prepare_88 (fun q14 => ?_) (fun q14 => ?_)
        ·
          exact go_lv rfl (ih.2.2  hx hvx  (by omega))
        ·
          refine go_iload_n (pc := 91) rfl dX4_prepare_91 ?_
          refine gf_if_eq (pc := 92) (tgt := 106) (ti_rfl l2) (by decide) dX4_prepare_92 (fun q15 => ?_) (fun q15 => ?_)
          ·
            exact go_lv rfl (ih.2.2  hx hvx  (by omega))
          ·
            refine go_aload_n (pc := 95) rfl dX4_prepare_95 ?_
            refine go_invV (pc := 96) (sl := 0) (s_X4_growThrough l (d + 0) hvx ) mL_X4_80 iM_X4_growThrough sM_X4_growThrough (hvx.sh rfl) rfl rfl rfl (Nat.le_of_ble_eq_true rfl) (show d + 0 + 5 + 1 ≤ d + 6 by omega) (show 8 + (5 + 11) + 40 * (d + 0 + 5) ≤ 40 * (d + 6) by omega) (g_c0 hvx.ln) (Nat.le_of_ble_eq_true rfl) dX4_prepare_96 ?_
            intro r h16 hq _
            obtain ⟨v17, rfl, v17l, v17u, hv16⟩ := hq
            refine go_istore_n (pc := 99) (Nat.le_of_ble_eq_true rfl) dX4_prepare_99 (go_lv (lv2 := [(0, .ref 49), (2, .int v17), (3, .int l3)]) rfl ?_)
            refine gf_iinc (pc := 100) (Nat.le_of_ble_eq_true rfl) rfl (ti_rfl l3) (ti_c (by decide)) (by omega) (by omega) dX4_prepare_100 (fun v18 e19 => ?_)
            refine go_lv (lv2 := [(0, .ref 49), (2, .int v17), (3, .int v18)]) rfl ?_
            refine go_goto (pc := 103) (tgt := 84) (by decide) dX4_prepare_103 ?_
            have z20 : (v18 : Int32).toInt = (l3.toInt + 1) := e19
            exact go_lv rfl (ih.2.1 v17 v18 h16 hv16 (by omega) (by omega) (by omega) (by omega) (by omega))
      ·
        intro hx hvx hm
        exact gi_vret (pc := 106) ⟨rfl, hvx⟩ hvx dX4_prepare_106
  refine go_aload_n (pc := 0) rfl dX4_prepare_0 ?_
  refine gi_get (pc := 1) (lo := 0) (hi := 1) hv fL_X4_9 rfl (Nat.le_of_ble_eq_true rfl) rfl rfl dX4_prepare_1 (fun v21 v21l v21u v21w => ?_)
  refine gf_if_eq (pc := 4) (tgt := 8) (ti_rfl v21) (by decide) dX4_prepare_4 (fun q22 => ?_) (fun q22 => ?_)
  ·
    refine go_aload_n (pc := 8) rfl dX4_prepare_8 ?_
    refine go_iconst (pc := 9) (v := 1) (by decide) dX4_prepare_9 ?_
    refine gi_put (pc := 10) (lo := 0) (hi := 1) hv (ti_c (v := 1) (a := 1) (by decide)) (fP_X4_9 _) rfl (Nat.le_of_ble_eq_true rfl) rfl rfl (by omega) (by omega) (ti_nb (by rw [show (1 : Int32).toInt = 1 from (ti_c (v := 1) (a := 1) (by decide))]; omega) (by rw [show (1 : Int32).toInt = 1 from (ti_c (v := 1) (a := 1) (by decide))]; omega)) (ti_fb (by rw [show (1 : Int32).toInt = 1 from (ti_c (v := 1) (a := 1) (by decide))]; omega) (by rw [show (1 : Int32).toInt = 1 from (ti_c (v := 1) (a := 1) (by decide))]; omega)) (by decide) (by decide) (by decide) (by decide) dX4_prepare_10 (fun h23 hv23 hv23e => ?_)
    refine go_aload_n (pc := 13) rfl dX4_prepare_13 ?_
    refine go_aload_n (pc := 14) rfl dX4_prepare_14 ?_
    refine gi_putC (pc := 15) hv23 hc2 (fP_X4_58 _) rfl (Nat.le_of_ble_eq_true rfl) rfl (fun _ => rfl) (fun _ => rfl) (by decide) (by decide) (by decide) (by decide) dX4_prepare_15 (fun h24 hv24 hv24e => ?_)
    refine go_aload_n (pc := 18) rfl dX4_prepare_18 ?_
    refine gi_getF (pc := 19) (q := 57) hv24 fL_X4_54 rfl (Nat.le_of_ble_eq_true rfl) rfl (hv24.rf (by decide)) dX4_prepare_19 ?_
    refine go_aload_n (pc := 22) rfl dX4_prepare_22 ?_
    refine gi_getC (pc := 23) hv24 fL_X4_58 rfl (Nat.le_of_ble_eq_true rfl) rfl (by decide) dX4_prepare_23 (fun c25 hc25 fc25 => ?_)
    refine go_invV (pc := 26) (sl := 0) (s_X1_build l (d + 0) hv24 c25 hc25) mL_X4_62 iM_X1_build sM_X1_build (hv24.sh rfl) rfl rfl rfl (Nat.le_of_ble_eq_true rfl) (show d + 0 + 5 + 1 ≤ d + 6 by omega) (show 8 + (3 + 11) + 40 * (d + 0 + 5) ≤ 40 * (d + 6) by omega) (g_c0 hv24.ln) (Nat.le_of_ble_eq_true rfl) dX4_prepare_26 ?_
    intro r h26 hq _
    obtain ⟨rfl, hv26⟩ := hq
    refine go_aload_n (pc := 29) rfl dX4_prepare_29 ?_
    refine go_lconst (pc := 30) (v := 0) (by decide) dX4_prepare_30 ?_
    refine gi_putL (pc := 31) hv26 (fP_X4_39 _) rfl (Nat.le_of_ble_eq_true rfl) rfl rfl rfl dX4_prepare_31 (fun h27 hv27 hv27e => ?_)
    refine go_aload_n (pc := 34) rfl dX4_prepare_34 ?_
    refine go_lconst (pc := 35) (v := 0) (by decide) dX4_prepare_35 ?_
    refine gi_putL (pc := 36) hv27 (fP_X4_46 _) rfl (Nat.le_of_ble_eq_true rfl) rfl rfl rfl dX4_prepare_36 (fun h28 hv28 hv28e => ?_)
    refine go_iconst (pc := 39) (v := 0) (by decide) dX4_prepare_39 ?_
    refine go_istore_n (pc := 40) (Nat.le_of_ble_eq_true rfl) dX4_prepare_40 (go_lv (lv2 := [(0, .ref 49), (1, .ref c2), (2, .int 0)]) rfl ?_)
    have z29 : (0 : Int32).toInt = 0 := (ti_c (v := 0) (a := 0) (by decide))
    exact go_lv rfl ((key 761).1 0 h28 hv28 (by omega) (by omega) (by omega))
  ·
    exact gi_vret (pc := 7) ⟨rfl, hv⟩ hv dX4_prepare_7
set_option maxHeartbeats 4000000 in
set_option maxRecDepth 100000 in
theorem s_X4_findOn (l : Launch) (d : Nat) {P : PP} {h : HP} (hv : Iv P h)  : Mt l yX4_findOn cX4_findOn 2 none (d + 4) [.ref 49] h 0 0 (fun r h' => r = none ∧ Iv P h') := by
  refine Mt_iv hv (by decide) (Nat.le_of_ble_eq_true rfl) ?_
  show Go l RX4 cX4_findOn 2 (g_rm (d + 4) 0 0) "findOn" none 117 0 0 (fun _ _ => True) (fun r h' => r = none ∧ Iv P h') 0 0 [(0, .ref 49)] [] h
  have key : ∀ n : Nat, (∀ (l1 : Int32) (hx : HP), Iv P hx → 0 ≤ l1.toInt → l1.toInt ≤ 13 → (3 * (13 - l1.toInt) + 2 : Int) < n → Go l RX4 cX4_findOn 2 (g_rm (d + 4) 0 0) "findOn" none 117 0 0 (fun _ _ => True) (fun r h' => r = none ∧ Iv P h') 0 11 [(0, .ref 49), (1, .int l1)] [] hx) := by
    intro n
    induction n with
    | zero => exact (by intros; omega)
    | succ n ih =>
      refine ?_
      ·
        intro l1 hx hvx l1l l1u hm
        refine go_iload_n (pc := 11) rfl dX4_findOn_11 ?_
        refine go_bipush (pc := 12) (v := 13) (by decide) dX4_findOn_12 ?_
        refine gf_icmp_ge (pc := 14) (tgt := 38) (ti_rfl l1) (ti_c (v := 13) (a := 13) (by decide)) (by decide) dX4_findOn_14 (fun q1 => ?_) (fun q1 => ?_)
        ·
          refine go_aload_n (pc := 38) rfl dX4_findOn_38 ?_
          refine go_aload_n (pc := 39) rfl dX4_findOn_39 ?_
          refine gi_getF (pc := 40) (q := 53) hvx fL_X4_26 rfl (Nat.le_of_ble_eq_true rfl) rfl (hvx.rf (by decide)) dX4_findOn_40 ?_
          refine go_iconst (pc := 43) (v := 2) (by decide) dX4_findOn_43 ?_
          refine go_invV (pc := 44) (sl := 0) (s_X4_spread l (d + 0) hvx 53 (by decide) 2) mL_X4_98 iM_X4_spread sM_X4_spread (hvx.sh rfl) rfl rfl rfl (Nat.le_of_ble_eq_true rfl) (show d + 0 + 3 + 1 ≤ d + 4 by omega) (show 8 + (6 + 11) + 40 * (d + 0 + 3) ≤ 40 * (d + 4) by omega) (g_c0 hvx.ln) (Nat.le_of_ble_eq_true rfl) dX4_findOn_44 ?_
          intro r h2 hq _
          obtain ⟨rfl, hv2⟩ := hq
          exact gi_vret (pc := 47) ⟨rfl, hv2⟩ hv2 dX4_findOn_47
        ·
          refine go_aload_n (pc := 17) rfl dX4_findOn_17 ?_
          refine go_aload_n (pc := 18) rfl dX4_findOn_18 ?_
          refine gi_getF (pc := 19) (q := 53) hvx fL_X4_26 rfl (Nat.le_of_ble_eq_true rfl) rfl (hvx.rf (by decide)) dX4_findOn_19 ?_
          refine go_iload_n (pc := 22) rfl dX4_findOn_22 ?_
          refine go_aload_n (pc := 23) rfl dX4_findOn_23 ?_
          refine gi_getF (pc := 24) (q := 52) hvx fL_X4_23 rfl (Nat.le_of_ble_eq_true rfl) rfl (hvx.rf (by decide)) dX4_findOn_24 ?_
          refine go_iload_n (pc := 27) rfl dX4_findOn_27 ?_
          refine gi_lald (pc := 28) (len := 13) hvx (ti_rfl l1) rfl (by omega) (by omega) dX4_findOn_28 (fun v3 v3w => ?_)
          refine go_invV (pc := 29) (sl := 0) (s_X4_add l (d + 2) hvx 53 (by decide) l1 (by rw [show (l1 : Int32).toInt = l1.toInt from (ti_rfl l1)]; omega) (by rw [show (l1 : Int32).toInt = l1.toInt from (ti_rfl l1)]; omega) v3) mL_X4_94 iM_X4_add sM_X4_add (hvx.sh rfl) rfl rfl rfl (Nat.le_of_ble_eq_true rfl) (show d + 2 + 1 + 1 ≤ d + 4 by omega) (show 8 + (8 + 11) + 40 * (d + 2 + 1) ≤ 40 * (d + 4) by omega) (g_c0 hvx.ln) (Nat.le_of_ble_eq_true rfl) dX4_findOn_29 ?_
          intro r h4 hq _
          obtain ⟨rfl, hv4⟩ := hq
          refine gf_iinc (pc := 32) (Nat.le_of_ble_eq_true rfl) rfl (ti_rfl l1) (ti_c (by decide)) (by omega) (by omega) dX4_findOn_32 (fun v5 e6 => ?_)
          refine go_lv (lv2 := [(0, .ref 49), (1, .int v5)]) rfl ?_
          refine go_goto (pc := 35) (tgt := 11) (by decide) dX4_findOn_35 ?_
          have z7 : (v5 : Int32).toInt = (l1.toInt + 1) := e6
          exact go_lv rfl (ih v5 h4 hv4 (by omega) (by omega) (by omega))
  refine go_aload_n (pc := 0) rfl dX4_findOn_0 ?_
  refine go_aload_n (pc := 1) rfl dX4_findOn_1 ?_
  refine gi_getF (pc := 2) (q := 52) hv fL_X4_23 rfl (Nat.le_of_ble_eq_true rfl) rfl (hv.rf (by decide)) dX4_findOn_2 ?_
  refine go_iconst (pc := 5) (v := 1) (by decide) dX4_findOn_5 ?_
  refine go_invV (pc := 6) (sl := 0) (s_X4_spread l (d + 0) hv 52 (by decide) 1) mL_X4_98 iM_X4_spread sM_X4_spread (hv.sh rfl) rfl rfl rfl (Nat.le_of_ble_eq_true rfl) (show d + 0 + 3 + 1 ≤ d + 4 by omega) (show 8 + (6 + 11) + 40 * (d + 0 + 3) ≤ 40 * (d + 4) by omega) (g_c0 hv.ln) (Nat.le_of_ble_eq_true rfl) dX4_findOn_6 ?_
  intro r h8 hq _
  obtain ⟨rfl, hv8⟩ := hq
  refine go_iconst (pc := 9) (v := 0) (by decide) dX4_findOn_9 ?_
  refine go_istore_n (pc := 10) (Nat.le_of_ble_eq_true rfl) dX4_findOn_10 (go_lv (lv2 := [(0, .ref 49), (1, .int 0)]) rfl ?_)
  have z9 : (0 : Int32).toInt = 0 := (ti_c (v := 0) (a := 0) (by decide))
  exact go_lv rfl ((key 58) 0 h8 hv8 (by omega) (by omega) (by omega))
set_option maxHeartbeats 4000000 in
set_option maxRecDepth 100000 in
theorem s_X4_beginFrom (l : Launch) (d : Nat) {P : PP} {h : HP} (hv : Iv P h) (a2 : Int32) (a2l : 0 ≤ a2.toInt) (a2u : a2.toInt ≤ 39) : Mt l yX4_beginFrom cX4_beginFrom 4 none (d + 3) [.ref 49, .int a2] h 0 0 (fun r h' => r = none ∧ Iv P h') := by
  refine Mt_iv hv (by decide) (Nat.le_of_ble_eq_true rfl) ?_
  show Go l RX4 cX4_beginFrom 4 (g_rm (d + 3) 0 0) "beginFrom" none 117 0 0 (fun _ _ => True) (fun r h' => r = none ∧ Iv P h') 0 0 [(0, .ref 49), (1, .int a2)] [] h
  have key : ∀ n : Nat, (∀ (l1 : Int32) (s0 : Int32) (hx : HP), Iv P hx → 0 ≤ l1.toInt → l1.toInt ≤ 39 → 1 ≤ s0.toInt → s0.toInt ≤ 13 → (46 : Int) < n → Go l RX4 cX4_beginFrom 4 (g_rm (d + 3) 0 0) "beginFrom" none 117 0 0 (fun _ _ => True) (fun r h' => r = none ∧ Iv P h') 0 23 [(0, .ref 49), (1, .int l1)] [.int s0] hx) ∧ (∀ (l1 : Int32) (l2 : Int32) (l3 : Int32) (hx : HP), Iv P hx → 0 ≤ l1.toInt → l1.toInt ≤ 39 → 1 ≤ l2.toInt → l2.toInt ≤ 13 → 0 ≤ l3.toInt → l3.toInt ≤ 13 → (3 * (13 - l3.toInt) + 2 : Int) < n → Go l RX4 cX4_beginFrom 4 (g_rm (d + 3) 0 0) "beginFrom" none 117 0 0 (fun _ _ => True) (fun r h' => r = none ∧ Iv P h') 0 26 [(0, .ref 49), (1, .int l1), (2, .int l2), (3, .int l3)] [] hx) := by
    intro n
    induction n with
    | zero => exact ⟨(by intros; omega), (by intros; omega)⟩
    | succ n ih =>
      refine ⟨?_, ?_⟩
      ·
        intro l1 s0 hx hvx l1l l1u s0l s0u hm
        refine go_istore_n (pc := 23) (Nat.le_of_ble_eq_true rfl) dX4_beginFrom_23 (go_lv (lv2 := [(0, .ref 49), (1, .int l1), (2, .int s0)]) rfl ?_)
        refine go_iconst (pc := 24) (v := 0) (by decide) dX4_beginFrom_24 ?_
        refine go_istore_n (pc := 25) (Nat.le_of_ble_eq_true rfl) dX4_beginFrom_25 (go_lv (lv2 := [(0, .ref 49), (1, .int l1), (2, .int s0), (3, .int 0)]) rfl ?_)
        have z1 : (0 : Int32).toInt = 0 := (ti_c (v := 0) (a := 0) (by decide))
        exact go_lv rfl (ih.2 l1 s0 0 hx hvx (by omega) (by omega) (by omega) (by omega) (by omega) (by omega) (by omega))
      ·
        intro l1 l2 l3 hx hvx l1l l1u l2l l2u l3l l3u hm
        refine go_iload_n (pc := 26) rfl dX4_beginFrom_26 ?_
        refine go_iload_n (pc := 27) rfl dX4_beginFrom_27 ?_
        refine gf_icmp_ge (pc := 28) (tgt := 50) (ti_rfl l3) (ti_rfl l2) (by decide) dX4_beginFrom_28 (fun q2 => ?_) (fun q2 => ?_)
        ·
          exact gi_vret (pc := 50) ⟨rfl, hvx⟩ hvx dX4_beginFrom_50
        ·
          refine go_aload_n (pc := 31) rfl dX4_beginFrom_31 ?_
          refine go_aload_n (pc := 32) rfl dX4_beginFrom_32 ?_
          refine gi_getF (pc := 33) (q := 52) hvx fL_X4_23 rfl (Nat.le_of_ble_eq_true rfl) rfl (hvx.rf (by decide)) dX4_beginFrom_33 ?_
          refine go_iload_n (pc := 36) rfl dX4_beginFrom_36 ?_
          refine go_iload_n (pc := 37) rfl dX4_beginFrom_37 ?_
          refine go_invS (pc := 38) (sl := 0) (s_X7_bit l (d + 1) hvx l1) mL_X4_91 iM_X7_bit rfl rfl (Nat.le_of_ble_eq_true rfl) (show d + 1 + 1 + 1 ≤ d + 3 by omega) (show 8 + (1 + 11) + 40 * (d + 1 + 1) ≤ 40 * (d + 3) by omega) (g_c0 hvx.ln) (Nat.le_of_ble_eq_true rfl) dX4_beginFrom_38 ?_
          intro r h3 hq _
          obtain ⟨v4, rfl, rfl⟩ := hq
          refine go_invV (pc := 41) (sl := 0) (s_X4_add l (d + 1) hvx 52 (by decide) l3 (by rw [show (l3 : Int32).toInt = l3.toInt from (ti_rfl l3)]; omega) (by rw [show (l3 : Int32).toInt = l3.toInt from (ti_rfl l3)]; omega) v4) mL_X4_94 iM_X4_add sM_X4_add (hvx.sh rfl) rfl rfl rfl (Nat.le_of_ble_eq_true rfl) (show d + 1 + 1 + 1 ≤ d + 3 by omega) (show 8 + (8 + 11) + 40 * (d + 1 + 1) ≤ 40 * (d + 3) by omega) (g_c0 hvx.ln) (Nat.le_of_ble_eq_true rfl) dX4_beginFrom_41 ?_
          intro r h5 hq _
          obtain ⟨rfl, hv5⟩ := hq
          refine gf_iinc (pc := 44) (Nat.le_of_ble_eq_true rfl) rfl (ti_rfl l3) (ti_c (by decide)) (by omega) (by omega) dX4_beginFrom_44 (fun v6 e7 => ?_)
          refine go_lv (lv2 := [(0, .ref 49), (1, .int l1), (2, .int l2), (3, .int v6)]) rfl ?_
          refine go_goto (pc := 47) (tgt := 26) (by decide) dX4_beginFrom_47 ?_
          have z8 : (v6 : Int32).toInt = (l3.toInt + 1) := e7
          exact go_lv rfl (ih.2 l1 l2 v6 h5 hv5 (by omega) (by omega) (by omega) (by omega) (by omega) (by omega) (by omega))
  refine go_aload_n (pc := 0) rfl dX4_beginFrom_0 ?_
  refine go_invV (pc := 1) (sl := 0) (s_X4_clearFound l (d + 0) hv ) mL_X4_88 iM_X4_clearFound sM_X4_clearFound (hv.sh rfl) rfl rfl rfl (Nat.le_of_ble_eq_true rfl) (show d + 0 + 2 + 1 ≤ d + 3 by omega) (show 8 + (1 + 11) + 40 * (d + 0 + 2) ≤ 40 * (d + 3) by omega) (g_c0 hv.ln) (Nat.le_of_ble_eq_true rfl) dX4_beginFrom_1 ?_
  intro r h9 hq _
  obtain ⟨rfl, hv9⟩ := hq
  refine go_aload_n (pc := 4) rfl dX4_beginFrom_4 ?_
  refine gi_getC (pc := 5) hv9 fL_X4_58 rfl (Nat.le_of_ble_eq_true rfl) rfl (by decide) dX4_beginFrom_5 (fun c10 hc10 fc10 => ?_)
  refine gi_getF (pc := 8) (q := c10 + 2) hv9 fL_X4_124 (by rcases hc10 with rfl | rfl <;> rfl) (Nat.le_of_ble_eq_true rfl) rfl (by rcases hc10 with rfl | rfl <;> exact hv9.rf (by decide)) dX4_beginFrom_8 ?_
  refine go_iload_n (pc := 11) rfl dX4_beginFrom_11 ?_
  refine gi_iald (pc := 12) (lo := 0) (hi := 5) (len := 40) hv9 (ti_rfl a2) (by rcases hc10 with rfl | rfl <;> rfl) (by omega) (by omega) (fun _ => by rcases hc10 with rfl | rfl <;> rfl) dX4_beginFrom_12 (fun v11 v11l v11u v11w => ?_)
  refine go_iconst (pc := 13) (v := 1) (by decide) dX4_beginFrom_13 ?_
  refine gf_icmp_ne (pc := 14) (tgt := 22) (ti_rfl v11) (ti_c (v := 1) (a := 1) (by decide)) (by decide) dX4_beginFrom_14 (fun q12 => ?_) (fun q12 => ?_)
  ·
    refine go_iconst (pc := 22) (v := 1) (by decide) dX4_beginFrom_22 ?_
    have z13 : (1 : Int32).toInt = 1 := (ti_c (v := 1) (a := 1) (by decide))
    exact go_lv rfl ((key 59).1 a2 1 h9 hv9 (by omega) (by omega) (by omega) (by omega) (by omega))
  ·
    refine go_bipush (pc := 17) (v := 13) (by decide) dX4_beginFrom_17 ?_
    refine go_goto (pc := 19) (tgt := 23) (by decide) dX4_beginFrom_19 ?_
    have z14 : (13 : Int32).toInt = 13 := (ti_c (v := 13) (a := 13) (by decide))
    exact go_lv rfl ((key 59).1 a2 13 h9 hv9 (by omega) (by omega) (by omega) (by omega) (by omega))
set_option maxHeartbeats 4000000 in
set_option maxRecDepth 100000 in
theorem s_X4_statementsFound (l : Launch) (d : Nat) {P : PP} {h : HP} (hv : Iv P h)  : Mt l yX4_statementsFound cX4_statementsFound 4 (some .long) (d + 1) [.ref 49] h 0 0 (fun r h' => ∃ v : Int64, r = some (.long v) ∧ h = h') := by
  refine Mt_iv hv (by decide) (Nat.le_of_ble_eq_true rfl) ?_
  show Go l RX4 cX4_statementsFound 4 (g_rm (d + 1) 0 0) "statementsFound" (some .long) 117 0 0 (fun _ _ => True) (fun r h' => ∃ v : Int64, r = some (.long v) ∧ h = h') 0 0 [(0, .ref 49)] [] h
  have key : ∀ n : Nat, (∀ (l1 : Int64) (l3 : Int32), 0 ≤ l3.toInt → l3.toInt ≤ 13 → (3 * (13 - l3.toInt) + 2 : Int) < n → Go l RX4 cX4_statementsFound 4 (g_rm (d + 1) 0 0) "statementsFound" (some .long) 117 0 0 (fun _ _ => True) (fun r h' => ∃ v : Int64, r = some (.long v) ∧ h = h') 0 4 [(0, .ref 49), (1, .long l1), (3, .int l3)] [] h) := by
    intro n
    induction n with
    | zero => exact (by intros; omega)
    | succ n ih =>
      refine ?_
      ·
        intro l1 l3 l3l l3u hm
        refine go_iload_n (pc := 4) rfl dX4_statementsFound_4 ?_
        refine go_bipush (pc := 5) (v := 13) (by decide) dX4_statementsFound_5 ?_
        refine gf_icmp_ge (pc := 7) (tgt := 25) (ti_rfl l3) (ti_c (v := 13) (a := 13) (by decide)) (by decide) dX4_statementsFound_7 (fun q1 => ?_) (fun q1 => ?_)
        ·
          refine go_lload_n (pc := 25) rfl dX4_statementsFound_25 ?_
          refine go_ldc2 (pc := 26) kL_X4_127 dX4_statementsFound_26 ?_
          refine gu_land (pc := 29) dX4_statementsFound_29 (fun v2 => ?_)
          exact gi_lret (pc := 30) ⟨_, rfl, rfl⟩ hv dX4_statementsFound_30
        ·
          refine go_lload_n (pc := 10) rfl dX4_statementsFound_10 ?_
          refine go_aload_n (pc := 11) rfl dX4_statementsFound_11 ?_
          refine gi_getF (pc := 12) (q := 53) hv fL_X4_26 rfl (Nat.le_of_ble_eq_true rfl) rfl (hv.rf (by decide)) dX4_statementsFound_12 ?_
          refine go_iload_n (pc := 15) rfl dX4_statementsFound_15 ?_
          refine gi_lald (pc := 16) (len := 13) hv (ti_rfl l3) rfl (by omega) (by omega) dX4_statementsFound_16 (fun v3 v3w => ?_)
          refine gu_lor (pc := 17) dX4_statementsFound_17 (fun v4 => ?_)
          refine go_lstore_n (pc := 18) (Nat.le_of_ble_eq_true rfl) dX4_statementsFound_18 (go_lv (lv2 := [(0, .ref 49), (1, .long v4), (3, .int l3)]) rfl ?_)
          refine gf_iinc (pc := 19) (Nat.le_of_ble_eq_true rfl) rfl (ti_rfl l3) (ti_c (by decide)) (by omega) (by omega) dX4_statementsFound_19 (fun v5 e6 => ?_)
          refine go_lv (lv2 := [(0, .ref 49), (1, .long v4), (3, .int v5)]) rfl ?_
          refine go_goto (pc := 22) (tgt := 4) (by decide) dX4_statementsFound_22 ?_
          have z7 : (v5 : Int32).toInt = (l3.toInt + 1) := e6
          exact go_lv rfl (ih v4 v5  (by omega) (by omega) (by omega))
  refine go_lconst (pc := 0) (v := 0) (by decide) dX4_statementsFound_0 ?_
  refine go_lstore_n (pc := 1) (Nat.le_of_ble_eq_true rfl) dX4_statementsFound_1 (go_lv (lv2 := [(0, .ref 49), (1, .long 0)]) rfl ?_)
  refine go_iconst (pc := 2) (v := 0) (by decide) dX4_statementsFound_2 ?_
  refine go_istore_n (pc := 3) (Nat.le_of_ble_eq_true rfl) dX4_statementsFound_3 (go_lv (lv2 := [(0, .ref 49), (1, .long 0), (3, .int 0)]) rfl ?_)
  have z8 : (0 : Int32).toInt = 0 := (ti_c (v := 0) (a := 0) (by decide))
  exact go_lv rfl ((key 58) 0 0  (by omega) (by omega) (by omega))
set_option maxHeartbeats 4000000 in
set_option maxRecDepth 100000 in
theorem s_X4_backFrom (l : Launch) (d : Nat) {P : PP} {h : HP} (hv : Iv P h) (a2 : Int32) (a2l : 0 ≤ a2.toInt) (a2u : a2.toInt ≤ 39) : Mt l yX4_backFrom cX4_backFrom 2 (some .long) (d + 5) [.ref 49, .int a2] h 0 0 (fun r h' => ∃ v : Int64, r = some (.long v) ∧ Iv P h') := by
  refine Mt_iv hv (by decide) (Nat.le_of_ble_eq_true rfl) ?_
  show Go l RX4 cX4_backFrom 2 (g_rm (d + 5) 0 0) "backFrom" (some .long) 117 0 0 (fun _ _ => True) (fun r h' => ∃ v : Int64, r = some (.long v) ∧ Iv P h') 0 0 [(0, .ref 49), (1, .int a2)] [] h
  have key : ∀ n : Nat, (∀ (l1 : Int32) (hx : HP), Iv P hx → 0 ≤ l1.toInt → l1.toInt ≤ 39 → (1 : Int) < n → Go l RX4 cX4_backFrom 2 (g_rm (d + 5) 0 0) "backFrom" (some .long) 117 0 0 (fun _ _ => True) (fun r h' => ∃ v : Int64, r = some (.long v) ∧ Iv P h') 0 43 [(0, .ref 49), (1, .int l1)] [] hx) := by
    intro n
    induction n with
    | zero => exact (by intros; omega)
    | succ n ih =>
      refine ?_
      ·
        intro l1 hx hvx l1l l1u hm
        refine go_aload_n (pc := 43) rfl dX4_backFrom_43 ?_
        refine gi_getF (pc := 44) (q := 55) hvx fL_X4_36 rfl (Nat.le_of_ble_eq_true rfl) rfl (hvx.rf (by decide)) dX4_backFrom_44 ?_
        refine go_iload_n (pc := 47) rfl dX4_backFrom_47 ?_
        refine gi_lald (pc := 48) (len := 40) hvx (ti_rfl l1) rfl (by omega) (by omega) dX4_backFrom_48 (fun v1 v1w => ?_)
        exact gi_lret (pc := 49) ⟨_, rfl, hvx⟩ hvx dX4_backFrom_49
  refine go_aload_n (pc := 0) rfl dX4_backFrom_0 ?_
  refine gi_getL (pc := 1) hv fL_X4_39 rfl (Nat.le_of_ble_eq_true rfl) rfl dX4_backFrom_1 (fun v2 => ?_)
  refine go_iload_n (pc := 4) rfl dX4_backFrom_4 ?_
  refine go_invS (pc := 5) (sl := 0) (s_X7_has l (d + 3) hv v2 a2) mL_X4_102 iM_X7_has rfl rfl (Nat.le_of_ble_eq_true rfl) (show d + 3 + 1 + 1 ≤ d + 5 by omega) (show 8 + (3 + 11) + 40 * (d + 3 + 1) ≤ 40 * (d + 5) by omega) (g_c0 hv.ln) (Nat.le_of_ble_eq_true rfl) dX4_backFrom_5 ?_
  intro r h3 hq _
  obtain ⟨v4, rfl, v4l, v4u, rfl⟩ := hq
  refine gf_if_ne (pc := 8) (tgt := 43) (ti_rfl v4) (by decide) dX4_backFrom_8 (fun q5 => ?_) (fun q5 => ?_)
  ·
    exact go_lv rfl ((key 14) a2 h hv (by omega) (by omega) (by omega))
  ·
    refine go_aload_n (pc := 11) rfl dX4_backFrom_11 ?_
    refine go_iload_n (pc := 12) rfl dX4_backFrom_12 ?_
    refine go_invV (pc := 13) (sl := 0) (s_X4_beginFrom l (d + 1) hv a2 (by rw [show (a2 : Int32).toInt = a2.toInt from (ti_rfl a2)]; omega) (by rw [show (a2 : Int32).toInt = a2.toInt from (ti_rfl a2)]; omega)) mL_X4_129 iM_X4_beginFrom sM_X4_beginFrom (hv.sh rfl) rfl rfl rfl (Nat.le_of_ble_eq_true rfl) (show d + 1 + 3 + 1 ≤ d + 5 by omega) (show 8 + (4 + 11) + 40 * (d + 1 + 3) ≤ 40 * (d + 5) by omega) (g_c0 hv.ln) (Nat.le_of_ble_eq_true rfl) dX4_backFrom_13 ?_
    intro r h6 hq _
    obtain ⟨rfl, hv6⟩ := hq
    refine go_aload_n (pc := 16) rfl dX4_backFrom_16 ?_
    refine go_invV (pc := 17) (sl := 0) (s_X4_findOn l (d + 0) hv6 ) mL_X4_133 iM_X4_findOn sM_X4_findOn (hv6.sh rfl) rfl rfl rfl (Nat.le_of_ble_eq_true rfl) (show d + 0 + 4 + 1 ≤ d + 5 by omega) (show 8 + (2 + 11) + 40 * (d + 0 + 4) ≤ 40 * (d + 5) by omega) (g_c0 hv6.ln) (Nat.le_of_ble_eq_true rfl) dX4_backFrom_17 ?_
    intro r h7 hq _
    obtain ⟨rfl, hv7⟩ := hq
    refine go_aload_n (pc := 20) rfl dX4_backFrom_20 ?_
    refine gi_getF (pc := 21) (q := 55) hv7 fL_X4_36 rfl (Nat.le_of_ble_eq_true rfl) rfl (hv7.rf (by decide)) dX4_backFrom_21 ?_
    refine go_iload_n (pc := 24) rfl dX4_backFrom_24 ?_
    refine go_aload_n (pc := 25) rfl dX4_backFrom_25 ?_
    refine go_invV (pc := 26) (sl := 0) (s_X4_statementsFound l (d + 3) hv7 ) mL_X4_136 iM_X4_statementsFound sM_X4_statementsFound (hv7.sh rfl) rfl rfl rfl (Nat.le_of_ble_eq_true rfl) (show d + 3 + 1 + 1 ≤ d + 5 by omega) (show 8 + (4 + 11) + 40 * (d + 3 + 1) ≤ 40 * (d + 5) by omega) (g_c0 hv7.ln) (Nat.le_of_ble_eq_true rfl) dX4_backFrom_26 ?_
    intro r h8 hq _
    obtain ⟨v9, rfl, rfl⟩ := hq
    refine gi_last (pc := 29) (len := 40) hv7 (ti_rfl a2) rfl (by omega) (by omega) dX4_backFrom_29 (fun h10 hv10 hv10e => ?_)
    refine go_aload_n (pc := 30) rfl dX4_backFrom_30 ?_
    refine go_dup (pc := 31) rfl dX4_backFrom_31 ?_
    refine gi_getL (pc := 32) hv10 fL_X4_39 rfl (Nat.le_of_ble_eq_true rfl) rfl dX4_backFrom_32 (fun v11 => ?_)
    refine go_iload_n (pc := 35) rfl dX4_backFrom_35 ?_
    refine go_invS (pc := 36) (sl := 0) (s_X7_bit l (d + 3) hv10 a2) mL_X4_91 iM_X7_bit rfl rfl (Nat.le_of_ble_eq_true rfl) (show d + 3 + 1 + 1 ≤ d + 5 by omega) (show 8 + (1 + 11) + 40 * (d + 3 + 1) ≤ 40 * (d + 5) by omega) (g_c0 hv10.ln) (Nat.le_of_ble_eq_true rfl) dX4_backFrom_36 ?_
    intro r h12 hq _
    obtain ⟨v13, rfl, rfl⟩ := hq
    refine gu_lor (pc := 39) dX4_backFrom_39 (fun v14 => ?_)
    refine gi_putL (pc := 40) hv10 (fP_X4_39 _) rfl (Nat.le_of_ble_eq_true rfl) rfl rfl rfl dX4_backFrom_40 (fun h15 hv15 hv15e => ?_)
    exact go_lv rfl ((key 14) a2 h15 hv15 (by omega) (by omega) (by omega))
set_option maxHeartbeats 4000000 in
set_option maxRecDepth 100000 in
theorem s_X4_forthFrom (l : Launch) (d : Nat) {P : PP} {h : HP} (hv : Iv P h) (a2 : Int32) : Mt l yX4_forthFrom cX4_forthFrom 5 (some .long) (d + 6) [.ref 49, .int a2] h 0 0 (fun r h' => ∃ v : Int64, r = some (.long v) ∧ Iv P h') := by
  refine Mt_iv hv (by decide) (Nat.le_of_ble_eq_true rfl) ?_
  show Go l RX4 cX4_forthFrom 5 (g_rm (d + 6) 0 0) "forthFrom" (some .long) 117 0 0 (fun _ _ => True) (fun r h' => ∃ v : Int64, r = some (.long v) ∧ Iv P h') 0 0 [(0, .ref 49), (1, .int a2)] [] h
  have key : ∀ n : Nat, (∀ (l1 : Int32) (l2 : Int64) (l4 : Int32) (hx : HP), Iv P hx → 0 ≤ l4.toInt → l4.toInt ≤ 40 → (4 * (40 - l4.toInt) + 3 : Int) < n → Go l RX4 cX4_forthFrom 5 (g_rm (d + 6) 0 0) "forthFrom" (some .long) 117 0 0 (fun _ _ => True) (fun r h' => ∃ v : Int64, r = some (.long v) ∧ Iv P h') 0 5 [(0, .ref 49), (1, .int l1), (2, .long l2), (4, .int l4)] [] hx) ∧ (∀ (l1 : Int32) (l2 : Int64) (l4 : Int32) (hx : HP), Iv P hx → 0 ≤ l4.toInt → l4.toInt ≤ 39 → (4 * (40 - l4.toInt) + 2 : Int) < n → Go l RX4 cX4_forthFrom 5 (g_rm (d + 6) 0 0) "forthFrom" (some .long) 117 0 0 (fun _ _ => True) (fun r h' => ∃ v : Int64, r = some (.long v) ∧ Iv P h') 0 38 [(0, .ref 49), (1, .int l1), (2, .long l2), (4, .int l4)] [] hx) := by
    intro n
    induction n with
    | zero => exact ⟨(by intros; omega), (by intros; omega)⟩
    | succ n ih =>
      refine ⟨?_, ?_⟩
      ·
        intro l1 l2 l4 hx hvx l4l l4u hm
        refine go_iload (pc := 5) rfl dX4_forthFrom_5 ?_
        refine go_aload_n (pc := 7) rfl dX4_forthFrom_7 ?_
        refine gi_getC (pc := 8) hvx fL_X4_58 rfl (Nat.le_of_ble_eq_true rfl) rfl (by decide) dX4_forthFrom_8 (fun c1 hc1 fc1 => ?_)
        refine gi_get (pc := 11) (lo := 0) (hi := 40) hvx fL_X4_140 (by rcases hc1 with rfl | rfl <;> rfl) (Nat.le_of_ble_eq_true rfl) rfl (by rcases hc1 with rfl | rfl <;> rfl) dX4_forthFrom_11 (fun v2 v2l v2u v2w => ?_)
        refine gf_icmp_ge (pc := 14) (tgt := 44) (ti_rfl l4) (ti_rfl v2) (by decide) dX4_forthFrom_14 (fun q3 => ?_) (fun q3 => ?_)
        ·
          refine go_lload_n (pc := 44) rfl dX4_forthFrom_44 ?_
          exact gi_lret (pc := 45) ⟨_, rfl, hvx⟩ hvx dX4_forthFrom_45
        ·
          refine go_aload_n (pc := 17) rfl dX4_forthFrom_17 ?_
          refine go_iload (pc := 18) rfl dX4_forthFrom_18 ?_
          refine go_invV (pc := 20) (sl := 0) (s_X4_backFrom l (d + 0) hvx l4 (by rw [show (l4 : Int32).toInt = l4.toInt from (ti_rfl l4)]; omega) (by rw [show (l4 : Int32).toInt = l4.toInt from (ti_rfl l4)]; omega)) mL_X4_143 iM_X4_backFrom sM_X4_backFrom (hvx.sh rfl) rfl rfl rfl (Nat.le_of_ble_eq_true rfl) (show d + 0 + 5 + 1 ≤ d + 6 by omega) (show 8 + (2 + 11) + 40 * (d + 0 + 5) ≤ 40 * (d + 6) by omega) (g_c0 hvx.ln) (Nat.le_of_ble_eq_true rfl) dX4_forthFrom_20 ?_
          intro r h4 hq _
          obtain ⟨v5, rfl, hv4⟩ := hq
          refine go_iload_n (pc := 23) rfl dX4_forthFrom_23 ?_
          refine go_invS (pc := 24) (sl := 0) (s_X7_has l (d + 4) hv4 v5 l1) mL_X4_102 iM_X7_has rfl rfl (Nat.le_of_ble_eq_true rfl) (show d + 4 + 1 + 1 ≤ d + 6 by omega) (show 8 + (3 + 11) + 40 * (d + 4 + 1) ≤ 40 * (d + 6) by omega) (g_c0 hv4.ln) (Nat.le_of_ble_eq_true rfl) dX4_forthFrom_24 ?_
          intro r h6 hq _
          obtain ⟨v7, rfl, v7l, v7u, rfl⟩ := hq
          refine gf_if_eq (pc := 27) (tgt := 38) (ti_rfl v7) (by decide) dX4_forthFrom_27 (fun q8 => ?_) (fun q8 => ?_)
          ·
            exact go_lv rfl (ih.2 l1 l2 l4 h4 hv4 (by omega) (by omega) (by omega))
          ·
            refine go_lload_n (pc := 30) rfl dX4_forthFrom_30 ?_
            refine go_iload (pc := 31) rfl dX4_forthFrom_31 ?_
            refine go_invS (pc := 33) (sl := 0) (s_X7_bit l (d + 4) hv4 l4) mL_X4_91 iM_X7_bit rfl rfl (Nat.le_of_ble_eq_true rfl) (show d + 4 + 1 + 1 ≤ d + 6 by omega) (show 8 + (1 + 11) + 40 * (d + 4 + 1) ≤ 40 * (d + 6) by omega) (g_c0 hv4.ln) (Nat.le_of_ble_eq_true rfl) dX4_forthFrom_33 ?_
            intro r h9 hq _
            obtain ⟨v10, rfl, rfl⟩ := hq
            refine gu_lor (pc := 36) dX4_forthFrom_36 (fun v11 => ?_)
            refine go_lstore_n (pc := 37) (Nat.le_of_ble_eq_true rfl) dX4_forthFrom_37 (go_lv (lv2 := [(0, .ref 49), (1, .int l1), (2, .long v11), (4, .int l4)]) rfl ?_)
            exact go_lv rfl (ih.2 l1 v11 l4 h4 hv4 (by omega) (by omega) (by omega))
      ·
        intro l1 l2 l4 hx hvx l4l l4u hm
        refine gf_iinc (pc := 38) (Nat.le_of_ble_eq_true rfl) rfl (ti_rfl l4) (ti_c (by decide)) (by omega) (by omega) dX4_forthFrom_38 (fun v12 e13 => ?_)
        refine go_lv (lv2 := [(0, .ref 49), (1, .int l1), (2, .long l2), (4, .int v12)]) rfl ?_
        refine go_goto (pc := 41) (tgt := 5) (by decide) dX4_forthFrom_41 ?_
        have z14 : (v12 : Int32).toInt = (l4.toInt + 1) := e13
        exact go_lv rfl (ih.1 l1 l2 v12 hx hvx (by omega) (by omega) (by omega))
  refine go_lconst (pc := 0) (v := 0) (by decide) dX4_forthFrom_0 ?_
  refine go_lstore_n (pc := 1) (Nat.le_of_ble_eq_true rfl) dX4_forthFrom_1 (go_lv (lv2 := [(0, .ref 49), (1, .int a2), (2, .long 0)]) rfl ?_)
  refine go_iconst (pc := 2) (v := 0) (by decide) dX4_forthFrom_2 ?_
  refine go_istore (pc := 3) (Nat.le_of_ble_eq_true rfl) dX4_forthFrom_3 (go_lv (lv2 := [(0, .ref 49), (1, .int a2), (2, .long 0), (4, .int 0)]) rfl ?_)
  have z15 : (0 : Int32).toInt = 0 := (ti_c (v := 0) (a := 0) (by decide))
  exact go_lv rfl ((key 181).1 a2 0 0 h hv (by omega) (by omega) (by omega))
set_option maxHeartbeats 4000000 in
set_option maxRecDepth 100000 in
theorem s_X4_backFromOut (l : Launch) (d : Nat) {P : PP} {h : HP} (hv : Iv P h) (a2 : Int32) (a2l : 0 ≤ a2.toInt) (a2u : a2.toInt ≤ 4) (a3 : Int32) (a3l : 0 ≤ a3.toInt) (a3u : a3.toInt ≤ 5) : Mt l yX4_backFromOut cX4_backFromOut 3 (some .long) (d + 5) [.ref 49, .int a2, .int a3] h 0 0 (fun r h' => ∃ v : Int64, r = some (.long v) ∧ Iv P h') := by
  refine Mt_iv hv (by decide) (Nat.le_of_ble_eq_true rfl) ?_
  show Go l RX4 cX4_backFromOut 3 (g_rm (d + 5) 0 0) "backFromOut" (some .long) 117 0 0 (fun _ _ => True) (fun r h' => ∃ v : Int64, r = some (.long v) ∧ Iv P h') 0 0 [(0, .ref 49), (1, .int a2), (2, .int a3)] [] h
  refine go_aload_n (pc := 0) rfl dX4_backFromOut_0 ?_
  refine go_invV (pc := 1) (sl := 0) (s_X4_clearFound l (d + 2) hv ) mL_X4_88 iM_X4_clearFound sM_X4_clearFound (hv.sh rfl) rfl rfl rfl (Nat.le_of_ble_eq_true rfl) (show d + 2 + 2 + 1 ≤ d + 5 by omega) (show 8 + (1 + 11) + 40 * (d + 2 + 2) ≤ 40 * (d + 5) by omega) (g_c0 hv.ln) (Nat.le_of_ble_eq_true rfl) dX4_backFromOut_1 ?_
  intro r h1 hq _
  obtain ⟨rfl, hv1⟩ := hq
  refine go_aload_n (pc := 4) rfl dX4_backFromOut_4 ?_
  refine go_aload_n (pc := 5) rfl dX4_backFromOut_5 ?_
  refine gi_getF (pc := 6) (q := 52) hv1 fL_X4_23 rfl (Nat.le_of_ble_eq_true rfl) rfl (hv1.rf (by decide)) dX4_backFromOut_6 ?_
  refine go_bipush (pc := 9) (v := 7) (by decide) dX4_backFromOut_9 ?_
  refine go_iload_n (pc := 11) rfl dX4_backFromOut_11 ?_
  refine gf_iadd (pc := 12) (ti_c (v := 7) (a := 7) (by decide)) (ti_rfl a3) (by omega) (by omega) dX4_backFromOut_12 (fun v2 e3 => ?_)
  refine go_bipush (pc := 13) (v := 40) (by decide) dX4_backFromOut_13 ?_
  refine go_iload_n (pc := 15) rfl dX4_backFromOut_15 ?_
  refine gf_iadd (pc := 16) (ti_c (v := 40) (a := 40) (by decide)) (ti_rfl a2) (by omega) (by omega) dX4_backFromOut_16 (fun v4 e5 => ?_)
  refine go_invS (pc := 17) (sl := 0) (s_X7_bit l (d + 3) hv1 v4) mL_X4_91 iM_X7_bit rfl rfl (Nat.le_of_ble_eq_true rfl) (show d + 3 + 1 + 1 ≤ d + 5 by omega) (show 8 + (1 + 11) + 40 * (d + 3 + 1) ≤ 40 * (d + 5) by omega) (g_c0 hv1.ln) (Nat.le_of_ble_eq_true rfl) dX4_backFromOut_17 ?_
  intro r h6 hq _
  obtain ⟨v7, rfl, rfl⟩ := hq
  refine go_invV (pc := 20) (sl := 0) (s_X4_add l (d + 3) hv1 52 (by decide) v2 (by rw [show (v2 : Int32).toInt = (7 + a3.toInt) from e3]; omega) (by rw [show (v2 : Int32).toInt = (7 + a3.toInt) from e3]; omega) v7) mL_X4_94 iM_X4_add sM_X4_add (hv1.sh rfl) rfl rfl rfl (Nat.le_of_ble_eq_true rfl) (show d + 3 + 1 + 1 ≤ d + 5 by omega) (show 8 + (8 + 11) + 40 * (d + 3 + 1) ≤ 40 * (d + 5) by omega) (g_c0 hv1.ln) (Nat.le_of_ble_eq_true rfl) dX4_backFromOut_20 ?_
  intro r h8 hq _
  obtain ⟨rfl, hv8⟩ := hq
  refine go_aload_n (pc := 23) rfl dX4_backFromOut_23 ?_
  refine go_invV (pc := 24) (sl := 0) (s_X4_findOn l (d + 0) hv8 ) mL_X4_133 iM_X4_findOn sM_X4_findOn (hv8.sh rfl) rfl rfl rfl (Nat.le_of_ble_eq_true rfl) (show d + 0 + 4 + 1 ≤ d + 5 by omega) (show 8 + (2 + 11) + 40 * (d + 0 + 4) ≤ 40 * (d + 5) by omega) (g_c0 hv8.ln) (Nat.le_of_ble_eq_true rfl) dX4_backFromOut_24 ?_
  intro r h9 hq _
  obtain ⟨rfl, hv9⟩ := hq
  refine go_aload_n (pc := 27) rfl dX4_backFromOut_27 ?_
  refine go_invV (pc := 28) (sl := 0) (s_X4_statementsFound l (d + 3) hv9 ) mL_X4_136 iM_X4_statementsFound sM_X4_statementsFound (hv9.sh rfl) rfl rfl rfl (Nat.le_of_ble_eq_true rfl) (show d + 3 + 1 + 1 ≤ d + 5 by omega) (show 8 + (4 + 11) + 40 * (d + 3 + 1) ≤ 40 * (d + 5) by omega) (g_c0 hv9.ln) (Nat.le_of_ble_eq_true rfl) dX4_backFromOut_28 ?_
  intro r h10 hq _
  obtain ⟨v11, rfl, rfl⟩ := hq
  exact gi_lret (pc := 31) ⟨_, rfl, hv9⟩ hv9 dX4_backFromOut_31
set_option maxHeartbeats 4000000 in
set_option maxRecDepth 100000 in
theorem s_X4_completeCalls (l : Launch) (d : Nat) {P : PP} {h : HP} (hv : Iv P h)  : Mt l yX4_completeCalls cX4_completeCalls 6 (some .boolean) (d + 2) [.ref 49] h 0 0 (fun r h' => ∃ v : Int32, r = some (.int v) ∧ 0 ≤ v.toInt ∧ v.toInt ≤ 1 ∧ Iv P h') := by
  refine Mt_iv hv (by decide) (Nat.le_of_ble_eq_true rfl) ?_
  show Go l RX4 cX4_completeCalls 6 (g_rm (d + 2) 0 0) "completeCalls" (some .boolean) 117 0 0 (fun _ _ => True) (fun r h' => ∃ v : Int32, r = some (.int v) ∧ 0 ≤ v.toInt ∧ v.toInt ≤ 1 ∧ Iv P h') 0 0 [(0, .ref 49)] [] h
  have key : ∀ n : Nat, (∀ (l1 : Int32) (l2 : Int32) (hx : HP), Iv P hx → 0 ≤ l1.toInt → l1.toInt ≤ 1 → 0 ≤ l2.toInt → l2.toInt ≤ 5 → (43 * (5 - l2.toInt) + 42 : Int) < n → Go l RX4 cX4_completeCalls 6 (g_rm (d + 2) 0 0) "completeCalls" (some .boolean) 117 0 0 (fun _ _ => True) (fun r h' => ∃ v : Int32, r = some (.int v) ∧ 0 ≤ v.toInt ∧ v.toInt ≤ 1 ∧ Iv P h') 0 4 [(0, .ref 49), (1, .int l1), (2, .int l2)] [] hx) ∧ (∀ (l1 : Int32) (l2 : Int32) (l3 : Int32) (hx : HP), Iv P hx → 0 ≤ l1.toInt → l1.toInt ≤ 1 → 0 ≤ l2.toInt → l2.toInt ≤ 4 → 1 ≤ l3.toInt → l3.toInt ≤ 7 → (5 * (7 - l3.toInt) + 43 * (5 - l2.toInt) + 5 : Int) < n → Go l RX4 cX4_completeCalls 6 (g_rm (d + 2) 0 0) "completeCalls" (some .boolean) 117 0 0 (fun _ _ => True) (fun r h' => ∃ v : Int32, r = some (.int v) ∧ 0 ≤ v.toInt ∧ v.toInt ≤ 1 ∧ Iv P h') 0 17 [(0, .ref 49), (1, .int l1), (2, .int l2), (3, .int l3)] [] hx) ∧ (∀ (l2 : Int32) (l3 : Int32) (s0 : Int32) (s1 : Int32) (hx : HP), Iv P hx → 0 ≤ l2.toInt → l2.toInt ≤ 4 → 1 ≤ l3.toInt → l3.toInt ≤ 6 → 0 ≤ s0.toInt → s0.toInt ≤ 1 → 0 ≤ s1.toInt → s1.toInt ≤ 1 → (5 * (7 - l3.toInt) + 43 * (5 - l2.toInt) + 4 : Int) < n → Go l RX4 cX4_completeCalls 6 (g_rm (d + 2) 0 0) "completeCalls" (some .boolean) 117 0 0 (fun _ _ => True) (fun r h' => ∃ v : Int32, r = some (.int v) ∧ 0 ≤ v.toInt ∧ v.toInt ≤ 1 ∧ Iv P h') 0 89 [(0, .ref 49), (2, .int l2), (3, .int l3)] [.int s0, .int s1] hx) ∧ (∀ (l1 : Int32) (l2 : Int32) (l3 : Int32) (hx : HP), Iv P hx → 0 ≤ l1.toInt → l1.toInt ≤ 1 → 0 ≤ l2.toInt → l2.toInt ≤ 4 → 1 ≤ l3.toInt → l3.toInt ≤ 6 → (5 * (7 - l3.toInt) + 43 * (5 - l2.toInt) + 3 : Int) < n → Go l RX4 cX4_completeCalls 6 (g_rm (d + 2) 0 0) "completeCalls" (some .boolean) 117 0 0 (fun _ _ => True) (fun r h' => ∃ v : Int32, r = some (.int v) ∧ 0 ≤ v.toInt ∧ v.toInt ≤ 1 ∧ Iv P h') 0 91 [(0, .ref 49), (1, .int l1), (2, .int l2), (3, .int l3)] [] hx) := by
    intro n
    induction n with
    | zero => exact ⟨(by intros; omega), (by intros; omega), (by intros; omega), (by intros; omega)⟩
    | succ n ih =>
      refine ⟨?_, ?_, ?_, ?_⟩
      ·
        intro l1 l2 hx hvx l1l l1u l2l l2u hm
        refine go_iload_n (pc := 4) rfl dX4_completeCalls_4 ?_
        refine go_aload_n (pc := 5) rfl dX4_completeCalls_5 ?_
        refine gi_getC (pc := 6) hvx fL_X4_58 rfl (Nat.le_of_ble_eq_true rfl) rfl (by decide) dX4_completeCalls_6 (fun c1 hc1 fc1 => ?_)
        refine gi_get (pc := 9) (lo := 0) (hi := 5) hvx fL_X4_65 (by rcases hc1 with rfl | rfl <;> rfl) (Nat.le_of_ble_eq_true rfl) rfl (by rcases hc1 with rfl | rfl <;> rfl) dX4_completeCalls_9 (fun v2 v2l v2u v2w => ?_)
        refine gf_icmp_ge (pc := 12) (tgt := 103) (ti_rfl l2) (ti_rfl v2) (by decide) dX4_completeCalls_12 (fun q3 => ?_) (fun q3 => ?_)
        ·
          refine go_iload_n (pc := 103) rfl dX4_completeCalls_103 ?_
          exact gi_zret (pc := 104) (ti_rfl l1) (by omega) (by omega) ⟨_, rfl, (by rw [show (l1 : Int32).toInt = l1.toInt from (ti_rfl l1)]; omega), (by rw [show (l1 : Int32).toInt = l1.toInt from (ti_rfl l1)]; omega), hvx⟩ hvx dX4_completeCalls_104
        ·
          refine go_iconst (pc := 15) (v := 1) (by decide) dX4_completeCalls_15 ?_
          refine go_istore_n (pc := 16) (Nat.le_of_ble_eq_true rfl) dX4_completeCalls_16 (go_lv (lv2 := [(0, .ref 49), (1, .int l1), (2, .int l2), (3, .int 1)]) rfl ?_)
          have z4 : (1 : Int32).toInt = 1 := (ti_c (v := 1) (a := 1) (by decide))
          exact go_lv rfl (ih.2.1 l1 l2 1 hx hvx (by omega) (by omega) (by omega) (by omega) (by omega) (by omega) (by omega))
      ·
        intro l1 l2 l3 hx hvx l1l l1u l2l l2u l3l l3u hm
        refine go_iload_n (pc := 17) rfl dX4_completeCalls_17 ?_
        refine go_bipush (pc := 18) (v := 7) (by decide) dX4_completeCalls_18 ?_
        refine gf_icmp_ge (pc := 20) (tgt := 97) (ti_rfl l3) (ti_c (v := 7) (a := 7) (by decide)) (by decide) dX4_completeCalls_20 (fun q5 => ?_) (fun q5 => ?_)
        ·
          refine gf_iinc (pc := 97) (Nat.le_of_ble_eq_true rfl) rfl (ti_rfl l2) (ti_c (by decide)) (by omega) (by omega) dX4_completeCalls_97 (fun v6 e7 => ?_)
          refine go_lv (lv2 := [(0, .ref 49), (1, .int l1), (2, .int v6), (3, .int l3)]) rfl ?_
          refine go_goto (pc := 100) (tgt := 4) (by decide) dX4_completeCalls_100 ?_
          have z8 : (v6 : Int32).toInt = (l2.toInt + 1) := e7
          exact go_lv rfl (ih.1 l1 v6 hx hvx (by omega) (by omega) (by omega) (by omega) (by omega))
        ·
          refine go_aload_n (pc := 23) rfl dX4_completeCalls_23 ?_
          refine gi_getF (pc := 24) (q := 53) hvx fL_X4_26 rfl (Nat.le_of_ble_eq_true rfl) rfl (hvx.rf (by decide)) dX4_completeCalls_24 ?_
          refine go_iload_n (pc := 27) rfl dX4_completeCalls_27 ?_
          refine gi_lald (pc := 28) (len := 13) hvx (ti_rfl l3) rfl (by omega) (by omega) dX4_completeCalls_28 (fun v9 v9w => ?_)
          refine go_bipush (pc := 29) (v := 40) (by decide) dX4_completeCalls_29 ?_
          refine go_iload_n (pc := 31) rfl dX4_completeCalls_31 ?_
          refine gf_iadd (pc := 32) (ti_c (v := 40) (a := 40) (by decide)) (ti_rfl l2) (by omega) (by omega) dX4_completeCalls_32 (fun v10 e11 => ?_)
          refine go_invS (pc := 33) (sl := 0) (s_X7_has l (d + 0) hvx v9 v10) mL_X4_102 iM_X7_has rfl rfl (Nat.le_of_ble_eq_true rfl) (show d + 0 + 1 + 1 ≤ d + 2 by omega) (show 8 + (3 + 11) + 40 * (d + 0 + 1) ≤ 40 * (d + 2) by omega) (g_c0 hvx.ln) (Nat.le_of_ble_eq_true rfl) dX4_completeCalls_33 ?_
          intro r h12 hq _
          obtain ⟨v13, rfl, v13l, v13u, rfl⟩ := hq
          refine gf_if_eq (pc := 36) (tgt := 91) (ti_rfl v13) (by decide) dX4_completeCalls_36 (fun q14 => ?_) (fun q14 => ?_)
          ·
            exact go_lv rfl (ih.2.2.2 l1 l2 l3 hx hvx (by omega) (by omega) (by omega) (by omega) (by omega) (by omega) (by omega))
          ·
            refine go_aload_n (pc := 39) rfl dX4_completeCalls_39 ?_
            refine gi_getF (pc := 40) (q := 50) hvx fL_X4_15 rfl (Nat.le_of_ble_eq_true rfl) rfl (hvx.rf (by decide)) dX4_completeCalls_40 ?_
            refine go_iload_n (pc := 43) rfl dX4_completeCalls_43 ?_
            refine gi_lald (pc := 44) (len := 5) hvx (ti_rfl l2) rfl (by omega) (by omega) dX4_completeCalls_44 (fun v15 v15w => ?_)
            refine go_aload_n (pc := 45) rfl dX4_completeCalls_45 ?_
            refine gi_getF (pc := 46) (q := 53) hvx fL_X4_26 rfl (Nat.le_of_ble_eq_true rfl) rfl (hvx.rf (by decide)) dX4_completeCalls_46 ?_
            refine go_iconst (pc := 49) (v := 0) (by decide) dX4_completeCalls_49 ?_
            refine gi_lald (pc := 50) (len := 13) hvx (ti_c (v := 0) (a := 0) (by decide)) rfl (by omega) (by omega) dX4_completeCalls_50 (fun v16 v16w => ?_)
            refine gu_land (pc := 51) dX4_completeCalls_51 (fun v17 => ?_)
            refine go_aload_n (pc := 52) rfl dX4_completeCalls_52 ?_
            refine gi_getF (pc := 53) (q := 52) hvx fL_X4_23 rfl (Nat.le_of_ble_eq_true rfl) rfl (hvx.rf (by decide)) dX4_completeCalls_53 ?_
            refine go_iload_n (pc := 56) rfl dX4_completeCalls_56 ?_
            refine gi_lald (pc := 57) (len := 13) hvx (ti_rfl l3) rfl (by omega) (by omega) dX4_completeCalls_57 (fun v18 v18w => ?_)
            refine go_ldc2 (pc := 58) kL_X4_109 dX4_completeCalls_58 ?_
            refine gu_lxor (pc := 61) dX4_completeCalls_61 (fun v19 => ?_)
            refine gu_land (pc := 62) dX4_completeCalls_62 (fun v20 => ?_)
            refine go_lstore (pc := 63) (Nat.le_of_ble_eq_true rfl) dX4_completeCalls_63 (go_lv (lv2 := [(0, .ref 49), (1, .int l1), (2, .int l2), (3, .int l3), (4, .long v20)]) rfl ?_)
            refine go_aload_n (pc := 65) rfl dX4_completeCalls_65 ?_
            refine go_aload_n (pc := 66) rfl dX4_completeCalls_66 ?_
            refine gi_getF (pc := 67) (q := 52) hvx fL_X4_23 rfl (Nat.le_of_ble_eq_true rfl) rfl (hvx.rf (by decide)) dX4_completeCalls_67 ?_
            refine go_iload_n (pc := 70) rfl dX4_completeCalls_70 ?_
            refine go_lload (pc := 71) rfl dX4_completeCalls_71 ?_
            refine go_invV (pc := 73) (sl := 0) (s_X4_add l (d + 0) hvx 52 (by decide) l3 (by rw [show (l3 : Int32).toInt = l3.toInt from (ti_rfl l3)]; omega) (by rw [show (l3 : Int32).toInt = l3.toInt from (ti_rfl l3)]; omega) v20) mL_X4_94 iM_X4_add sM_X4_add (hvx.sh rfl) rfl rfl rfl (Nat.le_of_ble_eq_true rfl) (show d + 0 + 1 + 1 ≤ d + 2 by omega) (show 8 + (8 + 11) + 40 * (d + 0 + 1) ≤ 40 * (d + 2) by omega) (g_c0 hvx.ln) (Nat.le_of_ble_eq_true rfl) dX4_completeCalls_73 ?_
            intro r h21 hq _
            obtain ⟨rfl, hv21⟩ := hq
            refine go_iload_n (pc := 76) rfl dX4_completeCalls_76 ?_
            refine go_lload (pc := 77) rfl dX4_completeCalls_77 ?_
            refine go_lconst (pc := 79) (v := 0) (by decide) dX4_completeCalls_79 ?_
            refine gu_lcmp (pc := 80) dX4_completeCalls_80 (fun v22 => ?_)
            refine gf_if_eq (pc := 81) (tgt := 88) (ti_rfl v22) (by decide) dX4_completeCalls_81 (fun q23 => ?_) (fun q23 => ?_)
            ·
              refine go_iconst (pc := 88) (v := 0) (by decide) dX4_completeCalls_88 ?_
              have z24 : (0 : Int32).toInt = 0 := (ti_c (v := 0) (a := 0) (by decide))
              exact go_lv rfl (ih.2.2.1 l2 l3 0 l1 h21 hv21 (by omega) (by omega) (by omega) (by omega) (by omega) (by omega) (by omega) (by omega) (by omega))
            ·
              refine go_iconst (pc := 84) (v := 1) (by decide) dX4_completeCalls_84 ?_
              refine go_goto (pc := 85) (tgt := 89) (by decide) dX4_completeCalls_85 ?_
              have z25 : (1 : Int32).toInt = 1 := (ti_c (v := 1) (a := 1) (by decide))
              exact go_lv rfl (ih.2.2.1 l2 l3 1 l1 h21 hv21 (by omega) (by omega) (by omega) (by omega) (by omega) (by omega) (by omega) (by omega) (by omega))
      ·
        intro l2 l3 s0 s1 hx hvx l2l l2u l3l l3u s0l s0u s1l s1u hm
        refine gf_ior (pc := 89) (ti_rfl s1) (ti_rfl s0) (by omega) (by omega) (by omega) (by omega) dX4_completeCalls_89 (fun v26 v26l v26u => ?_)
        refine go_istore_n (pc := 90) (Nat.le_of_ble_eq_true rfl) dX4_completeCalls_90 (go_lv (lv2 := [(0, .ref 49), (1, .int v26), (2, .int l2), (3, .int l3)]) rfl ?_)
        exact go_lv rfl (ih.2.2.2 v26 l2 l3 hx hvx (by omega) (by omega) (by omega) (by omega) (by omega) (by omega) (by omega))
      ·
        intro l1 l2 l3 hx hvx l1l l1u l2l l2u l3l l3u hm
        refine gf_iinc (pc := 91) (Nat.le_of_ble_eq_true rfl) rfl (ti_rfl l3) (ti_c (by decide)) (by omega) (by omega) dX4_completeCalls_91 (fun v27 e28 => ?_)
        refine go_lv (lv2 := [(0, .ref 49), (1, .int l1), (2, .int l2), (3, .int v27)]) rfl ?_
        refine go_goto (pc := 94) (tgt := 17) (by decide) dX4_completeCalls_94 ?_
        have z29 : (v27 : Int32).toInt = (l3.toInt + 1) := e28
        exact go_lv rfl (ih.2.1 l1 l2 v27 hx hvx (by omega) (by omega) (by omega) (by omega) (by omega) (by omega) (by omega))
  refine go_iconst (pc := 0) (v := 0) (by decide) dX4_completeCalls_0 ?_
  refine go_istore_n (pc := 1) (Nat.le_of_ble_eq_true rfl) dX4_completeCalls_1 (go_lv (lv2 := [(0, .ref 49), (1, .int 0)]) rfl ?_)
  refine go_iconst (pc := 2) (v := 0) (by decide) dX4_completeCalls_2 ?_
  refine go_istore_n (pc := 3) (Nat.le_of_ble_eq_true rfl) dX4_completeCalls_3 (go_lv (lv2 := [(0, .ref 49), (1, .int 0), (2, .int 0)]) rfl ?_)
  have z30 : (0 : Int32).toInt = 0 := (ti_c (v := 0) (a := 0) (by decide))
  have z31 : (0 : Int32).toInt = 0 := (ti_c (v := 0) (a := 0) (by decide))
  exact go_lv rfl ((key 314).1 0 0 h hv (by omega) (by omega) (by omega) (by omega) (by omega))
set_option maxHeartbeats 4000000 in
set_option maxRecDepth 100000 in
theorem s_X4_findKept (l : Launch) (d : Nat) {P : PP} {h : HP} (hv : Iv P h) (a2 : Int32) (a2l : 0 ≤ a2.toInt) (a2u : a2.toInt ≤ 39) : Mt l yX4_findKept cX4_findKept 4 (some .long) (d + 5) [.ref 49, .int a2] h 0 0 (fun r h' => ∃ v : Int64, r = some (.long v) ∧ Iv P h') := by
  refine Mt_iv hv (by decide) (Nat.le_of_ble_eq_true rfl) ?_
  show Go l RX4 cX4_findKept 4 (g_rm (d + 5) 0 0) "findKept" (some .long) 117 0 0 (fun _ _ => True) (fun r h' => ∃ v : Int64, r = some (.long v) ∧ Iv P h') 0 0 [(0, .ref 49), (1, .int a2)] [] h
  have key : ∀ n : Nat, (∀ (l2 : Int32) (l3 : Int32) (hx : HP), Iv P hx → 0 ≤ l2.toInt → l2.toInt ≤ 1 → 0 ≤ l3.toInt → l3.toInt ≤ 259 → (3 * (259 - l3.toInt) + 3 : Int) < n → Go l RX4 cX4_findKept 4 (g_rm (d + 5) 0 0) "findKept" (some .long) 117 0 0 (fun _ _ => True) (fun r h' => ∃ v : Int64, r = some (.long v) ∧ Iv P h') 0 13 [(0, .ref 49), (2, .int l2), (3, .int l3)] [] hx) ∧ (∀  (hx : HP), Iv P hx → (1 : Int) < n → Go l RX4 cX4_findKept 4 (g_rm (d + 5) 0 0) "findKept" (some .long) 117 0 0 (fun _ _ => True) (fun r h' => ∃ v : Int64, r = some (.long v) ∧ Iv P h') 0 39 [(0, .ref 49)] [] hx) := by
    intro n
    induction n with
    | zero => exact ⟨(by intros; omega), (by intros; omega)⟩
    | succ n ih =>
      refine ⟨?_, ?_⟩
      ·
        intro l2 l3 hx hvx l2l l2u l3l l3u hm
        refine go_iload_n (pc := 13) rfl dX4_findKept_13 ?_
        refine go_sipush (pc := 14) (v := 240) (by decide) dX4_findKept_14 ?_
        refine gf_icmp_gt (pc := 17) (tgt := 39) (ti_rfl l3) (ti_c (v := 240) (a := 240) (by decide)) (by decide) dX4_findKept_17 (fun q1 => ?_) (fun q1 => ?_)
        ·
          exact go_lv rfl (ih.2  hx hvx  (by omega))
        ·
          refine go_iload_n (pc := 20) rfl dX4_findKept_20 ?_
          refine gf_if_eq (pc := 21) (tgt := 39) (ti_rfl l2) (by decide) dX4_findKept_21 (fun q2 => ?_) (fun q2 => ?_)
          ·
            exact go_lv rfl (ih.2  hx hvx  (by omega))
          ·
            refine go_aload_n (pc := 24) rfl dX4_findKept_24 ?_
            refine go_invV (pc := 25) (sl := 0) (s_X4_completeCalls l (d + 2) hvx ) mL_X4_149 iM_X4_completeCalls sM_X4_completeCalls (hvx.sh rfl) rfl rfl rfl (Nat.le_of_ble_eq_true rfl) (show d + 2 + 2 + 1 ≤ d + 5 by omega) (show 8 + (6 + 11) + 40 * (d + 2 + 2) ≤ 40 * (d + 5) by omega) (g_c0 hvx.ln) (Nat.le_of_ble_eq_true rfl) dX4_findKept_25 ?_
            intro r h3 hq _
            obtain ⟨v4, rfl, v4l, v4u, hv3⟩ := hq
            refine go_istore_n (pc := 28) (Nat.le_of_ble_eq_true rfl) dX4_findKept_28 (go_lv (lv2 := [(0, .ref 49), (2, .int v4), (3, .int l3)]) rfl ?_)
            refine go_aload_n (pc := 29) rfl dX4_findKept_29 ?_
            refine go_invV (pc := 30) (sl := 0) (s_X4_findOn l (d + 0) hv3 ) mL_X4_133 iM_X4_findOn sM_X4_findOn (hv3.sh rfl) rfl rfl rfl (Nat.le_of_ble_eq_true rfl) (show d + 0 + 4 + 1 ≤ d + 5 by omega) (show 8 + (2 + 11) + 40 * (d + 0 + 4) ≤ 40 * (d + 5) by omega) (g_c0 hv3.ln) (Nat.le_of_ble_eq_true rfl) dX4_findKept_30 ?_
            intro r h5 hq _
            obtain ⟨rfl, hv5⟩ := hq
            refine gf_iinc (pc := 33) (Nat.le_of_ble_eq_true rfl) rfl (ti_rfl l3) (ti_c (by decide)) (by omega) (by omega) dX4_findKept_33 (fun v6 e7 => ?_)
            refine go_lv (lv2 := [(0, .ref 49), (2, .int v4), (3, .int v6)]) rfl ?_
            refine go_goto (pc := 36) (tgt := 13) (by decide) dX4_findKept_36 ?_
            have z8 : (v6 : Int32).toInt = (l3.toInt + 1) := e7
            exact go_lv rfl (ih.1 v4 v6 h5 hv5 (by omega) (by omega) (by omega) (by omega) (by omega))
      ·
        intro hx hvx hm
        refine go_aload_n (pc := 39) rfl dX4_findKept_39 ?_
        refine go_invV (pc := 40) (sl := 0) (s_X4_statementsFound l (d + 3) hvx ) mL_X4_136 iM_X4_statementsFound sM_X4_statementsFound (hvx.sh rfl) rfl rfl rfl (Nat.le_of_ble_eq_true rfl) (show d + 3 + 1 + 1 ≤ d + 5 by omega) (show 8 + (4 + 11) + 40 * (d + 3 + 1) ≤ 40 * (d + 5) by omega) (g_c0 hvx.ln) (Nat.le_of_ble_eq_true rfl) dX4_findKept_40 ?_
        intro r h9 hq _
        obtain ⟨v10, rfl, rfl⟩ := hq
        exact gi_lret (pc := 43) ⟨_, rfl, hvx⟩ hvx dX4_findKept_43
  refine go_aload_n (pc := 0) rfl dX4_findKept_0 ?_
  refine go_iload_n (pc := 1) rfl dX4_findKept_1 ?_
  refine go_invV (pc := 2) (sl := 0) (s_X4_beginFrom l (d + 1) hv a2 (by rw [show (a2 : Int32).toInt = a2.toInt from (ti_rfl a2)]; omega) (by rw [show (a2 : Int32).toInt = a2.toInt from (ti_rfl a2)]; omega)) mL_X4_129 iM_X4_beginFrom sM_X4_beginFrom (hv.sh rfl) rfl rfl rfl (Nat.le_of_ble_eq_true rfl) (show d + 1 + 3 + 1 ≤ d + 5 by omega) (show 8 + (4 + 11) + 40 * (d + 1 + 3) ≤ 40 * (d + 5) by omega) (g_c0 hv.ln) (Nat.le_of_ble_eq_true rfl) dX4_findKept_2 ?_
  intro r h11 hq _
  obtain ⟨rfl, hv11⟩ := hq
  refine go_aload_n (pc := 5) rfl dX4_findKept_5 ?_
  refine go_invV (pc := 6) (sl := 0) (s_X4_findOn l (d + 0) hv11 ) mL_X4_133 iM_X4_findOn sM_X4_findOn (hv11.sh rfl) rfl rfl rfl (Nat.le_of_ble_eq_true rfl) (show d + 0 + 4 + 1 ≤ d + 5 by omega) (show 8 + (2 + 11) + 40 * (d + 0 + 4) ≤ 40 * (d + 5) by omega) (g_c0 hv11.ln) (Nat.le_of_ble_eq_true rfl) dX4_findKept_6 ?_
  intro r h12 hq _
  obtain ⟨rfl, hv12⟩ := hq
  refine go_iconst (pc := 9) (v := 1) (by decide) dX4_findKept_9 ?_
  refine go_istore_n (pc := 10) (Nat.le_of_ble_eq_true rfl) dX4_findKept_10 (go_lv (lv2 := [(0, .ref 49), (1, .int a2), (2, .int 1)]) rfl ?_)
  refine go_iconst (pc := 11) (v := 0) (by decide) dX4_findKept_11 ?_
  refine go_istore_n (pc := 12) (Nat.le_of_ble_eq_true rfl) dX4_findKept_12 (go_lv (lv2 := [(0, .ref 49), (1, .int a2), (2, .int 1), (3, .int 0)]) rfl ?_)
  have z13 : (1 : Int32).toInt = 1 := (ti_c (v := 1) (a := 1) (by decide))
  have z14 : (0 : Int32).toInt = 0 := (ti_c (v := 0) (a := 0) (by decide))
  exact go_lv rfl ((key 797).1 1 0 h12 hv12 (by omega) (by omega) (by omega) (by omega) (by omega))
set_option maxHeartbeats 4000000 in
set_option maxRecDepth 100000 in
theorem s_X4_keptFor (l : Launch) (d : Nat) {P : PP} {h : HP} (hv : Iv P h) (a2 : Int32) (a2l : 0 ≤ a2.toInt) (a2u : a2.toInt ≤ 39) : Mt l yX4_keptFor cX4_keptFor 2 (some .long) (d + 6) [.ref 49, .int a2] h 0 0 (fun r h' => ∃ v : Int64, r = some (.long v) ∧ Iv P h') := by
  refine Mt_iv hv (by decide) (Nat.le_of_ble_eq_true rfl) ?_
  show Go l RX4 cX4_keptFor 2 (g_rm (d + 6) 0 0) "keptFor" (some .long) 117 0 0 (fun _ _ => True) (fun r h' => ∃ v : Int64, r = some (.long v) ∧ Iv P h') 0 0 [(0, .ref 49), (1, .int a2)] [] h
  have key : ∀ n : Nat, (∀ (l1 : Int32) (hx : HP), Iv P hx → 0 ≤ l1.toInt → l1.toInt ≤ 39 → (1 : Int) < n → Go l RX4 cX4_keptFor 2 (g_rm (d + 6) 0 0) "keptFor" (some .long) 117 0 0 (fun _ _ => True) (fun r h' => ∃ v : Int64, r = some (.long v) ∧ Iv P h') 0 35 [(0, .ref 49), (1, .int l1)] [] hx) := by
    intro n
    induction n with
    | zero => exact (by intros; omega)
    | succ n ih =>
      refine ?_
      ·
        intro l1 hx hvx l1l l1u hm
        refine go_aload_n (pc := 35) rfl dX4_keptFor_35 ?_
        refine gi_getF (pc := 36) (q := 56) hvx fL_X4_43 rfl (Nat.le_of_ble_eq_true rfl) rfl (hvx.rf (by decide)) dX4_keptFor_36 ?_
        refine go_iload_n (pc := 39) rfl dX4_keptFor_39 ?_
        refine gi_lald (pc := 40) (len := 40) hvx (ti_rfl l1) rfl (by omega) (by omega) dX4_keptFor_40 (fun v1 v1w => ?_)
        exact gi_lret (pc := 41) ⟨_, rfl, hvx⟩ hvx dX4_keptFor_41
  refine go_aload_n (pc := 0) rfl dX4_keptFor_0 ?_
  refine gi_getL (pc := 1) hv fL_X4_46 rfl (Nat.le_of_ble_eq_true rfl) rfl dX4_keptFor_1 (fun v2 => ?_)
  refine go_iload_n (pc := 4) rfl dX4_keptFor_4 ?_
  refine go_invS (pc := 5) (sl := 0) (s_X7_has l (d + 4) hv v2 a2) mL_X4_102 iM_X7_has rfl rfl (Nat.le_of_ble_eq_true rfl) (show d + 4 + 1 + 1 ≤ d + 6 by omega) (show 8 + (3 + 11) + 40 * (d + 4 + 1) ≤ 40 * (d + 6) by omega) (g_c0 hv.ln) (Nat.le_of_ble_eq_true rfl) dX4_keptFor_5 ?_
  intro r h3 hq _
  obtain ⟨v4, rfl, v4l, v4u, rfl⟩ := hq
  refine gf_if_ne (pc := 8) (tgt := 35) (ti_rfl v4) (by decide) dX4_keptFor_8 (fun q5 => ?_) (fun q5 => ?_)
  ·
    exact go_lv rfl ((key 14) a2 h hv (by omega) (by omega) (by omega))
  ·
    refine go_aload_n (pc := 11) rfl dX4_keptFor_11 ?_
    refine gi_getF (pc := 12) (q := 56) hv fL_X4_43 rfl (Nat.le_of_ble_eq_true rfl) rfl (hv.rf (by decide)) dX4_keptFor_12 ?_
    refine go_iload_n (pc := 15) rfl dX4_keptFor_15 ?_
    refine go_aload_n (pc := 16) rfl dX4_keptFor_16 ?_
    refine go_iload_n (pc := 17) rfl dX4_keptFor_17 ?_
    refine go_invV (pc := 18) (sl := 0) (s_X4_findKept l (d + 0) hv a2 (by rw [show (a2 : Int32).toInt = a2.toInt from (ti_rfl a2)]; omega) (by rw [show (a2 : Int32).toInt = a2.toInt from (ti_rfl a2)]; omega)) mL_X4_146 iM_X4_findKept sM_X4_findKept (hv.sh rfl) rfl rfl rfl (Nat.le_of_ble_eq_true rfl) (show d + 0 + 5 + 1 ≤ d + 6 by omega) (show 8 + (4 + 11) + 40 * (d + 0 + 5) ≤ 40 * (d + 6) by omega) (g_c0 hv.ln) (Nat.le_of_ble_eq_true rfl) dX4_keptFor_18 ?_
    intro r h6 hq _
    obtain ⟨v7, rfl, hv6⟩ := hq
    refine gi_last (pc := 21) (len := 40) hv6 (ti_rfl a2) rfl (by omega) (by omega) dX4_keptFor_21 (fun h8 hv8 hv8e => ?_)
    refine go_aload_n (pc := 22) rfl dX4_keptFor_22 ?_
    refine go_dup (pc := 23) rfl dX4_keptFor_23 ?_
    refine gi_getL (pc := 24) hv8 fL_X4_46 rfl (Nat.le_of_ble_eq_true rfl) rfl dX4_keptFor_24 (fun v9 => ?_)
    refine go_iload_n (pc := 27) rfl dX4_keptFor_27 ?_
    refine go_invS (pc := 28) (sl := 0) (s_X7_bit l (d + 4) hv8 a2) mL_X4_91 iM_X7_bit rfl rfl (Nat.le_of_ble_eq_true rfl) (show d + 4 + 1 + 1 ≤ d + 6 by omega) (show 8 + (1 + 11) + 40 * (d + 4 + 1) ≤ 40 * (d + 6) by omega) (g_c0 hv8.ln) (Nat.le_of_ble_eq_true rfl) dX4_keptFor_28 ?_
    intro r h10 hq _
    obtain ⟨v11, rfl, rfl⟩ := hq
    refine gu_lor (pc := 31) dX4_keptFor_31 (fun v12 => ?_)
    refine gi_putL (pc := 32) hv8 (fP_X4_46 _) rfl (Nat.le_of_ble_eq_true rfl) rfl rfl rfl dX4_keptFor_32 (fun h13 hv13 hv13e => ?_)
    exact go_lv rfl ((key 14) a2 h13 hv13 (by omega) (by omega) (by omega))
