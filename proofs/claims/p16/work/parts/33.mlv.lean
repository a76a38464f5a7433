theorem dX8_readBlock_0 : decode cX8_readBlock 0 = .ok (.aload_n 0, 1) := by decide +kernel
theorem dX8_readBlock_1 : decode cX8_readBlock 1 = .ok (.iload_n 1, 1) := by decide +kernel
theorem dX8_readBlock_2 : decode cX8_readBlock 2 = .ok (.iload_n 3, 1) := by decide +kernel
theorem dX8_readBlock_3 : decode cX8_readBlock 3 = .ok (.invokevirtual 190, 3) := by decide +kernel
theorem dX8_readBlock_6 : decode cX8_readBlock 6 = .ok (.istore 4, 2) := by decide +kernel
theorem dX8_readBlock_8 : decode cX8_readBlock 8 = .ok (.aload_n 0, 1) := by decide +kernel
theorem dX8_readBlock_9 : decode cX8_readBlock 9 = .ok (.invokevirtual 172, 3) := by decide +kernel
theorem dX8_readBlock_12 : decode cX8_readBlock 12 = .ok (.ifCond .eq 23, 3) := by decide +kernel
theorem dX8_readBlock_15 : decode cX8_readBlock 15 = .ok (.aload_n 0, 1) := by decide +kernel
theorem dX8_readBlock_16 : decode cX8_readBlock 16 = .ok (.invokevirtual 176, 3) := by decide +kernel
theorem dX8_readBlock_19 : decode cX8_readBlock 19 = .ok (.bipush 125, 2) := by decide +kernel
theorem dX8_readBlock_21 : decode cX8_readBlock 21 = .ok (.if_icmp .eq 14, 3) := by decide +kernel
theorem dX8_readBlock_24 : decode cX8_readBlock 24 = .ok (.aload_n 0, 1) := by decide +kernel
theorem dX8_readBlock_25 : decode cX8_readBlock 25 = .ok (.iload 4, 2) := by decide +kernel
theorem dX8_readBlock_27 : decode cX8_readBlock 27 = .ok (.iload_n 2, 1) := by decide +kernel
theorem dX8_readBlock_28 : decode cX8_readBlock 28 = .ok (.iload_n 3, 1) := by decide +kernel
theorem dX8_readBlock_29 : decode cX8_readBlock 29 = .ok (.invokevirtual 194, 3) := by decide +kernel
theorem dX8_readBlock_32 : decode cX8_readBlock 32 = .ok (.goto (-24), 3) := by decide +kernel
theorem dX8_readBlock_35 : decode cX8_readBlock 35 = .ok (.aload_n 0, 1) := by decide +kernel
theorem dX8_readBlock_36 : decode cX8_readBlock 36 = .ok (.bipush 125, 2) := by decide +kernel
theorem dX8_readBlock_38 : decode cX8_readBlock 38 = .ok (.invokevirtual 198, 3) := by decide +kernel
theorem dX8_readBlock_41 : decode cX8_readBlock 41 = .ok (.iload 4, 2) := by decide +kernel
theorem dX8_readBlock_43 : decode cX8_readBlock 43 = .ok (.ireturn, 1) := by decide +kernel
theorem dX8_readTest_0 : decode cX8_readTest 0 = .ok (.aload_n 0, 1) := by decide +kernel
theorem dX8_readTest_1 : decode cX8_readTest 1 = .ok (.iload_n 1, 1) := by decide +kernel
theorem dX8_readTest_2 : decode cX8_readTest 2 = .ok (.iconst 0, 1) := by decide +kernel
theorem dX8_readTest_3 : decode cX8_readTest 3 = .ok (.invokevirtual 218, 3) := by decide +kernel
theorem dX8_readTest_6 : decode cX8_readTest 6 = .ok (.aload_n 0, 1) := by decide +kernel
theorem dX8_readTest_7 : decode cX8_readTest 7 = .ok (.bipush 60, 2) := by decide +kernel
theorem dX8_readTest_9 : decode cX8_readTest 9 = .ok (.invokevirtual 198, 3) := by decide +kernel
theorem dX8_readTest_12 : decode cX8_readTest 12 = .ok (.aload_n 0, 1) := by decide +kernel
theorem dX8_readTest_13 : decode cX8_readTest 13 = .ok (.iload_n 1, 1) := by decide +kernel
theorem dX8_readTest_14 : decode cX8_readTest 14 = .ok (.iconst 1, 1) := by decide +kernel
theorem dX8_readTest_15 : decode cX8_readTest 15 = .ok (.invokevirtual 218, 3) := by decide +kernel
theorem dX8_readTest_18 : decode cX8_readTest 18 = .ok (.aload_n 0, 1) := by decide +kernel
theorem dX8_readTest_19 : decode cX8_readTest 19 = .ok (.invokevirtual 172, 3) := by decide +kernel
theorem dX8_readTest_22 : decode cX8_readTest 22 = .ok (.ifCond .ne 4, 3) := by decide +kernel
theorem dX8_readTest_25 : decode cX8_readTest 25 = .ok (.return_, 1) := by decide +kernel
theorem dX8_readTest_26 : decode cX8_readTest 26 = .ok (.aload_n 0, 1) := by decide +kernel
theorem dX8_readTest_27 : decode cX8_readTest 27 = .ok (.getfield 53, 3) := by decide +kernel
theorem dX8_readTest_30 : decode cX8_readTest 30 = .ok (.iload_n 1, 1) := by decide +kernel
theorem dX8_readTest_31 : decode cX8_readTest 31 = .ok (.aload_n 0, 1) := by decide +kernel
theorem dX8_readTest_32 : decode cX8_readTest 32 = .ok (.iload_n 1, 1) := by decide +kernel
theorem dX8_readTest_33 : decode cX8_readTest 33 = .ok (.iload_n 2, 1) := by decide +kernel
theorem dX8_readTest_34 : decode cX8_readTest 34 = .ok (.iload_n 3, 1) := by decide +kernel
theorem dX8_readTest_35 : decode cX8_readTest 35 = .ok (.iconst 1, 1) := by decide +kernel
theorem dX8_readTest_36 : decode cX8_readTest 36 = .ok (.iadd, 1) := by decide +kernel
theorem dX8_readTest_37 : decode cX8_readTest 37 = .ok (.invokevirtual 224, 3) := by decide +kernel
theorem dX8_readTest_40 : decode cX8_readTest 40 = .ok (.iastore, 1) := by decide +kernel
theorem dX8_readTest_41 : decode cX8_readTest 41 = .ok (.aload_n 0, 1) := by decide +kernel
theorem dX8_readTest_42 : decode cX8_readTest 42 = .ok (.invokevirtual 172, 3) := by decide +kernel
theorem dX8_readTest_45 : decode cX8_readTest 45 = .ok (.ifCond .eq 22, 3) := by decide +kernel
theorem dX8_readTest_48 : decode cX8_readTest 48 = .ok (.aload_n 0, 1) := by decide +kernel
theorem dX8_readTest_49 : decode cX8_readTest 49 = .ok (.getfield 29, 3) := by decide +kernel
theorem dX8_readTest_52 : decode cX8_readTest 52 = .ok (.iload_n 1, 1) := by decide +kernel
theorem dX8_readTest_53 : decode cX8_readTest 53 = .ok (.iaload, 1) := by decide +kernel
theorem dX8_readTest_54 : decode cX8_readTest 54 = .ok (.iconst 3, 1) := by decide +kernel
theorem dX8_readTest_55 : decode cX8_readTest 55 = .ok (.if_icmp .eq 12, 3) := by decide +kernel
theorem dX8_readTest_58 : decode cX8_readTest 58 = .ok (.aload_n 0, 1) := by decide +kernel
theorem dX8_readTest_59 : decode cX8_readTest 59 = .ok (.invokevirtual 176, 3) := by decide +kernel
theorem dX8_readTest_62 : decode cX8_readTest 62 = .ok (.bipush 58, 2) := by decide +kernel
theorem dX8_readTest_64 : decode cX8_readTest 64 = .ok (.if_icmp .eq 4, 3) := by decide +kernel
theorem dX8_readTest_67 : decode cX8_readTest 67 = .ok (.return_, 1) := by decide +kernel
theorem dX8_readTest_68 : decode cX8_readTest 68 = .ok (.aload_n 0, 1) := by decide +kernel
theorem dX8_readTest_69 : decode cX8_readTest 69 = .ok (.dup, 1) := by decide +kernel
theorem dX8_readTest_70 : decode cX8_readTest 70 = .ok (.getfield 163, 3) := by decide +kernel
theorem dX8_readTest_73 : decode cX8_readTest 73 = .ok (.iconst 1, 1) := by decide +kernel
theorem dX8_readTest_74 : decode cX8_readTest 74 = .ok (.iadd, 1) := by decide +kernel
theorem dX8_readTest_75 : decode cX8_readTest 75 = .ok (.putfield 163, 3) := by decide +kernel
theorem dX8_readTest_78 : decode cX8_readTest 78 = .ok (.aload_n 0, 1) := by decide +kernel
theorem dX8_readTest_79 : decode cX8_readTest 79 = .ok (.getfield 56, 3) := by decide +kernel
theorem dX8_readTest_82 : decode cX8_readTest 82 = .ok (.iload_n 1, 1) := by decide +kernel
theorem dX8_readTest_83 : decode cX8_readTest 83 = .ok (.aload_n 0, 1) := by decide +kernel
theorem dX8_readTest_84 : decode cX8_readTest 84 = .ok (.iload_n 1, 1) := by decide +kernel
theorem dX8_readTest_85 : decode cX8_readTest 85 = .ok (.iload_n 2, 1) := by decide +kernel
theorem dX8_readTest_86 : decode cX8_readTest 86 = .ok (.iload_n 3, 1) := by decide +kernel
theorem dX8_readTest_87 : decode cX8_readTest 87 = .ok (.iconst 1, 1) := by decide +kernel
theorem dX8_readTest_88 : decode cX8_readTest 88 = .ok (.iadd, 1) := by decide +kernel
theorem dX8_readTest_89 : decode cX8_readTest 89 = .ok (.invokevirtual 224, 3) := by decide +kernel
theorem dX8_readTest_92 : decode cX8_readTest 92 = .ok (.iastore, 1) := by decide +kernel
theorem dX8_readTest_93 : decode cX8_readTest 93 = .ok (.return_, 1) := by decide +kernel
theorem dX8_readTry_0 : decode cX8_readTry 0 = .ok (.aload_n 0, 1) := by decide +kernel
theorem dX8_readTry_1 : decode cX8_readTry 1 = .ok (.getfield 53, 3) := by decide +kernel
theorem dX8_readTry_4 : decode cX8_readTry 4 = .ok (.iload_n 1, 1) := by decide +kernel
theorem dX8_readTry_5 : decode cX8_readTry 5 = .ok (.aload_n 0, 1) := by decide +kernel
theorem dX8_readTry_6 : decode cX8_readTry 6 = .ok (.iload_n 1, 1) := by decide +kernel
theorem dX8_readTry_7 : decode cX8_readTry 7 = .ok (.iload_n 2, 1) := by decide +kernel
theorem dX8_readTry_8 : decode cX8_readTry 8 = .ok (.iload_n 3, 1) := by decide +kernel
theorem dX8_readTry_9 : decode cX8_readTry 9 = .ok (.iconst 1, 1) := by decide +kernel
theorem dX8_readTry_10 : decode cX8_readTry 10 = .ok (.iadd, 1) := by decide +kernel
theorem dX8_readTry_11 : decode cX8_readTry 11 = .ok (.invokevirtual 224, 3) := by decide +kernel
theorem dX8_readTry_14 : decode cX8_readTry 14 = .ok (.iastore, 1) := by decide +kernel
theorem dX8_readTry_15 : decode cX8_readTry 15 = .ok (.aload_n 0, 1) := by decide +kernel
theorem dX8_readTry_16 : decode cX8_readTry 16 = .ok (.invokevirtual 172, 3) := by decide +kernel
theorem dX8_readTry_19 : decode cX8_readTry 19 = .ok (.ifCond .ne 4, 3) := by decide +kernel
theorem dX8_readTry_22 : decode cX8_readTry 22 = .ok (.return_, 1) := by decide +kernel
theorem dX8_readTry_23 : decode cX8_readTry 23 = .ok (.aload_n 0, 1) := by decide +kernel
theorem dX8_readTry_24 : decode cX8_readTry 24 = .ok (.getfield 44, 3) := by decide +kernel
theorem dX8_readTry_27 : decode cX8_readTry 27 = .ok (.iload_n 1, 1) := by decide +kernel
theorem dX8_readTry_28 : decode cX8_readTry 28 = .ok (.aload_n 0, 1) := by decide +kernel
theorem dX8_readTry_29 : decode cX8_readTry 29 = .ok (.iconst 0, 1) := by decide +kernel
theorem dX8_readTry_30 : decode cX8_readTry 30 = .ok (.invokevirtual 183, 3) := by decide +kernel
theorem dX8_readTry_33 : decode cX8_readTry 33 = .ok (.iastore, 1) := by decide +kernel
theorem dX8_readTry_34 : decode cX8_readTry 34 = .ok (.aload_n 0, 1) := by decide +kernel
theorem dX8_readTry_35 : decode cX8_readTry 35 = .ok (.getfield 44, 3) := by decide +kernel
theorem dX8_readTry_38 : decode cX8_readTry 38 = .ok (.iload_n 1, 1) := by decide +kernel
theorem dX8_readTry_39 : decode cX8_readTry 39 = .ok (.iaload, 1) := by decide +kernel
theorem dX8_readTry_40 : decode cX8_readTry 40 = .ok (.iconst (-1), 1) := by decide +kernel
theorem dX8_readTry_41 : decode cX8_readTry 41 = .ok (.if_icmp .ne 9, 3) := by decide +kernel
theorem dX8_readTry_44 : decode cX8_readTry 44 = .ok (.aload_n 0, 1) := by decide +kernel
theorem dX8_readTry_45 : decode cX8_readTry 45 = .ok (.iconst 1, 1) := by decide +kernel
theorem dX8_readTry_46 : decode cX8_readTry 46 = .ok (.invokevirtual 180, 3) := by decide +kernel
theorem dX8_readTry_49 : decode cX8_readTry 49 = .ok (.return_, 1) := by decide +kernel
theorem dX8_readTry_50 : decode cX8_readTry 50 = .ok (.aload_n 0, 1) := by decide +kernel
theorem dX8_readTry_51 : decode cX8_readTry 51 = .ok (.dup, 1) := by decide +kernel
theorem dX8_readTry_52 : decode cX8_readTry 52 = .ok (.getfield 163, 3) := by decide +kernel
theorem dX8_readTry_55 : decode cX8_readTry 55 = .ok (.iconst 1, 1) := by decide +kernel
theorem dX8_readTry_56 : decode cX8_readTry 56 = .ok (.iadd, 1) := by decide +kernel
theorem dX8_readTry_57 : decode cX8_readTry 57 = .ok (.putfield 163, 3) := by decide +kernel
theorem dX8_readTry_60 : decode cX8_readTry 60 = .ok (.aload_n 0, 1) := by decide +kernel
theorem dX8_readTry_61 : decode cX8_readTry 61 = .ok (.getfield 56, 3) := by decide +kernel
theorem dX8_readTry_64 : decode cX8_readTry 64 = .ok (.iload_n 1, 1) := by decide +kernel
theorem dX8_readTry_65 : decode cX8_readTry 65 = .ok (.aload_n 0, 1) := by decide +kernel
theorem dX8_readTry_66 : decode cX8_readTry 66 = .ok (.iload_n 1, 1) := by decide +kernel
theorem dX8_readTry_67 : decode cX8_readTry 67 = .ok (.iload_n 2, 1) := by decide +kernel
theorem dX8_readTry_68 : decode cX8_readTry 68 = .ok (.iload_n 3, 1) := by decide +kernel
theorem dX8_readTry_69 : decode cX8_readTry 69 = .ok (.iconst 1, 1) := by decide +kernel
theorem dX8_readTry_70 : decode cX8_readTry 70 = .ok (.iadd, 1) := by decide +kernel
theorem dX8_readTry_71 : decode cX8_readTry 71 = .ok (.invokevirtual 224, 3) := by decide +kernel
theorem dX8_readTry_74 : decode cX8_readTry 74 = .ok (.iastore, 1) := by decide +kernel
theorem dX8_readTry_75 : decode cX8_readTry 75 = .ok (.return_, 1) := by decide +kernel
