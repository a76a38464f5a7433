theorem dX8_catcher_0 : decode cX8_catcher 0 = .ok (.aload_n 0, 1) := by decide +kernel
theorem dX8_catcher_1 : decode cX8_catcher 1 = .ok (.aload_n 0, 1) := by decide +kernel
theorem dX8_catcher_2 : decode cX8_catcher 2 = .ok (.iload_n 1, 1) := by decide +kernel
theorem dX8_catcher_3 : decode cX8_catcher 3 = .ok (.invokevirtual 268, 3) := by decide +kernel
theorem dX8_catcher_6 : decode cX8_catcher 6 = .ok (.invokevirtual 265, 3) := by decide +kernel
theorem dX8_catcher_9 : decode cX8_catcher 9 = .ok (.istore_n 2, 1) := by decide +kernel
theorem dX8_catcher_10 : decode cX8_catcher 10 = .ok (.iload_n 2, 1) := by decide +kernel
theorem dX8_catcher_11 : decode cX8_catcher 11 = .ok (.iconst (-1), 1) := by decide +kernel
theorem dX8_catcher_12 : decode cX8_catcher 12 = .ok (.if_icmp .ne 6, 3) := by decide +kernel
theorem dX8_catcher_15 : decode cX8_catcher 15 = .ok (.bipush (-2), 2) := by decide +kernel
theorem dX8_catcher_17 : decode cX8_catcher 17 = .ok (.ireturn, 1) := by decide +kernel
theorem dX8_catcher_18 : decode cX8_catcher 18 = .ok (.aload_n 0, 1) := by decide +kernel
theorem dX8_catcher_19 : decode cX8_catcher 19 = .ok (.aload_n 0, 1) := by decide +kernel
theorem dX8_catcher_20 : decode cX8_catcher 20 = .ok (.getfield 56, 3) := by decide +kernel
theorem dX8_catcher_23 : decode cX8_catcher 23 = .ok (.iload_n 2, 1) := by decide +kernel
theorem dX8_catcher_24 : decode cX8_catcher 24 = .ok (.iaload, 1) := by decide +kernel
theorem dX8_catcher_25 : decode cX8_catcher 25 = .ok (.invokevirtual 253, 3) := by decide +kernel
theorem dX8_catcher_28 : decode cX8_catcher 28 = .ok (.istore_n 3, 1) := by decide +kernel
theorem dX8_catcher_29 : decode cX8_catcher 29 = .ok (.iload_n 3, 1) := by decide +kernel
theorem dX8_catcher_30 : decode cX8_catcher 30 = .ok (.iconst (-1), 1) := by decide +kernel
theorem dX8_catcher_31 : decode cX8_catcher 31 = .ok (.if_icmp .ne 6, 3) := by decide +kernel
theorem dX8_catcher_34 : decode cX8_catcher 34 = .ok (.bipush (-2), 2) := by decide +kernel
theorem dX8_catcher_36 : decode cX8_catcher 36 = .ok (.ireturn, 1) := by decide +kernel
theorem dX8_catcher_37 : decode cX8_catcher 37 = .ok (.aload_n 0, 1) := by decide +kernel
theorem dX8_catcher_38 : decode cX8_catcher 38 = .ok (.getfield 62, 3) := by decide +kernel
theorem dX8_catcher_41 : decode cX8_catcher 41 = .ok (.aload_n 0, 1) := by decide +kernel
theorem dX8_catcher_42 : decode cX8_catcher 42 = .ok (.iload_n 3, 1) := by decide +kernel
theorem dX8_catcher_43 : decode cX8_catcher 43 = .ok (.invokevirtual 268, 3) := by decide +kernel
theorem dX8_catcher_46 : decode cX8_catcher 46 = .ok (.iaload, 1) := by decide +kernel
theorem dX8_catcher_47 : decode cX8_catcher 47 = .ok (.istore 4, 2) := by decide +kernel
theorem dX8_catcher_49 : decode cX8_catcher 49 = .ok (.aload_n 0, 1) := by decide +kernel
theorem dX8_catcher_50 : decode cX8_catcher 50 = .ok (.getfield 74, 3) := by decide +kernel
theorem dX8_catcher_53 : decode cX8_catcher 53 = .ok (.iload 4, 2) := by decide +kernel
theorem dX8_catcher_55 : decode cX8_catcher 55 = .ok (.iaload, 1) := by decide +kernel
theorem dX8_catcher_56 : decode cX8_catcher 56 = .ok (.iconst (-1), 1) := by decide +kernel
theorem dX8_catcher_57 : decode cX8_catcher 57 = .ok (.if_icmp .eq 33, 3) := by decide +kernel
theorem dX8_catcher_60 : decode cX8_catcher 60 = .ok (.iload 4, 2) := by decide +kernel
theorem dX8_catcher_62 : decode cX8_catcher 62 = .ok (.aload_n 0, 1) := by decide +kernel
theorem dX8_catcher_63 : decode cX8_catcher 63 = .ok (.getfield 56, 3) := by decide +kernel
theorem dX8_catcher_66 : decode cX8_catcher 66 = .ok (.iload_n 2, 1) := by decide +kernel
theorem dX8_catcher_67 : decode cX8_catcher 67 = .ok (.iaload, 1) := by decide +kernel
theorem dX8_catcher_68 : decode cX8_catcher 68 = .ok (.if_icmp .ne 5, 3) := by decide +kernel
theorem dX8_catcher_71 : decode cX8_catcher 71 = .ok (.iload_n 3, 1) := by decide +kernel
theorem dX8_catcher_72 : decode cX8_catcher 72 = .ok (.ireturn, 1) := by decide +kernel
theorem dX8_catcher_73 : decode cX8_catcher 73 = .ok (.aload_n 0, 1) := by decide +kernel
theorem dX8_catcher_74 : decode cX8_catcher 74 = .ok (.getfield 62, 3) := by decide +kernel
theorem dX8_catcher_77 : decode cX8_catcher 77 = .ok (.aload_n 0, 1) := by decide +kernel
theorem dX8_catcher_78 : decode cX8_catcher 78 = .ok (.getfield 74, 3) := by decide +kernel
theorem dX8_catcher_81 : decode cX8_catcher 81 = .ok (.iload 4, 2) := by decide +kernel
theorem dX8_catcher_83 : decode cX8_catcher 83 = .ok (.iaload, 1) := by decide +kernel
theorem dX8_catcher_84 : decode cX8_catcher 84 = .ok (.iaload, 1) := by decide +kernel
theorem dX8_catcher_85 : decode cX8_catcher 85 = .ok (.istore 4, 2) := by decide +kernel
theorem dX8_catcher_87 : decode cX8_catcher 87 = .ok (.goto (-38), 3) := by decide +kernel
theorem dX8_catcher_90 : decode cX8_catcher 90 = .ok (.bipush (-2), 2) := by decide +kernel
theorem dX8_catcher_92 : decode cX8_catcher 92 = .ok (.ireturn, 1) := by decide +kernel
theorem dX8_tryOf_0 : decode cX8_tryOf 0 = .ok (.aload_n 0, 1) := by decide +kernel
theorem dX8_tryOf_1 : decode cX8_tryOf 1 = .ok (.getfield 62, 3) := by decide +kernel
theorem dX8_tryOf_4 : decode cX8_tryOf 4 = .ok (.iload_n 1, 1) := by decide +kernel
theorem dX8_tryOf_5 : decode cX8_tryOf 5 = .ok (.iaload, 1) := by decide +kernel
theorem dX8_tryOf_6 : decode cX8_tryOf 6 = .ok (.istore_n 2, 1) := by decide +kernel
theorem dX8_tryOf_7 : decode cX8_tryOf 7 = .ok (.aload_n 0, 1) := by decide +kernel
theorem dX8_tryOf_8 : decode cX8_tryOf 8 = .ok (.getfield 74, 3) := by decide +kernel
theorem dX8_tryOf_11 : decode cX8_tryOf 11 = .ok (.iload_n 2, 1) := by decide +kernel
theorem dX8_tryOf_12 : decode cX8_tryOf 12 = .ok (.iaload, 1) := by decide +kernel
theorem dX8_tryOf_13 : decode cX8_tryOf 13 = .ok (.iconst (-1), 1) := by decide +kernel
theorem dX8_tryOf_14 : decode cX8_tryOf 14 = .ok (.if_icmp .eq 43, 3) := by decide +kernel
theorem dX8_tryOf_17 : decode cX8_tryOf 17 = .ok (.aload_n 0, 1) := by decide +kernel
theorem dX8_tryOf_18 : decode cX8_tryOf 18 = .ok (.getfield 74, 3) := by decide +kernel
theorem dX8_tryOf_21 : decode cX8_tryOf 21 = .ok (.iload_n 2, 1) := by decide +kernel
theorem dX8_tryOf_22 : decode cX8_tryOf 22 = .ok (.iaload, 1) := by decide +kernel
theorem dX8_tryOf_23 : decode cX8_tryOf 23 = .ok (.istore_n 3, 1) := by decide +kernel
theorem dX8_tryOf_24 : decode cX8_tryOf 24 = .ok (.aload_n 0, 1) := by decide +kernel
theorem dX8_tryOf_25 : decode cX8_tryOf 25 = .ok (.getfield 29, 3) := by decide +kernel
theorem dX8_tryOf_28 : decode cX8_tryOf 28 = .ok (.iload_n 3, 1) := by decide +kernel
theorem dX8_tryOf_29 : decode cX8_tryOf 29 = .ok (.iaload, 1) := by decide +kernel
theorem dX8_tryOf_30 : decode cX8_tryOf 30 = .ok (.bipush 6, 2) := by decide +kernel
theorem dX8_tryOf_32 : decode cX8_tryOf 32 = .ok (.if_icmp .ne 15, 3) := by decide +kernel
theorem dX8_tryOf_35 : decode cX8_tryOf 35 = .ok (.aload_n 0, 1) := by decide +kernel
theorem dX8_tryOf_36 : decode cX8_tryOf 36 = .ok (.getfield 53, 3) := by decide +kernel
theorem dX8_tryOf_39 : decode cX8_tryOf 39 = .ok (.iload_n 3, 1) := by decide +kernel
theorem dX8_tryOf_40 : decode cX8_tryOf 40 = .ok (.iaload, 1) := by decide +kernel
theorem dX8_tryOf_41 : decode cX8_tryOf 41 = .ok (.iload_n 2, 1) := by decide +kernel
theorem dX8_tryOf_42 : decode cX8_tryOf 42 = .ok (.if_icmp .ne 5, 3) := by decide +kernel
theorem dX8_tryOf_45 : decode cX8_tryOf 45 = .ok (.iload_n 3, 1) := by decide +kernel
theorem dX8_tryOf_46 : decode cX8_tryOf 46 = .ok (.ireturn, 1) := by decide +kernel
theorem dX8_tryOf_47 : decode cX8_tryOf 47 = .ok (.aload_n 0, 1) := by decide +kernel
theorem dX8_tryOf_48 : decode cX8_tryOf 48 = .ok (.getfield 62, 3) := by decide +kernel
theorem dX8_tryOf_51 : decode cX8_tryOf 51 = .ok (.iload_n 3, 1) := by decide +kernel
theorem dX8_tryOf_52 : decode cX8_tryOf 52 = .ok (.iaload, 1) := by decide +kernel
theorem dX8_tryOf_53 : decode cX8_tryOf 53 = .ok (.istore_n 2, 1) := by decide +kernel
theorem dX8_tryOf_54 : decode cX8_tryOf 54 = .ok (.goto (-47), 3) := by decide +kernel
theorem dX8_tryOf_57 : decode cX8_tryOf 57 = .ok (.iconst (-1), 1) := by decide +kernel
theorem dX8_tryOf_58 : decode cX8_tryOf 58 = .ok (.ireturn, 1) := by decide +kernel
