theorem dJ13_bitCount_95d88_0 : decode cJ13_bitCount_95d88 0 = .ok (.lload_n 0, 1) := by decide +kernel
theorem dJ13_bitCount_95d88_1 : decode cJ13_bitCount_95d88 1 = .ok (.lload_n 0, 1) := by decide +kernel
theorem dJ13_bitCount_95d88_2 : decode cJ13_bitCount_95d88 2 = .ok (.iconst 1, 1) := by decide +kernel
theorem dJ13_bitCount_95d88_3 : decode cJ13_bitCount_95d88 3 = .ok (.lushr, 1) := by decide +kernel
theorem dJ13_bitCount_95d88_4 : decode cJ13_bitCount_95d88 4 = .ok (.ldc2_w 314, 3) := by decide +kernel
theorem dJ13_bitCount_95d88_7 : decode cJ13_bitCount_95d88 7 = .ok (.land, 1) := by decide +kernel
theorem dJ13_bitCount_95d88_8 : decode cJ13_bitCount_95d88 8 = .ok (.lsub, 1) := by decide +kernel
theorem dJ13_bitCount_95d88_9 : decode cJ13_bitCount_95d88 9 = .ok (.lstore_n 0, 1) := by decide +kernel
theorem dJ13_bitCount_95d88_10 : decode cJ13_bitCount_95d88 10 = .ok (.lload_n 0, 1) := by decide +kernel
theorem dJ13_bitCount_95d88_11 : decode cJ13_bitCount_95d88 11 = .ok (.ldc2_w 316, 3) := by decide +kernel
theorem dJ13_bitCount_95d88_14 : decode cJ13_bitCount_95d88 14 = .ok (.land, 1) := by decide +kernel
theorem dJ13_bitCount_95d88_15 : decode cJ13_bitCount_95d88 15 = .ok (.lload_n 0, 1) := by decide +kernel
theorem dJ13_bitCount_95d88_16 : decode cJ13_bitCount_95d88 16 = .ok (.iconst 2, 1) := by decide +kernel
theorem dJ13_bitCount_95d88_17 : decode cJ13_bitCount_95d88 17 = .ok (.lushr, 1) := by decide +kernel
theorem dJ13_bitCount_95d88_18 : decode cJ13_bitCount_95d88 18 = .ok (.ldc2_w 316, 3) := by decide +kernel
theorem dJ13_bitCount_95d88_21 : decode cJ13_bitCount_95d88 21 = .ok (.land, 1) := by decide +kernel
theorem dJ13_bitCount_95d88_22 : decode cJ13_bitCount_95d88 22 = .ok (.ladd, 1) := by decide +kernel
theorem dJ13_bitCount_95d88_23 : decode cJ13_bitCount_95d88 23 = .ok (.lstore_n 0, 1) := by decide +kernel
theorem dJ13_bitCount_95d88_24 : decode cJ13_bitCount_95d88 24 = .ok (.lload_n 0, 1) := by decide +kernel
theorem dJ13_bitCount_95d88_25 : decode cJ13_bitCount_95d88 25 = .ok (.lload_n 0, 1) := by decide +kernel
theorem dJ13_bitCount_95d88_26 : decode cJ13_bitCount_95d88 26 = .ok (.iconst 4, 1) := by decide +kernel
theorem dJ13_bitCount_95d88_27 : decode cJ13_bitCount_95d88 27 = .ok (.lushr, 1) := by decide +kernel
theorem dJ13_bitCount_95d88_28 : decode cJ13_bitCount_95d88 28 = .ok (.ladd, 1) := by decide +kernel
theorem dJ13_bitCount_95d88_29 : decode cJ13_bitCount_95d88 29 = .ok (.ldc2_w 318, 3) := by decide +kernel
theorem dJ13_bitCount_95d88_32 : decode cJ13_bitCount_95d88 32 = .ok (.land, 1) := by decide +kernel
theorem dJ13_bitCount_95d88_33 : decode cJ13_bitCount_95d88 33 = .ok (.lstore_n 0, 1) := by decide +kernel
theorem dJ13_bitCount_95d88_34 : decode cJ13_bitCount_95d88 34 = .ok (.lload_n 0, 1) := by decide +kernel
theorem dJ13_bitCount_95d88_35 : decode cJ13_bitCount_95d88 35 = .ok (.lload_n 0, 1) := by decide +kernel
theorem dJ13_bitCount_95d88_36 : decode cJ13_bitCount_95d88 36 = .ok (.bipush 8, 2) := by decide +kernel
theorem dJ13_bitCount_95d88_38 : decode cJ13_bitCount_95d88 38 = .ok (.lushr, 1) := by decide +kernel
theorem dJ13_bitCount_95d88_39 : decode cJ13_bitCount_95d88 39 = .ok (.ladd, 1) := by decide +kernel
theorem dJ13_bitCount_95d88_40 : decode cJ13_bitCount_95d88 40 = .ok (.lstore_n 0, 1) := by decide +kernel
theorem dJ13_bitCount_95d88_41 : decode cJ13_bitCount_95d88 41 = .ok (.lload_n 0, 1) := by decide +kernel
theorem dJ13_bitCount_95d88_42 : decode cJ13_bitCount_95d88 42 = .ok (.lload_n 0, 1) := by decide +kernel
theorem dJ13_bitCount_95d88_43 : decode cJ13_bitCount_95d88 43 = .ok (.bipush 16, 2) := by decide +kernel
theorem dJ13_bitCount_95d88_45 : decode cJ13_bitCount_95d88 45 = .ok (.lushr, 1) := by decide +kernel
theorem dJ13_bitCount_95d88_46 : decode cJ13_bitCount_95d88 46 = .ok (.ladd, 1) := by decide +kernel
theorem dJ13_bitCount_95d88_47 : decode cJ13_bitCount_95d88 47 = .ok (.lstore_n 0, 1) := by decide +kernel
theorem dJ13_bitCount_95d88_48 : decode cJ13_bitCount_95d88 48 = .ok (.lload_n 0, 1) := by decide +kernel
theorem dJ13_bitCount_95d88_49 : decode cJ13_bitCount_95d88 49 = .ok (.lload_n 0, 1) := by decide +kernel
theorem dJ13_bitCount_95d88_50 : decode cJ13_bitCount_95d88 50 = .ok (.bipush 32, 2) := by decide +kernel
theorem dJ13_bitCount_95d88_52 : decode cJ13_bitCount_95d88 52 = .ok (.lushr, 1) := by decide +kernel
theorem dJ13_bitCount_95d88_53 : decode cJ13_bitCount_95d88 53 = .ok (.ladd, 1) := by decide +kernel
theorem dJ13_bitCount_95d88_54 : decode cJ13_bitCount_95d88 54 = .ok (.lstore_n 0, 1) := by decide +kernel
theorem dJ13_bitCount_95d88_55 : decode cJ13_bitCount_95d88 55 = .ok (.lload_n 0, 1) := by decide +kernel
theorem dJ13_bitCount_95d88_56 : decode cJ13_bitCount_95d88 56 = .ok (.l2i, 1) := by decide +kernel
theorem dJ13_bitCount_95d88_57 : decode cJ13_bitCount_95d88 57 = .ok (.bipush 127, 2) := by decide +kernel
theorem dJ13_bitCount_95d88_59 : decode cJ13_bitCount_95d88 59 = .ok (.iand, 1) := by decide +kernel
theorem dJ13_bitCount_95d88_60 : decode cJ13_bitCount_95d88 60 = .ok (.ireturn, 1) := by decide +kernel
theorem dX7_back_0 : decode cX7_back 0 = .ok (.aload_n 0, 1) := by decide +kernel
theorem dX7_back_1 : decode cX7_back 1 = .ok (.iload_n 1, 1) := by decide +kernel
theorem dX7_back_2 : decode cX7_back 2 = .ok (.invokevirtual 87, 3) := by decide +kernel
theorem dX7_back_5 : decode cX7_back 5 = .ok (.ifCond .ne 7, 3) := by decide +kernel
theorem dX7_back_8 : decode cX7_back 8 = .ok (.ldc2_w 140, 3) := by decide +kernel
theorem dX7_back_11 : decode cX7_back 11 = .ok (.lreturn, 1) := by decide +kernel
theorem dX7_back_12 : decode cX7_back 12 = .ok (.aload_n 0, 1) := by decide +kernel
theorem dX7_back_13 : decode cX7_back 13 = .ok (.getfield 42, 3) := by decide +kernel
theorem dX7_back_16 : decode cX7_back 16 = .ok (.aload_n 0, 1) := by decide +kernel
theorem dX7_back_17 : decode cX7_back 17 = .ok (.getfield 23, 3) := by decide +kernel
theorem dX7_back_20 : decode cX7_back 20 = .ok (.invokevirtual 113, 3) := by decide +kernel
theorem dX7_back_23 : decode cX7_back 23 = .ok (.aload_n 0, 1) := by decide +kernel
theorem dX7_back_24 : decode cX7_back 24 = .ok (.getfield 42, 3) := by decide +kernel
theorem dX7_back_27 : decode cX7_back 27 = .ok (.iload_n 1, 1) := by decide +kernel
theorem dX7_back_28 : decode cX7_back 28 = .ok (.invokevirtual 142, 3) := by decide +kernel
theorem dX7_back_31 : decode cX7_back 31 = .ok (.lreturn, 1) := by decide +kernel
theorem dX7_backOf_0 : decode cX7_backOf 0 = .ok (.aload_n 0, 1) := by decide +kernel
theorem dX7_backOf_1 : decode cX7_backOf 1 = .ok (.iload_n 1, 1) := by decide +kernel
theorem dX7_backOf_2 : decode cX7_backOf 2 = .ok (.invokevirtual 126, 3) := by decide +kernel
theorem dX7_backOf_5 : decode cX7_backOf 5 = .ok (.ifCond .eq 10, 3) := by decide +kernel
theorem dX7_backOf_8 : decode cX7_backOf 8 = .ok (.iload_n 2, 1) := by decide +kernel
theorem dX7_backOf_9 : decode cX7_backOf 9 = .ok (.invokestatic 133, 3) := by decide +kernel
theorem dX7_backOf_12 : decode cX7_backOf 12 = .ok (.ifCond .ne 7, 3) := by decide +kernel
theorem dX7_backOf_15 : decode cX7_backOf 15 = .ok (.ldc2_w 140, 3) := by decide +kernel
theorem dX7_backOf_18 : decode cX7_backOf 18 = .ok (.lreturn, 1) := by decide +kernel
theorem dX7_backOf_19 : decode cX7_backOf 19 = .ok (.aload_n 0, 1) := by decide +kernel
theorem dX7_backOf_20 : decode cX7_backOf 20 = .ok (.getfield 42, 3) := by decide +kernel
theorem dX7_backOf_23 : decode cX7_backOf 23 = .ok (.aload_n 0, 1) := by decide +kernel
theorem dX7_backOf_24 : decode cX7_backOf 24 = .ok (.getfield 23, 3) := by decide +kernel
theorem dX7_backOf_27 : decode cX7_backOf 27 = .ok (.invokevirtual 113, 3) := by decide +kernel
theorem dX7_backOf_30 : decode cX7_backOf 30 = .ok (.aload_n 0, 1) := by decide +kernel
theorem dX7_backOf_31 : decode cX7_backOf 31 = .ok (.getfield 42, 3) := by decide +kernel
theorem dX7_backOf_34 : decode cX7_backOf 34 = .ok (.iload_n 1, 1) := by decide +kernel
theorem dX7_backOf_35 : decode cX7_backOf 35 = .ok (.iload_n 2, 1) := by decide +kernel
theorem dX7_backOf_36 : decode cX7_backOf 36 = .ok (.invokevirtual 149, 3) := by decide +kernel
theorem dX7_backOf_39 : decode cX7_backOf 39 = .ok (.lreturn, 1) := by decide +kernel
theorem dX7_begun_0 : decode cX7_begun 0 = .ok (.aload_n 0, 1) := by decide +kernel
theorem dX7_begun_1 : decode cX7_begun 1 = .ok (.iload_n 1, 1) := by decide +kernel
theorem dX7_begun_2 : decode cX7_begun 2 = .ok (.invokevirtual 126, 3) := by decide +kernel
theorem dX7_begun_5 : decode cX7_begun 5 = .ok (.ifCond .ne 5, 3) := by decide +kernel
theorem dX7_begun_8 : decode cX7_begun 8 = .ok (.lconst 0, 1) := by decide +kernel
theorem dX7_begun_9 : decode cX7_begun 9 = .ok (.lreturn, 1) := by decide +kernel
theorem dX7_begun_10 : decode cX7_begun 10 = .ok (.aload_n 0, 1) := by decide +kernel
theorem dX7_begun_11 : decode cX7_begun 11 = .ok (.getfield 42, 3) := by decide +kernel
theorem dX7_begun_14 : decode cX7_begun 14 = .ok (.aload_n 0, 1) := by decide +kernel
theorem dX7_begun_15 : decode cX7_begun 15 = .ok (.getfield 23, 3) := by decide +kernel
theorem dX7_begun_18 : decode cX7_begun 18 = .ok (.invokevirtual 113, 3) := by decide +kernel
theorem dX7_begun_21 : decode cX7_begun 21 = .ok (.aload_n 0, 1) := by decide +kernel
theorem dX7_begun_22 : decode cX7_begun 22 = .ok (.getfield 42, 3) := by decide +kernel
theorem dX7_begun_25 : decode cX7_begun 25 = .ok (.getfield 116, 3) := by decide +kernel
theorem dX7_begun_28 : decode cX7_begun 28 = .ok (.getfield 129, 3) := by decide +kernel
theorem dX7_begun_31 : decode cX7_begun 31 = .ok (.iload_n 1, 1) := by decide +kernel
theorem dX7_begun_32 : decode cX7_begun 32 = .ok (.laload, 1) := by decide +kernel
theorem dX7_begun_33 : decode cX7_begun 33 = .ok (.lreturn, 1) := by decide +kernel
theorem dX7_between_0 : decode cX7_between 0 = .ok (.aload_n 0, 1) := by decide +kernel
theorem dX7_between_1 : decode cX7_between 1 = .ok (.iload_n 1, 1) := by decide +kernel
theorem dX7_between_2 : decode cX7_between 2 = .ok (.invokevirtual 87, 3) := by decide +kernel
theorem dX7_between_5 : decode cX7_between 5 = .ok (.ifCond .eq 11, 3) := by decide +kernel
theorem dX7_between_8 : decode cX7_between 8 = .ok (.aload_n 0, 1) := by decide +kernel
theorem dX7_between_9 : decode cX7_between 9 = .ok (.iload_n 2, 1) := by decide +kernel
theorem dX7_between_10 : decode cX7_between 10 = .ok (.invokevirtual 87, 3) := by decide +kernel
theorem dX7_between_13 : decode cX7_between 13 = .ok (.ifCond .ne 7, 3) := by decide +kernel
theorem dX7_between_16 : decode cX7_between 16 = .ok (.ldc2_w 140, 3) := by decide +kernel
theorem dX7_between_19 : decode cX7_between 19 = .ok (.lreturn, 1) := by decide +kernel
theorem dX7_between_20 : decode cX7_between 20 = .ok (.aload_n 0, 1) := by decide +kernel
theorem dX7_between_21 : decode cX7_between 21 = .ok (.getfield 42, 3) := by decide +kernel
theorem dX7_between_24 : decode cX7_between 24 = .ok (.aload_n 0, 1) := by decide +kernel
theorem dX7_between_25 : decode cX7_between 25 = .ok (.getfield 23, 3) := by decide +kernel
theorem dX7_between_28 : decode cX7_between 28 = .ok (.invokevirtual 113, 3) := by decide +kernel
theorem dX7_between_31 : decode cX7_between 31 = .ok (.aload_n 0, 1) := by decide +kernel
theorem dX7_between_32 : decode cX7_between 32 = .ok (.getfield 42, 3) := by decide +kernel
theorem dX7_between_35 : decode cX7_between 35 = .ok (.iload_n 1, 1) := by decide +kernel
theorem dX7_between_36 : decode cX7_between 36 = .ok (.invokevirtual 146, 3) := by decide +kernel
theorem dX7_between_39 : decode cX7_between 39 = .ok (.aload_n 0, 1) := by decide +kernel
theorem dX7_between_40 : decode cX7_between 40 = .ok (.getfield 42, 3) := by decide +kernel
theorem dX7_between_43 : decode cX7_between 43 = .ok (.iload_n 2, 1) := by decide +kernel
theorem dX7_between_44 : decode cX7_between 44 = .ok (.invokevirtual 142, 3) := by decide +kernel
theorem dX7_between_47 : decode cX7_between 47 = .ok (.land, 1) := by decide +kernel
theorem dX7_between_48 : decode cX7_between 48 = .ok (.lreturn, 1) := by decide +kernel
theorem dX7_count_0 : decode cX7_count 0 = .ok (.iload_n 1, 1) := by decide +kernel
theorem dX7_count_1 : decode cX7_count 1 = .ok (.tableswitch 87 0 5 #[39, 47, 55, 66, 74, 82], 39) := by decide +kernel
theorem dX7_count_40 : decode cX7_count 40 = .ok (.aload_n 0, 1) := by decide +kernel
theorem dX7_count_41 : decode cX7_count 41 = .ok (.getfield 23, 3) := by decide +kernel
theorem dX7_count_44 : decode cX7_count 44 = .ok (.getfield 65, 3) := by decide +kernel
theorem dX7_count_47 : decode cX7_count 47 = .ok (.ireturn, 1) := by decide +kernel
theorem dX7_count_48 : decode cX7_count 48 = .ok (.aload_n 0, 1) := by decide +kernel
theorem dX7_count_49 : decode cX7_count 49 = .ok (.getfield 23, 3) := by decide +kernel
theorem dX7_count_52 : decode cX7_count 52 = .ok (.getfield 68, 3) := by decide +kernel
theorem dX7_count_55 : decode cX7_count 55 = .ok (.ireturn, 1) := by decide +kernel
theorem dX7_count_56 : decode cX7_count 56 = .ok (.aload_n 0, 1) := by decide +kernel
theorem dX7_count_57 : decode cX7_count 57 = .ok (.getfield 23, 3) := by decide +kernel
theorem dX7_count_60 : decode cX7_count 60 = .ok (.getfield 71, 3) := by decide +kernel
theorem dX7_count_63 : decode cX7_count 63 = .ok (.invokestatic 75, 3) := by decide +kernel
theorem dX7_count_66 : decode cX7_count 66 = .ok (.ireturn, 1) := by decide +kernel
theorem dX7_count_67 : decode cX7_count 67 = .ok (.aload_n 0, 1) := by decide +kernel
theorem dX7_count_68 : decode cX7_count 68 = .ok (.getfield 23, 3) := by decide +kernel
theorem dX7_count_71 : decode cX7_count 71 = .ok (.getfield 81, 3) := by decide +kernel
theorem dX7_count_74 : decode cX7_count 74 = .ok (.ireturn, 1) := by decide +kernel
theorem dX7_count_75 : decode cX7_count 75 = .ok (.aload_n 0, 1) := by decide +kernel
theorem dX7_count_76 : decode cX7_count 76 = .ok (.getfield 23, 3) := by decide +kernel
theorem dX7_count_79 : decode cX7_count 79 = .ok (.getfield 84, 3) := by decide +kernel
theorem dX7_count_82 : decode cX7_count 82 = .ok (.ireturn, 1) := by decide +kernel
theorem dX7_count_83 : decode cX7_count 83 = .ok (.aload_n 0, 1) := by decide +kernel
theorem dX7_count_84 : decode cX7_count 84 = .ok (.getfield 13, 3) := by decide +kernel
theorem dX7_count_87 : decode cX7_count 87 = .ok (.ireturn, 1) := by decide +kernel
theorem dX7_count_88 : decode cX7_count 88 = .ok (.iconst (-1), 1) := by decide +kernel
theorem dX7_count_89 : decode cX7_count 89 = .ok (.ireturn, 1) := by decide +kernel
theorem dX7_ended_0 : decode cX7_ended 0 = .ok (.aload_n 0, 1) := by decide +kernel
theorem dX7_ended_1 : decode cX7_ended 1 = .ok (.getfield 49, 3) := by decide +kernel
theorem dX7_ended_4 : decode cX7_ended 4 = .ok (.iload_n 1, 1) := by decide +kernel
theorem dX7_ended_5 : decode cX7_ended 5 = .ok (.invokevirtual 162, 3) := by decide +kernel
theorem dX7_ended_8 : decode cX7_ended 8 = .ok (.ireturn, 1) := by decide +kernel
theorem dX7_fault_0 : decode cX7_fault 0 = .ok (.aload_n 0, 1) := by decide +kernel
theorem dX7_fault_1 : decode cX7_fault 1 = .ok (.getfield 17, 3) := by decide +kernel
theorem dX7_fault_4 : decode cX7_fault 4 = .ok (.ireturn, 1) := by decide +kernel
theorem dX7_forth_0 : decode cX7_forth 0 = .ok (.aload_n 0, 1) := by decide +kernel
theorem dX7_forth_1 : decode cX7_forth 1 = .ok (.iload_n 1, 1) := by decide +kernel
theorem dX7_forth_2 : decode cX7_forth 2 = .ok (.invokevirtual 87, 3) := by decide +kernel
theorem dX7_forth_5 : decode cX7_forth 5 = .ok (.ifCond .ne 7, 3) := by decide +kernel
theorem dX7_forth_8 : decode cX7_forth 8 = .ok (.ldc2_w 140, 3) := by decide +kernel
theorem dX7_forth_11 : decode cX7_forth 11 = .ok (.lreturn, 1) := by decide +kernel
theorem dX7_forth_12 : decode cX7_forth 12 = .ok (.aload_n 0, 1) := by decide +kernel
theorem dX7_forth_13 : decode cX7_forth 13 = .ok (.getfield 42, 3) := by decide +kernel
theorem dX7_forth_16 : decode cX7_forth 16 = .ok (.aload_n 0, 1) := by decide +kernel
theorem dX7_forth_17 : decode cX7_forth 17 = .ok (.getfield 23, 3) := by decide +kernel
theorem dX7_forth_20 : decode cX7_forth 20 = .ok (.invokevirtual 113, 3) := by decide +kernel
theorem dX7_forth_23 : decode cX7_forth 23 = .ok (.aload_n 0, 1) := by decide +kernel
theorem dX7_forth_24 : decode cX7_forth 24 = .ok (.getfield 42, 3) := by decide +kernel
theorem dX7_forth_27 : decode cX7_forth 27 = .ok (.iload_n 1, 1) := by decide +kernel
theorem dX7_forth_28 : decode cX7_forth 28 = .ok (.invokevirtual 146, 3) := by decide +kernel
theorem dX7_forth_31 : decode cX7_forth 31 = .ok (.lreturn, 1) := by decide +kernel
theorem dX7_hangs_0 : decode cX7_hangs 0 = .ok (.aload_n 0, 1) := by decide +kernel
theorem dX7_hangs_1 : decode cX7_hangs 1 = .ok (.iload_n 1, 1) := by decide +kernel
theorem dX7_hangs_2 : decode cX7_hangs 2 = .ok (.invokevirtual 87, 3) := by decide +kernel
theorem dX7_hangs_5 : decode cX7_hangs 5 = .ok (.ifCond .eq 11, 3) := by decide +kernel
theorem dX7_hangs_8 : decode cX7_hangs 8 = .ok (.aload_n 0, 1) := by decide +kernel
theorem dX7_hangs_9 : decode cX7_hangs 9 = .ok (.iload_n 2, 1) := by decide +kernel
theorem dX7_hangs_10 : decode cX7_hangs 10 = .ok (.invokevirtual 87, 3) := by decide +kernel
theorem dX7_hangs_13 : decode cX7_hangs 13 = .ok (.ifCond .ne 5, 3) := by decide +kernel
theorem dX7_hangs_16 : decode cX7_hangs 16 = .ok (.iconst 0, 1) := by decide +kernel
theorem dX7_hangs_17 : decode cX7_hangs 17 = .ok (.ireturn, 1) := by decide +kernel
theorem dX7_hangs_18 : decode cX7_hangs 18 = .ok (.aload_n 0, 1) := by decide +kernel
theorem dX7_hangs_19 : decode cX7_hangs 19 = .ok (.getfield 42, 3) := by decide +kernel
theorem dX7_hangs_22 : decode cX7_hangs 22 = .ok (.aload_n 0, 1) := by decide +kernel
theorem dX7_hangs_23 : decode cX7_hangs 23 = .ok (.getfield 23, 3) := by decide +kernel
theorem dX7_hangs_26 : decode cX7_hangs 26 = .ok (.invokevirtual 113, 3) := by decide +kernel
theorem dX7_hangs_29 : decode cX7_hangs 29 = .ok (.aload_n 0, 1) := by decide +kernel
theorem dX7_hangs_30 : decode cX7_hangs 30 = .ok (.getfield 42, 3) := by decide +kernel
theorem dX7_hangs_33 : decode cX7_hangs 33 = .ok (.getfield 116, 3) := by decide +kernel
theorem dX7_hangs_36 : decode cX7_hangs 36 = .ok (.iload_n 1, 1) := by decide +kernel
theorem dX7_hangs_37 : decode cX7_hangs 37 = .ok (.iload_n 2, 1) := by decide +kernel
theorem dX7_hangs_38 : decode cX7_hangs 38 = .ok (.invokevirtual 120, 3) := by decide +kernel
theorem dX7_hangs_41 : decode cX7_hangs 41 = .ok (.ireturn, 1) := by decide +kernel
theorem dX7_isProcedure_0 : decode cX7_isProcedure 0 = .ok (.iload_n 1, 1) := by decide +kernel
theorem dX7_isProcedure_1 : decode cX7_isProcedure 1 = .ok (.ifCond .lt 18, 3) := by decide +kernel
theorem dX7_isProcedure_4 : decode cX7_isProcedure 4 = .ok (.iload_n 1, 1) := by decide +kernel
theorem dX7_isProcedure_5 : decode cX7_isProcedure 5 = .ok (.aload_n 0, 1) := by decide +kernel
theorem dX7_isProcedure_6 : decode cX7_isProcedure 6 = .ok (.getfield 23, 3) := by decide +kernel
theorem dX7_isProcedure_9 : decode cX7_isProcedure 9 = .ok (.getfield 68, 3) := by decide +kernel
theorem dX7_isProcedure_12 : decode cX7_isProcedure 12 = .ok (.if_icmp .ge 7, 3) := by decide +kernel
theorem dX7_isProcedure_15 : decode cX7_isProcedure 15 = .ok (.iconst 1, 1) := by decide +kernel
theorem dX7_isProcedure_16 : decode cX7_isProcedure 16 = .ok (.goto 4, 3) := by decide +kernel
theorem dX7_isProcedure_19 : decode cX7_isProcedure 19 = .ok (.iconst 0, 1) := by decide +kernel
theorem dX7_isProcedure_20 : decode cX7_isProcedure 20 = .ok (.ireturn, 1) := by decide +kernel
theorem dX7_isStatement_0 : decode cX7_isStatement 0 = .ok (.iload_n 1, 1) := by decide +kernel
theorem dX7_isStatement_1 : decode cX7_isStatement 1 = .ok (.ifCond .lt 18, 3) := by decide +kernel
theorem dX7_isStatement_4 : decode cX7_isStatement 4 = .ok (.iload_n 1, 1) := by decide +kernel
theorem dX7_isStatement_5 : decode cX7_isStatement 5 = .ok (.aload_n 0, 1) := by decide +kernel
theorem dX7_isStatement_6 : decode cX7_isStatement 6 = .ok (.getfield 23, 3) := by decide +kernel
theorem dX7_isStatement_9 : decode cX7_isStatement 9 = .ok (.getfield 65, 3) := by decide +kernel
theorem dX7_isStatement_12 : decode cX7_isStatement 12 = .ok (.if_icmp .ge 7, 3) := by decide +kernel
theorem dX7_isStatement_15 : decode cX7_isStatement 15 = .ok (.iconst 1, 1) := by decide +kernel
theorem dX7_isStatement_16 : decode cX7_isStatement 16 = .ok (.goto 4, 3) := by decide +kernel
theorem dX7_isStatement_19 : decode cX7_isStatement 19 = .ok (.iconst 0, 1) := by decide +kernel
theorem dX7_isStatement_20 : decode cX7_isStatement 20 = .ok (.ireturn, 1) := by decide +kernel
theorem dX7_kept_0 : decode cX7_kept 0 = .ok (.aload_n 0, 1) := by decide +kernel
theorem dX7_kept_1 : decode cX7_kept 1 = .ok (.iload_n 1, 1) := by decide +kernel
theorem dX7_kept_2 : decode cX7_kept 2 = .ok (.invokevirtual 87, 3) := by decide +kernel
theorem dX7_kept_5 : decode cX7_kept 5 = .ok (.ifCond .ne 7, 3) := by decide +kernel
theorem dX7_kept_8 : decode cX7_kept 8 = .ok (.ldc2_w 140, 3) := by decide +kernel
theorem dX7_kept_11 : decode cX7_kept 11 = .ok (.lreturn, 1) := by decide +kernel
theorem dX7_kept_12 : decode cX7_kept 12 = .ok (.aload_n 0, 1) := by decide +kernel
theorem dX7_kept_13 : decode cX7_kept 13 = .ok (.getfield 42, 3) := by decide +kernel
theorem dX7_kept_16 : decode cX7_kept 16 = .ok (.aload_n 0, 1) := by decide +kernel
theorem dX7_kept_17 : decode cX7_kept 17 = .ok (.getfield 23, 3) := by decide +kernel
theorem dX7_kept_20 : decode cX7_kept 20 = .ok (.invokevirtual 113, 3) := by decide +kernel
theorem dX7_kept_23 : decode cX7_kept 23 = .ok (.aload_n 0, 1) := by decide +kernel
theorem dX7_kept_24 : decode cX7_kept 24 = .ok (.getfield 42, 3) := by decide +kernel
theorem dX7_kept_27 : decode cX7_kept 27 = .ok (.iload_n 1, 1) := by decide +kernel
theorem dX7_kept_28 : decode cX7_kept 28 = .ok (.invokevirtual 153, 3) := by decide +kernel
theorem dX7_kept_31 : decode cX7_kept 31 = .ok (.lreturn, 1) := by decide +kernel
theorem dX7_of_0 : decode cX7_of 0 = .ok (.aload_n 0, 1) := by decide +kernel
theorem dX7_of_1 : decode cX7_of 1 = .ok (.iload_n 1, 1) := by decide +kernel
theorem dX7_of_2 : decode cX7_of 2 = .ok (.invokevirtual 87, 3) := by decide +kernel
theorem dX7_of_5 : decode cX7_of 5 = .ok (.ifCond .ne 5, 3) := by decide +kernel
theorem dX7_of_8 : decode cX7_of 8 = .ok (.iconst (-1), 1) := by decide +kernel
theorem dX7_of_9 : decode cX7_of 9 = .ok (.ireturn, 1) := by decide +kernel
theorem dX7_of_10 : decode cX7_of 10 = .ok (.iload_n 2, 1) := by decide +kernel
theorem dX7_of_11 : decode cX7_of 11 = .ok (.tableswitch 118 0 6 #[41, 51, 61, 71, 81, 91, 101], 41) := by decide +kernel
theorem dX7_of_52 : decode cX7_of 52 = .ok (.aload_n 0, 1) := by decide +kernel
theorem dX7_of_53 : decode cX7_of 53 = .ok (.getfield 23, 3) := by decide +kernel
theorem dX7_of_56 : decode cX7_of 56 = .ok (.getfield 91, 3) := by decide +kernel
theorem dX7_of_59 : decode cX7_of 59 = .ok (.iload_n 1, 1) := by decide +kernel
theorem dX7_of_60 : decode cX7_of 60 = .ok (.iaload, 1) := by decide +kernel
theorem dX7_of_61 : decode cX7_of 61 = .ok (.ireturn, 1) := by decide +kernel
theorem dX7_of_62 : decode cX7_of 62 = .ok (.aload_n 0, 1) := by decide +kernel
theorem dX7_of_63 : decode cX7_of 63 = .ok (.getfield 23, 3) := by decide +kernel
theorem dX7_of_66 : decode cX7_of 66 = .ok (.getfield 95, 3) := by decide +kernel
theorem dX7_of_69 : decode cX7_of 69 = .ok (.iload_n 1, 1) := by decide +kernel
theorem dX7_of_70 : decode cX7_of 70 = .ok (.iaload, 1) := by decide +kernel
theorem dX7_of_71 : decode cX7_of 71 = .ok (.ireturn, 1) := by decide +kernel
theorem dX7_of_72 : decode cX7_of 72 = .ok (.aload_n 0, 1) := by decide +kernel
theorem dX7_of_73 : decode cX7_of 73 = .ok (.getfield 23, 3) := by decide +kernel
theorem dX7_of_76 : decode cX7_of 76 = .ok (.getfield 98, 3) := by decide +kernel
theorem dX7_of_79 : decode cX7_of 79 = .ok (.iload_n 1, 1) := by decide +kernel
theorem dX7_of_80 : decode cX7_of 80 = .ok (.iaload, 1) := by decide +kernel
theorem dX7_of_81 : decode cX7_of 81 = .ok (.ireturn, 1) := by decide +kernel
theorem dX7_of_82 : decode cX7_of 82 = .ok (.aload_n 0, 1) := by decide +kernel
theorem dX7_of_83 : decode cX7_of 83 = .ok (.getfield 23, 3) := by decide +kernel
theorem dX7_of_86 : decode cX7_of 86 = .ok (.getfield 101, 3) := by decide +kernel
theorem dX7_of_89 : decode cX7_of 89 = .ok (.iload_n 1, 1) := by decide +kernel
theorem dX7_of_90 : decode cX7_of 90 = .ok (.iaload, 1) := by decide +kernel
theorem dX7_of_91 : decode cX7_of 91 = .ok (.ireturn, 1) := by decide +kernel
theorem dX7_of_92 : decode cX7_of 92 = .ok (.aload_n 0, 1) := by decide +kernel
theorem dX7_of_93 : decode cX7_of 93 = .ok (.getfield 23, 3) := by decide +kernel
theorem dX7_of_96 : decode cX7_of 96 = .ok (.getfield 104, 3) := by decide +kernel
theorem dX7_of_99 : decode cX7_of 99 = .ok (.iload_n 1, 1) := by decide +kernel
theorem dX7_of_100 : decode cX7_of 100 = .ok (.iaload, 1) := by decide +kernel
theorem dX7_of_101 : decode cX7_of 101 = .ok (.ireturn, 1) := by decide +kernel
theorem dX7_of_102 : decode cX7_of 102 = .ok (.aload_n 0, 1) := by decide +kernel
theorem dX7_of_103 : decode cX7_of 103 = .ok (.getfield 23, 3) := by decide +kernel
theorem dX7_of_106 : decode cX7_of 106 = .ok (.getfield 107, 3) := by decide +kernel
theorem dX7_of_109 : decode cX7_of 109 = .ok (.iload_n 1, 1) := by decide +kernel
theorem dX7_of_110 : decode cX7_of 110 = .ok (.iaload, 1) := by decide +kernel
theorem dX7_of_111 : decode cX7_of 111 = .ok (.ireturn, 1) := by decide +kernel
theorem dX7_of_112 : decode cX7_of 112 = .ok (.aload_n 0, 1) := by decide +kernel
theorem dX7_of_113 : decode cX7_of 113 = .ok (.getfield 23, 3) := by decide +kernel
theorem dX7_of_116 : decode cX7_of 116 = .ok (.iload_n 1, 1) := by decide +kernel
theorem dX7_of_117 : decode cX7_of 117 = .ok (.invokevirtual 110, 3) := by decide +kernel
theorem dX7_of_120 : decode cX7_of 120 = .ok (.ifCond .eq 7, 3) := by decide +kernel
theorem dX7_of_123 : decode cX7_of 123 = .ok (.iconst 1, 1) := by decide +kernel
theorem dX7_of_124 : decode cX7_of 124 = .ok (.goto 4, 3) := by decide +kernel
theorem dX7_of_127 : decode cX7_of 127 = .ok (.iconst 0, 1) := by decide +kernel
theorem dX7_of_128 : decode cX7_of 128 = .ok (.ireturn, 1) := by decide +kernel
theorem dX7_of_129 : decode cX7_of 129 = .ok (.iconst (-1), 1) := by decide +kernel
theorem dX7_of_130 : decode cX7_of 130 = .ok (.ireturn, 1) := by decide +kernel
theorem dX7_run_0 : decode cX7_run 0 = .ok (.aload_n 0, 1) := by decide +kernel
theorem dX7_run_1 : decode cX7_run 1 = .ok (.getfield 23, 3) := by decide +kernel
theorem dX7_run_4 : decode cX7_run 4 = .ok (.getfield 68, 3) := by decide +kernel
theorem dX7_run_7 : decode cX7_run 7 = .ok (.ifCond .ne 5, 3) := by decide +kernel
theorem dX7_run_10 : decode cX7_run 10 = .ok (.iconst (-1), 1) := by decide +kernel
theorem dX7_run_11 : decode cX7_run 11 = .ok (.ireturn, 1) := by decide +kernel
theorem dX7_run_12 : decode cX7_run 12 = .ok (.aload_n 0, 1) := by decide +kernel
theorem dX7_run_13 : decode cX7_run 13 = .ok (.getfield 49, 3) := by decide +kernel
theorem dX7_run_16 : decode cX7_run 16 = .ok (.aload_n 0, 1) := by decide +kernel
theorem dX7_run_17 : decode cX7_run 17 = .ok (.getfield 23, 3) := by decide +kernel
theorem dX7_run_20 : decode cX7_run 20 = .ok (.ldc2_w 156, 3) := by decide +kernel
theorem dX7_run_23 : decode cX7_run 23 = .ok (.iload_n 1, 1) := by decide +kernel
theorem dX7_run_24 : decode cX7_run 24 = .ok (.iload_n 2, 1) := by decide +kernel
theorem dX7_run_25 : decode cX7_run 25 = .ok (.invokevirtual 158, 3) := by decide +kernel
theorem dX7_run_28 : decode cX7_run 28 = .ok (.ireturn, 1) := by decide +kernel
theorem dX7_runKept_0 : decode cX7_runKept 0 = .ok (.aload_n 0, 1) := by decide +kernel
theorem dX7_runKept_1 : decode cX7_runKept 1 = .ok (.iload_n 1, 1) := by decide +kernel
theorem dX7_runKept_2 : decode cX7_runKept 2 = .ok (.invokevirtual 87, 3) := by decide +kernel
theorem dX7_runKept_5 : decode cX7_runKept 5 = .ok (.ifCond .ne 5, 3) := by decide +kernel
theorem dX7_runKept_8 : decode cX7_runKept 8 = .ok (.iconst (-1), 1) := by decide +kernel
theorem dX7_runKept_9 : decode cX7_runKept 9 = .ok (.ireturn, 1) := by decide +kernel
theorem dX7_runKept_10 : decode cX7_runKept 10 = .ok (.aload_n 0, 1) := by decide +kernel
theorem dX7_runKept_11 : decode cX7_runKept 11 = .ok (.getfield 42, 3) := by decide +kernel
theorem dX7_runKept_14 : decode cX7_runKept 14 = .ok (.aload_n 0, 1) := by decide +kernel
theorem dX7_runKept_15 : decode cX7_runKept 15 = .ok (.getfield 23, 3) := by decide +kernel
theorem dX7_runKept_18 : decode cX7_runKept 18 = .ok (.invokevirtual 113, 3) := by decide +kernel
theorem dX7_runKept_21 : decode cX7_runKept 21 = .ok (.aload_n 0, 1) := by decide +kernel
theorem dX7_runKept_22 : decode cX7_runKept 22 = .ok (.getfield 49, 3) := by decide +kernel
theorem dX7_runKept_25 : decode cX7_runKept 25 = .ok (.aload_n 0, 1) := by decide +kernel
theorem dX7_runKept_26 : decode cX7_runKept 26 = .ok (.getfield 23, 3) := by decide +kernel
theorem dX7_runKept_29 : decode cX7_runKept 29 = .ok (.aload_n 0, 1) := by decide +kernel
theorem dX7_runKept_30 : decode cX7_runKept 30 = .ok (.getfield 42, 3) := by decide +kernel
theorem dX7_runKept_33 : decode cX7_runKept 33 = .ok (.iload_n 1, 1) := by decide +kernel
theorem dX7_runKept_34 : decode cX7_runKept 34 = .ok (.invokevirtual 153, 3) := by decide +kernel
theorem dX7_runKept_37 : decode cX7_runKept 37 = .ok (.iload_n 2, 1) := by decide +kernel
theorem dX7_runKept_38 : decode cX7_runKept 38 = .ok (.iload_n 3, 1) := by decide +kernel
theorem dX7_runKept_39 : decode cX7_runKept 39 = .ok (.invokevirtual 158, 3) := by decide +kernel
theorem dX7_runKept_42 : decode cX7_runKept 42 = .ok (.ireturn, 1) := by decide +kernel
theorem dX7_saw_0 : decode cX7_saw 0 = .ok (.aload_n 0, 1) := by decide +kernel
theorem dX7_saw_1 : decode cX7_saw 1 = .ok (.iload_n 1, 1) := by decide +kernel
theorem dX7_saw_2 : decode cX7_saw 2 = .ok (.invokevirtual 87, 3) := by decide +kernel
theorem dX7_saw_5 : decode cX7_saw 5 = .ok (.ifCond .eq 8, 3) := by decide +kernel
theorem dX7_saw_8 : decode cX7_saw 8 = .ok (.iload_n 2, 1) := by decide +kernel
theorem dX7_saw_9 : decode cX7_saw 9 = .ok (.iconst (-1), 1) := by decide +kernel
theorem dX7_saw_10 : decode cX7_saw 10 = .ok (.if_icmp .ge 5, 3) := by decide +kernel
theorem dX7_saw_13 : decode cX7_saw 13 = .ok (.iconst 0, 1) := by decide +kernel
theorem dX7_saw_14 : decode cX7_saw 14 = .ok (.ireturn, 1) := by decide +kernel
theorem dX7_saw_15 : decode cX7_saw 15 = .ok (.iload_n 2, 1) := by decide +kernel
theorem dX7_saw_16 : decode cX7_saw 16 = .ok (.iconst (-1), 1) := by decide +kernel
theorem dX7_saw_17 : decode cX7_saw 17 = .ok (.if_icmp .ne 14, 3) := by decide +kernel
theorem dX7_saw_20 : decode cX7_saw 20 = .ok (.aload_n 0, 1) := by decide +kernel
theorem dX7_saw_21 : decode cX7_saw 21 = .ok (.getfield 49, 3) := by decide +kernel
theorem dX7_saw_24 : decode cX7_saw 24 = .ok (.iload_n 1, 1) := by decide +kernel
theorem dX7_saw_25 : decode cX7_saw 25 = .ok (.invokevirtual 166, 3) := by decide +kernel
theorem dX7_saw_28 : decode cX7_saw 28 = .ok (.goto 12, 3) := by decide +kernel
theorem dX7_saw_31 : decode cX7_saw 31 = .ok (.aload_n 0, 1) := by decide +kernel
theorem dX7_saw_32 : decode cX7_saw 32 = .ok (.getfield 49, 3) := by decide +kernel
theorem dX7_saw_35 : decode cX7_saw 35 = .ok (.iload_n 1, 1) := by decide +kernel
theorem dX7_saw_36 : decode cX7_saw 36 = .ok (.iload_n 2, 1) := by decide +kernel
theorem dX7_saw_37 : decode cX7_saw 37 = .ok (.invokevirtual 169, 3) := by decide +kernel
theorem dX7_saw_40 : decode cX7_saw 40 = .ok (.ireturn, 1) := by decide +kernel
set_option maxHeartbeats 4000000 in
set_option maxRecDepth 100000 in
theorem s_J13_bitCount_95d88 (l : Launch) (d : Nat) {P : PP} {h : HP} (hv : Iv P h) (a1 : Int64) : Mt l yJ13_bitCount_95d88 cJ13_bitCount_95d88 2 (some .int) (d + 1) [.long a1] h 0 0 (fun r h' => ∃ v : Int32, r = some (.int v) ∧ -2147483648 ≤ v.toInt ∧ v.toInt ≤ 2147483647 ∧ h = h') := by
  refine Mt_iv hv (by decide) (Nat.le_of_ble_eq_true rfl) ?_
  show Go l RJ13 cJ13_bitCount_95d88 2 (g_rm (d + 1) 0 0) "bitCount" (some .int) 117 0 0 (fun _ _ => True) (fun r h' => ∃ v : Int32, r = some (.int v) ∧ -2147483648 ≤ v.toInt ∧ v.toInt ≤ 2147483647 ∧ h = h') 0 0 [(0, .long a1)] [] h
  refine go_lload_n (pc := 0) rfl dJ13_bitCount_95d88_0 ?_
  refine go_lload_n (pc := 1) rfl dJ13_bitCount_95d88_1 ?_
  refine go_iconst (pc := 2) (v := 1) (by decide) dJ13_bitCount_95d88_2 ?_
  refine gu_lushr (pc := 3) dJ13_bitCount_95d88_3 (fun v1 => ?_)
  refine go_ldc2 (pc := 4) kL_J13_314 dJ13_bitCount_95d88_4 ?_
  refine gu_land (pc := 7) dJ13_bitCount_95d88_7 (fun v2 => ?_)
  refine gu_lsub (pc := 8) dJ13_bitCount_95d88_8 (fun v3 => ?_)
  refine go_lstore_n (pc := 9) (Nat.le_of_ble_eq_true rfl) dJ13_bitCount_95d88_9 (go_lv (lv2 := [(0, .long v3)]) rfl ?_)
  refine go_lload_n (pc := 10) rfl dJ13_bitCount_95d88_10 ?_
  refine go_ldc2 (pc := 11) kL_J13_316 dJ13_bitCount_95d88_11 ?_
  refine gu_land (pc := 14) dJ13_bitCount_95d88_14 (fun v4 => ?_)
  refine go_lload_n (pc := 15) rfl dJ13_bitCount_95d88_15 ?_
  refine go_iconst (pc := 16) (v := 2) (by decide) dJ13_bitCount_95d88_16 ?_
  refine gu_lushr (pc := 17) dJ13_bitCount_95d88_17 (fun v5 => ?_)
  refine go_ldc2 (pc := 18) kL_J13_316 dJ13_bitCount_95d88_18 ?_
  refine gu_land (pc := 21) dJ13_bitCount_95d88_21 (fun v6 => ?_)
  refine gu_ladd (pc := 22) dJ13_bitCount_95d88_22 (fun v7 => ?_)
  refine go_lstore_n (pc := 23) (Nat.le_of_ble_eq_true rfl) dJ13_bitCount_95d88_23 (go_lv (lv2 := [(0, .long v7)]) rfl ?_)
  refine go_lload_n (pc := 24) rfl dJ13_bitCount_95d88_24 ?_
  refine go_lload_n (pc := 25) rfl dJ13_bitCount_95d88_25 ?_
  refine go_iconst (pc := 26) (v := 4) (by decide) dJ13_bitCount_95d88_26 ?_
  refine gu_lushr (pc := 27) dJ13_bitCount_95d88_27 (fun v8 => ?_)
  refine gu_ladd (pc := 28) dJ13_bitCount_95d88_28 (fun v9 => ?_)
  refine go_ldc2 (pc := 29) kL_J13_318 dJ13_bitCount_95d88_29 ?_
  refine gu_land (pc := 32) dJ13_bitCount_95d88_32 (fun v10 => ?_)
  refine go_lstore_n (pc := 33) (Nat.le_of_ble_eq_true rfl) dJ13_bitCount_95d88_33 (go_lv (lv2 := [(0, .long v10)]) rfl ?_)
  refine go_lload_n (pc := 34) rfl dJ13_bitCount_95d88_34 ?_
  refine go_lload_n (pc := 35) rfl dJ13_bitCount_95d88_35 ?_
  refine go_bipush (pc := 36) (v := 8) (by decide) dJ13_bitCount_95d88_36 ?_
  refine gu_lushr (pc := 38) dJ13_bitCount_95d88_38 (fun v11 => ?_)
  refine gu_ladd (pc := 39) dJ13_bitCount_95d88_39 (fun v12 => ?_)
  refine go_lstore_n (pc := 40) (Nat.le_of_ble_eq_true rfl) dJ13_bitCount_95d88_40 (go_lv (lv2 := [(0, .long v12)]) rfl ?_)
  refine go_lload_n (pc := 41) rfl dJ13_bitCount_95d88_41 ?_
  refine go_lload_n (pc := 42) rfl dJ13_bitCount_95d88_42 ?_
  refine go_bipush (pc := 43) (v := 16) (by decide) dJ13_bitCount_95d88_43 ?_
  refine gu_lushr (pc := 45) dJ13_bitCount_95d88_45 (fun v13 => ?_)
  refine gu_ladd (pc := 46) dJ13_bitCount_95d88_46 (fun v14 => ?_)
  refine go_lstore_n (pc := 47) (Nat.le_of_ble_eq_true rfl) dJ13_bitCount_95d88_47 (go_lv (lv2 := [(0, .long v14)]) rfl ?_)
  refine go_lload_n (pc := 48) rfl dJ13_bitCount_95d88_48 ?_
  refine go_lload_n (pc := 49) rfl dJ13_bitCount_95d88_49 ?_
  refine go_bipush (pc := 50) (v := 32) (by decide) dJ13_bitCount_95d88_50 ?_
  refine gu_lushr (pc := 52) dJ13_bitCount_95d88_52 (fun v15 => ?_)
  refine gu_ladd (pc := 53) dJ13_bitCount_95d88_53 (fun v16 => ?_)
  refine go_lstore_n (pc := 54) (Nat.le_of_ble_eq_true rfl) dJ13_bitCount_95d88_54 (go_lv (lv2 := [(0, .long v16)]) rfl ?_)
  refine go_lload_n (pc := 55) rfl dJ13_bitCount_95d88_55 ?_
  refine gu_l2i (pc := 56) dJ13_bitCount_95d88_56 (fun v17 => ?_)
  refine go_bipush (pc := 57) (v := 127) (by decide) dJ13_bitCount_95d88_57 ?_
  refine gf_iand (pc := 59) (ti_c (v := 127) (a := 127) (by decide)) (by omega) dJ13_bitCount_95d88_59 (fun v18 v18l v18u => ?_)
  exact gi_iret (pc := 60) (ti_rfl v18) ⟨_, rfl, (ti_lo _), (ti_hi _), rfl⟩ hv dJ13_bitCount_95d88_60
set_option maxHeartbeats 4000000 in
set_option maxRecDepth 100000 in
theorem s_X7_isStatement (l : Launch) (d : Nat) {P : PP} {h : HP} (hv : Iv P h) (a2 : Int32) : Mt l yX7_isStatement cX7_isStatement 2 (some .boolean) (d + 1) [.ref 0, .int a2] h 0 0 (fun r h' => ∃ v : Int32, r = some (.int v) ∧ 0 ≤ v.toInt ∧ v.toInt ≤ 1 ∧ h = h' ∧ (v.toInt = 1 → 0 ≤ a2.toInt ∧ a2.toInt ≤ 39)) := by
  refine Mt_iv hv (by decide) (Nat.le_of_ble_eq_true rfl) ?_
  show Go l RX7 cX7_isStatement 2 (g_rm (d + 1) 0 0) "isStatement" (some .boolean) 117 0 0 (fun _ _ => True) (fun r h' => ∃ v : Int32, r = some (.int v) ∧ 0 ≤ v.toInt ∧ v.toInt ≤ 1 ∧ h = h' ∧ (v.toInt = 1 → 0 ≤ a2.toInt ∧ a2.toInt ≤ 39)) 0 0 [(0, .ref 0), (1, .int a2)] [] h
  refine go_iload_n (pc := 0) rfl dX7_isStatement_0 ?_
  refine gf_if_lt (pc := 1) (tgt := 19) (ti_rfl a2) (by decide) dX7_isStatement_1 (fun q1 => ?_) (fun q1 => ?_)
  ·
    refine go_iconst (pc := 19) (v := 0) (by decide) dX7_isStatement_19 ?_
    exact gi_zret (pc := 20) (ti_c (v := 0) (a := 0) (by decide)) (by omega) (by omega) ⟨_, rfl, (by rw [show (0 : Int32).toInt = 0 from (ti_c (v := 0) (a := 0) (by decide))]; omega), (by rw [show (0 : Int32).toInt = 0 from (ti_c (v := 0) (a := 0) (by decide))]; omega), rfl, (by rw [show (0 : Int32).toInt = 0 from (ti_c (v := 0) (a := 0) (by decide))]; omega)⟩ hv dX7_isStatement_20
  ·
    refine go_iload_n (pc := 4) rfl dX7_isStatement_4 ?_
    refine go_aload_n (pc := 5) rfl dX7_isStatement_5 ?_
    refine gi_getC (pc := 6) hv fL_X7_23 rfl (Nat.le_of_ble_eq_true rfl) rfl (by decide) dX7_isStatement_6 (fun c2 hc2 fc2 => ?_)
    refine gi_get (pc := 9) (lo := 0) (hi := 40) hv fL_X7_65 (by rcases hc2 with rfl | rfl <;> rfl) (Nat.le_of_ble_eq_true rfl) rfl (by rcases hc2 with rfl | rfl <;> rfl) dX7_isStatement_9 (fun v3 v3l v3u v3w => ?_)
    refine gf_icmp_ge (pc := 12) (tgt := 19) (ti_rfl a2) (ti_rfl v3) (by decide) dX7_isStatement_12 (fun q4 => ?_) (fun q4 => ?_)
    ·
      refine go_iconst (pc := 19) (v := 0) (by decide) dX7_isStatement_19 ?_
      exact gi_zret (pc := 20) (ti_c (v := 0) (a := 0) (by decide)) (by omega) (by omega) ⟨_, rfl, (by rw [show (0 : Int32).toInt = 0 from (ti_c (v := 0) (a := 0) (by decide))]; omega), (by rw [show (0 : Int32).toInt = 0 from (ti_c (v := 0) (a := 0) (by decide))]; omega), rfl, (by rw [show (0 : Int32).toInt = 0 from (ti_c (v := 0) (a := 0) (by decide))]; omega)⟩ hv dX7_isStatement_20
    ·
      refine go_iconst (pc := 15) (v := 1) (by decide) dX7_isStatement_15 ?_
      refine go_goto (pc := 16) (tgt := 20) (by decide) dX7_isStatement_16 ?_
      exact gi_zret (pc := 20) (ti_c (v := 1) (a := 1) (by decide)) (by omega) (by omega) ⟨_, rfl, (by rw [show (1 : Int32).toInt = 1 from (ti_c (v := 1) (a := 1) (by decide))]; omega), (by rw [show (1 : Int32).toInt = 1 from (ti_c (v := 1) (a := 1) (by decide))]; omega), rfl, (by rw [show (1 : Int32).toInt = 1 from (ti_c (v := 1) (a := 1) (by decide))]; omega)⟩ hv dX7_isStatement_20
set_option maxHeartbeats 4000000 in
set_option maxRecDepth 100000 in
theorem s_X7_count (l : Launch) (d : Nat) {P : PP} {h : HP} (hv : Iv P h) (a2 : Int32) : Mt l yX7_count cX7_count 2 (some .int) (d + 2) [.ref 0, .int a2] h 0 0 (fun r h' => ∃ v : Int32, r = some (.int v) ∧ -2147483648 ≤ v.toInt ∧ v.toInt ≤ 2147483647 ∧ h = h') := by
  refine Mt_iv hv (by decide) (Nat.le_of_ble_eq_true rfl) ?_
  show Go l RX7 cX7_count 2 (g_rm (d + 2) 0 0) "count" (some .int) 117 0 0 (fun _ _ => True) (fun r h' => ∃ v : Int32, r = some (.int v) ∧ -2147483648 ≤ v.toInt ∧ v.toInt ≤ 2147483647 ∧ h = h') 0 0 [(0, .ref 0), (1, .int a2)] [] h
  refine go_iload_n (pc := 0) rfl dX7_count_0 ?_
  by_cases q1 : a2.toInt = 0
  ·
    refine go_tableIn (pc := 1) (tgt := 40) (off := 39) (by rw [show (a2 : Int32).toInt = a2.toInt from (ti_rfl a2)]; omega) (by rw [show (a2 : Int32).toInt = a2.toInt from (ti_rfl a2)]; omega) (by rw [show (a2 : Int32).toInt = a2.toInt from (ti_rfl a2), q1]; rfl) (by decide) dX7_count_1 ?_
    refine go_aload_n (pc := 40) rfl dX7_count_40 ?_
    refine gi_getC (pc := 41) hv fL_X7_23 rfl (Nat.le_of_ble_eq_true rfl) rfl (by decide) dX7_count_41 (fun c2 hc2 fc2 => ?_)
    refine gi_get (pc := 44) (lo := 0) (hi := 40) hv fL_X7_65 (by rcases hc2 with rfl | rfl <;> rfl) (Nat.le_of_ble_eq_true rfl) rfl (by rcases hc2 with rfl | rfl <;> rfl) dX7_count_44 (fun v3 v3l v3u v3w => ?_)
    exact gi_iret (pc := 47) (ti_rfl v3) ⟨_, rfl, (ti_lo _), (ti_hi _), rfl⟩ hv dX7_count_47
  by_cases q4 : a2.toInt = 1
  ·
    refine go_tableIn (pc := 1) (tgt := 48) (off := 47) (by rw [show (a2 : Int32).toInt = a2.toInt from (ti_rfl a2)]; omega) (by rw [show (a2 : Int32).toInt = a2.toInt from (ti_rfl a2)]; omega) (by rw [show (a2 : Int32).toInt = a2.toInt from (ti_rfl a2), q4]; rfl) (by decide) dX7_count_1 ?_
    refine go_aload_n (pc := 48) rfl dX7_count_48 ?_
    refine gi_getC (pc := 49) hv fL_X7_23 rfl (Nat.le_of_ble_eq_true rfl) rfl (by decide) dX7_count_49 (fun c5 hc5 fc5 => ?_)
    refine gi_get (pc := 52) (lo := 0) (hi := 5) hv fL_X7_68 (by rcases hc5 with rfl | rfl <;> rfl) (Nat.le_of_ble_eq_true rfl) rfl (by rcases hc5 with rfl | rfl <;> rfl) dX7_count_52 (fun v6 v6l v6u v6w => ?_)
    exact gi_iret (pc := 55) (ti_rfl v6) ⟨_, rfl, (ti_lo _), (ti_hi _), rfl⟩ hv dX7_count_55
  by_cases q7 : a2.toInt = 2
  ·
    refine go_tableIn (pc := 1) (tgt := 56) (off := 55) (by rw [show (a2 : Int32).toInt = a2.toInt from (ti_rfl a2)]; omega) (by rw [show (a2 : Int32).toInt = a2.toInt from (ti_rfl a2)]; omega) (by rw [show (a2 : Int32).toInt = a2.toInt from (ti_rfl a2), q7]; rfl) (by decide) dX7_count_1 ?_
    refine go_aload_n (pc := 56) rfl dX7_count_56 ?_
    refine gi_getC (pc := 57) hv fL_X7_23 rfl (Nat.le_of_ble_eq_true rfl) rfl (by decide) dX7_count_57 (fun c8 hc8 fc8 => ?_)
    refine gi_getL (pc := 60) hv fL_X7_71 (by rcases hc8 with rfl | rfl <;> rfl) (Nat.le_of_ble_eq_true rfl) rfl dX7_count_60 (fun v9 => ?_)
    refine go_invS (pc := 63) (sl := 0) (s_J13_bitCount_95d88 l (d + 0) hv v9) mL_X7_75 iM_J13_bitCount_95d88 rfl rfl (Nat.le_of_ble_eq_true rfl) (show d + 0 + 1 + 1 ≤ d + 2 by omega) (show 8 + (2 + 11) + 40 * (d + 0 + 1) ≤ 40 * (d + 2) by omega) (g_c0 hv.ln) (Nat.le_of_ble_eq_true rfl) dX7_count_63 ?_
    intro r h10 hq _
    obtain ⟨v11, rfl, v11l, v11u, rfl⟩ := hq
    exact gi_iret (pc := 66) (ti_rfl v11) ⟨_, rfl, (ti_lo _), (ti_hi _), rfl⟩ hv dX7_count_66
  by_cases q12 : a2.toInt = 3
  ·
    refine go_tableIn (pc := 1) (tgt := 67) (off := 66) (by rw [show (a2 : Int32).toInt = a2.toInt from (ti_rfl a2)]; omega) (by rw [show (a2 : Int32).toInt = a2.toInt from (ti_rfl a2)]; omega) (by rw [show (a2 : Int32).toInt = a2.toInt from (ti_rfl a2), q12]; rfl) (by decide) dX7_count_1 ?_
    refine go_aload_n (pc := 67) rfl dX7_count_67 ?_
    refine gi_getC (pc := 68) hv fL_X7_23 rfl (Nat.le_of_ble_eq_true rfl) rfl (by decide) dX7_count_68 (fun c13 hc13 fc13 => ?_)
    refine gi_get (pc := 71) (lo := -2147483648) (hi := 2147483647) hv fL_X7_81 (by rcases hc13 with rfl | rfl <;> rfl) (Nat.le_of_ble_eq_true rfl) rfl (by rcases hc13 with rfl | rfl <;> rfl) dX7_count_71 (fun v14 v14l v14u v14w => ?_)
    exact gi_iret (pc := 74) (ti_rfl v14) ⟨_, rfl, (ti_lo _), (ti_hi _), rfl⟩ hv dX7_count_74
  by_cases q15 : a2.toInt = 4
  ·
    refine go_tableIn (pc := 1) (tgt := 75) (off := 74) (by rw [show (a2 : Int32).toInt = a2.toInt from (ti_rfl a2)]; omega) (by rw [show (a2 : Int32).toInt = a2.toInt from (ti_rfl a2)]; omega) (by rw [show (a2 : Int32).toInt = a2.toInt from (ti_rfl a2), q15]; rfl) (by decide) dX7_count_1 ?_
    refine go_aload_n (pc := 75) rfl dX7_count_75 ?_
    refine gi_getC (pc := 76) hv fL_X7_23 rfl (Nat.le_of_ble_eq_true rfl) rfl (by decide) dX7_count_76 (fun c16 hc16 fc16 => ?_)
    refine gi_get (pc := 79) (lo := -2147483648) (hi := 2147483647) hv fL_X7_84 (by rcases hc16 with rfl | rfl <;> rfl) (Nat.le_of_ble_eq_true rfl) rfl (by rcases hc16 with rfl | rfl <;> rfl) dX7_count_79 (fun v17 v17l v17u v17w => ?_)
    exact gi_iret (pc := 82) (ti_rfl v17) ⟨_, rfl, (ti_lo _), (ti_hi _), rfl⟩ hv dX7_count_82
  by_cases q18 : a2.toInt = 5
  ·
    refine go_tableIn (pc := 1) (tgt := 83) (off := 82) (by rw [show (a2 : Int32).toInt = a2.toInt from (ti_rfl a2)]; omega) (by rw [show (a2 : Int32).toInt = a2.toInt from (ti_rfl a2)]; omega) (by rw [show (a2 : Int32).toInt = a2.toInt from (ti_rfl a2), q18]; rfl) (by decide) dX7_count_1 ?_
    refine go_aload_n (pc := 83) rfl dX7_count_83 ?_
    refine gi_get (pc := 84) (lo := 0) (hi := 500) hv fL_X7_13 rfl (Nat.le_of_ble_eq_true rfl) rfl rfl dX7_count_84 (fun v19 v19l v19u v19w => ?_)
    have v19p : v19.toInt = P.1.toInt := by rw [v19w]; exact congrArg Int32.toInt hv.t0
    exact gi_iret (pc := 87) (ti_rfl v19) ⟨_, rfl, (ti_lo _), (ti_hi _), rfl⟩ hv dX7_count_87
  refine go_tableOut (pc := 1) (tgt := 88) (by rw [show (a2 : Int32).toInt = a2.toInt from (ti_rfl a2)]; omega) (by decide) dX7_count_1 ?_
  refine go_iconst (pc := 88) (v := (-1)) (by decide) dX7_count_88 ?_
  exact gi_iret (pc := 89) (ti_c (v := (-1)) (a := (-1)) (by decide)) ⟨_, rfl, (ti_lo _), (ti_hi _), rfl⟩ hv dX7_count_89
set_option maxHeartbeats 4000000 in
set_option maxRecDepth 100000 in
theorem s_X7_ended (l : Launch) (d : Nat) {P : PP} {h : HP} (hv : Iv P h) (a2 : Int32) : Mt l yX7_ended cX7_ended 2 (some .int) (d + 2) [.ref 0, .int a2] h 0 0 (fun r h' => ∃ v : Int32, r = some (.int v) ∧ -2147483648 ≤ v.toInt ∧ v.toInt ≤ 2147483647 ∧ h = h') := by
  refine Mt_iv hv (by decide) (Nat.le_of_ble_eq_true rfl) ?_
  show Go l RX7 cX7_ended 2 (g_rm (d + 2) 0 0) "ended" (some .int) 117 0 0 (fun _ _ => True) (fun r h' => ∃ v : Int32, r = some (.int v) ∧ -2147483648 ≤ v.toInt ∧ v.toInt ≤ 2147483647 ∧ h = h') 0 0 [(0, .ref 0), (1, .int a2)] [] h
  refine go_aload_n (pc := 0) rfl dX7_ended_0 ?_
  refine gi_getF (pc := 1) (q := 64) hv fL_X7_49 rfl (Nat.le_of_ble_eq_true rfl) rfl (hv.rf (by decide)) dX7_ended_1 ?_
  refine go_iload_n (pc := 4) rfl dX7_ended_4 ?_
  refine go_invV (pc := 5) (sl := 0) (s_X2_tell l (d + 0) hv a2) mL_X7_162 iM_X2_tell sM_X2_tell (hv.sh rfl) rfl rfl rfl (Nat.le_of_ble_eq_true rfl) (show d + 0 + 1 + 1 ≤ d + 2 by omega) (show 8 + (2 + 11) + 40 * (d + 0 + 1) ≤ 40 * (d + 2) by omega) (g_c0 hv.ln) (Nat.le_of_ble_eq_true rfl) dX7_ended_5 ?_
  intro r h1 hq _
  obtain ⟨v2, rfl, v2l, v2u, rfl⟩ := hq
  exact gi_iret (pc := 8) (ti_rfl v2) ⟨_, rfl, (ti_lo _), (ti_hi _), rfl⟩ hv dX7_ended_8
set_option maxHeartbeats 4000000 in
set_option maxRecDepth 100000 in
theorem s_X7_saw (l : Launch) (d : Nat) {P : PP} {h : HP} (hv : Iv P h) (a2 : Int32) (a3 : Int32) : Mt l yX7_saw cX7_saw 3 (some .int) (d + 2) [.ref 0, .int a2, .int a3] h 0 0 (fun r h' => ∃ v : Int32, r = some (.int v) ∧ -2147483648 ≤ v.toInt ∧ v.toInt ≤ 2147483647 ∧ h = h') := by
  refine Mt_iv hv (by decide) (Nat.le_of_ble_eq_true rfl) ?_
  show Go l RX7 cX7_saw 3 (g_rm (d + 2) 0 0) "saw" (some .int) 117 0 0 (fun _ _ => True) (fun r h' => ∃ v : Int32, r = some (.int v) ∧ -2147483648 ≤ v.toInt ∧ v.toInt ≤ 2147483647 ∧ h = h') 0 0 [(0, .ref 0), (1, .int a2), (2, .int a3)] [] h
  have key : ∀ n : Nat, (∀ (_ : Unit), (1 : Int) < n → Go l RX7 cX7_saw 3 (g_rm (d + 2) 0 0) "saw" (some .int) 117 0 0 (fun _ _ => True) (fun r h' => ∃ v : Int32, r = some (.int v) ∧ -2147483648 ≤ v.toInt ∧ v.toInt ≤ 2147483647 ∧ h = h') 0 13 [] [] h) ∧ (∀ (s0 : Int32), (2 : Int) < n → Go l RX7 cX7_saw 3 (g_rm (d + 2) 0 0) "saw" (some .int) 117 0 0 (fun _ _ => True) (fun r h' => ∃ v : Int32, r = some (.int v) ∧ -2147483648 ≤ v.toInt ∧ v.toInt ≤ 2147483647 ∧ h = h') 0 40 [] [.int s0] h) := by
    intro n
    induction n with
    | zero => exact ⟨(by intros; omega), (by intros; omega)⟩
    | succ n ih =>
      refine ⟨?_, ?_⟩
      ·
        intro _ hm
        refine go_iconst (pc := 13) (v := 0) (by decide) dX7_saw_13 ?_
        exact gi_iret (pc := 14) (ti_c (v := 0) (a := 0) (by decide)) ⟨_, rfl, (ti_lo _), (ti_hi _), rfl⟩ hv dX7_saw_14
      ·
        intro s0 hm
        exact gi_iret (pc := 40) (ti_rfl s0) ⟨_, rfl, (ti_lo _), (ti_hi _), rfl⟩ hv dX7_saw_40
  refine go_aload_n (pc := 0) rfl dX7_saw_0 ?_
  refine go_iload_n (pc := 1) rfl dX7_saw_1 ?_
  refine go_invV (pc := 2) (sl := 0) (s_X7_isStatement l (d + 0) hv a2) mL_X7_87 iM_X7_isStatement sM_X7_isStatement (hv.sh rfl) rfl rfl rfl (Nat.le_of_ble_eq_true rfl) (show d + 0 + 1 + 1 ≤ d + 2 by omega) (show 8 + (2 + 11) + 40 * (d + 0 + 1) ≤ 40 * (d + 2) by omega) (g_c0 hv.ln) (Nat.le_of_ble_eq_true rfl) dX7_saw_2 ?_
  intro r h1 hq _
  obtain ⟨v2, rfl, v2l, v2u, rfl, f3⟩ := hq
  refine gf_if_eq (pc := 5) (tgt := 13) (ti_rfl v2) (by decide) dX7_saw_5 (fun q4 => ?_) (fun q4 => ?_)
  ·
    exact go_lv rfl ((key 15).1 ()   (by omega))
  ·
    refine go_iload_n (pc := 8) rfl dX7_saw_8 ?_
    refine go_iconst (pc := 9) (v := (-1)) (by decide) dX7_saw_9 ?_
    refine gf_icmp_ge (pc := 10) (tgt := 15) (ti_rfl a3) (ti_c (v := (-1)) (a := (-1)) (by decide)) (by decide) dX7_saw_10 (fun q5 => ?_) (fun q5 => ?_)
    ·
      refine go_iload_n (pc := 15) rfl dX7_saw_15 ?_
      refine go_iconst (pc := 16) (v := (-1)) (by decide) dX7_saw_16 ?_
      refine gf_icmp_ne (pc := 17) (tgt := 31) (ti_rfl a3) (ti_c (v := (-1)) (a := (-1)) (by decide)) (by decide) dX7_saw_17 (fun q6 => ?_) (fun q6 => ?_)
      ·
        refine go_aload_n (pc := 31) rfl dX7_saw_31 ?_
        refine gi_getF (pc := 32) (q := 64) hv fL_X7_49 rfl (Nat.le_of_ble_eq_true rfl) rfl (hv.rf (by decide)) dX7_saw_32 ?_
        refine go_iload_n (pc := 35) rfl dX7_saw_35 ?_
        refine go_iload_n (pc := 36) rfl dX7_saw_36 ?_
        refine go_invV (pc := 37) (sl := 0) (s_X2_sightOf l (d + 0) hv a2 a3) mL_X7_169 iM_X2_sightOf sM_X2_sightOf (hv.sh rfl) rfl rfl rfl (Nat.le_of_ble_eq_true rfl) (show d + 0 + 1 + 1 ≤ d + 2 by omega) (show 8 + (5 + 11) + 40 * (d + 0 + 1) ≤ 40 * (d + 2) by omega) (g_c0 hv.ln) (Nat.le_of_ble_eq_true rfl) dX7_saw_37 ?_
        intro r h7 hq _
        obtain ⟨v8, rfl, v8l, v8u, rfl⟩ := hq
        exact go_lv rfl ((key 15).2 v8   (by omega))
      ·
        refine go_aload_n (pc := 20) rfl dX7_saw_20 ?_
        refine gi_getF (pc := 21) (q := 64) hv fL_X7_49 rfl (Nat.le_of_ble_eq_true rfl) rfl (hv.rf (by decide)) dX7_saw_21 ?_
        refine go_iload_n (pc := 24) rfl dX7_saw_24 ?_
        refine go_invV (pc := 25) (sl := 0) (s_X2_sightsOf l (d + 0) hv a2) mL_X7_166 iM_X2_sightsOf sM_X2_sightsOf (hv.sh rfl) rfl rfl rfl (Nat.le_of_ble_eq_true rfl) (show d + 0 + 1 + 1 ≤ d + 2 by omega) (show 8 + (4 + 11) + 40 * (d + 0 + 1) ≤ 40 * (d + 2) by omega) (g_c0 hv.ln) (Nat.le_of_ble_eq_true rfl) dX7_saw_25 ?_
        intro r h9 hq _
        obtain ⟨v10, rfl, v10l, v10u, rfl⟩ := hq
        refine go_goto (pc := 28) (tgt := 40) (by decide) dX7_saw_28 ?_
        exact go_lv rfl ((key 15).2 v10   (by omega))
    ·
      exact go_lv rfl ((key 15).1 ()   (by omega))

