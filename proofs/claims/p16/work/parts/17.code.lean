theorem dX0_allMayEnd_0 : decode cX0_allMayEnd 0 = .ok (.aload_n 0, 1) := by decide +kernel
theorem dX0_allMayEnd_1 : decode cX0_allMayEnd 1 = .ok (.getfield 22, 3) := by decide +kernel
theorem dX0_allMayEnd_4 : decode cX0_allMayEnd 4 = .ok (.aload_n 0, 1) := by decide +kernel
theorem dX0_allMayEnd_5 : decode cX0_allMayEnd 5 = .ok (.getfield 25, 3) := by decide +kernel
theorem dX0_allMayEnd_8 : decode cX0_allMayEnd 8 = .ok (.ior, 1) := by decide +kernel
theorem dX0_allMayEnd_9 : decode cX0_allMayEnd 9 = .ok (.iconst 1, 1) := by decide +kernel
theorem dX0_allMayEnd_10 : decode cX0_allMayEnd 10 = .ok (.aload_n 0, 1) := by decide +kernel
theorem dX0_allMayEnd_11 : decode cX0_allMayEnd 11 = .ok (.getfield 15, 3) := by decide +kernel
theorem dX0_allMayEnd_14 : decode cX0_allMayEnd 14 = .ok (.ishl, 1) := by decide +kernel
theorem dX0_allMayEnd_15 : decode cX0_allMayEnd 15 = .ok (.iconst 1, 1) := by decide +kernel
theorem dX0_allMayEnd_16 : decode cX0_allMayEnd 16 = .ok (.isub, 1) := by decide +kernel
theorem dX0_allMayEnd_17 : decode cX0_allMayEnd 17 = .ok (.if_icmp .ne 7, 3) := by decide +kernel
theorem dX0_allMayEnd_20 : decode cX0_allMayEnd 20 = .ok (.iconst 1, 1) := by decide +kernel
theorem dX0_allMayEnd_21 : decode cX0_allMayEnd 21 = .ok (.goto 4, 3) := by decide +kernel
theorem dX0_allMayEnd_24 : decode cX0_allMayEnd 24 = .ok (.iconst 0, 1) := by decide +kernel
theorem dX0_allMayEnd_25 : decode cX0_allMayEnd 25 = .ok (.ireturn, 1) := by decide +kernel
theorem dX0_callsOf_0 : decode cX0_callsOf 0 = .ok (.lconst 0, 1) := by decide +kernel
theorem dX0_callsOf_1 : decode cX0_callsOf 1 = .ok (.lstore_n 2, 1) := by decide +kernel
theorem dX0_callsOf_2 : decode cX0_callsOf 2 = .ok (.iconst 0, 1) := by decide +kernel
theorem dX0_callsOf_3 : decode cX0_callsOf 3 = .ok (.istore 4, 2) := by decide +kernel
theorem dX0_callsOf_5 : decode cX0_callsOf 5 = .ok (.iload 4, 2) := by decide +kernel
theorem dX0_callsOf_7 : decode cX0_callsOf 7 = .ok (.aload_n 0, 1) := by decide +kernel
theorem dX0_callsOf_8 : decode cX0_callsOf 8 = .ok (.getfield 9, 3) := by decide +kernel
theorem dX0_callsOf_11 : decode cX0_callsOf 11 = .ok (.if_icmp .ge 28, 3) := by decide +kernel
theorem dX0_callsOf_14 : decode cX0_callsOf 14 = .ok (.aload_n 0, 1) := by decide +kernel
theorem dX0_callsOf_15 : decode cX0_callsOf 15 = .ok (.getfield 47, 3) := by decide +kernel
theorem dX0_callsOf_18 : decode cX0_callsOf 18 = .ok (.iload 4, 2) := by decide +kernel
theorem dX0_callsOf_20 : decode cX0_callsOf 20 = .ok (.iaload, 1) := by decide +kernel
theorem dX0_callsOf_21 : decode cX0_callsOf 21 = .ok (.iload_n 1, 1) := by decide +kernel
theorem dX0_callsOf_22 : decode cX0_callsOf 22 = .ok (.if_icmp .ne 11, 3) := by decide +kernel
theorem dX0_callsOf_25 : decode cX0_callsOf 25 = .ok (.lload_n 2, 1) := by decide +kernel
theorem dX0_callsOf_26 : decode cX0_callsOf 26 = .ok (.iload 4, 2) := by decide +kernel
theorem dX0_callsOf_28 : decode cX0_callsOf 28 = .ok (.invokestatic 86, 3) := by decide +kernel
theorem dX0_callsOf_31 : decode cX0_callsOf 31 = .ok (.lor, 1) := by decide +kernel
theorem dX0_callsOf_32 : decode cX0_callsOf 32 = .ok (.lstore_n 2, 1) := by decide +kernel
theorem dX0_callsOf_33 : decode cX0_callsOf 33 = .ok (.iinc 4 1, 3) := by decide +kernel
theorem dX0_callsOf_36 : decode cX0_callsOf 36 = .ok (.goto (-31), 3) := by decide +kernel
theorem dX0_callsOf_39 : decode cX0_callsOf 39 = .ok (.lload_n 2, 1) := by decide +kernel
theorem dX0_callsOf_40 : decode cX0_callsOf 40 = .ok (.lreturn, 1) := by decide +kernel
theorem dX0_callsOnlyTold_0 : decode cX0_callsOnlyTold 0 = .ok (.iconst 1, 1) := by decide +kernel
theorem dX0_callsOnlyTold_1 : decode cX0_callsOnlyTold 1 = .ok (.istore_n 1, 1) := by decide +kernel
theorem dX0_callsOnlyTold_2 : decode cX0_callsOnlyTold 2 = .ok (.iconst 0, 1) := by decide +kernel
theorem dX0_callsOnlyTold_3 : decode cX0_callsOnlyTold 3 = .ok (.istore_n 2, 1) := by decide +kernel
theorem dX0_callsOnlyTold_4 : decode cX0_callsOnlyTold 4 = .ok (.iload_n 2, 1) := by decide +kernel
theorem dX0_callsOnlyTold_5 : decode cX0_callsOnlyTold 5 = .ok (.aload_n 0, 1) := by decide +kernel
theorem dX0_callsOnlyTold_6 : decode cX0_callsOnlyTold 6 = .ok (.getfield 9, 3) := by decide +kernel
theorem dX0_callsOnlyTold_9 : decode cX0_callsOnlyTold 9 = .ok (.if_icmp .ge 30, 3) := by decide +kernel
theorem dX0_callsOnlyTold_12 : decode cX0_callsOnlyTold 12 = .ok (.iload_n 1, 1) := by decide +kernel
theorem dX0_callsOnlyTold_13 : decode cX0_callsOnlyTold 13 = .ok (.aload_n 0, 1) := by decide +kernel
theorem dX0_callsOnlyTold_14 : decode cX0_callsOnlyTold 14 = .ok (.getfield 47, 3) := by decide +kernel
theorem dX0_callsOnlyTold_17 : decode cX0_callsOnlyTold 17 = .ok (.iload_n 2, 1) := by decide +kernel
theorem dX0_callsOnlyTold_18 : decode cX0_callsOnlyTold 18 = .ok (.iaload, 1) := by decide +kernel
theorem dX0_callsOnlyTold_19 : decode cX0_callsOnlyTold 19 = .ok (.aload_n 0, 1) := by decide +kernel
theorem dX0_callsOnlyTold_20 : decode cX0_callsOnlyTold 20 = .ok (.getfield 15, 3) := by decide +kernel
theorem dX0_callsOnlyTold_23 : decode cX0_callsOnlyTold 23 = .ok (.if_icmp .ge 7, 3) := by decide +kernel
theorem dX0_callsOnlyTold_26 : decode cX0_callsOnlyTold 26 = .ok (.iconst 1, 1) := by decide +kernel
theorem dX0_callsOnlyTold_27 : decode cX0_callsOnlyTold 27 = .ok (.goto 4, 3) := by decide +kernel
theorem dX0_callsOnlyTold_30 : decode cX0_callsOnlyTold 30 = .ok (.iconst 0, 1) := by decide +kernel
theorem dX0_callsOnlyTold_31 : decode cX0_callsOnlyTold 31 = .ok (.iand, 1) := by decide +kernel
theorem dX0_callsOnlyTold_32 : decode cX0_callsOnlyTold 32 = .ok (.istore_n 1, 1) := by decide +kernel
theorem dX0_callsOnlyTold_33 : decode cX0_callsOnlyTold 33 = .ok (.iinc 2 1, 3) := by decide +kernel
theorem dX0_callsOnlyTold_36 : decode cX0_callsOnlyTold 36 = .ok (.goto (-32), 3) := by decide +kernel
theorem dX0_callsOnlyTold_39 : decode cX0_callsOnlyTold 39 = .ok (.iload_n 1, 1) := by decide +kernel
theorem dX0_callsOnlyTold_40 : decode cX0_callsOnlyTold 40 = .ok (.ireturn, 1) := by decide +kernel
theorem dX0_decides_0 : decode cX0_decides 0 = .ok (.aload_n 0, 1) := by decide +kernel
theorem dX0_decides_1 : decode cX0_decides 1 = .ok (.getfield 32, 3) := by decide +kernel
theorem dX0_decides_4 : decode cX0_decides 4 = .ok (.iload_n 1, 1) := by decide +kernel
theorem dX0_decides_5 : decode cX0_decides 5 = .ok (.iaload, 1) := by decide +kernel
theorem dX0_decides_6 : decode cX0_decides 6 = .ok (.iconst 1, 1) := by decide +kernel
theorem dX0_decides_7 : decode cX0_decides 7 = .ok (.if_icmp .ne 18, 3) := by decide +kernel
theorem dX0_decides_10 : decode cX0_decides 10 = .ok (.aload_n 0, 1) := by decide +kernel
theorem dX0_decides_11 : decode cX0_decides 11 = .ok (.getfield 25, 3) := by decide +kernel
theorem dX0_decides_14 : decode cX0_decides 14 = .ok (.i2l, 1) := by decide +kernel
theorem dX0_decides_15 : decode cX0_decides 15 = .ok (.aload_n 0, 1) := by decide +kernel
theorem dX0_decides_16 : decode cX0_decides 16 = .ok (.getfield 47, 3) := by decide +kernel
theorem dX0_decides_19 : decode cX0_decides 19 = .ok (.iload_n 1, 1) := by decide +kernel
theorem dX0_decides_20 : decode cX0_decides 20 = .ok (.iaload, 1) := by decide +kernel
theorem dX0_decides_21 : decode cX0_decides 21 = .ok (.invokestatic 74, 3) := by decide +kernel
theorem dX0_decides_24 : decode cX0_decides 24 = .ok (.ireturn, 1) := by decide +kernel
theorem dX0_decides_25 : decode cX0_decides 25 = .ok (.aload_n 0, 1) := by decide +kernel
theorem dX0_decides_26 : decode cX0_decides 26 = .ok (.getfield 32, 3) := by decide +kernel
theorem dX0_decides_29 : decode cX0_decides 29 = .ok (.iload_n 1, 1) := by decide +kernel
theorem dX0_decides_30 : decode cX0_decides 30 = .ok (.iaload, 1) := by decide +kernel
theorem dX0_decides_31 : decode cX0_decides 31 = .ok (.ifCond .eq 7, 3) := by decide +kernel
theorem dX0_decides_34 : decode cX0_decides 34 = .ok (.iconst 1, 1) := by decide +kernel
theorem dX0_decides_35 : decode cX0_decides 35 = .ok (.goto 4, 3) := by decide +kernel
theorem dX0_decides_38 : decode cX0_decides 38 = .ok (.iconst 0, 1) := by decide +kernel
theorem dX0_decides_39 : decode cX0_decides 39 = .ok (.ireturn, 1) := by decide +kernel
theorem dX0_escapes_0 : decode cX0_escapes 0 = .ok (.aload_n 0, 1) := by decide +kernel
theorem dX0_escapes_1 : decode cX0_escapes 1 = .ok (.getfield 68, 3) := by decide +kernel
theorem dX0_escapes_4 : decode cX0_escapes 4 = .ok (.iload_n 1, 1) := by decide +kernel
theorem dX0_escapes_5 : decode cX0_escapes 5 = .ok (.iaload, 1) := by decide +kernel
theorem dX0_escapes_6 : decode cX0_escapes 6 = .ok (.ifCond .lt 5, 3) := by decide +kernel
theorem dX0_escapes_9 : decode cX0_escapes 9 = .ok (.iconst 0, 1) := by decide +kernel
theorem dX0_escapes_10 : decode cX0_escapes 10 = .ok (.ireturn, 1) := by decide +kernel
theorem dX0_escapes_11 : decode cX0_escapes 11 = .ok (.aload_n 0, 1) := by decide +kernel
theorem dX0_escapes_12 : decode cX0_escapes 12 = .ok (.getfield 32, 3) := by decide +kernel
theorem dX0_escapes_15 : decode cX0_escapes 15 = .ok (.iload_n 1, 1) := by decide +kernel
theorem dX0_escapes_16 : decode cX0_escapes 16 = .ok (.iaload, 1) := by decide +kernel
theorem dX0_escapes_17 : decode cX0_escapes 17 = .ok (.iconst 4, 1) := by decide +kernel
theorem dX0_escapes_18 : decode cX0_escapes 18 = .ok (.if_icmp .eq 30, 3) := by decide +kernel
theorem dX0_escapes_21 : decode cX0_escapes 21 = .ok (.aload_n 0, 1) := by decide +kernel
theorem dX0_escapes_22 : decode cX0_escapes 22 = .ok (.getfield 32, 3) := by decide +kernel
theorem dX0_escapes_25 : decode cX0_escapes 25 = .ok (.iload_n 1, 1) := by decide +kernel
theorem dX0_escapes_26 : decode cX0_escapes 26 = .ok (.iaload, 1) := by decide +kernel
theorem dX0_escapes_27 : decode cX0_escapes 27 = .ok (.iconst 1, 1) := by decide +kernel
theorem dX0_escapes_28 : decode cX0_escapes 28 = .ok (.if_icmp .ne 24, 3) := by decide +kernel
theorem dX0_escapes_31 : decode cX0_escapes 31 = .ok (.aload_n 0, 1) := by decide +kernel
theorem dX0_escapes_32 : decode cX0_escapes 32 = .ok (.getfield 25, 3) := by decide +kernel
theorem dX0_escapes_35 : decode cX0_escapes 35 = .ok (.i2l, 1) := by decide +kernel
theorem dX0_escapes_36 : decode cX0_escapes 36 = .ok (.aload_n 0, 1) := by decide +kernel
theorem dX0_escapes_37 : decode cX0_escapes 37 = .ok (.getfield 47, 3) := by decide +kernel
theorem dX0_escapes_40 : decode cX0_escapes 40 = .ok (.iload_n 1, 1) := by decide +kernel
theorem dX0_escapes_41 : decode cX0_escapes 41 = .ok (.iaload, 1) := by decide +kernel
theorem dX0_escapes_42 : decode cX0_escapes 42 = .ok (.invokestatic 74, 3) := by decide +kernel
theorem dX0_escapes_45 : decode cX0_escapes 45 = .ok (.ifCond .eq 7, 3) := by decide +kernel
theorem dX0_escapes_48 : decode cX0_escapes 48 = .ok (.iconst 1, 1) := by decide +kernel
theorem dX0_escapes_49 : decode cX0_escapes 49 = .ok (.goto 4, 3) := by decide +kernel
theorem dX0_escapes_52 : decode cX0_escapes 52 = .ok (.iconst 0, 1) := by decide +kernel
theorem dX0_escapes_53 : decode cX0_escapes 53 = .ok (.ireturn, 1) := by decide +kernel
theorem dX0_goesStraight_0 : decode cX0_goesStraight 0 = .ok (.aload_n 0, 1) := by decide +kernel
theorem dX0_goesStraight_1 : decode cX0_goesStraight 1 = .ok (.getfield 32, 3) := by decide +kernel
theorem dX0_goesStraight_4 : decode cX0_goesStraight 4 = .ok (.iload_n 1, 1) := by decide +kernel
theorem dX0_goesStraight_5 : decode cX0_goesStraight 5 = .ok (.iaload, 1) := by decide +kernel
theorem dX0_goesStraight_6 : decode cX0_goesStraight 6 = .ok (.iconst 1, 1) := by decide +kernel
theorem dX0_goesStraight_7 : decode cX0_goesStraight 7 = .ok (.if_icmp .ne 18, 3) := by decide +kernel
theorem dX0_goesStraight_10 : decode cX0_goesStraight 10 = .ok (.aload_n 0, 1) := by decide +kernel
theorem dX0_goesStraight_11 : decode cX0_goesStraight 11 = .ok (.getfield 22, 3) := by decide +kernel
theorem dX0_goesStraight_14 : decode cX0_goesStraight 14 = .ok (.i2l, 1) := by decide +kernel
theorem dX0_goesStraight_15 : decode cX0_goesStraight 15 = .ok (.aload_n 0, 1) := by decide +kernel
theorem dX0_goesStraight_16 : decode cX0_goesStraight 16 = .ok (.getfield 47, 3) := by decide +kernel
theorem dX0_goesStraight_19 : decode cX0_goesStraight 19 = .ok (.iload_n 1, 1) := by decide +kernel
theorem dX0_goesStraight_20 : decode cX0_goesStraight 20 = .ok (.iaload, 1) := by decide +kernel
theorem dX0_goesStraight_21 : decode cX0_goesStraight 21 = .ok (.invokestatic 74, 3) := by decide +kernel
theorem dX0_goesStraight_24 : decode cX0_goesStraight 24 = .ok (.ireturn, 1) := by decide +kernel
theorem dX0_goesStraight_25 : decode cX0_goesStraight 25 = .ok (.aload_n 0, 1) := by decide +kernel
theorem dX0_goesStraight_26 : decode cX0_goesStraight 26 = .ok (.getfield 32, 3) := by decide +kernel
theorem dX0_goesStraight_29 : decode cX0_goesStraight 29 = .ok (.iload_n 1, 1) := by decide +kernel
theorem dX0_goesStraight_30 : decode cX0_goesStraight 30 = .ok (.iaload, 1) := by decide +kernel
theorem dX0_goesStraight_31 : decode cX0_goesStraight 31 = .ok (.iconst 4, 1) := by decide +kernel
theorem dX0_goesStraight_32 : decode cX0_goesStraight 32 = .ok (.if_icmp .eq 17, 3) := by decide +kernel
theorem dX0_goesStraight_35 : decode cX0_goesStraight 35 = .ok (.aload_n 0, 1) := by decide +kernel
theorem dX0_goesStraight_36 : decode cX0_goesStraight 36 = .ok (.getfield 32, 3) := by decide +kernel
theorem dX0_goesStraight_39 : decode cX0_goesStraight 39 = .ok (.iload_n 1, 1) := by decide +kernel
theorem dX0_goesStraight_40 : decode cX0_goesStraight 40 = .ok (.iaload, 1) := by decide +kernel
theorem dX0_goesStraight_41 : decode cX0_goesStraight 41 = .ok (.iconst 5, 1) := by decide +kernel
theorem dX0_goesStraight_42 : decode cX0_goesStraight 42 = .ok (.if_icmp .eq 7, 3) := by decide +kernel
theorem dX0_goesStraight_45 : decode cX0_goesStraight 45 = .ok (.iconst 1, 1) := by decide +kernel
theorem dX0_goesStraight_46 : decode cX0_goesStraight 46 = .ok (.goto 4, 3) := by decide +kernel
theorem dX0_goesStraight_49 : decode cX0_goesStraight 49 = .ok (.iconst 0, 1) := by decide +kernel
theorem dX0_goesStraight_50 : decode cX0_goesStraight 50 = .ok (.ireturn, 1) := by decide +kernel
theorem dX0_settleEnds_0 : decode cX0_settleEnds 0 = .ok (.iconst 1, 1) := by decide +kernel
theorem dX0_settleEnds_1 : decode cX0_settleEnds 1 = .ok (.istore_n 1, 1) := by decide +kernel
theorem dX0_settleEnds_2 : decode cX0_settleEnds 2 = .ok (.iconst 0, 1) := by decide +kernel
theorem dX0_settleEnds_3 : decode cX0_settleEnds 3 = .ok (.istore_n 2, 1) := by decide +kernel
theorem dX0_settleEnds_4 : decode cX0_settleEnds 4 = .ok (.iload_n 2, 1) := by decide +kernel
theorem dX0_settleEnds_5 : decode cX0_settleEnds 5 = .ok (.bipush 10, 2) := by decide +kernel
theorem dX0_settleEnds_7 : decode cX0_settleEnds 7 = .ok (.if_icmp .gt 71, 3) := by decide +kernel
theorem dX0_settleEnds_10 : decode cX0_settleEnds 10 = .ok (.iload_n 1, 1) := by decide +kernel
theorem dX0_settleEnds_11 : decode cX0_settleEnds 11 = .ok (.ifCond .eq 67, 3) := by decide +kernel
theorem dX0_settleEnds_14 : decode cX0_settleEnds 14 = .ok (.aload_n 0, 1) := by decide +kernel
theorem dX0_settleEnds_15 : decode cX0_settleEnds 15 = .ok (.getfield 22, 3) := by decide +kernel
theorem dX0_settleEnds_18 : decode cX0_settleEnds 18 = .ok (.istore_n 3, 1) := by decide +kernel
theorem dX0_settleEnds_19 : decode cX0_settleEnds 19 = .ok (.aload_n 0, 1) := by decide +kernel
theorem dX0_settleEnds_20 : decode cX0_settleEnds 20 = .ok (.getfield 25, 3) := by decide +kernel
theorem dX0_settleEnds_23 : decode cX0_settleEnds 23 = .ok (.istore 4, 2) := by decide +kernel
theorem dX0_settleEnds_25 : decode cX0_settleEnds 25 = .ok (.iconst 0, 1) := by decide +kernel
theorem dX0_settleEnds_26 : decode cX0_settleEnds 26 = .ok (.istore 5, 2) := by decide +kernel
theorem dX0_settleEnds_28 : decode cX0_settleEnds 28 = .ok (.iload 5, 2) := by decide +kernel
theorem dX0_settleEnds_30 : decode cX0_settleEnds 30 = .ok (.aload_n 0, 1) := by decide +kernel
theorem dX0_settleEnds_31 : decode cX0_settleEnds 31 = .ok (.getfield 15, 3) := by decide +kernel
theorem dX0_settleEnds_34 : decode cX0_settleEnds 34 = .ok (.if_icmp .ge 15, 3) := by decide +kernel
theorem dX0_settleEnds_37 : decode cX0_settleEnds 37 = .ok (.aload_n 0, 1) := by decide +kernel
theorem dX0_settleEnds_38 : decode cX0_settleEnds 38 = .ok (.iload 5, 2) := by decide +kernel
theorem dX0_settleEnds_40 : decode cX0_settleEnds 40 = .ok (.invokevirtual 82, 3) := by decide +kernel
theorem dX0_settleEnds_43 : decode cX0_settleEnds 43 = .ok (.iinc 5 1, 3) := by decide +kernel
theorem dX0_settleEnds_46 : decode cX0_settleEnds 46 = .ok (.goto (-18), 3) := by decide +kernel
theorem dX0_settleEnds_49 : decode cX0_settleEnds 49 = .ok (.iload_n 3, 1) := by decide +kernel
theorem dX0_settleEnds_50 : decode cX0_settleEnds 50 = .ok (.aload_n 0, 1) := by decide +kernel
theorem dX0_settleEnds_51 : decode cX0_settleEnds 51 = .ok (.getfield 22, 3) := by decide +kernel
theorem dX0_settleEnds_54 : decode cX0_settleEnds 54 = .ok (.if_icmp .ne 12, 3) := by decide +kernel
theorem dX0_settleEnds_57 : decode cX0_settleEnds 57 = .ok (.iload 4, 2) := by decide +kernel
theorem dX0_settleEnds_59 : decode cX0_settleEnds 59 = .ok (.aload_n 0, 1) := by decide +kernel
theorem dX0_settleEnds_60 : decode cX0_settleEnds 60 = .ok (.getfield 25, 3) := by decide +kernel
theorem dX0_settleEnds_63 : decode cX0_settleEnds 63 = .ok (.if_icmp .eq 7, 3) := by decide +kernel
theorem dX0_settleEnds_66 : decode cX0_settleEnds 66 = .ok (.iconst 1, 1) := by decide +kernel
theorem dX0_settleEnds_67 : decode cX0_settleEnds 67 = .ok (.goto 4, 3) := by decide +kernel
theorem dX0_settleEnds_70 : decode cX0_settleEnds 70 = .ok (.iconst 0, 1) := by decide +kernel
theorem dX0_settleEnds_71 : decode cX0_settleEnds 71 = .ok (.istore_n 1, 1) := by decide +kernel
theorem dX0_settleEnds_72 : decode cX0_settleEnds 72 = .ok (.iinc 2 1, 3) := by decide +kernel
theorem dX0_settleEnds_75 : decode cX0_settleEnds 75 = .ok (.goto (-71), 3) := by decide +kernel
theorem dX0_settleEnds_78 : decode cX0_settleEnds 78 = .ok (.return_, 1) := by decide +kernel
theorem dX0_tellsAside_0 : decode cX0_tellsAside 0 = .ok (.aload_n 0, 1) := by decide +kernel
theorem dX0_tellsAside_1 : decode cX0_tellsAside 1 = .ok (.getfield 32, 3) := by decide +kernel
theorem dX0_tellsAside_4 : decode cX0_tellsAside 4 = .ok (.iload_n 1, 1) := by decide +kernel
theorem dX0_tellsAside_5 : decode cX0_tellsAside 5 = .ok (.iaload, 1) := by decide +kernel
theorem dX0_tellsAside_6 : decode cX0_tellsAside 6 = .ok (.iconst 1, 1) := by decide +kernel
theorem dX0_tellsAside_7 : decode cX0_tellsAside 7 = .ok (.if_icmp .ne 26, 3) := by decide +kernel
theorem dX0_tellsAside_10 : decode cX0_tellsAside 10 = .ok (.iload_n 2, 1) := by decide +kernel
theorem dX0_tellsAside_11 : decode cX0_tellsAside 11 = .ok (.invokestatic 78, 3) := by decide +kernel
theorem dX0_tellsAside_14 : decode cX0_tellsAside 14 = .ok (.ifCond .ne 13, 3) := by decide +kernel
theorem dX0_tellsAside_17 : decode cX0_tellsAside 17 = .ok (.aload_n 0, 1) := by decide +kernel
theorem dX0_tellsAside_18 : decode cX0_tellsAside 18 = .ok (.getfield 68, 3) := by decide +kernel
theorem dX0_tellsAside_21 : decode cX0_tellsAside 21 = .ok (.iload_n 1, 1) := by decide +kernel
theorem dX0_tellsAside_22 : decode cX0_tellsAside 22 = .ok (.iaload, 1) := by decide +kernel
theorem dX0_tellsAside_23 : decode cX0_tellsAside 23 = .ok (.iload_n 2, 1) := by decide +kernel
theorem dX0_tellsAside_24 : decode cX0_tellsAside 24 = .ok (.if_icmp .ne 7, 3) := by decide +kernel
theorem dX0_tellsAside_27 : decode cX0_tellsAside 27 = .ok (.iconst 1, 1) := by decide +kernel
theorem dX0_tellsAside_28 : decode cX0_tellsAside 28 = .ok (.goto 4, 3) := by decide +kernel
theorem dX0_tellsAside_31 : decode cX0_tellsAside 31 = .ok (.iconst 0, 1) := by decide +kernel
theorem dX0_tellsAside_32 : decode cX0_tellsAside 32 = .ok (.ireturn, 1) := by decide +kernel
theorem dX0_tellsAside_33 : decode cX0_tellsAside 33 = .ok (.aload_n 0, 1) := by decide +kernel
theorem dX0_tellsAside_34 : decode cX0_tellsAside 34 = .ok (.getfield 32, 3) := by decide +kernel
theorem dX0_tellsAside_37 : decode cX0_tellsAside 37 = .ok (.iload_n 1, 1) := by decide +kernel
theorem dX0_tellsAside_38 : decode cX0_tellsAside 38 = .ok (.iaload, 1) := by decide +kernel
theorem dX0_tellsAside_39 : decode cX0_tellsAside 39 = .ok (.iconst 4, 1) := by decide +kernel
theorem dX0_tellsAside_40 : decode cX0_tellsAside 40 = .ok (.if_icmp .ne 17, 3) := by decide +kernel
theorem dX0_tellsAside_43 : decode cX0_tellsAside 43 = .ok (.aload_n 0, 1) := by decide +kernel
theorem dX0_tellsAside_44 : decode cX0_tellsAside 44 = .ok (.getfield 68, 3) := by decide +kernel
theorem dX0_tellsAside_47 : decode cX0_tellsAside 47 = .ok (.iload_n 1, 1) := by decide +kernel
theorem dX0_tellsAside_48 : decode cX0_tellsAside 48 = .ok (.iaload, 1) := by decide +kernel
theorem dX0_tellsAside_49 : decode cX0_tellsAside 49 = .ok (.iload_n 2, 1) := by decide +kernel
theorem dX0_tellsAside_50 : decode cX0_tellsAside 50 = .ok (.if_icmp .ne 7, 3) := by decide +kernel
theorem dX0_tellsAside_53 : decode cX0_tellsAside 53 = .ok (.iconst 1, 1) := by decide +kernel
theorem dX0_tellsAside_54 : decode cX0_tellsAside 54 = .ok (.goto 4, 3) := by decide +kernel
theorem dX0_tellsAside_57 : decode cX0_tellsAside 57 = .ok (.iconst 0, 1) := by decide +kernel
theorem dX0_tellsAside_58 : decode cX0_tellsAside 58 = .ok (.ireturn, 1) := by decide +kernel
theorem dX0_tellsStraight_0 : decode cX0_tellsStraight 0 = .ok (.aload_n 0, 1) := by decide +kernel
theorem dX0_tellsStraight_1 : decode cX0_tellsStraight 1 = .ok (.getfield 32, 3) := by decide +kernel
theorem dX0_tellsStraight_4 : decode cX0_tellsStraight 4 = .ok (.iload_n 1, 1) := by decide +kernel
theorem dX0_tellsStraight_5 : decode cX0_tellsStraight 5 = .ok (.iaload, 1) := by decide +kernel
theorem dX0_tellsStraight_6 : decode cX0_tellsStraight 6 = .ok (.iconst 1, 1) := by decide +kernel
theorem dX0_tellsStraight_7 : decode cX0_tellsStraight 7 = .ok (.if_icmp .ne 12, 3) := by decide +kernel
theorem dX0_tellsStraight_10 : decode cX0_tellsStraight 10 = .ok (.iload_n 2, 1) := by decide +kernel
theorem dX0_tellsStraight_11 : decode cX0_tellsStraight 11 = .ok (.invokestatic 78, 3) := by decide +kernel
theorem dX0_tellsStraight_14 : decode cX0_tellsStraight 14 = .ok (.ifCond .eq 5, 3) := by decide +kernel
theorem dX0_tellsStraight_17 : decode cX0_tellsStraight 17 = .ok (.iconst 1, 1) := by decide +kernel
theorem dX0_tellsStraight_18 : decode cX0_tellsStraight 18 = .ok (.ireturn, 1) := by decide +kernel
theorem dX0_tellsStraight_19 : decode cX0_tellsStraight 19 = .ok (.aload_n 0, 1) := by decide +kernel
theorem dX0_tellsStraight_20 : decode cX0_tellsStraight 20 = .ok (.getfield 44, 3) := by decide +kernel
theorem dX0_tellsStraight_23 : decode cX0_tellsStraight 23 = .ok (.iload_n 1, 1) := by decide +kernel
theorem dX0_tellsStraight_24 : decode cX0_tellsStraight 24 = .ok (.iaload, 1) := by decide +kernel
theorem dX0_tellsStraight_25 : decode cX0_tellsStraight 25 = .ok (.iload_n 2, 1) := by decide +kernel
theorem dX0_tellsStraight_26 : decode cX0_tellsStraight 26 = .ok (.if_icmp .ne 7, 3) := by decide +kernel
theorem dX0_tellsStraight_29 : decode cX0_tellsStraight 29 = .ok (.iconst 1, 1) := by decide +kernel
theorem dX0_tellsStraight_30 : decode cX0_tellsStraight 30 = .ok (.goto 4, 3) := by decide +kernel
theorem dX0_tellsStraight_33 : decode cX0_tellsStraight 33 = .ok (.iconst 0, 1) := by decide +kernel
theorem dX0_tellsStraight_34 : decode cX0_tellsStraight 34 = .ok (.ireturn, 1) := by decide +kernel
theorem dX0_walk_0 : decode cX0_walk 0 = .ok (.aload_n 0, 1) := by decide +kernel
theorem dX0_walk_1 : decode cX0_walk 1 = .ok (.getfield 28, 3) := by decide +kernel
theorem dX0_walk_4 : decode cX0_walk 4 = .ok (.iload_n 1, 1) := by decide +kernel
theorem dX0_walk_5 : decode cX0_walk 5 = .ok (.iaload, 1) := by decide +kernel
theorem dX0_walk_6 : decode cX0_walk 6 = .ok (.invokestatic 86, 3) := by decide +kernel
theorem dX0_walk_9 : decode cX0_walk 9 = .ok (.lstore_n 2, 1) := by decide +kernel
theorem dX0_walk_10 : decode cX0_walk 10 = .ok (.iconst 0, 1) := by decide +kernel
theorem dX0_walk_11 : decode cX0_walk 11 = .ok (.istore 4, 2) := by decide +kernel
theorem dX0_walk_13 : decode cX0_walk 13 = .ok (.iload 4, 2) := by decide +kernel
theorem dX0_walk_15 : decode cX0_walk 15 = .ok (.aload_n 0, 1) := by decide +kernel
theorem dX0_walk_16 : decode cX0_walk 16 = .ok (.getfield 9, 3) := by decide +kernel
theorem dX0_walk_19 : decode cX0_walk 19 = .ok (.if_icmp .ge 89, 3) := by decide +kernel
theorem dX0_walk_22 : decode cX0_walk 22 = .ok (.lload_n 2, 1) := by decide +kernel
theorem dX0_walk_23 : decode cX0_walk 23 = .ok (.iload 4, 2) := by decide +kernel
theorem dX0_walk_25 : decode cX0_walk 25 = .ok (.invokestatic 74, 3) := by decide +kernel
theorem dX0_walk_28 : decode cX0_walk 28 = .ok (.ifCond .ne 6, 3) := by decide +kernel
theorem dX0_walk_31 : decode cX0_walk 31 = .ok (.goto 71, 3) := by decide +kernel
theorem dX0_walk_34 : decode cX0_walk 34 = .ok (.aload_n 0, 1) := by decide +kernel
theorem dX0_walk_35 : decode cX0_walk 35 = .ok (.iload 4, 2) := by decide +kernel
theorem dX0_walk_37 : decode cX0_walk 37 = .ok (.invokevirtual 90, 3) := by decide +kernel
theorem dX0_walk_40 : decode cX0_walk 40 = .ok (.ifCond .eq 16, 3) := by decide +kernel
theorem dX0_walk_43 : decode cX0_walk 43 = .ok (.lload_n 2, 1) := by decide +kernel
theorem dX0_walk_44 : decode cX0_walk 44 = .ok (.aload_n 0, 1) := by decide +kernel
theorem dX0_walk_45 : decode cX0_walk 45 = .ok (.getfield 62, 3) := by decide +kernel
theorem dX0_walk_48 : decode cX0_walk 48 = .ok (.iload 4, 2) := by decide +kernel
theorem dX0_walk_50 : decode cX0_walk 50 = .ok (.iaload, 1) := by decide +kernel
theorem dX0_walk_51 : decode cX0_walk 51 = .ok (.invokestatic 86, 3) := by decide +kernel
theorem dX0_walk_54 : decode cX0_walk 54 = .ok (.lor, 1) := by decide +kernel
theorem dX0_walk_55 : decode cX0_walk 55 = .ok (.lstore_n 2, 1) := by decide +kernel
theorem dX0_walk_56 : decode cX0_walk 56 = .ok (.aload_n 0, 1) := by decide +kernel
theorem dX0_walk_57 : decode cX0_walk 57 = .ok (.iload 4, 2) := by decide +kernel
theorem dX0_walk_59 : decode cX0_walk 59 = .ok (.invokevirtual 93, 3) := by decide +kernel
theorem dX0_walk_62 : decode cX0_walk 62 = .ok (.ifCond .eq 18, 3) := by decide +kernel
theorem dX0_walk_65 : decode cX0_walk 65 = .ok (.aload_n 0, 1) := by decide +kernel
theorem dX0_walk_66 : decode cX0_walk 66 = .ok (.dup, 1) := by decide +kernel
theorem dX0_walk_67 : decode cX0_walk 67 = .ok (.getfield 25, 3) := by decide +kernel
theorem dX0_walk_70 : decode cX0_walk 70 = .ok (.iconst 1, 1) := by decide +kernel
theorem dX0_walk_71 : decode cX0_walk 71 = .ok (.iload_n 1, 1) := by decide +kernel
theorem dX0_walk_72 : decode cX0_walk 72 = .ok (.ishl, 1) := by decide +kernel
theorem dX0_walk_73 : decode cX0_walk 73 = .ok (.ior, 1) := by decide +kernel
theorem dX0_walk_74 : decode cX0_walk 74 = .ok (.putfield 25, 3) := by decide +kernel
theorem dX0_walk_77 : decode cX0_walk 77 = .ok (.goto 25, 3) := by decide +kernel
theorem dX0_walk_80 : decode cX0_walk 80 = .ok (.aload_n 0, 1) := by decide +kernel
theorem dX0_walk_81 : decode cX0_walk 81 = .ok (.iload 4, 2) := by decide +kernel
theorem dX0_walk_83 : decode cX0_walk 83 = .ok (.invokevirtual 96, 3) := by decide +kernel
theorem dX0_walk_86 : decode cX0_walk 86 = .ok (.ifCond .eq 16, 3) := by decide +kernel
theorem dX0_walk_89 : decode cX0_walk 89 = .ok (.lload_n 2, 1) := by decide +kernel
theorem dX0_walk_90 : decode cX0_walk 90 = .ok (.aload_n 0, 1) := by decide +kernel
theorem dX0_walk_91 : decode cX0_walk 91 = .ok (.getfield 65, 3) := by decide +kernel
theorem dX0_walk_94 : decode cX0_walk 94 = .ok (.iload 4, 2) := by decide +kernel
theorem dX0_walk_96 : decode cX0_walk 96 = .ok (.iaload, 1) := by decide +kernel
theorem dX0_walk_97 : decode cX0_walk 97 = .ok (.invokestatic 86, 3) := by decide +kernel
theorem dX0_walk_100 : decode cX0_walk 100 = .ok (.lor, 1) := by decide +kernel
theorem dX0_walk_101 : decode cX0_walk 101 = .ok (.lstore_n 2, 1) := by decide +kernel
theorem dX0_walk_102 : decode cX0_walk 102 = .ok (.iinc 4 1, 3) := by decide +kernel
theorem dX0_walk_105 : decode cX0_walk 105 = .ok (.goto (-92), 3) := by decide +kernel
theorem dX0_walk_108 : decode cX0_walk 108 = .ok (.lload_n 2, 1) := by decide +kernel
theorem dX0_walk_109 : decode cX0_walk 109 = .ok (.bipush 40, 2) := by decide +kernel
theorem dX0_walk_111 : decode cX0_walk 111 = .ok (.iload_n 1, 1) := by decide +kernel
theorem dX0_walk_112 : decode cX0_walk 112 = .ok (.iadd, 1) := by decide +kernel
theorem dX0_walk_113 : decode cX0_walk 113 = .ok (.invokestatic 74, 3) := by decide +kernel
theorem dX0_walk_116 : decode cX0_walk 116 = .ok (.ifCond .eq 15, 3) := by decide +kernel
theorem dX0_walk_119 : decode cX0_walk 119 = .ok (.aload_n 0, 1) := by decide +kernel
theorem dX0_walk_120 : decode cX0_walk 120 = .ok (.dup, 1) := by decide +kernel
theorem dX0_walk_121 : decode cX0_walk 121 = .ok (.getfield 22, 3) := by decide +kernel
theorem dX0_walk_124 : decode cX0_walk 124 = .ok (.iconst 1, 1) := by decide +kernel
theorem dX0_walk_125 : decode cX0_walk 125 = .ok (.iload_n 1, 1) := by decide +kernel
theorem dX0_walk_126 : decode cX0_walk 126 = .ok (.ishl, 1) := by decide +kernel
theorem dX0_walk_127 : decode cX0_walk 127 = .ok (.ior, 1) := by decide +kernel
theorem dX0_walk_128 : decode cX0_walk 128 = .ok (.putfield 22, 3) := by decide +kernel
theorem dX0_walk_131 : decode cX0_walk 131 = .ok (.return_, 1) := by decide +kernel
theorem dX7_bit_0 : decode cX7_bit 0 = .ok (.lconst 1, 1) := by decide +kernel
theorem dX7_bit_1 : decode cX7_bit 1 = .ok (.iload_n 0, 1) := by decide +kernel
theorem dX7_bit_2 : decode cX7_bit 2 = .ok (.lshl, 1) := by decide +kernel
theorem dX7_bit_3 : decode cX7_bit 3 = .ok (.lreturn, 1) := by decide +kernel
theorem dX7_has_0 : decode cX7_has 0 = .ok (.lload_n 0, 1) := by decide +kernel
theorem dX7_has_1 : decode cX7_has 1 = .ok (.iload_n 2, 1) := by decide +kernel
theorem dX7_has_2 : decode cX7_has 2 = .ok (.lushr, 1) := by decide +kernel
theorem dX7_has_3 : decode cX7_has 3 = .ok (.lconst 1, 1) := by decide +kernel
theorem dX7_has_4 : decode cX7_has 4 = .ok (.land, 1) := by decide +kernel
theorem dX7_has_5 : decode cX7_has 5 = .ok (.lconst 0, 1) := by decide +kernel
theorem dX7_has_6 : decode cX7_has 6 = .ok (.lcmp, 1) := by decide +kernel
theorem dX7_has_7 : decode cX7_has 7 = .ok (.ifCond .eq 7, 3) := by decide +kernel
theorem dX7_has_10 : decode cX7_has 10 = .ok (.iconst 1, 1) := by decide +kernel
theorem dX7_has_11 : decode cX7_has 11 = .ok (.goto 4, 3) := by decide +kernel
theorem dX7_has_14 : decode cX7_has 14 = .ok (.iconst 0, 1) := by decide +kernel
theorem dX7_has_15 : decode cX7_has 15 = .ok (.ireturn, 1) := by decide +kernel
theorem dX7_isField_0 : decode cX7_isField 0 = .ok (.iload_n 0, 1) := by decide +kernel
theorem dX7_isField_1 : decode cX7_isField 1 = .ok (.bipush 6, 2) := by decide +kernel
theorem dX7_isField_3 : decode cX7_isField 3 = .ok (.if_icmp .lt 7, 3) := by decide +kernel
theorem dX7_isField_6 : decode cX7_isField 6 = .ok (.iconst 1, 1) := by decide +kernel
theorem dX7_isField_7 : decode cX7_isField 7 = .ok (.goto 4, 3) := by decide +kernel
theorem dX7_isField_10 : decode cX7_isField 10 = .ok (.iconst 0, 1) := by decide +kernel
theorem dX7_isField_11 : decode cX7_isField 11 = .ok (.ireturn, 1) := by decide +kernel
theorem dX7_isPort_0 : decode cX7_isPort 0 = .ok (.iload_n 0, 1) := by decide +kernel
theorem dX7_isPort_1 : decode cX7_isPort 1 = .ok (.ifCond .lt 13, 3) := by decide +kernel
theorem dX7_isPort_4 : decode cX7_isPort 4 = .ok (.iload_n 0, 1) := by decide +kernel
theorem dX7_isPort_5 : decode cX7_isPort 5 = .ok (.bipush 6, 2) := by decide +kernel
theorem dX7_isPort_7 : decode cX7_isPort 7 = .ok (.if_icmp .ge 7, 3) := by decide +kernel
theorem dX7_isPort_10 : decode cX7_isPort 10 = .ok (.iconst 1, 1) := by decide +kernel
theorem dX7_isPort_11 : decode cX7_isPort 11 = .ok (.goto 4, 3) := by decide +kernel
theorem dX7_isPort_14 : decode cX7_isPort 14 = .ok (.iconst 0, 1) := by decide +kernel
theorem dX7_isPort_15 : decode cX7_isPort 15 = .ok (.ireturn, 1) := by decide +kernel
theorem dX7_portOfField_0 : decode cX7_portOfField 0 = .ok (.iload_n 0, 1) := by decide +kernel
theorem dX7_portOfField_1 : decode cX7_portOfField 1 = .ok (.bipush 6, 2) := by decide +kernel
theorem dX7_portOfField_3 : decode cX7_portOfField 3 = .ok (.isub, 1) := by decide +kernel
theorem dX7_portOfField_4 : decode cX7_portOfField 4 = .ok (.iconst 2, 1) := by decide +kernel
theorem dX7_portOfField_5 : decode cX7_portOfField 5 = .ok (.iadd, 1) := by decide +kernel
theorem dX7_portOfField_6 : decode cX7_portOfField 6 = .ok (.ireturn, 1) := by decide +kernel
