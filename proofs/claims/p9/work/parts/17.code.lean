theorem dX0_allMayEnd_0 : decode cX0_allMayEnd 0 = .ok (.aload_n 0, 1) := by decide +kernel
theorem dX0_allMayEnd_1 : decode cX0_allMayEnd 1 = .ok (.getfield 22, 3) := by decide +kernel
theorem dX0_allMayEnd_4 : decode cX0_allMayEnd 4 = .ok (.aload_n 0, 1) := by decide +kernel
theorem dX0_allMayEnd_5 : decode cX0_allMayEnd 5 = .ok (.getfield 25, 3) := by decide +kernel
theorem dX0_allMayEnd_8 : decode cX0_allMayEnd 8 = .ok (.ior, 1) := by decide +kernel
theorem dX0_allMayEnd_9 : decode cX0_allMayEnd 9 = .ok (.iconst 1, 1) := by decide +kernel
theorem dX0_allMayEnd_10 : decode cX0_allMayEnd 10 = .ok (.aload_n 0, 1) := by decide +kernel
theorem dX0_allMayEnd_11 : decode cX0_allMayEnd 11 = .ok (.getfield 15, 3) := by decide +kernel
theorem dX0_allMayEnd_14 : decode cX0_allMayEnd 14 = .ok (.ishl, 1) := by decide +kernel
theorem dX0_allMayEnd_15 : decode cX0_allMayEnd 15 = .ok (.iconst 1, 1) := by decide +kernel
theorem dX0_allMayEnd_16 : decode cX0_allMayEnd 16 = .ok (.isub, 1) := by decide +kernel
theorem dX0_allMayEnd_17 : decode cX0_allMayEnd 17 = .ok (.if_icmp .ne 7, 3) := by decide +kernel
theorem dX0_allMayEnd_20 : decode cX0_allMayEnd 20 = .ok (.iconst 1, 1) := by decide +kernel
theorem dX0_allMayEnd_21 : decode cX0_allMayEnd 21 = .ok (.goto 4, 3) := by decide +kernel
theorem dX0_allMayEnd_24 : decode cX0_allMayEnd 24 = .ok (.iconst 0, 1) := by decide +kernel
theorem dX0_allMayEnd_25 : decode cX0_allMayEnd 25 = .ok (.ireturn, 1) := by decide +kernel
theorem dX0_callsOf_0 : decode cX0_callsOf 0 = .ok (.lconst 0, 1) := by decide +kernel
theorem dX0_callsOf_1 : decode cX0_callsOf 1 = .ok (.lstore_n 2, 1) := by decide +kernel
theorem dX0_callsOf_2 : decode cX0_callsOf 2 = .ok (.iconst 0, 1) := by decide +kernel
theorem dX0_callsOf_3 : decode cX0_callsOf 3 = .ok (.istore 4, 2) := by decide +kernel
theorem dX0_callsOf_5 : decode cX0_callsOf 5 = .ok (.iload 4, 2) := by decide +kernel
theorem dX0_callsOf_7 : decode cX0_callsOf 7 = .ok (.aload_n 0, 1) := by decide +kernel
theorem dX0_callsOf_8 : decode cX0_callsOf 8 = .ok (.getfield 9, 3) := by decide +kernel
theorem dX0_callsOf_11 : decode cX0_callsOf 11 = .ok (.if_icmp .ge 28, 3) := by decide +kernel
theorem dX0_callsOf_14 : decode cX0_callsOf 14 = .ok (.aload_n 0, 1) := by decide +kernel
theorem dX0_callsOf_15 : decode cX0_callsOf 15 = .ok (.getfield 47, 3) := by decide +kernel
theorem dX0_callsOf_18 : decode cX0_callsOf 18 = .ok (.iload 4, 2) := by decide +kernel
theorem dX0_callsOf_20 : decode cX0_callsOf 20 = .ok (.iaload, 1) := by decide +kernel
theorem dX0_callsOf_21 : decode cX0_callsOf 21 = .ok (.iload_n 1, 1) := by decide +kernel
theorem dX0_callsOf_22 : decode cX0_callsOf 22 = .ok (.if_icmp .ne 11, 3) := by decide +kernel
theorem dX0_callsOf_25 : decode cX0_callsOf 25 = .ok (.lload_n 2, 1) := by decide +kernel
theorem dX0_callsOf_26 : decode cX0_callsOf 26 = .ok (.iload 4, 2) := by decide +kernel
theorem dX0_callsOf_28 : decode cX0_callsOf 28 = .ok (.invokestatic 86, 3) := by decide +kernel
theorem dX0_callsOf_31 : decode cX0_callsOf 31 = .ok (.lor, 1) := by decide +kernel
theorem dX0_callsOf_32 : decode cX0_callsOf 32 = .ok (.lstore_n 2, 1) := by decide +kernel
theorem dX0_callsOf_33 : decode cX0_callsOf 33 = .ok (.iinc 4 1, 3) := by decide +kernel
theorem dX0_callsOf_36 : decode cX0_callsOf 36 = .ok (.goto (-31), 3) := by decide +kernel
theorem dX0_callsOf_39 : decode cX0_callsOf 39 = .ok (.lload_n 2, 1) := by decide +kernel
theorem dX0_callsOf_40 : decode cX0_callsOf 40 = .ok (.lreturn, 1) := by decide +kernel
theorem dX0_callsOnlyTold_0 : decode cX0_callsOnlyTold 0 = .ok (.iconst 1, 1) := by decide +kernel
theorem dX0_callsOnlyTold_1 : decode cX0_callsOnlyTold 1 = .ok (.istore_n 1, 1) := by decide +kernel
theorem dX0_callsOnlyTold_2 : decode cX0_callsOnlyTold 2 = .ok (.iconst 0, 1) := by decide +kernel
theorem dX0_callsOnlyTold_3 : decode cX0_callsOnlyTold 3 = .ok (.istore_n 2, 1) := by decide +kernel
theorem dX0_callsOnlyTold_4 : decode cX0_callsOnlyTold 4 = .ok (.iload_n 2, 1) := by decide +kernel
theorem dX0_callsOnlyTold_5 : decode cX0_callsOnlyTold 5 = .ok (.aload_n 0, 1) := by decide +kernel
theorem dX0_callsOnlyTold_6 : decode cX0_callsOnlyTold 6 = .ok (.getfield 9, 3) := by decide +kernel
theorem dX0_callsOnlyTold_9 : decode cX0_callsOnlyTold 9 = .ok (.if_icmp .ge 30, 3) := by decide +kernel
theorem dX0_callsOnlyTold_12 : decode cX0_callsOnlyTold 12 = .ok (.iload_n 1, 1) := by decide +kernel
theorem dX0_callsOnlyTold_13 : decode cX0_callsOnlyTold 13 = .ok (.aload_n 0, 1) := by decide +kernel
theorem dX0_callsOnlyTold_14 : decode cX0_callsOnlyTold 14 = .ok (.getfield 47, 3) := by decide +kernel
theorem dX0_callsOnlyTold_17 : decode cX0_callsOnlyTold 17 = .ok (.iload_n 2, 1) := by decide +kernel
theorem dX0_callsOnlyTold_18 : decode cX0_callsOnlyTold 18 = .ok (.iaload, 1) := by decide +kernel
theorem dX0_callsOnlyTold_19 : decode cX0_callsOnlyTold 19 = .ok (.aload_n 0, 1) := by decide +kernel
theorem dX0_callsOnlyTold_20 : decode cX0_callsOnlyTold 20 = .ok (.getfield 15, 3) := by decide +kernel
theorem dX0_callsOnlyTold_23 : decode cX0_callsOnlyTold 23 = .ok (.if_icmp .ge 7, 3) := by decide +kernel
theorem dX0_callsOnlyTold_26 : decode cX0_callsOnlyTold 26 = .ok (.iconst 1, 1) := by decide +kernel
theorem dX0_callsOnlyTold_27 : decode cX0_callsOnlyTold 27 = .ok (.goto 4, 3) := by decide +kernel
theorem dX0_callsOnlyTold_30 : decode cX0_callsOnlyTold 30 = .ok (.iconst 0, 1) := by decide +kernel
theorem dX0_callsOnlyTold_31 : decode cX0_callsOnlyTold 31 = .ok (.iand, 1) := by decide +kernel
theorem dX0_callsOnlyTold_32 : decode cX0_callsOnlyTold 32 = .ok (.istore_n 1, 1) := by decide +kernel
theorem dX0_callsOnlyTold_33 : decode cX0_callsOnlyTold 33 = .ok (.iinc 2 1, 3) := by decide +kernel
theorem dX0_callsOnlyTold_36 : decode cX0_callsOnlyTold 36 = .ok (.goto (-32), 3) := by decide +kernel
theorem dX0_callsOnlyTold_39 : decode cX0_callsOnlyTold 39 = .ok (.iload_n 1, 1) := by decide +kernel
theorem dX0_callsOnlyTold_40 : decode cX0_callsOnlyTold 40 = .ok (.ireturn, 1) := by decide +kernel
theorem dX0_decides_0 : decode cX0_decides 0 = .ok (.aload_n 0, 1) := by decide +kernel
theorem dX0_decides_1 : decode cX0_decides 1 = .ok (.getfield 32, 3) := by decide +kernel
theorem dX0_decides_4 : decode cX0_decides 4 = .ok (.iload_n 1, 1) := by decide +kernel
theorem dX0_decides_5 : decode cX0_decides 5 = .ok (.iaload, 1) := by decide +kernel
theorem dX0_decides_6 : decode cX0_decides 6 = .ok (.iconst 1, 1) := by decide +kernel
theorem dX0_decides_7 : decode cX0_decides 7 = .ok (.if_icmp .ne 18, 3) := by decide +kernel
theorem dX0_decides_10 : decode cX0_decides 10 = .ok (.aload_n 0, 1) := by decide +kernel
theorem dX0_decides_11 : decode cX0_decides 11 = .ok (.getfield 25, 3) := by decide +kernel
theorem dX0_decides_14 : decode cX0_decides 14 = .ok (.i2l, 1) := by decide +kernel
theorem dX0_decides_15 : decode cX0_decides 15 = .ok (.aload_n 0, 1) := by decide +kernel
theorem dX0_decides_16 : decode cX0_decides 16 = .ok (.getfield 47, 3) := by decide +kernel
theorem dX0_decides_19 : decode cX0_decides 19 = .ok (.iload_n 1, 1) := by decide +kernel
theorem dX0_decides_20 : decode cX0_decides 20 = .ok (.iaload, 1) := by decide +kernel
theorem dX0_decides_21 : decode cX0_decides 21 = .ok (.invokestatic 74, 3) := by decide +kernel
theorem dX0_decides_24 : decode cX0_decides 24 = .ok (.ireturn, 1) := by decide +kernel
theorem dX0_decides_25 : decode cX0_decides 25 = .ok (.aload_n 0, 1) := by decide +kernel
theorem dX0_decides_26 : decode cX0_decides 26 = .ok (.getfield 32, 3) := by decide +kernel
theorem dX0_decides_29 : decode cX0_decides 29 = .ok (.iload_n 1, 1) := by decide +kernel
theorem dX0_decides_30 : decode cX0_decides 30 = .ok (.iaload, 1) := by decide +kernel
theorem dX0_decides_31 : decode cX0_decides 31 = .ok (.ifCond .eq 7, 3) := by decide +kernel
theorem dX0_decides_34 : decode cX0_decides 34 = .ok (.iconst 1, 1) := by decide +kernel
theorem dX0_decides_35 : decode cX0_decides 35 = .ok (.goto 4, 3) := by decide +kernel
theorem dX0_decides_38 : decode cX0_decides 38 = .ok (.iconst 0, 1) := by decide +kernel
theorem dX0_decides_39 : decode cX0_decides 39 = .ok (.ireturn, 1) := by decide +kernel
theorem dX0_escapes_0 : decode cX0_escapes 0 = .ok (.aload_n 0, 1) := by decide +kernel
theorem dX0_escapes_1 : decode cX0_escapes 1 = .ok (.getfield 68, 3) := by decide +kernel
theorem dX0_escapes_4 : decode cX0_escapes 4 = .ok (.iload_n 1, 1) := by decide +kernel
theorem dX0_escapes_5 : decode cX0_escapes 5 = .ok (.iaload, 1) := by decide +kernel
theorem dX0_escapes_6 : decode cX0_escapes 6 = .ok (.ifCond .lt 5, 3) := by decide +kernel
theorem dX0_escapes_9 : decode cX0_escapes 9 = .ok (.iconst 0, 1) := by decide +kernel
theorem dX0_escapes_10 : decode cX0_escapes 10 = .ok (.ireturn, 1) := by decide +kernel
theorem dX0_escapes_11 : decode cX0_escapes 11 = .ok (.aload_n 0, 1) := by decide +kernel
theorem dX0_escapes_12 : decode cX0_escapes 12 = .ok (.getfield 32, 3) := by decide +kernel
theorem dX0_escapes_15 : decode cX0_escapes 15 = .ok (.iload_n 1, 1) := by decide +kernel
theorem dX0_escapes_16 : decode cX0_escapes 16 = .ok (.iaload, 1) := by decide +kernel
theorem dX0_escapes_17 : decode cX0_escapes 17 = .ok (.iconst 4, 1) := by decide +kernel
theorem dX0_escapes_18 : decode cX0_escapes 18 = .ok (.if_icmp .eq 30, 3) := by decide +kernel
theorem dX0_escapes_21 : decode cX0_escapes 21 = .ok (.aload_n 0, 1) := by decide +kernel
theorem dX0_escapes_22 : decode cX0_escapes 22 = .ok (.getfield 32, 3) := by decide +kernel
theorem dX0_escapes_25 : decode cX0_escapes 25 = .ok (.iload_n 1, 1) := by decide +kernel
theorem dX0_escapes_26 : decode cX0_escapes 26 = .ok (.iaload, 1) := by decide +kernel
theorem dX0_escapes_27 : decode cX0_escapes 27 = .ok (.iconst 1, 1) := by decide +kernel
theorem dX0_escapes_28 : decode cX0_escapes 28 = .ok (.if_icmp .ne 24, 3) := by decide +kernel
theorem dX0_escapes_31 : decode cX0_escapes 31 = .ok (.aload_n 0, 1) := by decide +kernel
theorem dX0_escapes_32 : decode cX0_escapes 32 = .ok (.getfield 25, 3) := by decide +kernel
theorem dX0_escapes_35 : decode cX0_escapes 35 = .ok (.i2l, 1) := by decide +kernel
theorem dX0_escapes_36 : decode cX0_escapes 36 = .ok (.aload_n 0, 1) := by decide +kernel
theorem dX0_escapes_37 : decode cX0_escapes 37 = .ok (.getfield 47, 3) := by decide +kernel
theorem dX0_escapes_40 : decode cX0_escapes 40 = .ok (.iload_n 1, 1) := by decide +kernel
theorem dX0_escapes_41 : decode cX0_escapes 41 = .ok (.iaload, 1) := by decide +kernel
theorem dX0_escapes_42 : decode cX0_escapes 42 = .ok (.invokestatic 74, 3) := by decide +kernel
theorem dX0_escapes_45 : decode cX0_escapes 45 = .ok (.ifCond .eq 7, 3) := by decide +kernel
theorem dX0_escapes_48 : decode cX0_escapes 48 = .ok (.iconst 1, 1) := by decide +kernel
theorem dX0_escapes_49 : decode cX0_escapes 49 = .ok (.goto 4, 3) := by decide +kernel
theorem dX0_escapes_52 : decode cX0_escapes 52 = .ok (.iconst 0, 1) := by decide +kernel
theorem dX0_escapes_53 : decode cX0_escapes 53 = .ok (.ireturn, 1) := by decide +kernel
theorem dX0_goesStraight_0 : decode cX0_goesStraight 0 = .ok (.aload_n 0, 1) := by decide +kernel
theorem dX0_goesStraight_1 : decode cX0_goesStraight 1 = .ok (.getfield 32, 3) := by decide +kernel
theorem dX0_goesStraight_4 : decode cX0_goesStraight 4 = .ok (.iload_n 1, 1) := by decide +kernel
theorem dX0_goesStraight_5 : decode cX0_goesStraight 5 = .ok (.iaload, 1) := by decide +kernel
theorem dX0_goesStraight_6 : decode cX0_goesStraight 6 = .ok (.iconst 1, 1) := by decide +kernel
theorem dX0_goesStraight_7 : decode cX0_goesStraight 7 = .ok (.if_icmp .ne 18, 3) := by decide +kernel
theorem dX0_goesStraight_10 : decode cX0_goesStraight 10 = .ok (.aload_n 0, 1) := by decide +kernel
theorem dX0_goesStraight_11 : decode cX0_goesStraight 11 = .ok (.getfield 22, 3) := by decide +kernel
theorem dX0_goesStraight_14 : decode cX0_goesStraight 14 = .ok (.i2l, 1) := by decide +kernel
theorem dX0_goesStraight_15 : decode cX0_goesStraight 15 = .ok (.aload_n 0, 1) := by decide +kernel
theorem dX0_goesStraight_16 : decode cX0_goesStraight 16 = .ok (.getfield 47, 3) := by decide +kernel
theorem dX0_goesStraight_19 : decode cX0_goesStraight 19 = .ok (.iload_n 1, 1) := by decide +kernel
theorem dX0_goesStraight_20 : decode cX0_goesStraight 20 = .ok (.iaload, 1) := by decide +kernel
theorem dX0_goesStraight_21 : decode cX0_goesStraight 21 = .ok (.invokestatic 74, 3) := by decide +kernel
theorem dX0_goesStraight_24 : decode cX0_goesStraight 24 = .ok (.ireturn, 1) := by decide +kernel
theorem dX0_goesStraight_25 : decode cX0_goesStraight 25 = .ok (.aload_n 0, 1) := by decide +kernel
theorem dX0_goesStraight_26 : decode cX0_goesStraight 26 = .ok (.getfield 32, 3) := by decide +kernel
theorem dX0_goesStraight_29 : decode cX0_goesStraight 29 = .ok (.iload_n 1, 1) := by decide +kernel
theorem dX0_goesStraight_30 : decode cX0_goesStraight 30 = .ok (.iaload, 1) := by decide +kernel
theorem dX0_goesStraight_31 : decode cX0_goesStraight 31 = .ok (.iconst 4, 1) := by decide +kernel
theorem dX0_goesStraight_32 : decode cX0_goesStraight 32 = .ok (.if_icmp .eq 17, 3) := by decide +kernel
theorem dX0_goesStraight_35 : decode cX0_goesStraight 35 = .ok (.aload_n 0, 1) := by decide +kernel
theorem dX0_goesStraight_36 : decode cX0_goesStraight 36 = .ok (.getfield 32, 3) := by decide +kernel
theorem dX0_goesStraight_39 : decode cX0_goesStraight 39 = .ok (.iload_n 1, 1) := by decide +kernel
theorem dX0_goesStraight_40 : decode cX0_goesStraight 40 = .ok (.iaload, 1) := by decide +kernel
theorem dX0_goesStraight_41 : decode cX0_goesStraight 41 = .ok (.iconst 5, 1) := by decide +kernel
theorem dX0_goesStraight_42 : decode cX0_goesStraight 42 = .ok (.if_icmp .eq 7, 3) := by decide +kernel
theorem dX0_goesStraight_45 : decode cX0_goesStraight 45 = .ok (.iconst 1, 1) := by decide +kernel
theorem dX0_goesStraight_46 : decode cX0_goesStraight 46 = .ok (.goto 4, 3) := by decide +kernel
theorem dX0_goesStraight_49 : decode cX0_goesStraight 49 = .ok (.iconst 0, 1) := by decide +kernel
theorem dX0_goesStraight_50 : decode cX0_goesStraight 50 = .ok (.ireturn, 1) := by decide +kernel
theorem dX0_settleEnds_0 : decode cX0_settleEnds 0 = .ok (.iconst 1, 1) := by decide +kernel
theorem dX0_settleEnds_1 : decode cX0_settleEnds 1 = .ok (.istore_n 1, 1) := by decide +kernel
theorem dX0_settleEnds_2 : decode cX0_settleEnds 2 = .ok (.iconst 0, 1) := by decide +kernel
theorem dX0_settleEnds_3 : decode cX0_settleEnds 3 = .ok (.istore_n 2, 1) := by decide +kernel
theorem dX0_settleEnds_4 : decode cX0_settleEnds 4 = .ok (.iload_n 2, 1) := by decide +kernel
theorem dX0_settleEnds_5 : decode cX0_settleEnds 5 = .ok (.bipush 10, 2) := by decide +kernel
theorem dX0_settleEnds_7 : decode cX0_settleEnds 7 = .ok (.if_icmp .gt 71, 3) := by decide +kernel
theorem dX0_settleEnds_10 : decode cX0_settleEnds 10 = .ok (.iload_n 1, 1) := by decide +kernel
theorem dX0_settleEnds_11 : decode cX0_settleEnds 11 = .ok (.ifCond .eq 67, 3) := by decide +kernel
theorem dX0_settleEnds_14 : decode cX0_settleEnds 14 = .ok (.aload_n 0, 1) := by decide +kernel
theorem dX0_settleEnds_15 : decode cX0_settleEnds 15 = .ok (.getfield 22, 3) := by decide +kernel
theorem dX0_settleEnds_18 : decode cX0_settleEnds 18 = .ok (.istore_n 3, 1) := by decide +kernel
theorem dX0_settleEnds_19 : decode cX0_settleEnds 19 = .ok (.aload_n 0, 1) := by decide +kernel
theorem dX0_settleEnds_20 : decode cX0_settleEnds 20 = .ok (.getfield 25, 3) := by decide +kernel
theorem dX0_settleEnds_23 : decode cX0_settleEnds 23 = .ok (.istore 4, 2) := by decide +kernel
theorem dX0_settleEnds_25 : decode cX0_settleEnds 25 = .ok (.iconst 0, 1) := by decide +kernel
theorem dX0_settleEnds_26 : decode cX0_settleEnds 26 = .ok (.istore 5, 2) := by decide +kernel
theorem dX0_settleEnds_28 : decode cX0_settleEnds 28 = .ok (.iload 5, 2) := by decide +kernel
theorem dX0_settleEnds_30 : decode cX0_settleEnds 30 = .ok (.aload_n 0, 1) := by decide +kernel
theorem dX0_settleEnds_31 : decode cX0_settleEnds 31 = .ok (.getfield 15, 3) := by decide +kernel
theorem dX0_settleEnds_34 : decode cX0_settleEnds 34 = .ok (.if_icmp .ge 15, 3) := by decide +kernel
theorem dX0_settleEnds_37 : decode cX0_settleEnds 37 = .ok (.aload_n 0, 1) := by decide +kernel
theorem dX0_settleEnds_38 : decode cX0_settleEnds 38 = .ok (.iload 5, 2) := by decide +kernel
theorem dX0_settleEnds_40 : decode cX0_settleEnds 40 = .ok (.invokevirtual 82, 3) := by decide +kernel
theorem dX0_settleEnds_43 : decode cX0_settleEnds 43 = .ok (.iinc 5 1, 3) := by decide +kernel
theorem dX0_settleEnds_46 : decode cX0_settleEnds 46 = .ok (.goto (-18), 3) := by decide +kernel
theorem dX0_settleEnds_49 : decode cX0_settleEnds 49 = .ok (.iload_n 3, 1) := by decide +kernel
theorem dX0_settleEnds_50 : decode cX0_settleEnds 50 = .ok (.aload_n 0, 1) := by decide +kernel
theorem dX0_settleEnds_51 : decode cX0_settleEnds 51 = .ok (.getfield 22, 3) := by decide +kernel
theorem dX0_settleEnds_54 : decode cX0_settleEnds 54 = .ok (.if_icmp .ne 12, 3) := by decide +kernel
theorem dX0_settleEnds_57 : decode cX0_settleEnds 57 = .ok (.iload 4, 2) := by decide +kernel
theorem dX0_settleEnds_59 : decode cX0_settleEnds 59 = .ok (.aload_n 0, 1) := by decide +kernel
theorem dX0_settleEnds_60 : decode cX0_settleEnds 60 = .ok (.getfield 25, 3) := by decide +kernel
theorem dX0_settleEnds_63 : decode cX0_settleEnds 63 = .ok (.if_icmp .eq 7, 3) := by decide +kernel
theorem dX0_settleEnds_66 : decode cX0_settleEnds 66 = .ok (.iconst 1, 1) := by decide +kernel
theorem dX0_settleEnds_67 : decode cX0_settleEnds 67 = .ok (.goto 4, 3) := by decide +kernel
theorem dX0_settleEnds_70 : decode cX0_settleEnds 70 = .ok (.iconst 0, 1) := by decide +kernel
theorem dX0_settleEnds_71 : decode cX0_settleEnds 71 = .ok (.istore_n 1, 1) := by decide +kernel
theorem dX0_settleEnds_72 : decode cX0_settleEnds 72 = .ok (.iinc 2 1, 3) := by decide +kernel
theorem dX0_settleEnds_75 : decode cX0_settleEnds 75 = .ok (.goto (-71), 3) := by decide +kernel
theorem dX0_settleEnds_78 : decode cX0_settleEnds 78 = .ok (.return_, 1) := by decide +kernel
theorem dX0_tellsAside_0 : decode cX0_tellsAside 0 = .ok (.aload_n 0, 1) := by decide +kernel
theorem dX0_tellsAside_1 : decode cX0_tellsAside 1 = .ok (.getfield 32, 3) := by decide +kernel
theorem dX0_tellsAside_4 : decode cX0_tellsAside 4 = .ok (.iload_n 1, 1) := by decide +kernel
theorem dX0_tellsAside_5 : decode cX0_tellsAside 5 = .ok (.iaload, 1) := by decide +kernel
theorem dX0_tellsAside_6 : decode cX0_tellsAside 6 = .ok (.iconst 1, 1) := by decide +kernel
theorem dX0_tellsAside_7 : decode cX0_tellsAside 7 = .ok (.if_icmp .ne 26, 3) := by decide +kernel
theorem dX0_tellsAside_10 : decode cX0_tellsAside 10 = .ok (.iload_n 2, 1) := by decide +kernel
theorem dX0_tellsAside_11 : decode cX0_tellsAside 11 = .ok (.invokestatic 78, 3) := by decide +kernel
theorem dX0_tellsAside_14 : decode cX0_tellsAside 14 = .ok (.ifCond .ne 13, 3) := by decide +kernel
theorem dX0_tellsAside_17 : decode cX0_tellsAside 17 = .ok (.aload_n 0, 1) := by decide +kernel
theorem dX0_tellsAside_18 : decode cX0_tellsAside 18 = .ok (.getfield 68, 3) := by decide +kernel
theorem dX0_tellsAside_21 : decode cX0_tellsAside 21 = .ok (.iload_n 1, 1) := by decide +kernel
theorem dX0_tellsAside_22 : decode cX0_tellsAside 22 = .ok (.iaload, 1) := by decide +kernel
theorem dX0_tellsAside_23 : decode cX0_tellsAside 23 = .ok (.iload_n 2, 1) := by decide +kernel
theorem dX0_tellsAside_24 : decode cX0_tellsAside 24 = .ok (.if_icmp .ne 7, 3) := by decide +kernel
theorem dX0_tellsAside_27 : decode cX0_tellsAside 27 = .ok (.iconst 1, 1) := by decide +kernel
theorem dX0_tellsAside_28 : decode cX0_tellsAside 28 = .ok (.goto 4, 3) := by decide +kernel
theorem dX0_tellsAside_31 : decode cX0_tellsAside 31 = .ok (.iconst 0, 1) := by decide +kernel
theorem dX0_tellsAside_32 : decode cX0_tellsAside 32 = .ok (.ireturn, 1) := by decide +kernel
theorem dX0_tellsAside_33 : decode cX0_tellsAside 33 = .ok (.aload_n 0, 1) := by decide +kernel
theorem dX0_tellsAside_34 : decode cX0_tellsAside 34 = .ok (.getfield 32, 3) := by decide +kernel
theorem dX0_tellsAside_37 : decode cX0_tellsAside 37 = .ok (.iload_n 1, 1) := by decide +kernel
theorem dX0_tellsAside_38 : decode cX0_tellsAside 38 = .ok (.iaload, 1) := by decide +kernel
theorem dX0_tellsAside_39 : decode cX0_tellsAside 39 = .ok (.iconst 4, 1) := by decide +kernel
theorem dX0_tellsAside_40 : decode cX0_tellsAside 40 = .ok (.if_icmp .ne 17, 3) := by decide +kernel
theorem dX0_tellsAside_43 : decode cX0_tellsAside 43 = .ok (.aload_n 0, 1) := by decide +kernel
theorem dX0_tellsAside_44 : decode cX0_tellsAside 44 = .ok (.getfield 68, 3) := by decide +kernel
theorem dX0_tellsAside_47 : decode cX0_tellsAside 47 = .ok (.iload_n 1, 1) := by decide +kernel
theorem dX0_tellsAside_48 : decode cX0_tellsAside 48 = .ok (.iaload, 1) := by decide +kernel
theorem dX0_tellsAside_49 : decode cX0_tellsAside 49 = .ok (.iload_n 2, 1) := by decide +kernel
theorem dX0_tellsAside_50 : decode cX0_tellsAside 50 = .ok (.if_icmp .ne 7, 3) := by decide +kernel
theorem dX0_tellsAside_53 : decode cX0_tellsAside 53 = .ok (.iconst 1, 1) := by decide +kernel
theorem dX0_tellsAside_54 : decode cX0_tellsAside 54 = .ok (.goto 4, 3) := by decide +kernel
theorem dX0_tellsAside_57 : decode cX0_tellsAside 57 = .ok (.iconst 0, 1) := by decide +kernel
theorem dX0_tellsAside_58 : decode cX0_tellsAside 58 = .ok (.ireturn, 1) := by decide +kernel
theorem dX0_tellsStraight_0 : decode cX0_tellsStraight 0 = .ok (.aload_n 0, 1) := by decide +kernel
theorem dX0_tellsStraight_1 : decode cX0_tellsStraight 1 = .ok (.getfield 32, 3) := by decide +kernel
theorem dX0_tellsStraight_4 : decode cX0_tellsStraight 4 = .ok (.iload_n 1, 1) := by decide +kernel
theorem dX0_tellsStraight_5 : decode cX0_tellsStraight 5 = .ok (.iaload, 1) := by decide +kernel
theorem dX0_tellsStraight_6 : decode cX0_tellsStraight 6 = .ok (.iconst 1, 1) := by decide +kernel
theorem dX0_tellsStraight_7 : decode cX0_tellsStraight 7 = .ok (.if_icmp .ne 12, 3) := by decide +kernel
theorem dX0_tellsStraight_10 : decode cX0_tellsStraight 10 = .ok (.iload_n 2, 1) := by decide +kernel
theorem dX0_tellsStraight_11 : decode cX0_tellsStraight 11 = .ok (.invokestatic 78, 3) := by decide +kernel
theorem dX0_tellsStraight_14 : decode cX0_tellsStraight 14 = .ok (.ifCond .eq 5, 3) := by decide +kernel
theorem dX0_tellsStraight_17 : decode cX0_tellsStraight 17 = .ok (.iconst 1, 1) := by decide +kernel
theorem dX0_tellsStraight_18 : decode cX0_tellsStraight 18 = .ok (.ireturn, 1) := by decide +kernel
theorem dX0_tellsStraight_19 : decode cX0_tellsStraight 19 = .ok (.aload_n 0, 1) := by decide +kernel
theorem dX0_tellsStraight_20 : decode cX0_tellsStraight 20 = .ok (.getfield 44, 3) := by decide +kernel
theorem dX0_tellsStraight_23 : decode cX0_tellsStraight 23 = .ok (.iload_n 1, 1) := by decide +kernel
theorem dX0_tellsStraight_24 : decode cX0_tellsStraight 24 = .ok (.iaload, 1) := by decide +kernel
theorem dX0_tellsStraight_25 : decode cX0_tellsStraight 25 = .ok (.iload_n 2, 1) := by decide +kernel
theorem dX0_tellsStraight_26 : decode cX0_tellsStraight 26 = .ok (.if_icmp .ne 7, 3) := by decide +kernel
theorem dX0_tellsStraight_29 : decode cX0_tellsStraight 29 = .ok (.iconst 1, 1) := by decide +kernel
theorem dX0_tellsStraight_30 : decode cX0_tellsStraight 30 = .ok (.goto 4, 3) := by decide +kernel
theorem dX0_tellsStraight_33 : decode cX0_tellsStraight 33 = .ok (.iconst 0, 1) := by decide +kernel
theorem dX0_tellsStraight_34 : decode cX0_tellsStraight 34 = .ok (.ireturn, 1) := by decide +kernel
theorem dX0_walk_0 : decode cX0_walk 0 = .ok (.aload_n 0, 1) := by decide +kernel
theorem dX0_walk_1 : decode cX0_walk 1 = .ok (.getfield 28, 3) := by decide +kernel
theorem dX0_walk_4 : decode cX0_walk 4 = .ok (.iload_n 1, 1) := by decide +kernel
theorem dX0_walk_5 : decode cX0_walk 5 = .ok (.iaload, 1) := by decide +kernel
theorem dX0_walk_6 : decode cX0_walk 6 = .ok (.invokestatic 86, 3) := by decide +kernel
theorem dX0_walk_9 : decode cX0_walk 9 = .ok (.lstore_n 2, 1) := by decide +kernel
theorem dX0_walk_10 : decode cX0_walk 10 = .ok (.iconst 0, 1) := by decide +kernel
theorem dX0_walk_11 : decode cX0_walk 11 = .ok (.istore 4, 2) := by decide +kernel
theorem dX0_walk_13 : decode cX0_walk 13 = .ok (.iload 4, 2) := by decide +kernel
theorem dX0_walk_15 : decode cX0_walk 15 = .ok (.aload_n 0, 1) := by decide +kernel
theorem dX0_walk_16 : decode cX0_walk 16 = .ok (.getfield 9, 3) := by decide +kernel
theorem dX0_walk_19 : decode cX0_walk 19 = .ok (.if_icmp .ge 89, 3) := by decide +kernel
theorem dX0_walk_22 : decode cX0_walk 22 = .ok (.lload_n 2, 1) := by decide +kernel
theorem dX0_walk_23 : decode cX0_walk 23 = .ok (.iload 4, 2) := by decide +kernel
theorem dX0_walk_25 : decode cX0_walk 25 = .ok (.invokestatic 74, 3) := by decide +kernel
theorem dX0_walk_28 : decode cX0_walk 28 = .ok (.ifCond .ne 6, 3) := by decide +kernel
theorem dX0_walk_31 : decode cX0_walk 31 = .ok (.goto 71, 3) := by decide +kernel
theorem dX0_walk_34 : decode cX0_walk 34 = .ok (.aload_n 0, 1) := by decide +kernel
theorem dX0_walk_35 : decode cX0_walk 35 = .ok (.iload 4, 2) := by decide +kernel
theorem dX0_walk_37 : decode cX0_walk 37 = .ok (.invokevirtual 90, 3) := by decide +kernel
theorem dX0_walk_40 : decode cX0_walk 40 = .ok (.ifCond .eq 16, 3) := by decide +kernel
theorem dX0_walk_43 : decode cX0_walk 43 = .ok (.lload_n 2, 1) := by decide +kernel
theorem dX0_walk_44 : decode cX0_walk 44 = .ok (.aload_n 0, 1) := by decide +kernel
theorem dX0_walk_45 : decode cX0_walk 45 = .ok (.getfield 62, 3) := by decide +kernel
theorem dX0_walk_48 : decode cX0_walk 48 = .ok (.iload 4, 2) := by decide +kernel
theorem dX0_walk_50 : decode cX0_walk 50 = .ok (.iaload, 1) := by decide +kernel
theorem dX0_walk_51 : decode cX0_walk 51 = .ok (.invokestatic 86, 3) := by decide +kernel
theorem dX0_walk_54 : decode cX0_walk 54 = .ok (.lor, 1) := by decide +kernel
theorem dX0_walk_55 : decode cX0_walk 55 = .ok (.lstore_n 2, 1) := by decide +kernel
theorem dX0_walk_56 : decode cX0_walk 56 = .ok (.aload_n 0, 1) := by decide +kernel
theorem dX0_walk_57 : decode cX0_walk 57 = .ok (.iload 4, 2) := by decide +kernel
theorem dX0_walk_59 : decode cX0_walk 59 = .ok (.invokevirtual 93, 3) := by decide +kernel
theorem dX0_walk_62 : decode cX0_walk 62 = .ok (.ifCond .eq 18, 3) := by decide +kernel
theorem dX0_walk_65 : decode cX0_walk 65 = .ok (.aload_n 0, 1) := by decide +kernel
theorem dX0_walk_66 : decode cX0_walk 66 = .ok (.dup, 1) := by decide +kernel
theorem dX0_walk_67 : decode cX0_walk 67 = .ok (.getfield 25, 3) := by decide +kernel
theorem dX0_walk_70 : decode cX0_walk 70 = .ok (.iconst 1, 1) := by decide +kernel
theorem dX0_walk_71 : decode cX0_walk 71 = .ok (.iload_n 1, 1) := by decide +kernel
theorem dX0_walk_72 : decode cX0_walk 72 = .ok (.ishl, 1) := by decide +kernel
theorem dX0_walk_73 : decode cX0_walk 73 = .ok (.ior, 1) := by decide +kernel
theorem dX0_walk_74 : decode cX0_walk 74 = .ok (.putfield 25, 3) := by decide +kernel
theorem dX0_walk_77 : decode cX0_walk 77 = .ok (.goto 25, 3) := by decide +kernel
theorem dX0_walk_80 : decode cX0_walk 80 = .ok (.aload_n 0, 1) := by decide +kernel
theorem dX0_walk_81 : decode cX0_walk 81 = .ok (.iload 4, 2) := by decide +kernel
theorem dX0_walk_83 : decode cX0_walk 83 = .ok (.invokevirtual 96, 3) := by decide +kernel
theorem dX0_walk_86 : decode cX0_walk 86 = .ok (.ifCond .eq 16, 3) := by decide +kernel
theorem dX0_walk_89 : decode cX0_walk 89 = .ok (.lload_n 2, 1) := by decide +kernel
theorem dX0_walk_90 : decode cX0_walk 90 = .ok (.aload_n 0, 1) := by decide +kernel
theorem dX0_walk_91 : decode cX0_walk 91 = .ok (.getfield 65, 3) := by decide +kernel
theorem dX0_walk_94 : decode cX0_walk 94 = .ok (.iload 4, 2) := by decide +kernel
theorem dX0_walk_96 : decode cX0_walk 96 = .ok (.iaload, 1) := by decide +kernel
theorem dX0_walk_97 : decode cX0_walk 97 = .ok (.invokestatic 86, 3) := by decide +kernel
theorem dX0_walk_100 : decode cX0_walk 100 = .ok (.lor, 1) := by decide +kernel
theorem dX0_walk_101 : decode cX0_walk 101 = .ok (.lstore_n 2, 1) := by decide +kernel
theorem dX0_walk_102 : decode cX0_walk 102 = .ok (.iinc 4 1, 3) := by decide +kernel
theorem dX0_walk_105 : decode cX0_walk 105 = .ok (.goto (-92), 3) := by decide +kernel
theorem dX0_walk_108 : decode cX0_walk 108 = .ok (.lload_n 2, 1) := by decide +kernel
theorem dX0_walk_109 : decode cX0_walk 109 = .ok (.bipush 40, 2) := by decide +kernel
theorem dX0_walk_111 : decode cX0_walk 111 = .ok (.iload_n 1, 1) := by decide +kernel
theorem dX0_walk_112 : decode cX0_walk 112 = .ok (.iadd, 1) := by decide +kernel
theorem dX0_walk_113 : decode cX0_walk 113 = .ok (.invokestatic 74, 3) := by decide +kernel
theorem dX0_walk_116 : decode cX0_walk 116 = .ok (.ifCond .eq 15, 3) := by decide +kernel
theorem dX0_walk_119 : decode cX0_walk 119 = .ok (.aload_n 0, 1) := by decide +kernel
theorem dX0_walk_120 : decode cX0_walk 120 = .ok (.dup, 1) := by decide +kernel
theorem dX0_walk_121 : decode cX0_walk 121 = .ok (.getfield 22, 3) := by decide +kernel
theorem dX0_walk_124 : decode cX0_walk 124 = .ok (.iconst 1, 1) := by decide +kernel
theorem dX0_walk_125 : decode cX0_walk 125 = .ok (.iload_n 1, 1) := by decide +kernel
theorem dX0_walk_126 : decode cX0_walk 126 = .ok (.ishl, 1) := by decide +kernel
theorem dX0_walk_127 : decode cX0_walk 127 = .ok (.ior, 1) := by decide +kernel
theorem dX0_walk_128 : decode cX0_walk 128 = .ok (.putfield 22, 3) := by decide +kernel
theorem dX0_walk_131 : decode cX0_walk 131 = .ok (.return_, 1) := by decide +kernel
theorem dX7_bit_0 : decode cX7_bit 0 = .ok (.lconst 1, 1) := by decide +kernel
theorem dX7_bit_1 : decode cX7_bit 1 = .ok (.iload_n 0, 1) := by decide +kernel
theorem dX7_bit_2 : decode cX7_bit 2 = .ok (.lshl, 1) := by decide +kernel
theorem dX7_bit_3 : decode cX7_bit 3 = .ok (.lreturn, 1) := by decide +kernel
theorem dX7_has_0 : decode cX7_has 0 = .ok (.lload_n 0, 1) := by decide +kernel
theorem dX7_has_1 : decode cX7_has 1 = .ok (.iload_n 2, 1) := by decide +kernel
theorem dX7_has_2 : decode cX7_has 2 = .ok (.lushr, 1) := by decide +kernel
theorem dX7_has_3 : decode cX7_has 3 = .ok (.lconst 1, 1) := by decide +kernel
theorem dX7_has_4 : decode cX7_has 4 = .ok (.land, 1) := by decide +kernel
theorem dX7_has_5 : decode cX7_has 5 = .ok (.lconst 0, 1) := by decide +kernel
theorem dX7_has_6 : decode cX7_has 6 = .ok (.lcmp, 1) := by decide +kernel
theorem dX7_has_7 : decode cX7_has 7 = .ok (.ifCond .eq 7, 3) := by decide +kernel
theorem dX7_has_10 : decode cX7_has 10 = .ok (.iconst 1, 1) := by decide +kernel
theorem dX7_has_11 : decode cX7_has 11 = .ok (.goto 4, 3) := by decide +kernel
theorem dX7_has_14 : decode cX7_has 14 = .ok (.iconst 0, 1) := by decide +kernel
theorem dX7_has_15 : decode cX7_has 15 = .ok (.ireturn, 1) := by decide +kernel
theorem dX7_isField_0 : decode cX7_isField 0 = .ok (.iload_n 0, 1) := by decide +kernel
theorem dX7_isField_1 : decode cX7_isField 1 = .ok (.bipush 6, 2) := by decide +kernel
theorem dX7_isField_3 : decode cX7_isField 3 = .ok (.if_icmp .lt 7, 3) := by decide +kernel
theorem dX7_isField_6 : decode cX7_isField 6 = .ok (.iconst 1, 1) := by decide +kernel
theorem dX7_isField_7 : decode cX7_isField 7 = .ok (.goto 4, 3) := by decide +kernel
theorem dX7_isField_10 : decode cX7_isField 10 = .ok (.iconst 0, 1) := by decide +kernel
theorem dX7_isField_11 : decode cX7_isField 11 = .ok (.ireturn, 1) := by decide +kernel
theorem dX7_isPort_0 : decode cX7_isPort 0 = .ok (.iload_n 0, 1) := by decide +kernel
theorem dX7_isPort_1 : decode cX7_isPort 1 = .ok (.ifCond .lt 13, 3) := by decide +kernel
theorem dX7_isPort_4 : decode cX7_isPort 4 = .ok (.iload_n 0, 1) := by decide +kernel
theorem dX7_isPort_5 : decode cX7_isPort 5 = .ok (.bipush 6, 2) := by decide +kernel
theorem dX7_isPort_7 : decode cX7_isPort 7 = .ok (.if_icmp .ge 7, 3) := by decide +kernel
theorem dX7_isPort_10 : decode cX7_isPort 10 = .ok (.iconst 1, 1) := by decide +kernel
theorem dX7_isPort_11 : decode cX7_isPort 11 = .ok (.goto 4, 3) := by decide +kernel
theorem dX7_isPort_14 : decode cX7_isPort 14 = .ok (.iconst 0, 1) := by decide +kernel
theorem dX7_isPort_15 : decode cX7_isPort 15 = .ok (.ireturn, 1) := by decide +kernel
theorem dX7_portOfField_0 : decode cX7_portOfField 0 = .ok (.iload_n 0, 1) := by decide +kernel
theorem dX7_portOfField_1 : decode cX7_portOfField 1 = .ok (.bipush 6, 2) := by decide +kernel
theorem dX7_portOfField_3 : decode cX7_portOfField 3 = .ok (.isub, 1) := by decide +kernel
theorem dX7_portOfField_4 : decode cX7_portOfField 4 = .ok (.iconst 2, 1) := by decide +kernel
theorem dX7_portOfField_5 : decode cX7_portOfField 5 = .ok (.iadd, 1) := by decide +kernel
theorem dX7_portOfField_6 : decode cX7_portOfField 6 = .ok (.ireturn, 1) := by decide +kernel
set_option maxHeartbeats 4000000 in
set_option maxRecDepth 100000 in
theorem s_X7_has (l : Launch) (d : Nat) {P : PP} {h : HP} (hv : Iv P h) (a1 : Int64) (a2 : Int32) : Mt l yX7_has cX7_has 3 (some .boolean) (d + 1) [.long a1, .int a2] h 0 0 (fun r h' => ∃ v : Int32, r = some (.int v) ∧ 0 ≤ v.toInt ∧ v.toInt ≤ 1 ∧ h = h') := by
  refine Mt_iv hv (by decide) (Nat.le_of_ble_eq_true rfl) ?_
  show Go l RX7 cX7_has 3 (g_rm (d + 1) 0 0) "has" (some .boolean) 117 0 0 (fun _ _ => True) (fun r h' => ∃ v : Int32, r = some (.int v) ∧ 0 ≤ v.toInt ∧ v.toInt ≤ 1 ∧ h = h') 0 0 [(0, .long a1), (2, .int a2)] [] h
  have key : ∀ n : Nat, (∀ (s0 : Int32), 0 ≤ s0.toInt → s0.toInt ≤ 1 → (1 : Int) < n → Go l RX7 cX7_has 3 (g_rm (d + 1) 0 0) "has" (some .boolean) 117 0 0 (fun _ _ => True) (fun r h' => ∃ v : Int32, r = some (.int v) ∧ 0 ≤ v.toInt ∧ v.toInt ≤ 1 ∧ h = h') 0 15 [] [.int s0] h) := by
    intro n
    induction n with
    | zero => exact (by intros; omega)
    | succ n ih =>
      refine ?_
      ·
        intro s0 s0l s0u hm
        exact gi_zret (pc := 15) (ti_rfl s0) (by omega) (by omega) ⟨_, rfl, (by rw [show (s0 : Int32).toInt = s0.toInt from (ti_rfl s0)]; omega), (by rw [show (s0 : Int32).toInt = s0.toInt from (ti_rfl s0)]; omega), rfl⟩ hv dX7_has_15
  refine go_lload_n (pc := 0) rfl dX7_has_0 ?_
  refine go_iload_n (pc := 1) rfl dX7_has_1 ?_
  refine gu_lushr (pc := 2) dX7_has_2 (fun v1 => ?_)
  refine go_lconst (pc := 3) (v := 1) (by decide) dX7_has_3 ?_
  refine gu_land (pc := 4) dX7_has_4 (fun v2 => ?_)
  refine go_lconst (pc := 5) (v := 0) (by decide) dX7_has_5 ?_
  refine gu_lcmp (pc := 6) dX7_has_6 (fun v3 => ?_)
  refine gf_if_eq (pc := 7) (tgt := 14) (ti_rfl v3) (by decide) dX7_has_7 (fun q4 => ?_) (fun q4 => ?_)
  ·
    refine go_iconst (pc := 14) (v := 0) (by decide) dX7_has_14 ?_
    have z5 : (0 : Int32).toInt = 0 := (ti_c (v := 0) (a := 0) (by decide))
    exact go_lv rfl ((key 14) 0  (by omega) (by omega) (by omega))
  ·
    refine go_iconst (pc := 10) (v := 1) (by decide) dX7_has_10 ?_
    refine go_goto (pc := 11) (tgt := 15) (by decide) dX7_has_11 ?_
    have z6 : (1 : Int32).toInt = 1 := (ti_c (v := 1) (a := 1) (by decide))
    exact go_lv rfl ((key 14) 1  (by omega) (by omega) (by omega))
set_option maxHeartbeats 4000000 in
set_option maxRecDepth 100000 in
theorem s_X7_bit (l : Launch) (d : Nat) {P : PP} {h : HP} (hv : Iv P h) (a1 : Int32) : Mt l yX7_bit cX7_bit 1 (some .long) (d + 1) [.int a1] h 0 0 (fun r h' => ∃ v : Int64, r = some (.long v) ∧ h = h') := by
  refine Mt_iv hv (by decide) (Nat.le_of_ble_eq_true rfl) ?_
  show Go l RX7 cX7_bit 1 (g_rm (d + 1) 0 0) "bit" (some .long) 117 0 0 (fun _ _ => True) (fun r h' => ∃ v : Int64, r = some (.long v) ∧ h = h') 0 0 [(0, .int a1)] [] h
  refine go_lconst (pc := 0) (v := 1) (by decide) dX7_bit_0 ?_
  refine go_iload_n (pc := 1) rfl dX7_bit_1 ?_
  refine gu_lshl (pc := 2) dX7_bit_2 (fun v1 => ?_)
  exact gi_lret (pc := 3) ⟨_, rfl, rfl⟩ hv dX7_bit_3
set_option maxHeartbeats 4000000 in
set_option maxRecDepth 100000 in
theorem s_X7_isField (l : Launch) (d : Nat) {P : PP} {h : HP} (hv : Iv P h) (a1 : Int32) : Mt l yX7_isField cX7_isField 1 (some .boolean) (d + 1) [.int a1] h 0 0 (fun r h' => ∃ v : Int32, r = some (.int v) ∧ 0 ≤ v.toInt ∧ v.toInt ≤ 1 ∧ h = h' ∧ (v.toInt = 1 → 6 ≤ a1.toInt) ∧ (v.toInt = 0 → a1.toInt ≤ 5)) := by
  refine Mt_iv hv (by decide) (Nat.le_of_ble_eq_true rfl) ?_
  show Go l RX7 cX7_isField 1 (g_rm (d + 1) 0 0) "isField" (some .boolean) 117 0 0 (fun _ _ => True) (fun r h' => ∃ v : Int32, r = some (.int v) ∧ 0 ≤ v.toInt ∧ v.toInt ≤ 1 ∧ h = h' ∧ (v.toInt = 1 → 6 ≤ a1.toInt) ∧ (v.toInt = 0 → a1.toInt ≤ 5)) 0 0 [(0, .int a1)] [] h
  refine go_iload_n (pc := 0) rfl dX7_isField_0 ?_
  refine go_bipush (pc := 1) (v := 6) (by decide) dX7_isField_1 ?_
  refine gf_icmp_lt (pc := 3) (tgt := 10) (ti_rfl a1) (ti_c (v := 6) (a := 6) (by decide)) (by decide) dX7_isField_3 (fun q1 => ?_) (fun q1 => ?_)
  ·
    refine go_iconst (pc := 10) (v := 0) (by decide) dX7_isField_10 ?_
    exact gi_zret (pc := 11) (ti_c (v := 0) (a := 0) (by decide)) (by omega) (by omega) ⟨_, rfl, (by rw [show (0 : Int32).toInt = 0 from (ti_c (v := 0) (a := 0) (by decide))]; omega), (by rw [show (0 : Int32).toInt = 0 from (ti_c (v := 0) (a := 0) (by decide))]; omega), rfl, (by rw [show (0 : Int32).toInt = 0 from (ti_c (v := 0) (a := 0) (by decide))]; omega), (by rw [show (0 : Int32).toInt = 0 from (ti_c (v := 0) (a := 0) (by decide))]; omega)⟩ hv dX7_isField_11
  ·
    refine go_iconst (pc := 6) (v := 1) (by decide) dX7_isField_6 ?_
    refine go_goto (pc := 7) (tgt := 11) (by decide) dX7_isField_7 ?_
    exact gi_zret (pc := 11) (ti_c (v := 1) (a := 1) (by decide)) (by omega) (by omega) ⟨_, rfl, (by rw [show (1 : Int32).toInt = 1 from (ti_c (v := 1) (a := 1) (by decide))]; omega), (by rw [show (1 : Int32).toInt = 1 from (ti_c (v := 1) (a := 1) (by decide))]; omega), rfl, (by rw [show (1 : Int32).toInt = 1 from (ti_c (v := 1) (a := 1) (by decide))]; omega), (by rw [show (1 : Int32).toInt = 1 from (ti_c (v := 1) (a := 1) (by decide))]; omega)⟩ hv dX7_isField_11
set_option maxHeartbeats 4000000 in
set_option maxRecDepth 100000 in
theorem s_X7_portOfField (l : Launch) (d : Nat) {P : PP} {h : HP} (hv : Iv P h) (a1 : Int32) (a1l : 6 ≤ a1.toInt) (a1u : a1.toInt ≤ 9) : Mt l yX7_portOfField cX7_portOfField 1 (some .int) (d + 1) [.int a1] h 0 0 (fun r h' => ∃ v : Int32, r = some (.int v) ∧ 2 ≤ v.toInt ∧ v.toInt ≤ 5 ∧ h = h') := by
  refine Mt_iv hv (by decide) (Nat.le_of_ble_eq_true rfl) ?_
  show Go l RX7 cX7_portOfField 1 (g_rm (d + 1) 0 0) "portOfField" (some .int) 117 0 0 (fun _ _ => True) (fun r h' => ∃ v : Int32, r = some (.int v) ∧ 2 ≤ v.toInt ∧ v.toInt ≤ 5 ∧ h = h') 0 0 [(0, .int a1)] [] h
  refine go_iload_n (pc := 0) rfl dX7_portOfField_0 ?_
  refine go_bipush (pc := 1) (v := 6) (by decide) dX7_portOfField_1 ?_
  refine gf_isub (pc := 3) (ti_rfl a1) (ti_c (v := 6) (a := 6) (by decide)) (by omega) (by omega) dX7_portOfField_3 (fun v1 e2 => ?_)
  refine go_iconst (pc := 4) (v := 2) (by decide) dX7_portOfField_4 ?_
  refine gf_iadd (pc := 5) e2 (ti_c (v := 2) (a := 2) (by decide)) (by omega) (by omega) dX7_portOfField_5 (fun v3 e4 => ?_)
  exact gi_iret (pc := 6) e4 ⟨_, rfl, (by rw [show (v3 : Int32).toInt = ((a1.toInt - 6) + 2) from e4]; omega), (by rw [show (v3 : Int32).toInt = ((a1.toInt - 6) + 2) from e4]; omega), rfl⟩ hv dX7_portOfField_6
set_option maxHeartbeats 4000000 in
set_option maxRecDepth 100000 in
theorem s_X7_isPort (l : Launch) (d : Nat) {P : PP} {h : HP} (hv : Iv P h) (a1 : Int32) : Mt l yX7_isPort cX7_isPort 1 (some .boolean) (d + 1) [.int a1] h 0 0 (fun r h' => ∃ v : Int32, r = some (.int v) ∧ 0 ≤ v.toInt ∧ v.toInt ≤ 1 ∧ h = h' ∧ (v.toInt = 1 → 0 ≤ a1.toInt ∧ a1.toInt ≤ 5)) := by
  refine Mt_iv hv (by decide) (Nat.le_of_ble_eq_true rfl) ?_
  show Go l RX7 cX7_isPort 1 (g_rm (d + 1) 0 0) "isPort" (some .boolean) 117 0 0 (fun _ _ => True) (fun r h' => ∃ v : Int32, r = some (.int v) ∧ 0 ≤ v.toInt ∧ v.toInt ≤ 1 ∧ h = h' ∧ (v.toInt = 1 → 0 ≤ a1.toInt ∧ a1.toInt ≤ 5)) 0 0 [(0, .int a1)] [] h
  refine go_iload_n (pc := 0) rfl dX7_isPort_0 ?_
  refine gf_if_lt (pc := 1) (tgt := 14) (ti_rfl a1) (by decide) dX7_isPort_1 (fun q1 => ?_) (fun q1 => ?_)
  ·
    refine go_iconst (pc := 14) (v := 0) (by decide) dX7_isPort_14 ?_
    exact gi_zret (pc := 15) (ti_c (v := 0) (a := 0) (by decide)) (by omega) (by omega) ⟨_, rfl, (by rw [show (0 : Int32).toInt = 0 from (ti_c (v := 0) (a := 0) (by decide))]; omega), (by rw [show (0 : Int32).toInt = 0 from (ti_c (v := 0) (a := 0) (by decide))]; omega), rfl, (by rw [show (0 : Int32).toInt = 0 from (ti_c (v := 0) (a := 0) (by decide))]; omega)⟩ hv dX7_isPort_15
  ·
    refine go_iload_n (pc := 4) rfl dX7_isPort_4 ?_
    refine go_bipush (pc := 5) (v := 6) (by decide) dX7_isPort_5 ?_
    refine gf_icmp_ge (pc := 7) (tgt := 14) (ti_rfl a1) (ti_c (v := 6) (a := 6) (by decide)) (by decide) dX7_isPort_7 (fun q2 => ?_) (fun q2 => ?_)
    ·
      refine go_iconst (pc := 14) (v := 0) (by decide) dX7_isPort_14 ?_
      exact gi_zret (pc := 15) (ti_c (v := 0) (a := 0) (by decide)) (by omega) (by omega) ⟨_, rfl, (by rw [show (0 : Int32).toInt = 0 from (ti_c (v := 0) (a := 0) (by decide))]; omega), (by rw [show (0 : Int32).toInt = 0 from (ti_c (v := 0) (a := 0) (by decide))]; omega), rfl, (by rw [show (0 : Int32).toInt = 0 from (ti_c (v := 0) (a := 0) (by decide))]; omega)⟩ hv dX7_isPort_15
    ·
      refine go_iconst (pc := 10) (v := 1) (by decide) dX7_isPort_10 ?_
      refine go_goto (pc := 11) (tgt := 15) (by decide) dX7_isPort_11 ?_
      exact gi_zret (pc := 15) (ti_c (v := 1) (a := 1) (by decide)) (by omega) (by omega) ⟨_, rfl, (by rw [show (1 : Int32).toInt = 1 from (ti_c (v := 1) (a := 1) (by decide))]; omega), (by rw [show (1 : Int32).toInt = 1 from (ti_c (v := 1) (a := 1) (by decide))]; omega), rfl, (by rw [show (1 : Int32).toInt = 1 from (ti_c (v := 1) (a := 1) (by decide))]; omega)⟩ hv dX7_isPort_15
set_option maxHeartbeats 4000000 in
set_option maxRecDepth 100000 in
theorem s_X0_decides (l : Launch) (d : Nat) {P : PP} {h : HP} (hv : Iv P h) (c1 : Nat) (hc1 : c1 = 2 ∨ c1 = 18) (a2 : Int32) (a2l : 0 ≤ a2.toInt) (a2u : a2.toInt ≤ 39) : Mt l yX0_decides cX0_decides 2 (some .boolean) (d + 2) [.ref c1, .int a2] h 0 0 (fun r h' => ∃ v : Int32, r = some (.int v) ∧ 0 ≤ v.toInt ∧ v.toInt ≤ 1 ∧ h = h') := by
  refine Mt_iv hv (by decide) (Nat.le_of_ble_eq_true rfl) ?_
  show Go l RX0 cX0_decides 2 (g_rm (d + 2) 0 0) "decides" (some .boolean) 117 0 0 (fun _ _ => True) (fun r h' => ∃ v : Int32, r = some (.int v) ∧ 0 ≤ v.toInt ∧ v.toInt ≤ 1 ∧ h = h') 0 0 [(0, .ref c1), (1, .int a2)] [] h
  have key : ∀ n : Nat, (∀ (s0 : Int32), 0 ≤ s0.toInt → s0.toInt ≤ 1 → (1 : Int) < n → Go l RX0 cX0_decides 2 (g_rm (d + 2) 0 0) "decides" (some .boolean) 117 0 0 (fun _ _ => True) (fun r h' => ∃ v : Int32, r = some (.int v) ∧ 0 ≤ v.toInt ∧ v.toInt ≤ 1 ∧ h = h') 0 39 [] [.int s0] h) := by
    intro n
    induction n with
    | zero => exact (by intros; omega)
    | succ n ih =>
      refine ?_
      ·
        intro s0 s0l s0u hm
        exact gi_zret (pc := 39) (ti_rfl s0) (by omega) (by omega) ⟨_, rfl, (by rw [show (s0 : Int32).toInt = s0.toInt from (ti_rfl s0)]; omega), (by rw [show (s0 : Int32).toInt = s0.toInt from (ti_rfl s0)]; omega), rfl⟩ hv dX0_decides_39
  refine go_aload_n (pc := 0) rfl dX0_decides_0 ?_
  refine gi_getF (pc := 1) (q := c1 + 2) hv fL_X0_32 (by rcases hc1 with rfl | rfl <;> rfl) (Nat.le_of_ble_eq_true rfl) rfl (by rcases hc1 with rfl | rfl <;> exact hv.rf (by decide)) dX0_decides_1 ?_
  refine go_iload_n (pc := 4) rfl dX0_decides_4 ?_
  refine gi_iald (pc := 5) (lo := 0) (hi := 5) (len := 40) hv (ti_rfl a2) (by rcases hc1 with rfl | rfl <;> rfl) (by omega) (by omega) (fun _ => by rcases hc1 with rfl | rfl <;> rfl) dX0_decides_5 (fun v1 v1l v1u v1w => ?_)
  refine go_iconst (pc := 6) (v := 1) (by decide) dX0_decides_6 ?_
  refine gf_icmp_ne (pc := 7) (tgt := 25) (ti_rfl v1) (ti_c (v := 1) (a := 1) (by decide)) (by decide) dX0_decides_7 (fun q2 => ?_) (fun q2 => ?_)
  ·
    refine go_aload_n (pc := 25) rfl dX0_decides_25 ?_
    refine gi_getF (pc := 26) (q := c1 + 2) hv fL_X0_32 (by rcases hc1 with rfl | rfl <;> rfl) (Nat.le_of_ble_eq_true rfl) rfl (by rcases hc1 with rfl | rfl <;> exact hv.rf (by decide)) dX0_decides_26 ?_
    refine go_iload_n (pc := 29) rfl dX0_decides_29 ?_
    refine gi_iald (pc := 30) (lo := 0) (hi := 5) (len := 40) hv (ti_rfl a2) (by rcases hc1 with rfl | rfl <;> rfl) (by omega) (by omega) (fun _ => by rcases hc1 with rfl | rfl <;> rfl) dX0_decides_30 (fun v3 v3l v3u v3w => ?_)
    refine gf_if_eq (pc := 31) (tgt := 38) (ti_rfl v3) (by decide) dX0_decides_31 (fun q4 => ?_) (fun q4 => ?_)
    ·
      refine go_iconst (pc := 38) (v := 0) (by decide) dX0_decides_38 ?_
      have z5 : (0 : Int32).toInt = 0 := (ti_c (v := 0) (a := 0) (by decide))
      exact go_lv rfl ((key 14) 0  (by omega) (by omega) (by omega))
    ·
      refine go_iconst (pc := 34) (v := 1) (by decide) dX0_decides_34 ?_
      refine go_goto (pc := 35) (tgt := 39) (by decide) dX0_decides_35 ?_
      have z6 : (1 : Int32).toInt = 1 := (ti_c (v := 1) (a := 1) (by decide))
      exact go_lv rfl ((key 14) 1  (by omega) (by omega) (by omega))
  ·
    refine go_aload_n (pc := 10) rfl dX0_decides_10 ?_
    refine gi_get (pc := 11) (lo := -2147483648) (hi := 2147483647) hv fL_X0_25 (by rcases hc1 with rfl | rfl <;> rfl) (Nat.le_of_ble_eq_true rfl) rfl (by rcases hc1 with rfl | rfl <;> rfl) dX0_decides_11 (fun v7 v7l v7u v7w => ?_)
    refine gu_i2l (pc := 14) dX0_decides_14 (fun v8 => ?_)
    refine go_aload_n (pc := 15) rfl dX0_decides_15 ?_
    refine gi_getF (pc := 16) (q := c1 + 7) hv fL_X0_47 (by rcases hc1 with rfl | rfl <;> rfl) (Nat.le_of_ble_eq_true rfl) rfl (by rcases hc1 with rfl | rfl <;> exact hv.rf (by decide)) dX0_decides_16 ?_
    refine go_iload_n (pc := 19) rfl dX0_decides_19 ?_
    refine gi_iald (pc := 20) (lo := -2) (hi := 4) (len := 40) hv (ti_rfl a2) (by rcases hc1 with rfl | rfl <;> rfl) (by omega) (by omega) (fun _ => by rcases hc1 with rfl | rfl <;> rfl) dX0_decides_20 (fun v9 v9l v9u v9w => ?_)
    refine go_invS (pc := 21) (sl := 0) (s_X7_has l (d + 0) hv v8 v9) mL_X0_74 iM_X7_has rfl rfl (Nat.le_of_ble_eq_true rfl) (show d + 0 + 1 + 1 ≤ d + 2 by omega) (show 8 + (3 + 11) + 40 * (d + 0 + 1) ≤ 40 * (d + 2) by omega) (g_c0 hv.ln) (Nat.le_of_ble_eq_true rfl) dX0_decides_21 ?_
    intro r h10 hq _
    obtain ⟨v11, rfl, v11l, v11u, rfl⟩ := hq
    exact gi_zret (pc := 24) (ti_rfl v11) (by omega) (by omega) ⟨_, rfl, (by rw [show (v11 : Int32).toInt = v11.toInt from (ti_rfl v11)]; omega), (by rw [show (v11 : Int32).toInt = v11.toInt from (ti_rfl v11)]; omega), rfl⟩ hv dX0_decides_24
set_option maxHeartbeats 4000000 in
set_option maxRecDepth 100000 in
theorem s_X0_goesStraight (l : Launch) (d : Nat) {P : PP} {h : HP} (hv : Iv P h) (c1 : Nat) (hc1 : c1 = 2 ∨ c1 = 18) (a2 : Int32) (a2l : 0 ≤ a2.toInt) (a2u : a2.toInt ≤ 39) : Mt l yX0_goesStraight cX0_goesStraight 2 (some .boolean) (d + 2) [.ref c1, .int a2] h 0 0 (fun r h' => ∃ v : Int32, r = some (.int v) ∧ 0 ≤ v.toInt ∧ v.toInt ≤ 1 ∧ h = h') := by
  refine Mt_iv hv (by decide) (Nat.le_of_ble_eq_true rfl) ?_
  show Go l RX0 cX0_goesStraight 2 (g_rm (d + 2) 0 0) "goesStraight" (some .boolean) 117 0 0 (fun _ _ => True) (fun r h' => ∃ v : Int32, r = some (.int v) ∧ 0 ≤ v.toInt ∧ v.toInt ≤ 1 ∧ h = h') 0 0 [(0, .ref c1), (1, .int a2)] [] h
  have key : ∀ n : Nat, (∀ (_ : Unit), (2 : Int) < n → Go l RX0 cX0_goesStraight 2 (g_rm (d + 2) 0 0) "goesStraight" (some .boolean) 117 0 0 (fun _ _ => True) (fun r h' => ∃ v : Int32, r = some (.int v) ∧ 0 ≤ v.toInt ∧ v.toInt ≤ 1 ∧ h = h') 0 49 [] [] h) ∧ (∀ (s0 : Int32), 0 ≤ s0.toInt → s0.toInt ≤ 1 → (1 : Int) < n → Go l RX0 cX0_goesStraight 2 (g_rm (d + 2) 0 0) "goesStraight" (some .boolean) 117 0 0 (fun _ _ => True) (fun r h' => ∃ v : Int32, r = some (.int v) ∧ 0 ≤ v.toInt ∧ v.toInt ≤ 1 ∧ h = h') 0 50 [] [.int s0] h) := by
    intro n
    induction n with
    | zero => exact ⟨(by intros; omega), (by intros; omega)⟩
    | succ n ih =>
      refine ⟨?_, ?_⟩
      ·
        intro _ hm
        refine go_iconst (pc := 49) (v := 0) (by decide) dX0_goesStraight_49 ?_
        have z1 : (0 : Int32).toInt = 0 := (ti_c (v := 0) (a := 0) (by decide))
        exact go_lv rfl (ih.2 0  (by omega) (by omega) (by omega))
      ·
        intro s0 s0l s0u hm
        exact gi_zret (pc := 50) (ti_rfl s0) (by omega) (by omega) ⟨_, rfl, (by rw [show (s0 : Int32).toInt = s0.toInt from (ti_rfl s0)]; omega), (by rw [show (s0 : Int32).toInt = s0.toInt from (ti_rfl s0)]; omega), rfl⟩ hv dX0_goesStraight_50
  refine go_aload_n (pc := 0) rfl dX0_goesStraight_0 ?_
  refine gi_getF (pc := 1) (q := c1 + 2) hv fL_X0_32 (by rcases hc1 with rfl | rfl <;> rfl) (Nat.le_of_ble_eq_true rfl) rfl (by rcases hc1 with rfl | rfl <;> exact hv.rf (by decide)) dX0_goesStraight_1 ?_
  refine go_iload_n (pc := 4) rfl dX0_goesStraight_4 ?_
  refine gi_iald (pc := 5) (lo := 0) (hi := 5) (len := 40) hv (ti_rfl a2) (by rcases hc1 with rfl | rfl <;> rfl) (by omega) (by omega) (fun _ => by rcases hc1 with rfl | rfl <;> rfl) dX0_goesStraight_5 (fun v2 v2l v2u v2w => ?_)
  refine go_iconst (pc := 6) (v := 1) (by decide) dX0_goesStraight_6 ?_
  refine gf_icmp_ne (pc := 7) (tgt := 25) (ti_rfl v2) (ti_c (v := 1) (a := 1) (by decide)) (by decide) dX0_goesStraight_7 (fun q3 => ?_) (fun q3 => ?_)
  ·
    refine go_aload_n (pc := 25) rfl dX0_goesStraight_25 ?_
    refine gi_getF (pc := 26) (q := c1 + 2) hv fL_X0_32 (by rcases hc1 with rfl | rfl <;> rfl) (Nat.le_of_ble_eq_true rfl) rfl (by rcases hc1 with rfl | rfl <;> exact hv.rf (by decide)) dX0_goesStraight_26 ?_
    refine go_iload_n (pc := 29) rfl dX0_goesStraight_29 ?_
    refine gi_iald (pc := 30) (lo := 0) (hi := 5) (len := 40) hv (ti_rfl a2) (by rcases hc1 with rfl | rfl <;> rfl) (by omega) (by omega) (fun _ => by rcases hc1 with rfl | rfl <;> rfl) dX0_goesStraight_30 (fun v4 v4l v4u v4w => ?_)
    refine go_iconst (pc := 31) (v := 4) (by decide) dX0_goesStraight_31 ?_
    refine gf_icmp_eq (pc := 32) (tgt := 49) (ti_rfl v4) (ti_c (v := 4) (a := 4) (by decide)) (by decide) dX0_goesStraight_32 (fun q5 => ?_) (fun q5 => ?_)
    ·
      exact go_lv rfl ((key 15).1 ()   (by omega))
    ·
      refine go_aload_n (pc := 35) rfl dX0_goesStraight_35 ?_
      refine gi_getF (pc := 36) (q := c1 + 2) hv fL_X0_32 (by rcases hc1 with rfl | rfl <;> rfl) (Nat.le_of_ble_eq_true rfl) rfl (by rcases hc1 with rfl | rfl <;> exact hv.rf (by decide)) dX0_goesStraight_36 ?_
      refine go_iload_n (pc := 39) rfl dX0_goesStraight_39 ?_
      refine gi_iald (pc := 40) (lo := 0) (hi := 5) (len := 40) hv (ti_rfl a2) (by rcases hc1 with rfl | rfl <;> rfl) (by omega) (by omega) (fun _ => by rcases hc1 with rfl | rfl <;> rfl) dX0_goesStraight_40 (fun v6 v6l v6u v6w => ?_)
      refine go_iconst (pc := 41) (v := 5) (by decide) dX0_goesStraight_41 ?_
      refine gf_icmp_eq (pc := 42) (tgt := 49) (ti_rfl v6) (ti_c (v := 5) (a := 5) (by decide)) (by decide) dX0_goesStraight_42 (fun q7 => ?_) (fun q7 => ?_)
      ·
        exact go_lv rfl ((key 15).1 ()   (by omega))
      ·
        refine go_iconst (pc := 45) (v := 1) (by decide) dX0_goesStraight_45 ?_
        refine go_goto (pc := 46) (tgt := 50) (by decide) dX0_goesStraight_46 ?_
        have z8 : (1 : Int32).toInt = 1 := (ti_c (v := 1) (a := 1) (by decide))
        exact go_lv rfl ((key 15).2 1  (by omega) (by omega) (by omega))
  ·
    refine go_aload_n (pc := 10) rfl dX0_goesStraight_10 ?_
    refine gi_get (pc := 11) (lo := -2147483648) (hi := 2147483647) hv fL_X0_22 (by rcases hc1 with rfl | rfl <;> rfl) (Nat.le_of_ble_eq_true rfl) rfl (by rcases hc1 with rfl | rfl <;> rfl) dX0_goesStraight_11 (fun v9 v9l v9u v9w => ?_)
    refine gu_i2l (pc := 14) dX0_goesStraight_14 (fun v10 => ?_)
    refine go_aload_n (pc := 15) rfl dX0_goesStraight_15 ?_
    refine gi_getF (pc := 16) (q := c1 + 7) hv fL_X0_47 (by rcases hc1 with rfl | rfl <;> rfl) (Nat.le_of_ble_eq_true rfl) rfl (by rcases hc1 with rfl | rfl <;> exact hv.rf (by decide)) dX0_goesStraight_16 ?_
    refine go_iload_n (pc := 19) rfl dX0_goesStraight_19 ?_
    refine gi_iald (pc := 20) (lo := -2) (hi := 4) (len := 40) hv (ti_rfl a2) (by rcases hc1 with rfl | rfl <;> rfl) (by omega) (by omega) (fun _ => by rcases hc1 with rfl | rfl <;> rfl) dX0_goesStraight_20 (fun v11 v11l v11u v11w => ?_)
    refine go_invS (pc := 21) (sl := 0) (s_X7_has l (d + 0) hv v10 v11) mL_X0_74 iM_X7_has rfl rfl (Nat.le_of_ble_eq_true rfl) (show d + 0 + 1 + 1 ≤ d + 2 by omega) (show 8 + (3 + 11) + 40 * (d + 0 + 1) ≤ 40 * (d + 2) by omega) (g_c0 hv.ln) (Nat.le_of_ble_eq_true rfl) dX0_goesStraight_21 ?_
    intro r h12 hq _
    obtain ⟨v13, rfl, v13l, v13u, rfl⟩ := hq
    exact gi_zret (pc := 24) (ti_rfl v13) (by omega) (by omega) ⟨_, rfl, (by rw [show (v13 : Int32).toInt = v13.toInt from (ti_rfl v13)]; omega), (by rw [show (v13 : Int32).toInt = v13.toInt from (ti_rfl v13)]; omega), rfl⟩ hv dX0_goesStraight_24
set_option maxHeartbeats 4000000 in
set_option maxRecDepth 100000 in
theorem s_X0_escapes (l : Launch) (d : Nat) {P : PP} {h : HP} (hv : Iv P h) (c1 : Nat) (hc1 : c1 = 2 ∨ c1 = 18) (a2 : Int32) (a2l : 0 ≤ a2.toInt) (a2u : a2.toInt ≤ 39) : Mt l yX0_escapes cX0_escapes 2 (some .boolean) (d + 2) [.ref c1, .int a2] h 0 0 (fun r h' => ∃ v : Int32, r = some (.int v) ∧ 0 ≤ v.toInt ∧ v.toInt ≤ 1 ∧ h = h') := by
  refine Mt_iv hv (by decide) (Nat.le_of_ble_eq_true rfl) ?_
  show Go l RX0 cX0_escapes 2 (g_rm (d + 2) 0 0) "escapes" (some .boolean) 117 0 0 (fun _ _ => True) (fun r h' => ∃ v : Int32, r = some (.int v) ∧ 0 ≤ v.toInt ∧ v.toInt ≤ 1 ∧ h = h') 0 0 [(0, .ref c1), (1, .int a2)] [] h
  have key : ∀ n : Nat, (∀ (_ : Unit), (2 : Int) < n → Go l RX0 cX0_escapes 2 (g_rm (d + 2) 0 0) "escapes" (some .boolean) 117 0 0 (fun _ _ => True) (fun r h' => ∃ v : Int32, r = some (.int v) ∧ 0 ≤ v.toInt ∧ v.toInt ≤ 1 ∧ h = h') 0 48 [] [] h) ∧ (∀ (_ : Unit), (3 : Int) < n → Go l RX0 cX0_escapes 2 (g_rm (d + 2) 0 0) "escapes" (some .boolean) 117 0 0 (fun _ _ => True) (fun r h' => ∃ v : Int32, r = some (.int v) ∧ 0 ≤ v.toInt ∧ v.toInt ≤ 1 ∧ h = h') 0 52 [] [] h) ∧ (∀ (s0 : Int32), 0 ≤ s0.toInt → s0.toInt ≤ 1 → (1 : Int) < n → Go l RX0 cX0_escapes 2 (g_rm (d + 2) 0 0) "escapes" (some .boolean) 117 0 0 (fun _ _ => True) (fun r h' => ∃ v : Int32, r = some (.int v) ∧ 0 ≤ v.toInt ∧ v.toInt ≤ 1 ∧ h = h') 0 53 [] [.int s0] h) := by
    intro n
    induction n with
    | zero => exact ⟨(by intros; omega), (by intros; omega), (by intros; omega)⟩
    | succ n ih =>
      refine ⟨?_, ?_, ?_⟩
      ·
        intro _ hm
        refine go_iconst (pc := 48) (v := 1) (by decide) dX0_escapes_48 ?_
        refine go_goto (pc := 49) (tgt := 53) (by decide) dX0_escapes_49 ?_
        have z1 : (1 : Int32).toInt = 1 := (ti_c (v := 1) (a := 1) (by decide))
        exact go_lv rfl (ih.2.2 1  (by omega) (by omega) (by omega))
      ·
        intro _ hm
        refine go_iconst (pc := 52) (v := 0) (by decide) dX0_escapes_52 ?_
        have z2 : (0 : Int32).toInt = 0 := (ti_c (v := 0) (a := 0) (by decide))
        exact go_lv rfl (ih.2.2 0  (by omega) (by omega) (by omega))
      ·
        intro s0 s0l s0u hm
        exact gi_zret (pc := 53) (ti_rfl s0) (by omega) (by omega) ⟨_, rfl, (by rw [show (s0 : Int32).toInt = s0.toInt from (ti_rfl s0)]; omega), (by rw [show (s0 : Int32).toInt = s0.toInt from (ti_rfl s0)]; omega), rfl⟩ hv dX0_escapes_53
  refine go_aload_n (pc := 0) rfl dX0_escapes_0 ?_
  refine gi_getF (pc := 1) (q := c1 + 14) hv fL_X0_68 (by rcases hc1 with rfl | rfl <;> rfl) (Nat.le_of_ble_eq_true rfl) rfl (by rcases hc1 with rfl | rfl <;> exact hv.rf (by decide)) dX0_escapes_1 ?_
  refine go_iload_n (pc := 4) rfl dX0_escapes_4 ?_
  refine gi_iald (pc := 5) (lo := -1) (hi := 5) (len := 40) hv (ti_rfl a2) (by rcases hc1 with rfl | rfl <;> rfl) (by omega) (by omega) (fun _ => by rcases hc1 with rfl | rfl <;> rfl) dX0_escapes_5 (fun v3 v3l v3u v3w => ?_)
  refine gf_if_lt (pc := 6) (tgt := 11) (ti_rfl v3) (by decide) dX0_escapes_6 (fun q4 => ?_) (fun q4 => ?_)
  ·
    refine go_aload_n (pc := 11) rfl dX0_escapes_11 ?_
    refine gi_getF (pc := 12) (q := c1 + 2) hv fL_X0_32 (by rcases hc1 with rfl | rfl <;> rfl) (Nat.le_of_ble_eq_true rfl) rfl (by rcases hc1 with rfl | rfl <;> exact hv.rf (by decide)) dX0_escapes_12 ?_
    refine go_iload_n (pc := 15) rfl dX0_escapes_15 ?_
    refine gi_iald (pc := 16) (lo := 0) (hi := 5) (len := 40) hv (ti_rfl a2) (by rcases hc1 with rfl | rfl <;> rfl) (by omega) (by omega) (fun _ => by rcases hc1 with rfl | rfl <;> rfl) dX0_escapes_16 (fun v5 v5l v5u v5w => ?_)
    refine go_iconst (pc := 17) (v := 4) (by decide) dX0_escapes_17 ?_
    refine gf_icmp_eq (pc := 18) (tgt := 48) (ti_rfl v5) (ti_c (v := 4) (a := 4) (by decide)) (by decide) dX0_escapes_18 (fun q6 => ?_) (fun q6 => ?_)
    ·
      exact go_lv rfl ((key 16).1 ()   (by omega))
    ·
      refine go_aload_n (pc := 21) rfl dX0_escapes_21 ?_
      refine gi_getF (pc := 22) (q := c1 + 2) hv fL_X0_32 (by rcases hc1 with rfl | rfl <;> rfl) (Nat.le_of_ble_eq_true rfl) rfl (by rcases hc1 with rfl | rfl <;> exact hv.rf (by decide)) dX0_escapes_22 ?_
      refine go_iload_n (pc := 25) rfl dX0_escapes_25 ?_
      refine gi_iald (pc := 26) (lo := 0) (hi := 5) (len := 40) hv (ti_rfl a2) (by rcases hc1 with rfl | rfl <;> rfl) (by omega) (by omega) (fun _ => by rcases hc1 with rfl | rfl <;> rfl) dX0_escapes_26 (fun v7 v7l v7u v7w => ?_)
      refine go_iconst (pc := 27) (v := 1) (by decide) dX0_escapes_27 ?_
      refine gf_icmp_ne (pc := 28) (tgt := 52) (ti_rfl v7) (ti_c (v := 1) (a := 1) (by decide)) (by decide) dX0_escapes_28 (fun q8 => ?_) (fun q8 => ?_)
      ·
        exact go_lv rfl ((key 16).2.1 ()   (by omega))
      ·
        refine go_aload_n (pc := 31) rfl dX0_escapes_31 ?_
        refine gi_get (pc := 32) (lo := -2147483648) (hi := 2147483647) hv fL_X0_25 (by rcases hc1 with rfl | rfl <;> rfl) (Nat.le_of_ble_eq_true rfl) rfl (by rcases hc1 with rfl | rfl <;> rfl) dX0_escapes_32 (fun v9 v9l v9u v9w => ?_)
        refine gu_i2l (pc := 35) dX0_escapes_35 (fun v10 => ?_)
        refine go_aload_n (pc := 36) rfl dX0_escapes_36 ?_
        refine gi_getF (pc := 37) (q := c1 + 7) hv fL_X0_47 (by rcases hc1 with rfl | rfl <;> rfl) (Nat.le_of_ble_eq_true rfl) rfl (by rcases hc1 with rfl | rfl <;> exact hv.rf (by decide)) dX0_escapes_37 ?_
        refine go_iload_n (pc := 40) rfl dX0_escapes_40 ?_
        refine gi_iald (pc := 41) (lo := -2) (hi := 4) (len := 40) hv (ti_rfl a2) (by rcases hc1 with rfl | rfl <;> rfl) (by omega) (by omega) (fun _ => by rcases hc1 with rfl | rfl <;> rfl) dX0_escapes_41 (fun v11 v11l v11u v11w => ?_)
        refine go_invS (pc := 42) (sl := 0) (s_X7_has l (d + 0) hv v10 v11) mL_X0_74 iM_X7_has rfl rfl (Nat.le_of_ble_eq_true rfl) (show d + 0 + 1 + 1 ≤ d + 2 by omega) (show 8 + (3 + 11) + 40 * (d + 0 + 1) ≤ 40 * (d + 2) by omega) (g_c0 hv.ln) (Nat.le_of_ble_eq_true rfl) dX0_escapes_42 ?_
        intro r h12 hq _
        obtain ⟨v13, rfl, v13l, v13u, rfl⟩ := hq
        refine gf_if_eq (pc := 45) (tgt := 52) (ti_rfl v13) (by decide) dX0_escapes_45 (fun q14 => ?_) (fun q14 => ?_)
        ·
          exact go_lv rfl ((key 16).2.1 ()   (by omega))
        ·
          exact go_lv rfl ((key 16).1 ()   (by omega))
  ·
    refine go_iconst (pc := 9) (v := 0) (by decide) dX0_escapes_9 ?_
    exact gi_zret (pc := 10) (ti_c (v := 0) (a := 0) (by decide)) (by omega) (by omega) ⟨_, rfl, (by rw [show (0 : Int32).toInt = 0 from (ti_c (v := 0) (a := 0) (by decide))]; omega), (by rw [show (0 : Int32).toInt = 0 from (ti_c (v := 0) (a := 0) (by decide))]; omega), rfl⟩ hv dX0_escapes_10
set_option maxHeartbeats 4000000 in
set_option maxRecDepth 100000 in
theorem s_X0_tellsStraight (l : Launch) (d : Nat) {P : PP} {h : HP} (hv : Iv P h) (c1 : Nat) (hc1 : c1 = 2 ∨ c1 = 18) (a2 : Int32) (a2l : 0 ≤ a2.toInt) (a2u : a2.toInt ≤ 39) (a3 : Int32) : Mt l yX0_tellsStraight cX0_tellsStraight 3 (some .boolean) (d + 2) [.ref c1, .int a2, .int a3] h 0 0 (fun r h' => ∃ v : Int32, r = some (.int v) ∧ 0 ≤ v.toInt ∧ v.toInt ≤ 1 ∧ h = h') := by
  refine Mt_iv hv (by decide) (Nat.le_of_ble_eq_true rfl) ?_
  show Go l RX0 cX0_tellsStraight 3 (g_rm (d + 2) 0 0) "tellsStraight" (some .boolean) 117 0 0 (fun _ _ => True) (fun r h' => ∃ v : Int32, r = some (.int v) ∧ 0 ≤ v.toInt ∧ v.toInt ≤ 1 ∧ h = h') 0 0 [(0, .ref c1), (1, .int a2), (2, .int a3)] [] h
  have key : ∀ n : Nat, (∀ (l0 : Nat) (l1 : Int32) (l2 : Int32), (l0 = 2 ∨ l0 = 18) → 0 ≤ l1.toInt → l1.toInt ≤ 39 → (2 : Int) < n → Go l RX0 cX0_tellsStraight 3 (g_rm (d + 2) 0 0) "tellsStraight" (some .boolean) 117 0 0 (fun _ _ => True) (fun r h' => ∃ v : Int32, r = some (.int v) ∧ 0 ≤ v.toInt ∧ v.toInt ≤ 1 ∧ h = h') 0 19 [(0, .ref l0), (1, .int l1), (2, .int l2)] [] h) ∧ (∀ (s0 : Int32), 0 ≤ s0.toInt → s0.toInt ≤ 1 → (1 : Int) < n → Go l RX0 cX0_tellsStraight 3 (g_rm (d + 2) 0 0) "tellsStraight" (some .boolean) 117 0 0 (fun _ _ => True) (fun r h' => ∃ v : Int32, r = some (.int v) ∧ 0 ≤ v.toInt ∧ v.toInt ≤ 1 ∧ h = h') 0 34 [] [.int s0] h) := by
    intro n
    induction n with
    | zero => exact ⟨(by intros; omega), (by intros; omega)⟩
    | succ n ih =>
      refine ⟨?_, ?_⟩
      ·
        intro l0 l1 l2 hl0 l1l l1u hm
        refine go_aload_n (pc := 19) rfl dX0_tellsStraight_19 ?_
        refine gi_getF (pc := 20) (q := l0 + 6) hv fL_X0_44 (by rcases hl0 with rfl | rfl <;> rfl) (Nat.le_of_ble_eq_true rfl) rfl (by rcases hl0 with rfl | rfl <;> exact hv.rf (by decide)) dX0_tellsStraight_20 ?_
        refine go_iload_n (pc := 23) rfl dX0_tellsStraight_23 ?_
        refine gi_iald (pc := 24) (lo := -1) (hi := 9) (len := 40) hv (ti_rfl l1) (by rcases hl0 with rfl | rfl <;> rfl) (by omega) (by omega) (fun _ => by rcases hl0 with rfl | rfl <;> rfl) dX0_tellsStraight_24 (fun v1 v1l v1u v1w => ?_)
        refine go_iload_n (pc := 25) rfl dX0_tellsStraight_25 ?_
        refine gf_icmp_ne (pc := 26) (tgt := 33) (ti_rfl v1) (ti_rfl l2) (by decide) dX0_tellsStraight_26 (fun q2 => ?_) (fun q2 => ?_)
        ·
          refine go_iconst (pc := 33) (v := 0) (by decide) dX0_tellsStraight_33 ?_
          have z3 : (0 : Int32).toInt = 0 := (ti_c (v := 0) (a := 0) (by decide))
          exact go_lv rfl (ih.2 0  (by omega) (by omega) (by omega))
        ·
          refine go_iconst (pc := 29) (v := 1) (by decide) dX0_tellsStraight_29 ?_
          refine go_goto (pc := 30) (tgt := 34) (by decide) dX0_tellsStraight_30 ?_
          have z4 : (1 : Int32).toInt = 1 := (ti_c (v := 1) (a := 1) (by decide))
          exact go_lv rfl (ih.2 1  (by omega) (by omega) (by omega))
      ·
        intro s0 s0l s0u hm
        exact gi_zret (pc := 34) (ti_rfl s0) (by omega) (by omega) ⟨_, rfl, (by rw [show (s0 : Int32).toInt = s0.toInt from (ti_rfl s0)]; omega), (by rw [show (s0 : Int32).toInt = s0.toInt from (ti_rfl s0)]; omega), rfl⟩ hv dX0_tellsStraight_34
  refine go_aload_n (pc := 0) rfl dX0_tellsStraight_0 ?_
  refine gi_getF (pc := 1) (q := c1 + 2) hv fL_X0_32 (by rcases hc1 with rfl | rfl <;> rfl) (Nat.le_of_ble_eq_true rfl) rfl (by rcases hc1 with rfl | rfl <;> exact hv.rf (by decide)) dX0_tellsStraight_1 ?_
  refine go_iload_n (pc := 4) rfl dX0_tellsStraight_4 ?_
  refine gi_iald (pc := 5) (lo := 0) (hi := 5) (len := 40) hv (ti_rfl a2) (by rcases hc1 with rfl | rfl <;> rfl) (by omega) (by omega) (fun _ => by rcases hc1 with rfl | rfl <;> rfl) dX0_tellsStraight_5 (fun v5 v5l v5u v5w => ?_)
  refine go_iconst (pc := 6) (v := 1) (by decide) dX0_tellsStraight_6 ?_
  refine gf_icmp_ne (pc := 7) (tgt := 19) (ti_rfl v5) (ti_c (v := 1) (a := 1) (by decide)) (by decide) dX0_tellsStraight_7 (fun q6 => ?_) (fun q6 => ?_)
  ·
    exact go_lv rfl ((key 15).1 c1 a2 a3  hc1 (by omega) (by omega) (by omega))
  ·
    refine go_iload_n (pc := 10) rfl dX0_tellsStraight_10 ?_
    refine go_invS (pc := 11) (sl := 0) (s_X7_isField l (d + 0) hv a3) mL_X0_78 iM_X7_isField rfl rfl (Nat.le_of_ble_eq_true rfl) (show d + 0 + 1 + 1 ≤ d + 2 by omega) (show 8 + (1 + 11) + 40 * (d + 0 + 1) ≤ 40 * (d + 2) by omega) (g_c0 hv.ln) (Nat.le_of_ble_eq_true rfl) dX0_tellsStraight_11 ?_
    intro r h7 hq _
    obtain ⟨v9, rfl, v9l, v9u, rfl, f10, f8⟩ := hq
    refine gf_if_eq (pc := 14) (tgt := 19) (ti_rfl v9) (by decide) dX0_tellsStraight_14 (fun q11 => ?_) (fun q11 => ?_)
    ·
      exact go_lv rfl ((key 15).1 c1 a2 a3  hc1 (by omega) (by omega) (by omega))
    ·
      refine go_iconst (pc := 17) (v := 1) (by decide) dX0_tellsStraight_17 ?_
      exact gi_zret (pc := 18) (ti_c (v := 1) (a := 1) (by decide)) (by omega) (by omega) ⟨_, rfl, (by rw [show (1 : Int32).toInt = 1 from (ti_c (v := 1) (a := 1) (by decide))]; omega), (by rw [show (1 : Int32).toInt = 1 from (ti_c (v := 1) (a := 1) (by decide))]; omega), rfl⟩ hv dX0_tellsStraight_18
set_option maxHeartbeats 4000000 in
set_option maxRecDepth 100000 in
theorem s_X0_tellsAside (l : Launch) (d : Nat) {P : PP} {h : HP} (hv : Iv P h) (c1 : Nat) (hc1 : c1 = 2 ∨ c1 = 18) (a2 : Int32) (a2l : 0 ≤ a2.toInt) (a2u : a2.toInt ≤ 39) (a3 : Int32) : Mt l yX0_tellsAside cX0_tellsAside 3 (some .boolean) (d + 2) [.ref c1, .int a2, .int a3] h 0 0 (fun r h' => ∃ v : Int32, r = some (.int v) ∧ 0 ≤ v.toInt ∧ v.toInt ≤ 1 ∧ h = h') := by
  refine Mt_iv hv (by decide) (Nat.le_of_ble_eq_true rfl) ?_
  show Go l RX0 cX0_tellsAside 3 (g_rm (d + 2) 0 0) "tellsAside" (some .boolean) 117 0 0 (fun _ _ => True) (fun r h' => ∃ v : Int32, r = some (.int v) ∧ 0 ≤ v.toInt ∧ v.toInt ≤ 1 ∧ h = h') 0 0 [(0, .ref c1), (1, .int a2), (2, .int a3)] [] h
  have key : ∀ n : Nat, (∀ (_ : Unit), (4 : Int) < n → Go l RX0 cX0_tellsAside 3 (g_rm (d + 2) 0 0) "tellsAside" (some .boolean) 117 0 0 (fun _ _ => True) (fun r h' => ∃ v : Int32, r = some (.int v) ∧ 0 ≤ v.toInt ∧ v.toInt ≤ 1 ∧ h = h') 0 27 [] [] h) ∧ (∀ (s0 : Int32), 0 ≤ s0.toInt → s0.toInt ≤ 1 → (3 : Int) < n → Go l RX0 cX0_tellsAside 3 (g_rm (d + 2) 0 0) "tellsAside" (some .boolean) 117 0 0 (fun _ _ => True) (fun r h' => ∃ v : Int32, r = some (.int v) ∧ 0 ≤ v.toInt ∧ v.toInt ≤ 1 ∧ h = h') 0 32 [] [.int s0] h) ∧ (∀ (_ : Unit), (2 : Int) < n → Go l RX0 cX0_tellsAside 3 (g_rm (d + 2) 0 0) "tellsAside" (some .boolean) 117 0 0 (fun _ _ => True) (fun r h' => ∃ v : Int32, r = some (.int v) ∧ 0 ≤ v.toInt ∧ v.toInt ≤ 1 ∧ h = h') 0 57 [] [] h) ∧ (∀ (s0 : Int32), 0 ≤ s0.toInt → s0.toInt ≤ 1 → (1 : Int) < n → Go l RX0 cX0_tellsAside 3 (g_rm (d + 2) 0 0) "tellsAside" (some .boolean) 117 0 0 (fun _ _ => True) (fun r h' => ∃ v : Int32, r = some (.int v) ∧ 0 ≤ v.toInt ∧ v.toInt ≤ 1 ∧ h = h') 0 58 [] [.int s0] h) := by
    intro n
    induction n with
    | zero => exact ⟨(by intros; omega), (by intros; omega), (by intros; omega), (by intros; omega)⟩
    | succ n ih =>
      refine ⟨?_, ?_, ?_, ?_⟩
      ·
        intro _ hm
        refine go_iconst (pc := 27) (v := 1) (by decide) dX0_tellsAside_27 ?_
        refine go_goto (pc := 28) (tgt := 32) (by decide) dX0_tellsAside_28 ?_
        have z1 : (1 : Int32).toInt = 1 := (ti_c (v := 1) (a := 1) (by decide))
        exact go_lv rfl (ih.2.1 1  (by omega) (by omega) (by omega))
      ·
        intro s0 s0l s0u hm
        exact gi_zret (pc := 32) (ti_rfl s0) (by omega) (by omega) ⟨_, rfl, (by rw [show (s0 : Int32).toInt = s0.toInt from (ti_rfl s0)]; omega), (by rw [show (s0 : Int32).toInt = s0.toInt from (ti_rfl s0)]; omega), rfl⟩ hv dX0_tellsAside_32
      ·
        intro _ hm
        refine go_iconst (pc := 57) (v := 0) (by decide) dX0_tellsAside_57 ?_
        have z2 : (0 : Int32).toInt = 0 := (ti_c (v := 0) (a := 0) (by decide))
        exact go_lv rfl (ih.2.2.2 0  (by omega) (by omega) (by omega))
      ·
        intro s0 s0l s0u hm
        exact gi_zret (pc := 58) (ti_rfl s0) (by omega) (by omega) ⟨_, rfl, (by rw [show (s0 : Int32).toInt = s0.toInt from (ti_rfl s0)]; omega), (by rw [show (s0 : Int32).toInt = s0.toInt from (ti_rfl s0)]; omega), rfl⟩ hv dX0_tellsAside_58
  refine go_aload_n (pc := 0) rfl dX0_tellsAside_0 ?_
  refine gi_getF (pc := 1) (q := c1 + 2) hv fL_X0_32 (by rcases hc1 with rfl | rfl <;> rfl) (Nat.le_of_ble_eq_true rfl) rfl (by rcases hc1 with rfl | rfl <;> exact hv.rf (by decide)) dX0_tellsAside_1 ?_
  refine go_iload_n (pc := 4) rfl dX0_tellsAside_4 ?_
  refine gi_iald (pc := 5) (lo := 0) (hi := 5) (len := 40) hv (ti_rfl a2) (by rcases hc1 with rfl | rfl <;> rfl) (by omega) (by omega) (fun _ => by rcases hc1 with rfl | rfl <;> rfl) dX0_tellsAside_5 (fun v3 v3l v3u v3w => ?_)
  refine go_iconst (pc := 6) (v := 1) (by decide) dX0_tellsAside_6 ?_
  refine gf_icmp_ne (pc := 7) (tgt := 33) (ti_rfl v3) (ti_c (v := 1) (a := 1) (by decide)) (by decide) dX0_tellsAside_7 (fun q4 => ?_) (fun q4 => ?_)
  ·
    refine go_aload_n (pc := 33) rfl dX0_tellsAside_33 ?_
    refine gi_getF (pc := 34) (q := c1 + 2) hv fL_X0_32 (by rcases hc1 with rfl | rfl <;> rfl) (Nat.le_of_ble_eq_true rfl) rfl (by rcases hc1 with rfl | rfl <;> exact hv.rf (by decide)) dX0_tellsAside_34 ?_
    refine go_iload_n (pc := 37) rfl dX0_tellsAside_37 ?_
    refine gi_iald (pc := 38) (lo := 0) (hi := 5) (len := 40) hv (ti_rfl a2) (by rcases hc1 with rfl | rfl <;> rfl) (by omega) (by omega) (fun _ => by rcases hc1 with rfl | rfl <;> rfl) dX0_tellsAside_38 (fun v5 v5l v5u v5w => ?_)
    refine go_iconst (pc := 39) (v := 4) (by decide) dX0_tellsAside_39 ?_
    refine gf_icmp_ne (pc := 40) (tgt := 57) (ti_rfl v5) (ti_c (v := 4) (a := 4) (by decide)) (by decide) dX0_tellsAside_40 (fun q6 => ?_) (fun q6 => ?_)
    ·
      exact go_lv rfl ((key 17).2.2.1 ()   (by omega))
    ·
      refine go_aload_n (pc := 43) rfl dX0_tellsAside_43 ?_
      refine gi_getF (pc := 44) (q := c1 + 14) hv fL_X0_68 (by rcases hc1 with rfl | rfl <;> rfl) (Nat.le_of_ble_eq_true rfl) rfl (by rcases hc1 with rfl | rfl <;> exact hv.rf (by decide)) dX0_tellsAside_44 ?_
      refine go_iload_n (pc := 47) rfl dX0_tellsAside_47 ?_
      refine gi_iald (pc := 48) (lo := -1) (hi := 5) (len := 40) hv (ti_rfl a2) (by rcases hc1 with rfl | rfl <;> rfl) (by omega) (by omega) (fun _ => by rcases hc1 with rfl | rfl <;> rfl) dX0_tellsAside_48 (fun v7 v7l v7u v7w => ?_)
      refine go_iload_n (pc := 49) rfl dX0_tellsAside_49 ?_
      refine gf_icmp_ne (pc := 50) (tgt := 57) (ti_rfl v7) (ti_rfl a3) (by decide) dX0_tellsAside_50 (fun q8 => ?_) (fun q8 => ?_)
      ·
        exact go_lv rfl ((key 17).2.2.1 ()   (by omega))
      ·
        refine go_iconst (pc := 53) (v := 1) (by decide) dX0_tellsAside_53 ?_
        refine go_goto (pc := 54) (tgt := 58) (by decide) dX0_tellsAside_54 ?_
        have z9 : (1 : Int32).toInt = 1 := (ti_c (v := 1) (a := 1) (by decide))
        exact go_lv rfl ((key 17).2.2.2 1  (by omega) (by omega) (by omega))
  ·
    refine go_iload_n (pc := 10) rfl dX0_tellsAside_10 ?_
    refine go_invS (pc := 11) (sl := 0) (s_X7_isField l (d + 0) hv a3) mL_X0_78 iM_X7_isField rfl rfl (Nat.le_of_ble_eq_true rfl) (show d + 0 + 1 + 1 ≤ d + 2 by omega) (show 8 + (1 + 11) + 40 * (d + 0 + 1) ≤ 40 * (d + 2) by omega) (g_c0 hv.ln) (Nat.le_of_ble_eq_true rfl) dX0_tellsAside_11 ?_
    intro r h10 hq _
    obtain ⟨v12, rfl, v12l, v12u, rfl, f13, f11⟩ := hq
    refine gf_if_ne (pc := 14) (tgt := 27) (ti_rfl v12) (by decide) dX0_tellsAside_14 (fun q14 => ?_) (fun q14 => ?_)
    ·
      exact go_lv rfl ((key 17).1 ()   (by omega))
    ·
      refine go_aload_n (pc := 17) rfl dX0_tellsAside_17 ?_
      refine gi_getF (pc := 18) (q := c1 + 14) hv fL_X0_68 (by rcases hc1 with rfl | rfl <;> rfl) (Nat.le_of_ble_eq_true rfl) rfl (by rcases hc1 with rfl | rfl <;> exact hv.rf (by decide)) dX0_tellsAside_18 ?_
      refine go_iload_n (pc := 21) rfl dX0_tellsAside_21 ?_
      refine gi_iald (pc := 22) (lo := -1) (hi := 5) (len := 40) hv (ti_rfl a2) (by rcases hc1 with rfl | rfl <;> rfl) (by omega) (by omega) (fun _ => by rcases hc1 with rfl | rfl <;> rfl) dX0_tellsAside_22 (fun v15 v15l v15u v15w => ?_)
      refine go_iload_n (pc := 23) rfl dX0_tellsAside_23 ?_
      refine gf_icmp_ne (pc := 24) (tgt := 31) (ti_rfl v15) (ti_rfl a3) (by decide) dX0_tellsAside_24 (fun q16 => ?_) (fun q16 => ?_)
      ·
        refine go_iconst (pc := 31) (v := 0) (by decide) dX0_tellsAside_31 ?_
        have z17 : (0 : Int32).toInt = 0 := (ti_c (v := 0) (a := 0) (by decide))
        exact go_lv rfl ((key 17).2.1 0  (by omega) (by omega) (by omega))
      ·
        exact go_lv rfl ((key 17).1 ()   (by omega))
set_option maxHeartbeats 4000000 in
set_option maxRecDepth 100000 in
theorem s_X0_callsOnlyTold (l : Launch) (d : Nat) {P : PP} {h : HP} (hv : Iv P h) (c1 : Nat) (hc1 : c1 = 2 ∨ c1 = 18) : Mt l yX0_callsOnlyTold cX0_callsOnlyTold 3 (some .boolean) (d + 1) [.ref c1] h 0 0 (fun r h' => ∃ v : Int32, r = some (.int v) ∧ 0 ≤ v.toInt ∧ v.toInt ≤ 1 ∧ h = h') := by
  refine Mt_iv hv (by decide) (Nat.le_of_ble_eq_true rfl) ?_
  show Go l RX0 cX0_callsOnlyTold 3 (g_rm (d + 1) 0 0) "callsOnlyTold" (some .boolean) 117 0 0 (fun _ _ => True) (fun r h' => ∃ v : Int32, r = some (.int v) ∧ 0 ≤ v.toInt ∧ v.toInt ≤ 1 ∧ h = h') 0 0 [(0, .ref c1)] [] h
  have key : ∀ n : Nat, (∀ (l0 : Nat) (l1 : Int32) (l2 : Int32), (l0 = 2 ∨ l0 = 18) → 0 ≤ l1.toInt → l1.toInt ≤ 1 → 0 ≤ l2.toInt → l2.toInt ≤ 40 → (4 * (40 - l2.toInt) + 3 : Int) < n → Go l RX0 cX0_callsOnlyTold 3 (g_rm (d + 1) 0 0) "callsOnlyTold" (some .boolean) 117 0 0 (fun _ _ => True) (fun r h' => ∃ v : Int32, r = some (.int v) ∧ 0 ≤ v.toInt ∧ v.toInt ≤ 1 ∧ h = h') 0 4 [(0, .ref l0), (1, .int l1), (2, .int l2)] [] h) ∧ (∀ (l0 : Nat) (l2 : Int32) (s0 : Int32) (s1 : Int32), (l0 = 2 ∨ l0 = 18) → 0 ≤ l2.toInt → l2.toInt ≤ 39 → 0 ≤ s0.toInt → s0.toInt ≤ 1 → 0 ≤ s1.toInt → s1.toInt ≤ 1 → (4 * (40 - l2.toInt) + 2 : Int) < n → Go l RX0 cX0_callsOnlyTold 3 (g_rm (d + 1) 0 0) "callsOnlyTold" (some .boolean) 117 0 0 (fun _ _ => True) (fun r h' => ∃ v : Int32, r = some (.int v) ∧ 0 ≤ v.toInt ∧ v.toInt ≤ 1 ∧ h = h') 0 31 [(0, .ref l0), (2, .int l2)] [.int s0, .int s1] h) := by
    intro n
    induction n with
    | zero => exact ⟨(by intros; omega), (by intros; omega)⟩
    | succ n ih =>
      refine ⟨?_, ?_⟩
      ·
        intro l0 l1 l2 hl0 l1l l1u l2l l2u hm
        refine go_iload_n (pc := 4) rfl dX0_callsOnlyTold_4 ?_
        refine go_aload_n (pc := 5) rfl dX0_callsOnlyTold_5 ?_
        refine gi_get (pc := 6) (lo := 0) (hi := 40) hv fL_X0_9 (by rcases hl0 with rfl | rfl <;> rfl) (Nat.le_of_ble_eq_true rfl) rfl (by rcases hl0 with rfl | rfl <;> rfl) dX0_callsOnlyTold_6 (fun v1 v1l v1u v1w => ?_)
        refine gf_icmp_ge (pc := 9) (tgt := 39) (ti_rfl l2) (ti_rfl v1) (by decide) dX0_callsOnlyTold_9 (fun q2 => ?_) (fun q2 => ?_)
        ·
          refine go_iload_n (pc := 39) rfl dX0_callsOnlyTold_39 ?_
          exact gi_zret (pc := 40) (ti_rfl l1) (by omega) (by omega) ⟨_, rfl, (by rw [show (l1 : Int32).toInt = l1.toInt from (ti_rfl l1)]; omega), (by rw [show (l1 : Int32).toInt = l1.toInt from (ti_rfl l1)]; omega), rfl⟩ hv dX0_callsOnlyTold_40
        ·
          refine go_iload_n (pc := 12) rfl dX0_callsOnlyTold_12 ?_
          refine go_aload_n (pc := 13) rfl dX0_callsOnlyTold_13 ?_
          refine gi_getF (pc := 14) (q := l0 + 7) hv fL_X0_47 (by rcases hl0 with rfl | rfl <;> rfl) (Nat.le_of_ble_eq_true rfl) rfl (by rcases hl0 with rfl | rfl <;> exact hv.rf (by decide)) dX0_callsOnlyTold_14 ?_
          refine go_iload_n (pc := 17) rfl dX0_callsOnlyTold_17 ?_
          refine gi_iald (pc := 18) (lo := -2) (hi := 4) (len := 40) hv (ti_rfl l2) (by rcases hl0 with rfl | rfl <;> rfl) (by omega) (by omega) (fun _ => by rcases hl0 with rfl | rfl <;> rfl) dX0_callsOnlyTold_18 (fun v3 v3l v3u v3w => ?_)
          refine go_aload_n (pc := 19) rfl dX0_callsOnlyTold_19 ?_
          refine gi_get (pc := 20) (lo := 0) (hi := 5) hv fL_X0_15 (by rcases hl0 with rfl | rfl <;> rfl) (Nat.le_of_ble_eq_true rfl) rfl (by rcases hl0 with rfl | rfl <;> rfl) dX0_callsOnlyTold_20 (fun v4 v4l v4u v4w => ?_)
          refine gf_icmp_ge (pc := 23) (tgt := 30) (ti_rfl v3) (ti_rfl v4) (by decide) dX0_callsOnlyTold_23 (fun q5 => ?_) (fun q5 => ?_)
          ·
            refine go_iconst (pc := 30) (v := 0) (by decide) dX0_callsOnlyTold_30 ?_
            have z6 : (0 : Int32).toInt = 0 := (ti_c (v := 0) (a := 0) (by decide))
            exact go_lv rfl (ih.2 l0 l2 0 l1  hl0 (by omega) (by omega) (by omega) (by omega) (by omega) (by omega) (by omega))
          ·
            refine go_iconst (pc := 26) (v := 1) (by decide) dX0_callsOnlyTold_26 ?_
            refine go_goto (pc := 27) (tgt := 31) (by decide) dX0_callsOnlyTold_27 ?_
            have z7 : (1 : Int32).toInt = 1 := (ti_c (v := 1) (a := 1) (by decide))
            exact go_lv rfl (ih.2 l0 l2 1 l1  hl0 (by omega) (by omega) (by omega) (by omega) (by omega) (by omega) (by omega))
      ·
        intro l0 l2 s0 s1 hl0 l2l l2u s0l s0u s1l s1u hm
        refine gf_iand (pc := 31) (ti_rfl s0) (by omega) dX0_callsOnlyTold_31 (fun v8 v8l v8u => ?_)
        refine go_istore_n (pc := 32) (Nat.le_of_ble_eq_true rfl) dX0_callsOnlyTold_32 (go_lv (lv2 := [(0, .ref l0), (1, .int v8), (2, .int l2)]) rfl ?_)
        refine gf_iinc (pc := 33) (Nat.le_of_ble_eq_true rfl) rfl (ti_rfl l2) (ti_c (by decide)) (by omega) (by omega) dX0_callsOnlyTold_33 (fun v9 e10 => ?_)
        refine go_lv (lv2 := [(0, .ref l0), (1, .int v8), (2, .int v9)]) rfl ?_
        refine go_goto (pc := 36) (tgt := 4) (by decide) dX0_callsOnlyTold_36 ?_
        have z11 : (v9 : Int32).toInt = (l2.toInt + 1) := e10
        exact go_lv rfl (ih.1 l0 v8 v9  hl0 (by omega) (by omega) (by omega) (by omega) (by omega))
  refine go_iconst (pc := 0) (v := 1) (by decide) dX0_callsOnlyTold_0 ?_
  refine go_istore_n (pc := 1) (Nat.le_of_ble_eq_true rfl) dX0_callsOnlyTold_1 (go_lv (lv2 := [(0, .ref c1), (1, .int 1)]) rfl ?_)
  refine go_iconst (pc := 2) (v := 0) (by decide) dX0_callsOnlyTold_2 ?_
  refine go_istore_n (pc := 3) (Nat.le_of_ble_eq_true rfl) dX0_callsOnlyTold_3 (go_lv (lv2 := [(0, .ref c1), (1, .int 1), (2, .int 0)]) rfl ?_)
  have z12 : (1 : Int32).toInt = 1 := (ti_c (v := 1) (a := 1) (by decide))
  have z13 : (0 : Int32).toInt = 0 := (ti_c (v := 0) (a := 0) (by decide))
  exact go_lv rfl ((key 181).1 c1 1 0  hc1 (by omega) (by omega) (by omega) (by omega) (by omega))
set_option maxHeartbeats 4000000 in
set_option maxRecDepth 100000 in
theorem s_X0_walk (l : Launch) (d : Nat) {P : PP} {h : HP} (hv : Iv P h) (c1 : Nat) (hc1 : c1 = 2 ∨ c1 = 18) (a2 : Int32) (a2l : 0 ≤ a2.toInt) (a2u : a2.toInt ≤ 4) : Mt l yX0_walk cX0_walk 5 none (d + 3) [.ref c1, .int a2] h 0 0 (fun r h' => r = none ∧ Iv P h') := by
  refine Mt_iv hv (by decide) (Nat.le_of_ble_eq_true rfl) ?_
  show Go l RX0 cX0_walk 5 (g_rm (d + 3) 0 0) "walk" none 117 0 0 (fun _ _ => True) (fun r h' => r = none ∧ Iv P h') 0 0 [(0, .ref c1), (1, .int a2)] [] h
  have key : ∀ n : Nat, (∀ (l0 : Nat) (l1 : Int32) (l2 : Int64) (l4 : Int32) (hx : HP), Iv P hx → (l0 = 2 ∨ l0 = 18) → 0 ≤ l1.toInt → l1.toInt ≤ 4 → 0 ≤ l4.toInt → l4.toInt ≤ 40 → (5 * (40 - l4.toInt) + 5 : Int) < n → Go l RX0 cX0_walk 5 (g_rm (d + 3) 0 0) "walk" none 117 0 0 (fun _ _ => True) (fun r h' => r = none ∧ Iv P h') 0 13 [(0, .ref l0), (1, .int l1), (2, .long l2), (4, .int l4)] [] hx) ∧ (∀ (l0 : Nat) (l1 : Int32) (l2 : Int64) (l4 : Int32) (hx : HP), Iv P hx → (l0 = 2 ∨ l0 = 18) → 0 ≤ l1.toInt → l1.toInt ≤ 4 → 0 ≤ l4.toInt → l4.toInt ≤ 39 → (5 * (40 - l4.toInt) + 4 : Int) < n → Go l RX0 cX0_walk 5 (g_rm (d + 3) 0 0) "walk" none 117 0 0 (fun _ _ => True) (fun r h' => r = none ∧ Iv P h') 0 56 [(0, .ref l0), (1, .int l1), (2, .long l2), (4, .int l4)] [] hx) ∧ (∀ (l0 : Nat) (l1 : Int32) (l2 : Int64) (l4 : Int32) (hx : HP), Iv P hx → (l0 = 2 ∨ l0 = 18) → 0 ≤ l1.toInt → l1.toInt ≤ 4 → 0 ≤ l4.toInt → l4.toInt ≤ 39 → (5 * (40 - l4.toInt) + 3 : Int) < n → Go l RX0 cX0_walk 5 (g_rm (d + 3) 0 0) "walk" none 117 0 0 (fun _ _ => True) (fun r h' => r = none ∧ Iv P h') 0 102 [(0, .ref l0), (1, .int l1), (2, .long l2), (4, .int l4)] [] hx) ∧ (∀  (hx : HP), Iv P hx → (1 : Int) < n → Go l RX0 cX0_walk 5 (g_rm (d + 3) 0 0) "walk" none 117 0 0 (fun _ _ => True) (fun r h' => r = none ∧ Iv P h') 0 131 [] [] hx) := by
    intro n
    induction n with
    | zero => exact ⟨(by intros; omega), (by intros; omega), (by intros; omega), (by intros; omega)⟩
    | succ n ih =>
      refine ⟨?_, ?_, ?_, ?_⟩
      ·
        intro l0 l1 l2 l4 hx hvx hl0 l1l l1u l4l l4u hm
        refine go_iload (pc := 13) rfl dX0_walk_13 ?_
        refine go_aload_n (pc := 15) rfl dX0_walk_15 ?_
        refine gi_get (pc := 16) (lo := 0) (hi := 40) hvx fL_X0_9 (by rcases hl0 with rfl | rfl <;> rfl) (Nat.le_of_ble_eq_true rfl) rfl (by rcases hl0 with rfl | rfl <;> rfl) dX0_walk_16 (fun v1 v1l v1u v1w => ?_)
        refine gf_icmp_ge (pc := 19) (tgt := 108) (ti_rfl l4) (ti_rfl v1) (by decide) dX0_walk_19 (fun q2 => ?_) (fun q2 => ?_)
        ·
          refine go_lload_n (pc := 108) rfl dX0_walk_108 ?_
          refine go_bipush (pc := 109) (v := 40) (by decide) dX0_walk_109 ?_
          refine go_iload_n (pc := 111) rfl dX0_walk_111 ?_
          refine gf_iadd (pc := 112) (ti_c (v := 40) (a := 40) (by decide)) (ti_rfl l1) (by omega) (by omega) dX0_walk_112 (fun v3 e4 => ?_)
          refine go_invS (pc := 113) (sl := 0) (s_X7_has l (d + 1) hvx l2 v3) mL_X0_74 iM_X7_has rfl rfl (Nat.le_of_ble_eq_true rfl) (show d + 1 + 1 + 1 ≤ d + 3 by omega) (show 8 + (3 + 11) + 40 * (d + 1 + 1) ≤ 40 * (d + 3) by omega) (g_c0 hvx.ln) (Nat.le_of_ble_eq_true rfl) dX0_walk_113 ?_
          intro r h5 hq _
          obtain ⟨v6, rfl, v6l, v6u, rfl⟩ := hq
          refine gf_if_eq (pc := 116) (tgt := 131) (ti_rfl v6) (by decide) dX0_walk_116 (fun q7 => ?_) (fun q7 => ?_)
          ·
            exact go_lv rfl (ih.2.2.2  hx hvx  (by omega))
          ·
            refine go_aload_n (pc := 119) rfl dX0_walk_119 ?_
            refine go_dup (pc := 120) rfl dX0_walk_120 ?_
            refine gi_get (pc := 121) (lo := -2147483648) (hi := 2147483647) hvx fL_X0_22 (by rcases hl0 with rfl | rfl <;> rfl) (Nat.le_of_ble_eq_true rfl) rfl (by rcases hl0 with rfl | rfl <;> rfl) dX0_walk_121 (fun v8 v8l v8u v8w => ?_)
            refine go_iconst (pc := 124) (v := 1) (by decide) dX0_walk_124 ?_
            refine go_iload_n (pc := 125) rfl dX0_walk_125 ?_
            refine gu_ishl (pc := 126) dX0_walk_126 (fun v9 => ?_)
            refine gu_ior (pc := 127) dX0_walk_127 (fun v10 => ?_)
            refine gi_put (pc := 128) (lo := -2147483648) (hi := 2147483647) hvx (ti_rfl v10) (fP_X0_22 _) (by rcases hl0 with rfl | rfl <;> rfl) (Nat.le_of_ble_eq_true rfl) rfl (by rcases hl0 with rfl | rfl <;> rfl) (ti_ge (ti_rfl v10)) (ti_le2 (ti_rfl v10)) rfl rfl (by rcases hl0 with rfl | rfl <;> decide) (by rcases hl0 with rfl | rfl <;> decide) (by rcases hl0 with rfl | rfl <;> decide) (by rcases hl0 with rfl | rfl <;> decide) dX0_walk_128 (fun h11 hv11 hv11e => ?_)
            exact go_lv rfl (ih.2.2.2  h11 hv11  (by omega))
        ·
          refine go_lload_n (pc := 22) rfl dX0_walk_22 ?_
          refine go_iload (pc := 23) rfl dX0_walk_23 ?_
          refine go_invS (pc := 25) (sl := 0) (s_X7_has l (d + 1) hvx l2 l4) mL_X0_74 iM_X7_has rfl rfl (Nat.le_of_ble_eq_true rfl) (show d + 1 + 1 + 1 ≤ d + 3 by omega) (show 8 + (3 + 11) + 40 * (d + 1 + 1) ≤ 40 * (d + 3) by omega) (g_c0 hvx.ln) (Nat.le_of_ble_eq_true rfl) dX0_walk_25 ?_
          intro r h12 hq _
          obtain ⟨v13, rfl, v13l, v13u, rfl⟩ := hq
          refine gf_if_ne (pc := 28) (tgt := 34) (ti_rfl v13) (by decide) dX0_walk_28 (fun q14 => ?_) (fun q14 => ?_)
          ·
            refine go_aload_n (pc := 34) rfl dX0_walk_34 ?_
            refine go_iload (pc := 35) rfl dX0_walk_35 ?_
            refine go_invV (pc := 37) (sl := 0) (s_X0_goesStraight l (d + 0) hvx l0 hl0 l4 (by rw [show (l4 : Int32).toInt = l4.toInt from (ti_rfl l4)]; omega) (by rw [show (l4 : Int32).toInt = l4.toInt from (ti_rfl l4)]; omega)) mL_X0_90 iM_X0_goesStraight sM_X0_goesStraight (hvx.sh (by rcases hl0 with rfl | rfl <;> rfl)) rfl rfl rfl (Nat.le_of_ble_eq_true rfl) (show d + 0 + 2 + 1 ≤ d + 3 by omega) (show 8 + (2 + 11) + 40 * (d + 0 + 2) ≤ 40 * (d + 3) by omega) (g_c0 hvx.ln) (Nat.le_of_ble_eq_true rfl) dX0_walk_37 ?_
            intro r h15 hq _
            obtain ⟨v16, rfl, v16l, v16u, rfl⟩ := hq
            refine gf_if_eq (pc := 40) (tgt := 56) (ti_rfl v16) (by decide) dX0_walk_40 (fun q17 => ?_) (fun q17 => ?_)
            ·
              exact go_lv rfl (ih.2.1 l0 l1 l2 l4 hx hvx hl0 (by omega) (by omega) (by omega) (by omega) (by omega))
            ·
              refine go_lload_n (pc := 43) rfl dX0_walk_43 ?_
              refine go_aload_n (pc := 44) rfl dX0_walk_44 ?_
              refine gi_getF (pc := 45) (q := l0 + 12) hvx fL_X0_62 (by rcases hl0 with rfl | rfl <;> rfl) (Nat.le_of_ble_eq_true rfl) rfl (by rcases hl0 with rfl | rfl <;> exact hvx.rf (by decide)) dX0_walk_45 ?_
              refine go_iload (pc := 48) rfl dX0_walk_48 ?_
              refine gi_iald (pc := 50) (lo := 0) (hi := 44) (len := 40) hvx (ti_rfl l4) (by rcases hl0 with rfl | rfl <;> rfl) (by omega) (by omega) (fun _ => by rcases hl0 with rfl | rfl <;> rfl) dX0_walk_50 (fun v18 v18l v18u v18w => ?_)
              refine go_invS (pc := 51) (sl := 0) (s_X7_bit l (d + 1) hvx v18) mL_X0_86 iM_X7_bit rfl rfl (Nat.le_of_ble_eq_true rfl) (show d + 1 + 1 + 1 ≤ d + 3 by omega) (show 8 + (1 + 11) + 40 * (d + 1 + 1) ≤ 40 * (d + 3) by omega) (g_c0 hvx.ln) (Nat.le_of_ble_eq_true rfl) dX0_walk_51 ?_
              intro r h19 hq _
              obtain ⟨v20, rfl, rfl⟩ := hq
              refine gu_lor (pc := 54) dX0_walk_54 (fun v21 => ?_)
              refine go_lstore_n (pc := 55) (Nat.le_of_ble_eq_true rfl) dX0_walk_55 (go_lv (lv2 := [(0, .ref l0), (1, .int l1), (2, .long v21), (4, .int l4)]) rfl ?_)
              exact go_lv rfl (ih.2.1 l0 l1 v21 l4 hx hvx hl0 (by omega) (by omega) (by omega) (by omega) (by omega))
          ·
            refine go_goto (pc := 31) (tgt := 102) (by decide) dX0_walk_31 ?_
            exact go_lv rfl (ih.2.2.1 l0 l1 l2 l4 hx hvx hl0 (by omega) (by omega) (by omega) (by omega) (by omega))
      ·
        intro l0 l1 l2 l4 hx hvx hl0 l1l l1u l4l l4u hm
        refine go_aload_n (pc := 56) rfl dX0_walk_56 ?_
        refine go_iload (pc := 57) rfl dX0_walk_57 ?_
        refine go_invV (pc := 59) (sl := 0) (s_X0_escapes l (d + 0) hvx l0 hl0 l4 (by rw [show (l4 : Int32).toInt = l4.toInt from (ti_rfl l4)]; omega) (by rw [show (l4 : Int32).toInt = l4.toInt from (ti_rfl l4)]; omega)) mL_X0_93 iM_X0_escapes sM_X0_escapes (hvx.sh (by rcases hl0 with rfl | rfl <;> rfl)) rfl rfl rfl (Nat.le_of_ble_eq_true rfl) (show d + 0 + 2 + 1 ≤ d + 3 by omega) (show 8 + (2 + 11) + 40 * (d + 0 + 2) ≤ 40 * (d + 3) by omega) (g_c0 hvx.ln) (Nat.le_of_ble_eq_true rfl) dX0_walk_59 ?_
        intro r h22 hq _
        obtain ⟨v23, rfl, v23l, v23u, rfl⟩ := hq
        refine gf_if_eq (pc := 62) (tgt := 80) (ti_rfl v23) (by decide) dX0_walk_62 (fun q24 => ?_) (fun q24 => ?_)
        ·
          refine go_aload_n (pc := 80) rfl dX0_walk_80 ?_
          refine go_iload (pc := 81) rfl dX0_walk_81 ?_
          refine go_invV (pc := 83) (sl := 0) (s_X0_decides l (d + 0) hvx l0 hl0 l4 (by rw [show (l4 : Int32).toInt = l4.toInt from (ti_rfl l4)]; omega) (by rw [show (l4 : Int32).toInt = l4.toInt from (ti_rfl l4)]; omega)) mL_X0_96 iM_X0_decides sM_X0_decides (hvx.sh (by rcases hl0 with rfl | rfl <;> rfl)) rfl rfl rfl (Nat.le_of_ble_eq_true rfl) (show d + 0 + 2 + 1 ≤ d + 3 by omega) (show 8 + (2 + 11) + 40 * (d + 0 + 2) ≤ 40 * (d + 3) by omega) (g_c0 hvx.ln) (Nat.le_of_ble_eq_true rfl) dX0_walk_83 ?_
          intro r h25 hq _
          obtain ⟨v26, rfl, v26l, v26u, rfl⟩ := hq
          refine gf_if_eq (pc := 86) (tgt := 102) (ti_rfl v26) (by decide) dX0_walk_86 (fun q27 => ?_) (fun q27 => ?_)
          ·
            exact go_lv rfl (ih.2.2.1 l0 l1 l2 l4 hx hvx hl0 (by omega) (by omega) (by omega) (by omega) (by omega))
          ·
            refine go_lload_n (pc := 89) rfl dX0_walk_89 ?_
            refine go_aload_n (pc := 90) rfl dX0_walk_90 ?_
            refine gi_getF (pc := 91) (q := l0 + 13) hvx fL_X0_65 (by rcases hl0 with rfl | rfl <;> rfl) (Nat.le_of_ble_eq_true rfl) rfl (by rcases hl0 with rfl | rfl <;> exact hvx.rf (by decide)) dX0_walk_91 ?_
            refine go_iload (pc := 94) rfl dX0_walk_94 ?_
            refine gi_iald (pc := 96) (lo := 0) (hi := 44) (len := 40) hvx (ti_rfl l4) (by rcases hl0 with rfl | rfl <;> rfl) (by omega) (by omega) (fun _ => by rcases hl0 with rfl | rfl <;> rfl) dX0_walk_96 (fun v28 v28l v28u v28w => ?_)
            refine go_invS (pc := 97) (sl := 0) (s_X7_bit l (d + 1) hvx v28) mL_X0_86 iM_X7_bit rfl rfl (Nat.le_of_ble_eq_true rfl) (show d + 1 + 1 + 1 ≤ d + 3 by omega) (show 8 + (1 + 11) + 40 * (d + 1 + 1) ≤ 40 * (d + 3) by omega) (g_c0 hvx.ln) (Nat.le_of_ble_eq_true rfl) dX0_walk_97 ?_
            intro r h29 hq _
            obtain ⟨v30, rfl, rfl⟩ := hq
            refine gu_lor (pc := 100) dX0_walk_100 (fun v31 => ?_)
            refine go_lstore_n (pc := 101) (Nat.le_of_ble_eq_true rfl) dX0_walk_101 (go_lv (lv2 := [(0, .ref l0), (1, .int l1), (2, .long v31), (4, .int l4)]) rfl ?_)
            exact go_lv rfl (ih.2.2.1 l0 l1 v31 l4 hx hvx hl0 (by omega) (by omega) (by omega) (by omega) (by omega))
        ·
          refine go_aload_n (pc := 65) rfl dX0_walk_65 ?_
          refine go_dup (pc := 66) rfl dX0_walk_66 ?_
          refine gi_get (pc := 67) (lo := -2147483648) (hi := 2147483647) hvx fL_X0_25 (by rcases hl0 with rfl | rfl <;> rfl) (Nat.le_of_ble_eq_true rfl) rfl (by rcases hl0 with rfl | rfl <;> rfl) dX0_walk_67 (fun v32 v32l v32u v32w => ?_)
          refine go_iconst (pc := 70) (v := 1) (by decide) dX0_walk_70 ?_
          refine go_iload_n (pc := 71) rfl dX0_walk_71 ?_
          refine gu_ishl (pc := 72) dX0_walk_72 (fun v33 => ?_)
          refine gu_ior (pc := 73) dX0_walk_73 (fun v34 => ?_)
          refine gi_put (pc := 74) (lo := -2147483648) (hi := 2147483647) hvx (ti_rfl v34) (fP_X0_25 _) (by rcases hl0 with rfl | rfl <;> rfl) (Nat.le_of_ble_eq_true rfl) rfl (by rcases hl0 with rfl | rfl <;> rfl) (ti_ge (ti_rfl v34)) (ti_le2 (ti_rfl v34)) rfl rfl (by rcases hl0 with rfl | rfl <;> decide) (by rcases hl0 with rfl | rfl <;> decide) (by rcases hl0 with rfl | rfl <;> decide) (by rcases hl0 with rfl | rfl <;> decide) dX0_walk_74 (fun h35 hv35 hv35e => ?_)
          refine go_goto (pc := 77) (tgt := 102) (by decide) dX0_walk_77 ?_
          exact go_lv rfl (ih.2.2.1 l0 l1 l2 l4 h35 hv35 hl0 (by omega) (by omega) (by omega) (by omega) (by omega))
      ·
        intro l0 l1 l2 l4 hx hvx hl0 l1l l1u l4l l4u hm
        refine gf_iinc (pc := 102) (Nat.le_of_ble_eq_true rfl) rfl (ti_rfl l4) (ti_c (by decide)) (by omega) (by omega) dX0_walk_102 (fun v36 e37 => ?_)
        refine go_lv (lv2 := [(0, .ref l0), (1, .int l1), (2, .long l2), (4, .int v36)]) rfl ?_
        refine go_goto (pc := 105) (tgt := 13) (by decide) dX0_walk_105 ?_
        have z38 : (v36 : Int32).toInt = (l4.toInt + 1) := e37
        exact go_lv rfl (ih.1 l0 l1 l2 v36 hx hvx hl0 (by omega) (by omega) (by omega) (by omega) (by omega))
      ·
        intro hx hvx hm
        exact gi_vret (pc := 131) ⟨rfl, hvx⟩ hvx dX0_walk_131
  refine go_aload_n (pc := 0) rfl dX0_walk_0 ?_
  refine gi_getF (pc := 1) (q := c1 + 1) hv fL_X0_28 (by rcases hc1 with rfl | rfl <;> rfl) (Nat.le_of_ble_eq_true rfl) rfl (by rcases hc1 with rfl | rfl <;> exact hv.rf (by decide)) dX0_walk_1 ?_
  refine go_iload_n (pc := 4) rfl dX0_walk_4 ?_
  refine gi_iald (pc := 5) (lo := 0) (hi := 44) (len := 5) hv (ti_rfl a2) (by rcases hc1 with rfl | rfl <;> rfl) (by omega) (by omega) (fun _ => by rcases hc1 with rfl | rfl <;> rfl) dX0_walk_5 (fun v39 v39l v39u v39w => ?_)
  refine go_invS (pc := 6) (sl := 0) (s_X7_bit l (d + 1) hv v39) mL_X0_86 iM_X7_bit rfl rfl (Nat.le_of_ble_eq_true rfl) (show d + 1 + 1 + 1 ≤ d + 3 by omega) (show 8 + (1 + 11) + 40 * (d + 1 + 1) ≤ 40 * (d + 3) by omega) (g_c0 hv.ln) (Nat.le_of_ble_eq_true rfl) dX0_walk_6 ?_
  intro r h40 hq _
  obtain ⟨v41, rfl, rfl⟩ := hq
  refine go_lstore_n (pc := 9) (Nat.le_of_ble_eq_true rfl) dX0_walk_9 (go_lv (lv2 := [(0, .ref c1), (1, .int a2), (2, .long v41)]) rfl ?_)
  refine go_iconst (pc := 10) (v := 0) (by decide) dX0_walk_10 ?_
  refine go_istore (pc := 11) (Nat.le_of_ble_eq_true rfl) dX0_walk_11 (go_lv (lv2 := [(0, .ref c1), (1, .int a2), (2, .long v41), (4, .int 0)]) rfl ?_)
  have z42 : (0 : Int32).toInt = 0 := (ti_c (v := 0) (a := 0) (by decide))
  exact go_lv rfl ((key 224).1 c1 a2 v41 0 h hv hc1 (by omega) (by omega) (by omega) (by omega) (by omega))
set_option maxHeartbeats 4000000 in
set_option maxRecDepth 100000 in
theorem s_X0_settleEnds (l : Launch) (d : Nat) {P : PP} {h : HP} (hv : Iv P h) (c1 : Nat) (hc1 : c1 = 2 ∨ c1 = 18) : Mt l yX0_settleEnds cX0_settleEnds 6 none (d + 4) [.ref c1] h 0 0 (fun r h' => r = none ∧ Iv P h') := by
  refine Mt_iv hv (by decide) (Nat.le_of_ble_eq_true rfl) ?_
  show Go l RX0 cX0_settleEnds 6 (g_rm (d + 4) 0 0) "settleEnds" none 117 0 0 (fun _ _ => True) (fun r h' => r = none ∧ Iv P h') 0 0 [(0, .ref c1)] [] h
  have key : ∀ n : Nat, (∀ (l0 : Nat) (l1 : Int32) (l2 : Int32) (hx : HP), Iv P hx → (l0 = 2 ∨ l0 = 18) → 0 ≤ l1.toInt → l1.toInt ≤ 1 → 0 ≤ l2.toInt → l2.toInt ≤ 11 → (26 * (11 - l2.toInt) + 26 : Int) < n → Go l RX0 cX0_settleEnds 6 (g_rm (d + 4) 0 0) "settleEnds" none 117 0 0 (fun _ _ => True) (fun r h' => r = none ∧ Iv P h') 0 4 [(0, .ref l0), (1, .int l1), (2, .int l2)] [] hx) ∧ (∀ (l0 : Nat) (l2 : Int32) (l3 : Int32) (l4 : Int32) (l5 : Int32) (hx : HP), Iv P hx → (l0 = 2 ∨ l0 = 18) → 0 ≤ l2.toInt → l2.toInt ≤ 10 → 0 ≤ l5.toInt → l5.toInt ≤ 5 → (3 * (5 - l5.toInt) + 26 * (11 - l2.toInt) + 6 : Int) < n → Go l RX0 cX0_settleEnds 6 (g_rm (d + 4) 0 0) "settleEnds" none 117 0 0 (fun _ _ => True) (fun r h' => r = none ∧ Iv P h') 0 28 [(0, .ref l0), (2, .int l2), (3, .int l3), (4, .int l4), (5, .int l5)] [] hx) ∧ (∀ (l0 : Nat) (l2 : Int32) (hx : HP), Iv P hx → (l0 = 2 ∨ l0 = 18) → 0 ≤ l2.toInt → l2.toInt ≤ 10 → (26 * (11 - l2.toInt) + 4 : Int) < n → Go l RX0 cX0_settleEnds 6 (g_rm (d + 4) 0 0) "settleEnds" none 117 0 0 (fun _ _ => True) (fun r h' => r = none ∧ Iv P h') 0 66 [(0, .ref l0), (2, .int l2)] [] hx) ∧ (∀ (l0 : Nat) (l2 : Int32) (s0 : Int32) (hx : HP), Iv P hx → (l0 = 2 ∨ l0 = 18) → 0 ≤ l2.toInt → l2.toInt ≤ 10 → 0 ≤ s0.toInt → s0.toInt ≤ 1 → (26 * (11 - l2.toInt) + 3 : Int) < n → Go l RX0 cX0_settleEnds 6 (g_rm (d + 4) 0 0) "settleEnds" none 117 0 0 (fun _ _ => True) (fun r h' => r = none ∧ Iv P h') 0 71 [(0, .ref l0), (2, .int l2)] [.int s0] hx) ∧ (∀  (hx : HP), Iv P hx → (1 : Int) < n → Go l RX0 cX0_settleEnds 6 (g_rm (d + 4) 0 0) "settleEnds" none 117 0 0 (fun _ _ => True) (fun r h' => r = none ∧ Iv P h') 0 78 [] [] hx) := by
    intro n
    induction n with
    | zero => exact ⟨(by intros; omega), (by intros; omega), (by intros; omega), (by intros; omega), (by intros; omega)⟩
    | succ n ih =>
      refine ⟨?_, ?_, ?_, ?_, ?_⟩
      ·
        intro l0 l1 l2 hx hvx hl0 l1l l1u l2l l2u hm
        refine go_iload_n (pc := 4) rfl dX0_settleEnds_4 ?_
        refine go_bipush (pc := 5) (v := 10) (by decide) dX0_settleEnds_5 ?_
        refine gf_icmp_gt (pc := 7) (tgt := 78) (ti_rfl l2) (ti_c (v := 10) (a := 10) (by decide)) (by decide) dX0_settleEnds_7 (fun q1 => ?_) (fun q1 => ?_)
        ·
          exact go_lv rfl (ih.2.2.2.2  hx hvx  (by omega))
        ·
          refine go_iload_n (pc := 10) rfl dX0_settleEnds_10 ?_
          refine gf_if_eq (pc := 11) (tgt := 78) (ti_rfl l1) (by decide) dX0_settleEnds_11 (fun q2 => ?_) (fun q2 => ?_)
          ·
            exact go_lv rfl (ih.2.2.2.2  hx hvx  (by omega))
          ·
            refine go_aload_n (pc := 14) rfl dX0_settleEnds_14 ?_
            refine gi_get (pc := 15) (lo := -2147483648) (hi := 2147483647) hvx fL_X0_22 (by rcases hl0 with rfl | rfl <;> rfl) (Nat.le_of_ble_eq_true rfl) rfl (by rcases hl0 with rfl | rfl <;> rfl) dX0_settleEnds_15 (fun v3 v3l v3u v3w => ?_)
            refine go_istore_n (pc := 18) (Nat.le_of_ble_eq_true rfl) dX0_settleEnds_18 (go_lv (lv2 := [(0, .ref l0), (1, .int l1), (2, .int l2), (3, .int v3)]) rfl ?_)
            refine go_aload_n (pc := 19) rfl dX0_settleEnds_19 ?_
            refine gi_get (pc := 20) (lo := -2147483648) (hi := 2147483647) hvx fL_X0_25 (by rcases hl0 with rfl | rfl <;> rfl) (Nat.le_of_ble_eq_true rfl) rfl (by rcases hl0 with rfl | rfl <;> rfl) dX0_settleEnds_20 (fun v4 v4l v4u v4w => ?_)
            refine go_istore (pc := 23) (Nat.le_of_ble_eq_true rfl) dX0_settleEnds_23 (go_lv (lv2 := [(0, .ref l0), (1, .int l1), (2, .int l2), (3, .int v3), (4, .int v4)]) rfl ?_)
            refine go_iconst (pc := 25) (v := 0) (by decide) dX0_settleEnds_25 ?_
            refine go_istore (pc := 26) (Nat.le_of_ble_eq_true rfl) dX0_settleEnds_26 (go_lv (lv2 := [(0, .ref l0), (1, .int l1), (2, .int l2), (3, .int v3), (4, .int v4), (5, .int 0)]) rfl ?_)
            have z5 : (0 : Int32).toInt = 0 := (ti_c (v := 0) (a := 0) (by decide))
            exact go_lv rfl (ih.2.1 l0 l2 v3 v4 0 hx hvx hl0 (by omega) (by omega) (by omega) (by omega) (by omega))
      ·
        intro l0 l2 l3 l4 l5 hx hvx hl0 l2l l2u l5l l5u hm
        refine go_iload (pc := 28) rfl dX0_settleEnds_28 ?_
        refine go_aload_n (pc := 30) rfl dX0_settleEnds_30 ?_
        refine gi_get (pc := 31) (lo := 0) (hi := 5) hvx fL_X0_15 (by rcases hl0 with rfl | rfl <;> rfl) (Nat.le_of_ble_eq_true rfl) rfl (by rcases hl0 with rfl | rfl <;> rfl) dX0_settleEnds_31 (fun v6 v6l v6u v6w => ?_)
        refine gf_icmp_ge (pc := 34) (tgt := 49) (ti_rfl l5) (ti_rfl v6) (by decide) dX0_settleEnds_34 (fun q7 => ?_) (fun q7 => ?_)
        ·
          refine go_iload_n (pc := 49) rfl dX0_settleEnds_49 ?_
          refine go_aload_n (pc := 50) rfl dX0_settleEnds_50 ?_
          refine gi_get (pc := 51) (lo := -2147483648) (hi := 2147483647) hvx fL_X0_22 (by rcases hl0 with rfl | rfl <;> rfl) (Nat.le_of_ble_eq_true rfl) rfl (by rcases hl0 with rfl | rfl <;> rfl) dX0_settleEnds_51 (fun v8 v8l v8u v8w => ?_)
          refine gf_icmp_ne (pc := 54) (tgt := 66) (ti_rfl l3) (ti_rfl v8) (by decide) dX0_settleEnds_54 (fun q9 => ?_) (fun q9 => ?_)
          ·
            exact go_lv rfl (ih.2.2.1 l0 l2 hx hvx hl0 (by omega) (by omega) (by omega))
          ·
            refine go_iload (pc := 57) rfl dX0_settleEnds_57 ?_
            refine go_aload_n (pc := 59) rfl dX0_settleEnds_59 ?_
            refine gi_get (pc := 60) (lo := -2147483648) (hi := 2147483647) hvx fL_X0_25 (by rcases hl0 with rfl | rfl <;> rfl) (Nat.le_of_ble_eq_true rfl) rfl (by rcases hl0 with rfl | rfl <;> rfl) dX0_settleEnds_60 (fun v10 v10l v10u v10w => ?_)
            refine gf_icmp_eq (pc := 63) (tgt := 70) (ti_rfl l4) (ti_rfl v10) (by decide) dX0_settleEnds_63 (fun q11 => ?_) (fun q11 => ?_)
            ·
              refine go_iconst (pc := 70) (v := 0) (by decide) dX0_settleEnds_70 ?_
              have z12 : (0 : Int32).toInt = 0 := (ti_c (v := 0) (a := 0) (by decide))
              exact go_lv rfl (ih.2.2.2.1 l0 l2 0 hx hvx hl0 (by omega) (by omega) (by omega) (by omega) (by omega))
            ·
              exact go_lv rfl (ih.2.2.1 l0 l2 hx hvx hl0 (by omega) (by omega) (by omega))
        ·
          refine go_aload_n (pc := 37) rfl dX0_settleEnds_37 ?_
          refine go_iload (pc := 38) rfl dX0_settleEnds_38 ?_
          refine go_invV (pc := 40) (sl := 0) (s_X0_walk l (d + 0) hvx l0 hl0 l5 (by rw [show (l5 : Int32).toInt = l5.toInt from (ti_rfl l5)]; omega) (by rw [show (l5 : Int32).toInt = l5.toInt from (ti_rfl l5)]; omega)) mL_X0_82 iM_X0_walk sM_X0_walk (hvx.sh (by rcases hl0 with rfl | rfl <;> rfl)) rfl rfl rfl (Nat.le_of_ble_eq_true rfl) (show d + 0 + 3 + 1 ≤ d + 4 by omega) (show 8 + (5 + 11) + 40 * (d + 0 + 3) ≤ 40 * (d + 4) by omega) (g_c0 hvx.ln) (Nat.le_of_ble_eq_true rfl) dX0_settleEnds_40 ?_
          intro r h13 hq _
          obtain ⟨rfl, hv13⟩ := hq
          refine gf_iinc (pc := 43) (Nat.le_of_ble_eq_true rfl) rfl (ti_rfl l5) (ti_c (by decide)) (by omega) (by omega) dX0_settleEnds_43 (fun v14 e15 => ?_)
          refine go_lv (lv2 := [(0, .ref l0), (2, .int l2), (3, .int l3), (4, .int l4), (5, .int v14)]) rfl ?_
          refine go_goto (pc := 46) (tgt := 28) (by decide) dX0_settleEnds_46 ?_
          have z16 : (v14 : Int32).toInt = (l5.toInt + 1) := e15
          exact go_lv rfl (ih.2.1 l0 l2 l3 l4 v14 h13 hv13 hl0 (by omega) (by omega) (by omega) (by omega) (by omega))
      ·
        intro l0 l2 hx hvx hl0 l2l l2u hm
        refine go_iconst (pc := 66) (v := 1) (by decide) dX0_settleEnds_66 ?_
        refine go_goto (pc := 67) (tgt := 71) (by decide) dX0_settleEnds_67 ?_
        have z17 : (1 : Int32).toInt = 1 := (ti_c (v := 1) (a := 1) (by decide))
        exact go_lv rfl (ih.2.2.2.1 l0 l2 1 hx hvx hl0 (by omega) (by omega) (by omega) (by omega) (by omega))
      ·
        intro l0 l2 s0 hx hvx hl0 l2l l2u s0l s0u hm
        refine go_istore_n (pc := 71) (Nat.le_of_ble_eq_true rfl) dX0_settleEnds_71 (go_lv (lv2 := [(0, .ref l0), (1, .int s0), (2, .int l2)]) rfl ?_)
        refine gf_iinc (pc := 72) (Nat.le_of_ble_eq_true rfl) rfl (ti_rfl l2) (ti_c (by decide)) (by omega) (by omega) dX0_settleEnds_72 (fun v18 e19 => ?_)
        refine go_lv (lv2 := [(0, .ref l0), (1, .int s0), (2, .int v18)]) rfl ?_
        refine go_goto (pc := 75) (tgt := 4) (by decide) dX0_settleEnds_75 ?_
        have z20 : (v18 : Int32).toInt = (l2.toInt + 1) := e19
        exact go_lv rfl (ih.1 l0 s0 v18 hx hvx hl0 (by omega) (by omega) (by omega) (by omega) (by omega))
      ·
        intro hx hvx hm
        exact gi_vret (pc := 78) ⟨rfl, hvx⟩ hvx dX0_settleEnds_78
  refine go_iconst (pc := 0) (v := 1) (by decide) dX0_settleEnds_0 ?_
  refine go_istore_n (pc := 1) (Nat.le_of_ble_eq_true rfl) dX0_settleEnds_1 (go_lv (lv2 := [(0, .ref c1), (1, .int 1)]) rfl ?_)
  refine go_iconst (pc := 2) (v := 0) (by decide) dX0_settleEnds_2 ?_
  refine go_istore_n (pc := 3) (Nat.le_of_ble_eq_true rfl) dX0_settleEnds_3 (go_lv (lv2 := [(0, .ref c1), (1, .int 1), (2, .int 0)]) rfl ?_)
  have z21 : (1 : Int32).toInt = 1 := (ti_c (v := 1) (a := 1) (by decide))
  have z22 : (0 : Int32).toInt = 0 := (ti_c (v := 0) (a := 0) (by decide))
  exact go_lv rfl ((key 352).1 c1 1 0 h hv hc1 (by omega) (by omega) (by omega) (by omega) (by omega))
set_option maxHeartbeats 4000000 in
set_option maxRecDepth 100000 in
theorem s_X0_allMayEnd (l : Launch) (d : Nat) {P : PP} {h : HP} (hv : Iv P h) (c1 : Nat) (hc1 : c1 = 2 ∨ c1 = 18) : Mt l yX0_allMayEnd cX0_allMayEnd 1 (some .boolean) (d + 1) [.ref c1] h 0 0 (fun r h' => ∃ v : Int32, r = some (.int v) ∧ 0 ≤ v.toInt ∧ v.toInt ≤ 1 ∧ h = h') := by
  refine Mt_iv hv (by decide) (Nat.le_of_ble_eq_true rfl) ?_
  show Go l RX0 cX0_allMayEnd 1 (g_rm (d + 1) 0 0) "allMayEnd" (some .boolean) 117 0 0 (fun _ _ => True) (fun r h' => ∃ v : Int32, r = some (.int v) ∧ 0 ≤ v.toInt ∧ v.toInt ≤ 1 ∧ h = h') 0 0 [(0, .ref c1)] [] h
  have key : ∀ n : Nat, (∀ (s0 : Int32), 0 ≤ s0.toInt → s0.toInt ≤ 1 → (1 : Int) < n → Go l RX0 cX0_allMayEnd 1 (g_rm (d + 1) 0 0) "allMayEnd" (some .boolean) 117 0 0 (fun _ _ => True) (fun r h' => ∃ v : Int32, r = some (.int v) ∧ 0 ≤ v.toInt ∧ v.toInt ≤ 1 ∧ h = h') 0 25 [] [.int s0] h) := by
    intro n
    induction n with
    | zero => exact (by intros; omega)
    | succ n ih =>
      refine ?_
      ·
        intro s0 s0l s0u hm
        exact gi_zret (pc := 25) (ti_rfl s0) (by omega) (by omega) ⟨_, rfl, (by rw [show (s0 : Int32).toInt = s0.toInt from (ti_rfl s0)]; omega), (by rw [show (s0 : Int32).toInt = s0.toInt from (ti_rfl s0)]; omega), rfl⟩ hv dX0_allMayEnd_25
  refine go_aload_n (pc := 0) rfl dX0_allMayEnd_0 ?_
  refine gi_get (pc := 1) (lo := -2147483648) (hi := 2147483647) hv fL_X0_22 (by rcases hc1 with rfl | rfl <;> rfl) (Nat.le_of_ble_eq_true rfl) rfl (by rcases hc1 with rfl | rfl <;> rfl) dX0_allMayEnd_1 (fun v1 v1l v1u v1w => ?_)
  refine go_aload_n (pc := 4) rfl dX0_allMayEnd_4 ?_
  refine gi_get (pc := 5) (lo := -2147483648) (hi := 2147483647) hv fL_X0_25 (by rcases hc1 with rfl | rfl <;> rfl) (Nat.le_of_ble_eq_true rfl) rfl (by rcases hc1 with rfl | rfl <;> rfl) dX0_allMayEnd_5 (fun v2 v2l v2u v2w => ?_)
  refine gu_ior (pc := 8) dX0_allMayEnd_8 (fun v3 => ?_)
  refine go_iconst (pc := 9) (v := 1) (by decide) dX0_allMayEnd_9 ?_
  refine go_aload_n (pc := 10) rfl dX0_allMayEnd_10 ?_
  refine gi_get (pc := 11) (lo := 0) (hi := 5) hv fL_X0_15 (by rcases hc1 with rfl | rfl <;> rfl) (Nat.le_of_ble_eq_true rfl) rfl (by rcases hc1 with rfl | rfl <;> rfl) dX0_allMayEnd_11 (fun v4 v4l v4u v4w => ?_)
  refine gu_ishl (pc := 14) dX0_allMayEnd_14 (fun v5 => ?_)
  refine go_iconst (pc := 15) (v := 1) (by decide) dX0_allMayEnd_15 ?_
  refine gu_isub (pc := 16) dX0_allMayEnd_16 (fun v6 => ?_)
  refine gf_icmp_ne (pc := 17) (tgt := 24) (ti_rfl v3) (ti_rfl v6) (by decide) dX0_allMayEnd_17 (fun q7 => ?_) (fun q7 => ?_)
  ·
    refine go_iconst (pc := 24) (v := 0) (by decide) dX0_allMayEnd_24 ?_
    have z8 : (0 : Int32).toInt = 0 := (ti_c (v := 0) (a := 0) (by decide))
    exact go_lv rfl ((key 14) 0  (by omega) (by omega) (by omega))
  ·
    refine go_iconst (pc := 20) (v := 1) (by decide) dX0_allMayEnd_20 ?_
    refine go_goto (pc := 21) (tgt := 25) (by decide) dX0_allMayEnd_21 ?_
    have z9 : (1 : Int32).toInt = 1 := (ti_c (v := 1) (a := 1) (by decide))
    exact go_lv rfl ((key 14) 1  (by omega) (by omega) (by omega))
set_option maxHeartbeats 4000000 in
set_option maxRecDepth 100000 in
theorem s_X0_callsOf (l : Launch) (d : Nat) {P : PP} {h : HP} (hv : Iv P h) (c1 : Nat) (hc1 : c1 = 2 ∨ c1 = 18) (a2 : Int32) : Mt l yX0_callsOf cX0_callsOf 5 (some .long) (d + 2) [.ref c1, .int a2] h 0 0 (fun r h' => ∃ v : Int64, r = some (.long v) ∧ h = h') := by
  refine Mt_iv hv (by decide) (Nat.le_of_ble_eq_true rfl) ?_
  show Go l RX0 cX0_callsOf 5 (g_rm (d + 2) 0 0) "callsOf" (some .long) 117 0 0 (fun _ _ => True) (fun r h' => ∃ v : Int64, r = some (.long v) ∧ h = h') 0 0 [(0, .ref c1), (1, .int a2)] [] h
  have key : ∀ n : Nat, (∀ (l0 : Nat) (l1 : Int32) (l2 : Int64) (l4 : Int32), (l0 = 2 ∨ l0 = 18) → 0 ≤ l4.toInt → l4.toInt ≤ 40 → (4 * (40 - l4.toInt) + 3 : Int) < n → Go l RX0 cX0_callsOf 5 (g_rm (d + 2) 0 0) "callsOf" (some .long) 117 0 0 (fun _ _ => True) (fun r h' => ∃ v : Int64, r = some (.long v) ∧ h = h') 0 5 [(0, .ref l0), (1, .int l1), (2, .long l2), (4, .int l4)] [] h) ∧ (∀ (l0 : Nat) (l1 : Int32) (l2 : Int64) (l4 : Int32), (l0 = 2 ∨ l0 = 18) → 0 ≤ l4.toInt → l4.toInt ≤ 39 → (4 * (40 - l4.toInt) + 2 : Int) < n → Go l RX0 cX0_callsOf 5 (g_rm (d + 2) 0 0) "callsOf" (some .long) 117 0 0 (fun _ _ => True) (fun r h' => ∃ v : Int64, r = some (.long v) ∧ h = h') 0 33 [(0, .ref l0), (1, .int l1), (2, .long l2), (4, .int l4)] [] h) := by
    intro n
    induction n with
    | zero => exact ⟨(by intros; omega), (by intros; omega)⟩
    | succ n ih =>
      refine ⟨?_, ?_⟩
      ·
        intro l0 l1 l2 l4 hl0 l4l l4u hm
        refine go_iload (pc := 5) rfl dX0_callsOf_5 ?_
        refine go_aload_n (pc := 7) rfl dX0_callsOf_7 ?_
        refine gi_get (pc := 8) (lo := 0) (hi := 40) hv fL_X0_9 (by rcases hl0 with rfl | rfl <;> rfl) (Nat.le_of_ble_eq_true rfl) rfl (by rcases hl0 with rfl | rfl <;> rfl) dX0_callsOf_8 (fun v1 v1l v1u v1w => ?_)
        refine gf_icmp_ge (pc := 11) (tgt := 39) (ti_rfl l4) (ti_rfl v1) (by decide) dX0_callsOf_11 (fun q2 => ?_) (fun q2 => ?_)
        ·
          refine go_lload_n (pc := 39) rfl dX0_callsOf_39 ?_
          exact gi_lret (pc := 40) ⟨_, rfl, rfl⟩ hv dX0_callsOf_40
        ·
          refine go_aload_n (pc := 14) rfl dX0_callsOf_14 ?_
          refine gi_getF (pc := 15) (q := l0 + 7) hv fL_X0_47 (by rcases hl0 with rfl | rfl <;> rfl) (Nat.le_of_ble_eq_true rfl) rfl (by rcases hl0 with rfl | rfl <;> exact hv.rf (by decide)) dX0_callsOf_15 ?_
          refine go_iload (pc := 18) rfl dX0_callsOf_18 ?_
          refine gi_iald (pc := 20) (lo := -2) (hi := 4) (len := 40) hv (ti_rfl l4) (by rcases hl0 with rfl | rfl <;> rfl) (by omega) (by omega) (fun _ => by rcases hl0 with rfl | rfl <;> rfl) dX0_callsOf_20 (fun v3 v3l v3u v3w => ?_)
          refine go_iload_n (pc := 21) rfl dX0_callsOf_21 ?_
          refine gf_icmp_ne (pc := 22) (tgt := 33) (ti_rfl v3) (ti_rfl l1) (by decide) dX0_callsOf_22 (fun q4 => ?_) (fun q4 => ?_)
          ·
            exact go_lv rfl (ih.2 l0 l1 l2 l4  hl0 (by omega) (by omega) (by omega))
          ·
            refine go_lload_n (pc := 25) rfl dX0_callsOf_25 ?_
            refine go_iload (pc := 26) rfl dX0_callsOf_26 ?_
            refine go_invS (pc := 28) (sl := 0) (s_X7_bit l (d + 0) hv l4) mL_X0_86 iM_X7_bit rfl rfl (Nat.le_of_ble_eq_true rfl) (show d + 0 + 1 + 1 ≤ d + 2 by omega) (show 8 + (1 + 11) + 40 * (d + 0 + 1) ≤ 40 * (d + 2) by omega) (g_c0 hv.ln) (Nat.le_of_ble_eq_true rfl) dX0_callsOf_28 ?_
            intro r h5 hq _
            obtain ⟨v6, rfl, rfl⟩ := hq
            refine gu_lor (pc := 31) dX0_callsOf_31 (fun v7 => ?_)
            refine go_lstore_n (pc := 32) (Nat.le_of_ble_eq_true rfl) dX0_callsOf_32 (go_lv (lv2 := [(0, .ref l0), (1, .int l1), (2, .long v7), (4, .int l4)]) rfl ?_)
            exact go_lv rfl (ih.2 l0 l1 v7 l4  hl0 (by omega) (by omega) (by omega))
      ·
        intro l0 l1 l2 l4 hl0 l4l l4u hm
        refine gf_iinc (pc := 33) (Nat.le_of_ble_eq_true rfl) rfl (ti_rfl l4) (ti_c (by decide)) (by omega) (by omega) dX0_callsOf_33 (fun v8 e9 => ?_)
        refine go_lv (lv2 := [(0, .ref l0), (1, .int l1), (2, .long l2), (4, .int v8)]) rfl ?_
        refine go_goto (pc := 36) (tgt := 5) (by decide) dX0_callsOf_36 ?_
        have z10 : (v8 : Int32).toInt = (l4.toInt + 1) := e9
        exact go_lv rfl (ih.1 l0 l1 l2 v8  hl0 (by omega) (by omega) (by omega))
  refine go_lconst (pc := 0) (v := 0) (by decide) dX0_callsOf_0 ?_
  refine go_lstore_n (pc := 1) (Nat.le_of_ble_eq_true rfl) dX0_callsOf_1 (go_lv (lv2 := [(0, .ref c1), (1, .int a2), (2, .long 0)]) rfl ?_)
  refine go_iconst (pc := 2) (v := 0) (by decide) dX0_callsOf_2 ?_
  refine go_istore (pc := 3) (Nat.le_of_ble_eq_true rfl) dX0_callsOf_3 (go_lv (lv2 := [(0, .ref c1), (1, .int a2), (2, .long 0), (4, .int 0)]) rfl ?_)
  have z11 : (0 : Int32).toInt = 0 := (ti_c (v := 0) (a := 0) (by decide))
  exact go_lv rfl ((key 181).1 c1 a2 0 0  hc1 (by omega) (by omega) (by omega))
