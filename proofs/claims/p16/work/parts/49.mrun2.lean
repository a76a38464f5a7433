theorem dX8_run_0 : decode cX8_run 0 = .ok (.aload_n 0, 1) := by decide +kernel
theorem dX8_run_1 : decode cX8_run 1 = .ok (.getfield 243, 3) := by decide +kernel
theorem dX8_run_4 : decode cX8_run 4 = .ok (.ifCond .eq 15, 3) := by decide +kernel
theorem dX8_run_7 : decode cX8_run 7 = .ok (.aload_n 0, 1) := by decide +kernel
theorem dX8_run_8 : decode cX8_run 8 = .ok (.ldc2_w 329, 3) := by decide +kernel
theorem dX8_run_11 : decode cX8_run 11 = .ok (.iload_n 1, 1) := by decide +kernel
theorem dX8_run_12 : decode cX8_run 12 = .ok (.iload_n 2, 1) := by decide +kernel
theorem dX8_run_13 : decode cX8_run 13 = .ok (.invokevirtual 462, 3) := by decide +kernel
theorem dX8_run_16 : decode cX8_run 16 = .ok (.goto 4, 3) := by decide +kernel
theorem dX8_run_19 : decode cX8_run 19 = .ok (.iconst (-1), 1) := by decide +kernel
theorem dX8_run_20 : decode cX8_run 20 = .ok (.ireturn, 1) := by decide +kernel
theorem dX8_runKept_0 : decode cX8_runKept 0 = .ok (.aload_n 0, 1) := by decide +kernel
theorem dX8_runKept_1 : decode cX8_runKept 1 = .ok (.iload_n 1, 1) := by decide +kernel
theorem dX8_runKept_2 : decode cX8_runKept 2 = .ok (.invokevirtual 389, 3) := by decide +kernel
theorem dX8_runKept_5 : decode cX8_runKept 5 = .ok (.ifCond .eq 17, 3) := by decide +kernel
theorem dX8_runKept_8 : decode cX8_runKept 8 = .ok (.aload_n 0, 1) := by decide +kernel
theorem dX8_runKept_9 : decode cX8_runKept 9 = .ok (.aload_n 0, 1) := by decide +kernel
theorem dX8_runKept_10 : decode cX8_runKept 10 = .ok (.iload_n 1, 1) := by decide +kernel
theorem dX8_runKept_11 : decode cX8_runKept 11 = .ok (.invokevirtual 413, 3) := by decide +kernel
theorem dX8_runKept_14 : decode cX8_runKept 14 = .ok (.iload_n 2, 1) := by decide +kernel
theorem dX8_runKept_15 : decode cX8_runKept 15 = .ok (.iload_n 3, 1) := by decide +kernel
theorem dX8_runKept_16 : decode cX8_runKept 16 = .ok (.invokevirtual 462, 3) := by decide +kernel
theorem dX8_runKept_19 : decode cX8_runKept 19 = .ok (.goto 4, 3) := by decide +kernel
theorem dX8_runKept_22 : decode cX8_runKept 22 = .ok (.iconst (-1), 1) := by decide +kernel
theorem dX8_runKept_23 : decode cX8_runKept 23 = .ok (.ireturn, 1) := by decide +kernel
theorem dX8_runs_0 : decode cX8_runs 0 = .ok (.aload_n 0, 1) := by decide +kernel
theorem dX8_runs_1 : decode cX8_runs 1 = .ok (.aload_n 0, 1) := by decide +kernel
theorem dX8_runs_2 : decode cX8_runs 2 = .ok (.getfield 228, 3) := by decide +kernel
theorem dX8_runs_5 : decode cX8_runs 5 = .ok (.putfield 187, 3) := by decide +kernel
theorem dX8_runs_8 : decode cX8_runs 8 = .ok (.aload_n 0, 1) := by decide +kernel
theorem dX8_runs_9 : decode cX8_runs 9 = .ok (.lload_n 1, 1) := by decide +kernel
theorem dX8_runs_10 : decode cX8_runs 10 = .ok (.putfield 424, 3) := by decide +kernel
theorem dX8_runs_13 : decode cX8_runs 13 = .ok (.aload_n 0, 1) := by decide +kernel
theorem dX8_runs_14 : decode cX8_runs 14 = .ok (.iconst 0, 1) := by decide +kernel
theorem dX8_runs_15 : decode cX8_runs 15 = .ok (.putfield 437, 3) := by decide +kernel
theorem dX8_runs_18 : decode cX8_runs 18 = .ok (.aload_n 0, 1) := by decide +kernel
theorem dX8_runs_19 : decode cX8_runs 19 = .ok (.iconst 0, 1) := by decide +kernel
theorem dX8_runs_20 : decode cX8_runs 20 = .ok (.putfield 418, 3) := by decide +kernel
theorem dX8_runs_23 : decode cX8_runs 23 = .ok (.iconst 0, 1) := by decide +kernel
theorem dX8_runs_24 : decode cX8_runs 24 = .ok (.istore 5, 2) := by decide +kernel
theorem dX8_runs_26 : decode cX8_runs 26 = .ok (.iload 5, 2) := by decide +kernel
theorem dX8_runs_28 : decode cX8_runs 28 = .ok (.iconst 4, 1) := by decide +kernel
theorem dX8_runs_29 : decode cX8_runs 29 = .ok (.if_icmp .ge 17, 3) := by decide +kernel
theorem dX8_runs_32 : decode cX8_runs 32 = .ok (.aload_n 0, 1) := by decide +kernel
theorem dX8_runs_33 : decode cX8_runs 33 = .ok (.getfield 139, 3) := by decide +kernel
theorem dX8_runs_36 : decode cX8_runs 36 = .ok (.iload 5, 2) := by decide +kernel
theorem dX8_runs_38 : decode cX8_runs 38 = .ok (.iconst 0, 1) := by decide +kernel
theorem dX8_runs_39 : decode cX8_runs 39 = .ok (.iastore, 1) := by decide +kernel
theorem dX8_runs_40 : decode cX8_runs 40 = .ok (.iinc 5 1, 3) := by decide +kernel
theorem dX8_runs_43 : decode cX8_runs 43 = .ok (.goto (-17), 3) := by decide +kernel
theorem dX8_runs_46 : decode cX8_runs 46 = .ok (.aload_n 0, 1) := by decide +kernel
theorem dX8_runs_47 : decode cX8_runs 47 = .ok (.iconst 0, 1) := by decide +kernel
theorem dX8_runs_48 : decode cX8_runs 48 = .ok (.iconst 0, 1) := by decide +kernel
theorem dX8_runs_49 : decode cX8_runs 49 = .ok (.iload_n 3, 1) := by decide +kernel
theorem dX8_runs_50 : decode cX8_runs 50 = .ok (.iload 4, 2) := by decide +kernel
theorem dX8_runs_52 : decode cX8_runs 52 = .ok (.invokevirtual 457, 3) := by decide +kernel
theorem dX8_runs_55 : decode cX8_runs 55 = .ok (.istore 5, 2) := by decide +kernel
theorem dX8_runs_57 : decode cX8_runs 57 = .ok (.aload_n 0, 1) := by decide +kernel
theorem dX8_runs_58 : decode cX8_runs 58 = .ok (.iconst 1, 1) := by decide +kernel
theorem dX8_runs_59 : decode cX8_runs 59 = .ok (.putfield 247, 3) := by decide +kernel
theorem dX8_runs_62 : decode cX8_runs 62 = .ok (.aload_n 0, 1) := by decide +kernel
theorem dX8_runs_63 : decode cX8_runs 63 = .ok (.iload 5, 2) := by decide +kernel
theorem dX8_runs_65 : decode cX8_runs 65 = .ok (.iconst 1, 1) := by decide +kernel
theorem dX8_runs_66 : decode cX8_runs 66 = .ok (.isub, 1) := by decide +kernel
theorem dX8_runs_67 : decode cX8_runs 67 = .ok (.putfield 459, 3) := by decide +kernel
theorem dX8_runs_70 : decode cX8_runs 70 = .ok (.iload 5, 2) := by decide +kernel
theorem dX8_runs_72 : decode cX8_runs 72 = .ok (.iconst 3, 1) := by decide +kernel
theorem dX8_runs_73 : decode cX8_runs 73 = .ok (.if_icmp .ne 8, 3) := by decide +kernel
theorem dX8_runs_76 : decode cX8_runs 76 = .ok (.aload_n 0, 1) := by decide +kernel
theorem dX8_runs_77 : decode cX8_runs 77 = .ok (.iconst 0, 1) := by decide +kernel
theorem dX8_runs_78 : decode cX8_runs 78 = .ok (.putfield 434, 3) := by decide +kernel
theorem dX8_runs_81 : decode cX8_runs 81 = .ok (.aload_n 0, 1) := by decide +kernel
theorem dX8_runs_82 : decode cX8_runs 82 = .ok (.getfield 459, 3) := by decide +kernel
theorem dX8_runs_85 : decode cX8_runs 85 = .ok (.ireturn, 1) := by decide +kernel
