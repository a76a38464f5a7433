theorem dX2_compute_0 : decode cX2_compute 0 = .ok (.aload_n 0, 1) := by decide +kernel
theorem dX2_compute_1 : decode cX2_compute 1 = .ok (.aload_n 0, 1) := by decide +kernel
theorem dX2_compute_2 : decode cX2_compute 2 = .ok (.getfield 50, 3) := by decide +kernel
theorem dX2_compute_5 : decode cX2_compute 5 = .ok (.getfield 111, 3) := by decide +kernel
theorem dX2_compute_8 : decode cX2_compute 8 = .ok (.iload_n 1, 1) := by decide +kernel
theorem dX2_compute_9 : decode cX2_compute 9 = .ok (.iaload, 1) := by decide +kernel
theorem dX2_compute_10 : decode cX2_compute 10 = .ok (.invokevirtual 114, 3) := by decide +kernel
theorem dX2_compute_13 : decode cX2_compute 13 = .ok (.istore_n 2, 1) := by decide +kernel
theorem dX2_compute_14 : decode cX2_compute 14 = .ok (.aload_n 0, 1) := by decide +kernel
theorem dX2_compute_15 : decode cX2_compute 15 = .ok (.aload_n 0, 1) := by decide +kernel
theorem dX2_compute_16 : decode cX2_compute 16 = .ok (.getfield 50, 3) := by decide +kernel
theorem dX2_compute_19 : decode cX2_compute 19 = .ok (.getfield 120, 3) := by decide +kernel
theorem dX2_compute_22 : decode cX2_compute 22 = .ok (.iload_n 1, 1) := by decide +kernel
theorem dX2_compute_23 : decode cX2_compute 23 = .ok (.iaload, 1) := by decide +kernel
theorem dX2_compute_24 : decode cX2_compute 24 = .ok (.invokevirtual 114, 3) := by decide +kernel
theorem dX2_compute_27 : decode cX2_compute 27 = .ok (.istore_n 3, 1) := by decide +kernel
theorem dX2_compute_28 : decode cX2_compute 28 = .ok (.aload_n 0, 1) := by decide +kernel
theorem dX2_compute_29 : decode cX2_compute 29 = .ok (.getfield 50, 3) := by decide +kernel
theorem dX2_compute_32 : decode cX2_compute 32 = .ok (.getfield 126, 3) := by decide +kernel
theorem dX2_compute_35 : decode cX2_compute 35 = .ok (.iload_n 1, 1) := by decide +kernel
theorem dX2_compute_36 : decode cX2_compute 36 = .ok (.iaload, 1) := by decide +kernel
theorem dX2_compute_37 : decode cX2_compute 37 = .ok (.lookupswitch 66 #[(42, 51), (43, 43), (45, 47), (60, 55)], 43) := by decide +kernel
theorem dX2_compute_80 : decode cX2_compute 80 = .ok (.iload_n 2, 1) := by decide +kernel
theorem dX2_compute_81 : decode cX2_compute 81 = .ok (.iload_n 3, 1) := by decide +kernel
theorem dX2_compute_82 : decode cX2_compute 82 = .ok (.iadd, 1) := by decide +kernel
theorem dX2_compute_83 : decode cX2_compute 83 = .ok (.ireturn, 1) := by decide +kernel
theorem dX2_compute_84 : decode cX2_compute 84 = .ok (.iload_n 2, 1) := by decide +kernel
theorem dX2_compute_85 : decode cX2_compute 85 = .ok (.iload_n 3, 1) := by decide +kernel
theorem dX2_compute_86 : decode cX2_compute 86 = .ok (.isub, 1) := by decide +kernel
theorem dX2_compute_87 : decode cX2_compute 87 = .ok (.ireturn, 1) := by decide +kernel
theorem dX2_compute_88 : decode cX2_compute 88 = .ok (.iload_n 2, 1) := by decide +kernel
theorem dX2_compute_89 : decode cX2_compute 89 = .ok (.iload_n 3, 1) := by decide +kernel
theorem dX2_compute_90 : decode cX2_compute 90 = .ok (.imul, 1) := by decide +kernel
theorem dX2_compute_91 : decode cX2_compute 91 = .ok (.ireturn, 1) := by decide +kernel
theorem dX2_compute_92 : decode cX2_compute 92 = .ok (.iload_n 2, 1) := by decide +kernel
theorem dX2_compute_93 : decode cX2_compute 93 = .ok (.iload_n 3, 1) := by decide +kernel
theorem dX2_compute_94 : decode cX2_compute 94 = .ok (.if_icmp .ge 7, 3) := by decide +kernel
theorem dX2_compute_97 : decode cX2_compute 97 = .ok (.iconst 1, 1) := by decide +kernel
theorem dX2_compute_98 : decode cX2_compute 98 = .ok (.goto 4, 3) := by decide +kernel
theorem dX2_compute_101 : decode cX2_compute 101 = .ok (.iconst 0, 1) := by decide +kernel
theorem dX2_compute_102 : decode cX2_compute 102 = .ok (.ireturn, 1) := by decide +kernel
theorem dX2_compute_103 : decode cX2_compute 103 = .ok (.iload_n 2, 1) := by decide +kernel
theorem dX2_compute_104 : decode cX2_compute 104 = .ok (.ireturn, 1) := by decide +kernel
theorem dX2_enter_0 : decode cX2_enter 0 = .ok (.aload_n 0, 1) := by decide +kernel
theorem dX2_enter_1 : decode cX2_enter 1 = .ok (.getfield 21, 3) := by decide +kernel
theorem dX2_enter_4 : decode cX2_enter 4 = .ok (.bipush 6, 2) := by decide +kernel
theorem dX2_enter_6 : decode cX2_enter 6 = .ok (.imul, 1) := by decide +kernel
theorem dX2_enter_7 : decode cX2_enter 7 = .ok (.istore 4, 2) := by decide +kernel
theorem dX2_enter_9 : decode cX2_enter 9 = .ok (.iconst 0, 1) := by decide +kernel
theorem dX2_enter_10 : decode cX2_enter 10 = .ok (.istore 5, 2) := by decide +kernel
theorem dX2_enter_12 : decode cX2_enter 12 = .ok (.iload 5, 2) := by decide +kernel
theorem dX2_enter_14 : decode cX2_enter 14 = .ok (.bipush 6, 2) := by decide +kernel
theorem dX2_enter_16 : decode cX2_enter 16 = .ok (.if_icmp .ge 20, 3) := by decide +kernel
theorem dX2_enter_19 : decode cX2_enter 19 = .ok (.aload_n 0, 1) := by decide +kernel
theorem dX2_enter_20 : decode cX2_enter 20 = .ok (.getfield 15, 3) := by decide +kernel
theorem dX2_enter_23 : decode cX2_enter 23 = .ok (.iload 4, 2) := by decide +kernel
theorem dX2_enter_25 : decode cX2_enter 25 = .ok (.iload 5, 2) := by decide +kernel
theorem dX2_enter_27 : decode cX2_enter 27 = .ok (.iadd, 1) := by decide +kernel
theorem dX2_enter_28 : decode cX2_enter 28 = .ok (.iconst 0, 1) := by decide +kernel
theorem dX2_enter_29 : decode cX2_enter 29 = .ok (.iastore, 1) := by decide +kernel
theorem dX2_enter_30 : decode cX2_enter 30 = .ok (.iinc 5 1, 3) := by decide +kernel
theorem dX2_enter_33 : decode cX2_enter 33 = .ok (.goto (-21), 3) := by decide +kernel
theorem dX2_enter_36 : decode cX2_enter 36 = .ok (.aload_n 0, 1) := by decide +kernel
theorem dX2_enter_37 : decode cX2_enter 37 = .ok (.getfield 15, 3) := by decide +kernel
theorem dX2_enter_40 : decode cX2_enter 40 = .ok (.iload 4, 2) := by decide +kernel
theorem dX2_enter_42 : decode cX2_enter 42 = .ok (.iload_n 2, 1) := by decide +kernel
theorem dX2_enter_43 : decode cX2_enter 43 = .ok (.iastore, 1) := by decide +kernel
theorem dX2_enter_44 : decode cX2_enter 44 = .ok (.aload_n 0, 1) := by decide +kernel
theorem dX2_enter_45 : decode cX2_enter 45 = .ok (.getfield 15, 3) := by decide +kernel
theorem dX2_enter_48 : decode cX2_enter 48 = .ok (.iload 4, 2) := by decide +kernel
theorem dX2_enter_50 : decode cX2_enter 50 = .ok (.iconst 1, 1) := by decide +kernel
theorem dX2_enter_51 : decode cX2_enter 51 = .ok (.iadd, 1) := by decide +kernel
theorem dX2_enter_52 : decode cX2_enter 52 = .ok (.iload_n 3, 1) := by decide +kernel
theorem dX2_enter_53 : decode cX2_enter 53 = .ok (.iastore, 1) := by decide +kernel
theorem dX2_enter_54 : decode cX2_enter 54 = .ok (.aload_n 0, 1) := by decide +kernel
theorem dX2_enter_55 : decode cX2_enter 55 = .ok (.aload_n 0, 1) := by decide +kernel
theorem dX2_enter_56 : decode cX2_enter 56 = .ok (.getfield 50, 3) := by decide +kernel
theorem dX2_enter_59 : decode cX2_enter 59 = .ok (.getfield 68, 3) := by decide +kernel
theorem dX2_enter_62 : decode cX2_enter 62 = .ok (.iload_n 1, 1) := by decide +kernel
theorem dX2_enter_63 : decode cX2_enter 63 = .ok (.iaload, 1) := by decide +kernel
theorem dX2_enter_64 : decode cX2_enter 64 = .ok (.putfield 25, 3) := by decide +kernel
theorem dX2_enter_67 : decode cX2_enter 67 = .ok (.return_, 1) := by decide +kernel
theorem dX2_forget_0 : decode cX2_forget 0 = .ok (.aload_n 0, 1) := by decide +kernel
theorem dX2_forget_1 : decode cX2_forget 1 = .ok (.iconst (-1), 1) := by decide +kernel
theorem dX2_forget_2 : decode cX2_forget 2 = .ok (.putfield 31, 3) := by decide +kernel
theorem dX2_forget_5 : decode cX2_forget 5 = .ok (.aload_n 0, 1) := by decide +kernel
theorem dX2_forget_6 : decode cX2_forget 6 = .ok (.iconst 0, 1) := by decide +kernel
theorem dX2_forget_7 : decode cX2_forget 7 = .ok (.putfield 43, 3) := by decide +kernel
theorem dX2_forget_10 : decode cX2_forget 10 = .ok (.return_, 1) := by decide +kernel
theorem dX2_leave_0 : decode cX2_leave 0 = .ok (.iconst 0, 1) := by decide +kernel
theorem dX2_leave_1 : decode cX2_leave 1 = .ok (.istore_n 3, 1) := by decide +kernel
theorem dX2_leave_2 : decode cX2_leave 2 = .ok (.iconst 0, 1) := by decide +kernel
theorem dX2_leave_3 : decode cX2_leave 3 = .ok (.istore 4, 2) := by decide +kernel
theorem dX2_leave_5 : decode cX2_leave 5 = .ok (.iload 4, 2) := by decide +kernel
theorem dX2_leave_7 : decode cX2_leave 7 = .ok (.bipush 31, 2) := by decide +kernel
theorem dX2_leave_9 : decode cX2_leave 9 = .ok (.if_icmp .ge 138, 3) := by decide +kernel
theorem dX2_leave_12 : decode cX2_leave 12 = .ok (.aload_n 0, 1) := by decide +kernel
theorem dX2_leave_13 : decode cX2_leave 13 = .ok (.getfield 21, 3) := by decide +kernel
theorem dX2_leave_16 : decode cX2_leave 16 = .ok (.ifCond .le 131, 3) := by decide +kernel
theorem dX2_leave_19 : decode cX2_leave 19 = .ok (.iload_n 3, 1) := by decide +kernel
theorem dX2_leave_20 : decode cX2_leave 20 = .ok (.ifCond .ne 127, 3) := by decide +kernel
theorem dX2_leave_23 : decode cX2_leave 23 = .ok (.aload_n 0, 1) := by decide +kernel
theorem dX2_leave_24 : decode cX2_leave 24 = .ok (.getfield 18, 3) := by decide +kernel
theorem dX2_leave_27 : decode cX2_leave 27 = .ok (.aload_n 0, 1) := by decide +kernel
theorem dX2_leave_28 : decode cX2_leave 28 = .ok (.getfield 21, 3) := by decide +kernel
theorem dX2_leave_31 : decode cX2_leave 31 = .ok (.iaload, 1) := by decide +kernel
theorem dX2_leave_32 : decode cX2_leave 32 = .ok (.istore 5, 2) := by decide +kernel
theorem dX2_leave_34 : decode cX2_leave 34 = .ok (.aload_n 0, 1) := by decide +kernel
theorem dX2_leave_35 : decode cX2_leave 35 = .ok (.dup, 1) := by decide +kernel
theorem dX2_leave_36 : decode cX2_leave 36 = .ok (.getfield 21, 3) := by decide +kernel
theorem dX2_leave_39 : decode cX2_leave 39 = .ok (.iconst 1, 1) := by decide +kernel
theorem dX2_leave_40 : decode cX2_leave 40 = .ok (.isub, 1) := by decide +kernel
theorem dX2_leave_41 : decode cX2_leave 41 = .ok (.putfield 21, 3) := by decide +kernel
theorem dX2_leave_44 : decode cX2_leave 44 = .ok (.aload_n 0, 1) := by decide +kernel
theorem dX2_leave_45 : decode cX2_leave 45 = .ok (.iload 5, 2) := by decide +kernel
theorem dX2_leave_47 : decode cX2_leave 47 = .ok (.iload_n 1, 1) := by decide +kernel
theorem dX2_leave_48 : decode cX2_leave 48 = .ok (.invokevirtual 102, 3) := by decide +kernel
theorem dX2_leave_51 : decode cX2_leave 51 = .ok (.iload_n 2, 1) := by decide +kernel
theorem dX2_leave_52 : decode cX2_leave 52 = .ok (.ifCond .eq 16, 3) := by decide +kernel
theorem dX2_leave_55 : decode cX2_leave 55 = .ok (.aload_n 0, 1) := by decide +kernel
theorem dX2_leave_56 : decode cX2_leave 56 = .ok (.getfield 50, 3) := by decide +kernel
theorem dX2_leave_59 : decode cX2_leave 59 = .ok (.getfield 132, 3) := by decide +kernel
theorem dX2_leave_62 : decode cX2_leave 62 = .ok (.iload 5, 2) := by decide +kernel
theorem dX2_leave_64 : decode cX2_leave 64 = .ok (.iaload, 1) := by decide +kernel
theorem dX2_leave_65 : decode cX2_leave 65 = .ok (.ifCond .lt 7, 3) := by decide +kernel
theorem dX2_leave_68 : decode cX2_leave 68 = .ok (.iconst 1, 1) := by decide +kernel
theorem dX2_leave_69 : decode cX2_leave 69 = .ok (.goto 4, 3) := by decide +kernel
theorem dX2_leave_72 : decode cX2_leave 72 = .ok (.iconst 0, 1) := by decide +kernel
theorem dX2_leave_73 : decode cX2_leave 73 = .ok (.istore_n 3, 1) := by decide +kernel
theorem dX2_leave_74 : decode cX2_leave 74 = .ok (.iload_n 3, 1) := by decide +kernel
theorem dX2_leave_75 : decode cX2_leave 75 = .ok (.ifCond .eq 66, 3) := by decide +kernel
theorem dX2_leave_78 : decode cX2_leave 78 = .ok (.aload_n 0, 1) := by decide +kernel
theorem dX2_leave_79 : decode cX2_leave 79 = .ok (.iload_n 2, 1) := by decide +kernel
theorem dX2_leave_80 : decode cX2_leave 80 = .ok (.ifCond .eq 16, 3) := by decide +kernel
theorem dX2_leave_83 : decode cX2_leave 83 = .ok (.aload_n 0, 1) := by decide +kernel
theorem dX2_leave_84 : decode cX2_leave 84 = .ok (.getfield 50, 3) := by decide +kernel
theorem dX2_leave_87 : decode cX2_leave 87 = .ok (.getfield 132, 3) := by decide +kernel
theorem dX2_leave_90 : decode cX2_leave 90 = .ok (.iload 5, 2) := by decide +kernel
theorem dX2_leave_92 : decode cX2_leave 92 = .ok (.iaload, 1) := by decide +kernel
theorem dX2_leave_93 : decode cX2_leave 93 = .ok (.goto 13, 3) := by decide +kernel
theorem dX2_leave_96 : decode cX2_leave 96 = .ok (.aload_n 0, 1) := by decide +kernel
theorem dX2_leave_97 : decode cX2_leave 97 = .ok (.getfield 50, 3) := by decide +kernel
theorem dX2_leave_100 : decode cX2_leave 100 = .ok (.getfield 95, 3) := by decide +kernel
theorem dX2_leave_103 : decode cX2_leave 103 = .ok (.iload 5, 2) := by decide +kernel
theorem dX2_leave_105 : decode cX2_leave 105 = .ok (.iaload, 1) := by decide +kernel
theorem dX2_leave_106 : decode cX2_leave 106 = .ok (.iload_n 1, 1) := by decide +kernel
theorem dX2_leave_107 : decode cX2_leave 107 = .ok (.invokevirtual 98, 3) := by decide +kernel
theorem dX2_leave_110 : decode cX2_leave 110 = .ok (.aload_n 0, 1) := by decide +kernel
theorem dX2_leave_111 : decode cX2_leave 111 = .ok (.iload_n 2, 1) := by decide +kernel
theorem dX2_leave_112 : decode cX2_leave 112 = .ok (.ifCond .eq 16, 3) := by decide +kernel
theorem dX2_leave_115 : decode cX2_leave 115 = .ok (.aload_n 0, 1) := by decide +kernel
theorem dX2_leave_116 : decode cX2_leave 116 = .ok (.getfield 50, 3) := by decide +kernel
theorem dX2_leave_119 : decode cX2_leave 119 = .ok (.getfield 123, 3) := by decide +kernel
theorem dX2_leave_122 : decode cX2_leave 122 = .ok (.iload 5, 2) := by decide +kernel
theorem dX2_leave_124 : decode cX2_leave 124 = .ok (.iaload, 1) := by decide +kernel
theorem dX2_leave_125 : decode cX2_leave 125 = .ok (.goto 13, 3) := by decide +kernel
theorem dX2_leave_128 : decode cX2_leave 128 = .ok (.aload_n 0, 1) := by decide +kernel
theorem dX2_leave_129 : decode cX2_leave 129 = .ok (.getfield 50, 3) := by decide +kernel
theorem dX2_leave_132 : decode cX2_leave 132 = .ok (.getfield 105, 3) := by decide +kernel
theorem dX2_leave_135 : decode cX2_leave 135 = .ok (.iload 5, 2) := by decide +kernel
theorem dX2_leave_137 : decode cX2_leave 137 = .ok (.iaload, 1) := by decide +kernel
theorem dX2_leave_138 : decode cX2_leave 138 = .ok (.putfield 25, 3) := by decide +kernel
theorem dX2_leave_141 : decode cX2_leave 141 = .ok (.iinc 4 1, 3) := by decide +kernel
theorem dX2_leave_144 : decode cX2_leave 144 = .ok (.goto (-139), 3) := by decide +kernel
theorem dX2_leave_147 : decode cX2_leave 147 = .ok (.iload_n 3, 1) := by decide +kernel
theorem dX2_leave_148 : decode cX2_leave 148 = .ok (.ifCond .ne 21, 3) := by decide +kernel
theorem dX2_leave_151 : decode cX2_leave 151 = .ok (.aload_n 0, 1) := by decide +kernel
theorem dX2_leave_152 : decode cX2_leave 152 = .ok (.iload_n 2, 1) := by decide +kernel
theorem dX2_leave_153 : decode cX2_leave 153 = .ok (.ifCond .eq 7, 3) := by decide +kernel
theorem dX2_leave_156 : decode cX2_leave 156 = .ok (.iconst 1, 1) := by decide +kernel
theorem dX2_leave_157 : decode cX2_leave 157 = .ok (.goto 4, 3) := by decide +kernel
theorem dX2_leave_160 : decode cX2_leave 160 = .ok (.iconst 0, 1) := by decide +kernel
theorem dX2_leave_161 : decode cX2_leave 161 = .ok (.putfield 31, 3) := by decide +kernel
theorem dX2_leave_164 : decode cX2_leave 164 = .ok (.aload_n 0, 1) := by decide +kernel
theorem dX2_leave_165 : decode cX2_leave 165 = .ok (.iload_n 1, 1) := by decide +kernel
theorem dX2_leave_166 : decode cX2_leave 166 = .ok (.putfield 34, 3) := by decide +kernel
theorem dX2_leave_169 : decode cX2_leave 169 = .ok (.return_, 1) := by decide +kernel
theorem dX2_load_0 : decode cX2_load 0 = .ok (.iload_n 1, 1) := by decide +kernel
theorem dX2_load_1 : decode cX2_load 1 = .ok (.ifCond .ge 5, 3) := by decide +kernel
theorem dX2_load_4 : decode cX2_load 4 = .ok (.iconst 0, 1) := by decide +kernel
theorem dX2_load_5 : decode cX2_load 5 = .ok (.ireturn, 1) := by decide +kernel
theorem dX2_load_6 : decode cX2_load 6 = .ok (.iload_n 1, 1) := by decide +kernel
theorem dX2_load_7 : decode cX2_load 7 = .ok (.bipush 10, 2) := by decide +kernel
theorem dX2_load_9 : decode cX2_load 9 = .ok (.if_icmp .lt 8, 3) := by decide +kernel
theorem dX2_load_12 : decode cX2_load 12 = .ok (.iload_n 1, 1) := by decide +kernel
theorem dX2_load_13 : decode cX2_load 13 = .ok (.bipush 10, 2) := by decide +kernel
theorem dX2_load_15 : decode cX2_load 15 = .ok (.isub, 1) := by decide +kernel
theorem dX2_load_16 : decode cX2_load 16 = .ok (.ireturn, 1) := by decide +kernel
theorem dX2_load_17 : decode cX2_load 17 = .ok (.iload_n 1, 1) := by decide +kernel
theorem dX2_load_18 : decode cX2_load 18 = .ok (.bipush 6, 2) := by decide +kernel
theorem dX2_load_20 : decode cX2_load 20 = .ok (.if_icmp .lt 13, 3) := by decide +kernel
theorem dX2_load_23 : decode cX2_load 23 = .ok (.aload_n 0, 1) := by decide +kernel
theorem dX2_load_24 : decode cX2_load 24 = .ok (.getfield 9, 3) := by decide +kernel
theorem dX2_load_27 : decode cX2_load 27 = .ok (.iload_n 1, 1) := by decide +kernel
theorem dX2_load_28 : decode cX2_load 28 = .ok (.bipush 6, 2) := by decide +kernel
theorem dX2_load_30 : decode cX2_load 30 = .ok (.isub, 1) := by decide +kernel
theorem dX2_load_31 : decode cX2_load 31 = .ok (.iaload, 1) := by decide +kernel
theorem dX2_load_32 : decode cX2_load 32 = .ok (.ireturn, 1) := by decide +kernel
theorem dX2_load_33 : decode cX2_load 33 = .ok (.aload_n 0, 1) := by decide +kernel
theorem dX2_load_34 : decode cX2_load 34 = .ok (.getfield 15, 3) := by decide +kernel
theorem dX2_load_37 : decode cX2_load 37 = .ok (.aload_n 0, 1) := by decide +kernel
theorem dX2_load_38 : decode cX2_load 38 = .ok (.getfield 21, 3) := by decide +kernel
theorem dX2_load_41 : decode cX2_load 41 = .ok (.bipush 6, 2) := by decide +kernel
theorem dX2_load_43 : decode cX2_load 43 = .ok (.imul, 1) := by decide +kernel
theorem dX2_load_44 : decode cX2_load 44 = .ok (.iload_n 1, 1) := by decide +kernel
theorem dX2_load_45 : decode cX2_load 45 = .ok (.iadd, 1) := by decide +kernel
theorem dX2_load_46 : decode cX2_load 46 = .ok (.iaload, 1) := by decide +kernel
theorem dX2_load_47 : decode cX2_load 47 = .ok (.ireturn, 1) := by decide +kernel
theorem dX2_open_0 : decode cX2_open 0 = .ok (.aload_n 0, 1) := by decide +kernel
theorem dX2_open_1 : decode cX2_open 1 = .ok (.getfield 21, 3) := by decide +kernel
theorem dX2_open_4 : decode cX2_open 4 = .ok (.iconst 1, 1) := by decide +kernel
theorem dX2_open_5 : decode cX2_open 5 = .ok (.iadd, 1) := by decide +kernel
theorem dX2_open_6 : decode cX2_open 6 = .ok (.bipush 31, 2) := by decide +kernel
theorem dX2_open_8 : decode cX2_open 8 = .ok (.if_icmp .lt 9, 3) := by decide +kernel
theorem dX2_open_11 : decode cX2_open 11 = .ok (.aload_n 0, 1) := by decide +kernel
theorem dX2_open_12 : decode cX2_open 12 = .ok (.iconst 2, 1) := by decide +kernel
theorem dX2_open_13 : decode cX2_open 13 = .ok (.putfield 31, 3) := by decide +kernel
theorem dX2_open_16 : decode cX2_open 16 = .ok (.return_, 1) := by decide +kernel
theorem dX2_open_17 : decode cX2_open 17 = .ok (.aload_n 0, 1) := by decide +kernel
theorem dX2_open_18 : decode cX2_open 18 = .ok (.aload_n 0, 1) := by decide +kernel
theorem dX2_open_19 : decode cX2_open 19 = .ok (.getfield 50, 3) := by decide +kernel
theorem dX2_open_22 : decode cX2_open 22 = .ok (.getfield 111, 3) := by decide +kernel
theorem dX2_open_25 : decode cX2_open 25 = .ok (.iload_n 1, 1) := by decide +kernel
theorem dX2_open_26 : decode cX2_open 26 = .ok (.iaload, 1) := by decide +kernel
theorem dX2_open_27 : decode cX2_open 27 = .ok (.invokevirtual 114, 3) := by decide +kernel
theorem dX2_open_30 : decode cX2_open 30 = .ok (.istore_n 2, 1) := by decide +kernel
theorem dX2_open_31 : decode cX2_open 31 = .ok (.aload_n 0, 1) := by decide +kernel
theorem dX2_open_32 : decode cX2_open 32 = .ok (.aload_n 0, 1) := by decide +kernel
theorem dX2_open_33 : decode cX2_open 33 = .ok (.getfield 50, 3) := by decide +kernel
theorem dX2_open_36 : decode cX2_open 36 = .ok (.getfield 120, 3) := by decide +kernel
theorem dX2_open_39 : decode cX2_open 39 = .ok (.iload_n 1, 1) := by decide +kernel
theorem dX2_open_40 : decode cX2_open 40 = .ok (.iaload, 1) := by decide +kernel
theorem dX2_open_41 : decode cX2_open 41 = .ok (.invokevirtual 114, 3) := by decide +kernel
theorem dX2_open_44 : decode cX2_open 44 = .ok (.istore_n 3, 1) := by decide +kernel
theorem dX2_open_45 : decode cX2_open 45 = .ok (.aload_n 0, 1) := by decide +kernel
theorem dX2_open_46 : decode cX2_open 46 = .ok (.dup, 1) := by decide +kernel
theorem dX2_open_47 : decode cX2_open 47 = .ok (.getfield 21, 3) := by decide +kernel
theorem dX2_open_50 : decode cX2_open 50 = .ok (.iconst 1, 1) := by decide +kernel
theorem dX2_open_51 : decode cX2_open 51 = .ok (.iadd, 1) := by decide +kernel
theorem dX2_open_52 : decode cX2_open 52 = .ok (.putfield 21, 3) := by decide +kernel
theorem dX2_open_55 : decode cX2_open 55 = .ok (.aload_n 0, 1) := by decide +kernel
theorem dX2_open_56 : decode cX2_open 56 = .ok (.getfield 18, 3) := by decide +kernel
theorem dX2_open_59 : decode cX2_open 59 = .ok (.aload_n 0, 1) := by decide +kernel
theorem dX2_open_60 : decode cX2_open 60 = .ok (.getfield 21, 3) := by decide +kernel
theorem dX2_open_63 : decode cX2_open 63 = .ok (.iload_n 1, 1) := by decide +kernel
theorem dX2_open_64 : decode cX2_open 64 = .ok (.iastore, 1) := by decide +kernel
theorem dX2_open_65 : decode cX2_open 65 = .ok (.aload_n 0, 1) := by decide +kernel
theorem dX2_open_66 : decode cX2_open 66 = .ok (.aload_n 0, 1) := by decide +kernel
theorem dX2_open_67 : decode cX2_open 67 = .ok (.getfield 50, 3) := by decide +kernel
theorem dX2_open_70 : decode cX2_open 70 = .ok (.getfield 129, 3) := by decide +kernel
theorem dX2_open_73 : decode cX2_open 73 = .ok (.iload_n 1, 1) := by decide +kernel
theorem dX2_open_74 : decode cX2_open 74 = .ok (.iaload, 1) := by decide +kernel
theorem dX2_open_75 : decode cX2_open 75 = .ok (.iload_n 2, 1) := by decide +kernel
theorem dX2_open_76 : decode cX2_open 76 = .ok (.iload_n 3, 1) := by decide +kernel
theorem dX2_open_77 : decode cX2_open 77 = .ok (.invokevirtual 60, 3) := by decide +kernel
theorem dX2_open_80 : decode cX2_open 80 = .ok (.return_, 1) := by decide +kernel
theorem dX2_perform_0 : decode cX2_perform 0 = .ok (.aload_n 0, 1) := by decide +kernel
theorem dX2_perform_1 : decode cX2_perform 1 = .ok (.getfield 50, 3) := by decide +kernel
theorem dX2_perform_4 : decode cX2_perform 4 = .ok (.getfield 88, 3) := by decide +kernel
theorem dX2_perform_7 : decode cX2_perform 7 = .ok (.iload_n 1, 1) := by decide +kernel
theorem dX2_perform_8 : decode cX2_perform 8 = .ok (.iaload, 1) := by decide +kernel
theorem dX2_perform_9 : decode cX2_perform 9 = .ok (.tableswitch 167 0 5 #[39, 81, 167, 167, 89, 128], 39) := by decide +kernel
theorem dX2_perform_48 : decode cX2_perform 48 = .ok (.aload_n 0, 1) := by decide +kernel
theorem dX2_perform_49 : decode cX2_perform 49 = .ok (.iload_n 1, 1) := by decide +kernel
theorem dX2_perform_50 : decode cX2_perform 50 = .ok (.invokevirtual 91, 3) := by decide +kernel
theorem dX2_perform_53 : decode cX2_perform 53 = .ok (.istore_n 2, 1) := by decide +kernel
theorem dX2_perform_54 : decode cX2_perform 54 = .ok (.aload_n 0, 1) := by decide +kernel
theorem dX2_perform_55 : decode cX2_perform 55 = .ok (.aload_n 0, 1) := by decide +kernel
theorem dX2_perform_56 : decode cX2_perform 56 = .ok (.getfield 50, 3) := by decide +kernel
theorem dX2_perform_59 : decode cX2_perform 59 = .ok (.getfield 95, 3) := by decide +kernel
theorem dX2_perform_62 : decode cX2_perform 62 = .ok (.iload_n 1, 1) := by decide +kernel
theorem dX2_perform_63 : decode cX2_perform 63 = .ok (.iaload, 1) := by decide +kernel
theorem dX2_perform_64 : decode cX2_perform 64 = .ok (.iload_n 2, 1) := by decide +kernel
theorem dX2_perform_65 : decode cX2_perform 65 = .ok (.invokevirtual 98, 3) := by decide +kernel
theorem dX2_perform_68 : decode cX2_perform 68 = .ok (.aload_n 0, 1) := by decide +kernel
theorem dX2_perform_69 : decode cX2_perform 69 = .ok (.iload_n 1, 1) := by decide +kernel
theorem dX2_perform_70 : decode cX2_perform 70 = .ok (.iload_n 2, 1) := by decide +kernel
theorem dX2_perform_71 : decode cX2_perform 71 = .ok (.invokevirtual 102, 3) := by decide +kernel
theorem dX2_perform_74 : decode cX2_perform 74 = .ok (.aload_n 0, 1) := by decide +kernel
theorem dX2_perform_75 : decode cX2_perform 75 = .ok (.aload_n 0, 1) := by decide +kernel
theorem dX2_perform_76 : decode cX2_perform 76 = .ok (.getfield 50, 3) := by decide +kernel
theorem dX2_perform_79 : decode cX2_perform 79 = .ok (.getfield 105, 3) := by decide +kernel
theorem dX2_perform_82 : decode cX2_perform 82 = .ok (.iload_n 1, 1) := by decide +kernel
theorem dX2_perform_83 : decode cX2_perform 83 = .ok (.iaload, 1) := by decide +kernel
theorem dX2_perform_84 : decode cX2_perform 84 = .ok (.putfield 25, 3) := by decide +kernel
theorem dX2_perform_87 : decode cX2_perform 87 = .ok (.goto 167, 3) := by decide +kernel
theorem dX2_perform_90 : decode cX2_perform 90 = .ok (.aload_n 0, 1) := by decide +kernel
theorem dX2_perform_91 : decode cX2_perform 91 = .ok (.iload_n 1, 1) := by decide +kernel
theorem dX2_perform_92 : decode cX2_perform 92 = .ok (.invokevirtual 108, 3) := by decide +kernel
theorem dX2_perform_95 : decode cX2_perform 95 = .ok (.goto 159, 3) := by decide +kernel
theorem dX2_perform_98 : decode cX2_perform 98 = .ok (.aload_n 0, 1) := by decide +kernel
theorem dX2_perform_99 : decode cX2_perform 99 = .ok (.iload_n 1, 1) := by decide +kernel
theorem dX2_perform_100 : decode cX2_perform 100 = .ok (.aload_n 0, 1) := by decide +kernel
theorem dX2_perform_101 : decode cX2_perform 101 = .ok (.aload_n 0, 1) := by decide +kernel
theorem dX2_perform_102 : decode cX2_perform 102 = .ok (.getfield 50, 3) := by decide +kernel
theorem dX2_perform_105 : decode cX2_perform 105 = .ok (.getfield 111, 3) := by decide +kernel
theorem dX2_perform_108 : decode cX2_perform 108 = .ok (.iload_n 1, 1) := by decide +kernel
theorem dX2_perform_109 : decode cX2_perform 109 = .ok (.iaload, 1) := by decide +kernel
theorem dX2_perform_110 : decode cX2_perform 110 = .ok (.invokevirtual 114, 3) := by decide +kernel
theorem dX2_perform_113 : decode cX2_perform 113 = .ok (.invokevirtual 102, 3) := by decide +kernel
theorem dX2_perform_116 : decode cX2_perform 116 = .ok (.aload_n 0, 1) := by decide +kernel
theorem dX2_perform_117 : decode cX2_perform 117 = .ok (.iload_n 1, 1) := by decide +kernel
theorem dX2_perform_118 : decode cX2_perform 118 = .ok (.aload_n 0, 1) := by decide +kernel
theorem dX2_perform_119 : decode cX2_perform 119 = .ok (.aload_n 0, 1) := by decide +kernel
theorem dX2_perform_120 : decode cX2_perform 120 = .ok (.getfield 50, 3) := by decide +kernel
theorem dX2_perform_123 : decode cX2_perform 123 = .ok (.getfield 111, 3) := by decide +kernel
theorem dX2_perform_126 : decode cX2_perform 126 = .ok (.iload_n 1, 1) := by decide +kernel
theorem dX2_perform_127 : decode cX2_perform 127 = .ok (.iaload, 1) := by decide +kernel
theorem dX2_perform_128 : decode cX2_perform 128 = .ok (.invokevirtual 114, 3) := by decide +kernel
theorem dX2_perform_131 : decode cX2_perform 131 = .ok (.invokevirtual 117, 3) := by decide +kernel
theorem dX2_perform_134 : decode cX2_perform 134 = .ok (.goto 120, 3) := by decide +kernel
theorem dX2_perform_137 : decode cX2_perform 137 = .ok (.aload_n 0, 1) := by decide +kernel
theorem dX2_perform_138 : decode cX2_perform 138 = .ok (.iload_n 1, 1) := by decide +kernel
theorem dX2_perform_139 : decode cX2_perform 139 = .ok (.aload_n 0, 1) := by decide +kernel
theorem dX2_perform_140 : decode cX2_perform 140 = .ok (.aload_n 0, 1) := by decide +kernel
theorem dX2_perform_141 : decode cX2_perform 141 = .ok (.getfield 50, 3) := by decide +kernel
theorem dX2_perform_144 : decode cX2_perform 144 = .ok (.getfield 111, 3) := by decide +kernel
theorem dX2_perform_147 : decode cX2_perform 147 = .ok (.iload_n 1, 1) := by decide +kernel
theorem dX2_perform_148 : decode cX2_perform 148 = .ok (.iaload, 1) := by decide +kernel
theorem dX2_perform_149 : decode cX2_perform 149 = .ok (.invokevirtual 114, 3) := by decide +kernel
theorem dX2_perform_152 : decode cX2_perform 152 = .ok (.invokevirtual 102, 3) := by decide +kernel
theorem dX2_perform_155 : decode cX2_perform 155 = .ok (.aload_n 0, 1) := by decide +kernel
theorem dX2_perform_156 : decode cX2_perform 156 = .ok (.aload_n 0, 1) := by decide +kernel
theorem dX2_perform_157 : decode cX2_perform 157 = .ok (.aload_n 0, 1) := by decide +kernel
theorem dX2_perform_158 : decode cX2_perform 158 = .ok (.getfield 50, 3) := by decide +kernel
theorem dX2_perform_161 : decode cX2_perform 161 = .ok (.getfield 111, 3) := by decide +kernel
theorem dX2_perform_164 : decode cX2_perform 164 = .ok (.iload_n 1, 1) := by decide +kernel
theorem dX2_perform_165 : decode cX2_perform 165 = .ok (.iaload, 1) := by decide +kernel
theorem dX2_perform_166 : decode cX2_perform 166 = .ok (.invokevirtual 114, 3) := by decide +kernel
theorem dX2_perform_169 : decode cX2_perform 169 = .ok (.iconst 0, 1) := by decide +kernel
theorem dX2_perform_170 : decode cX2_perform 170 = .ok (.invokevirtual 73, 3) := by decide +kernel
theorem dX2_perform_173 : decode cX2_perform 173 = .ok (.goto 81, 3) := by decide +kernel
theorem dX2_perform_176 : decode cX2_perform 176 = .ok (.aload_n 0, 1) := by decide +kernel
theorem dX2_perform_177 : decode cX2_perform 177 = .ok (.aload_n 0, 1) := by decide +kernel
theorem dX2_perform_178 : decode cX2_perform 178 = .ok (.getfield 50, 3) := by decide +kernel
theorem dX2_perform_181 : decode cX2_perform 181 = .ok (.getfield 111, 3) := by decide +kernel
theorem dX2_perform_184 : decode cX2_perform 184 = .ok (.iload_n 1, 1) := by decide +kernel
theorem dX2_perform_185 : decode cX2_perform 185 = .ok (.iaload, 1) := by decide +kernel
theorem dX2_perform_186 : decode cX2_perform 186 = .ok (.invokevirtual 114, 3) := by decide +kernel
theorem dX2_perform_189 : decode cX2_perform 189 = .ok (.aload_n 0, 1) := by decide +kernel
theorem dX2_perform_190 : decode cX2_perform 190 = .ok (.aload_n 0, 1) := by decide +kernel
theorem dX2_perform_191 : decode cX2_perform 191 = .ok (.getfield 50, 3) := by decide +kernel
theorem dX2_perform_194 : decode cX2_perform 194 = .ok (.getfield 120, 3) := by decide +kernel
theorem dX2_perform_197 : decode cX2_perform 197 = .ok (.iload_n 1, 1) := by decide +kernel
theorem dX2_perform_198 : decode cX2_perform 198 = .ok (.iaload, 1) := by decide +kernel
theorem dX2_perform_199 : decode cX2_perform 199 = .ok (.invokevirtual 114, 3) := by decide +kernel
theorem dX2_perform_202 : decode cX2_perform 202 = .ok (.if_icmp .ge 7, 3) := by decide +kernel
theorem dX2_perform_205 : decode cX2_perform 205 = .ok (.iconst 1, 1) := by decide +kernel
theorem dX2_perform_206 : decode cX2_perform 206 = .ok (.goto 4, 3) := by decide +kernel
theorem dX2_perform_209 : decode cX2_perform 209 = .ok (.iconst 0, 1) := by decide +kernel
theorem dX2_perform_210 : decode cX2_perform 210 = .ok (.istore_n 3, 1) := by decide +kernel
theorem dX2_perform_211 : decode cX2_perform 211 = .ok (.aload_n 0, 1) := by decide +kernel
theorem dX2_perform_212 : decode cX2_perform 212 = .ok (.iload_n 1, 1) := by decide +kernel
theorem dX2_perform_213 : decode cX2_perform 213 = .ok (.iload_n 3, 1) := by decide +kernel
theorem dX2_perform_214 : decode cX2_perform 214 = .ok (.ifCond .eq 7, 3) := by decide +kernel
theorem dX2_perform_217 : decode cX2_perform 217 = .ok (.iconst 1, 1) := by decide +kernel
theorem dX2_perform_218 : decode cX2_perform 218 = .ok (.goto 4, 3) := by decide +kernel
theorem dX2_perform_221 : decode cX2_perform 221 = .ok (.iconst 0, 1) := by decide +kernel
theorem dX2_perform_222 : decode cX2_perform 222 = .ok (.invokevirtual 102, 3) := by decide +kernel
theorem dX2_perform_225 : decode cX2_perform 225 = .ok (.aload_n 0, 1) := by decide +kernel
theorem dX2_perform_226 : decode cX2_perform 226 = .ok (.iload_n 3, 1) := by decide +kernel
theorem dX2_perform_227 : decode cX2_perform 227 = .ok (.ifCond .eq 15, 3) := by decide +kernel
theorem dX2_perform_230 : decode cX2_perform 230 = .ok (.aload_n 0, 1) := by decide +kernel
theorem dX2_perform_231 : decode cX2_perform 231 = .ok (.getfield 50, 3) := by decide +kernel
theorem dX2_perform_234 : decode cX2_perform 234 = .ok (.getfield 123, 3) := by decide +kernel
theorem dX2_perform_237 : decode cX2_perform 237 = .ok (.iload_n 1, 1) := by decide +kernel
theorem dX2_perform_238 : decode cX2_perform 238 = .ok (.iaload, 1) := by decide +kernel
theorem dX2_perform_239 : decode cX2_perform 239 = .ok (.goto 12, 3) := by decide +kernel
theorem dX2_perform_242 : decode cX2_perform 242 = .ok (.aload_n 0, 1) := by decide +kernel
theorem dX2_perform_243 : decode cX2_perform 243 = .ok (.getfield 50, 3) := by decide +kernel
theorem dX2_perform_246 : decode cX2_perform 246 = .ok (.getfield 105, 3) := by decide +kernel
theorem dX2_perform_249 : decode cX2_perform 249 = .ok (.iload_n 1, 1) := by decide +kernel
theorem dX2_perform_250 : decode cX2_perform 250 = .ok (.iaload, 1) := by decide +kernel
theorem dX2_perform_251 : decode cX2_perform 251 = .ok (.putfield 25, 3) := by decide +kernel
theorem dX2_perform_254 : decode cX2_perform 254 = .ok (.return_, 1) := by decide +kernel
theorem dX2_play_0 : decode cX2_play 0 = .ok (.aload_n 0, 1) := by decide +kernel
theorem dX2_play_1 : decode cX2_play 1 = .ok (.aload_n 1, 1) := by decide +kernel
theorem dX2_play_2 : decode cX2_play 2 = .ok (.putfield 50, 3) := by decide +kernel
theorem dX2_play_5 : decode cX2_play 5 = .ok (.aload_n 0, 1) := by decide +kernel
theorem dX2_play_6 : decode cX2_play 6 = .ok (.lload_n 2, 1) := by decide +kernel
theorem dX2_play_7 : decode cX2_play 7 = .ok (.putfield 46, 3) := by decide +kernel
theorem dX2_play_10 : decode cX2_play 10 = .ok (.aload_n 0, 1) := by decide +kernel
theorem dX2_play_11 : decode cX2_play 11 = .ok (.getfield 9, 3) := by decide +kernel
theorem dX2_play_14 : decode cX2_play 14 = .ok (.iconst 0, 1) := by decide +kernel
theorem dX2_play_15 : decode cX2_play 15 = .ok (.invokestatic 54, 3) := by decide +kernel
theorem dX2_play_18 : decode cX2_play 18 = .ok (.aload_n 0, 1) := by decide +kernel
theorem dX2_play_19 : decode cX2_play 19 = .ok (.iconst 0, 1) := by decide +kernel
theorem dX2_play_20 : decode cX2_play 20 = .ok (.putfield 21, 3) := by decide +kernel
theorem dX2_play_23 : decode cX2_play 23 = .ok (.aload_n 0, 1) := by decide +kernel
theorem dX2_play_24 : decode cX2_play 24 = .ok (.iconst 0, 1) := by decide +kernel
theorem dX2_play_25 : decode cX2_play 25 = .ok (.putfield 28, 3) := by decide +kernel
theorem dX2_play_28 : decode cX2_play 28 = .ok (.aload_n 0, 1) := by decide +kernel
theorem dX2_play_29 : decode cX2_play 29 = .ok (.iconst 0, 1) := by decide +kernel
theorem dX2_play_30 : decode cX2_play 30 = .ok (.putfield 34, 3) := by decide +kernel
theorem dX2_play_33 : decode cX2_play 33 = .ok (.aload_n 0, 1) := by decide +kernel
theorem dX2_play_34 : decode cX2_play 34 = .ok (.iconst 0, 1) := by decide +kernel
theorem dX2_play_35 : decode cX2_play 35 = .ok (.putfield 43, 3) := by decide +kernel
theorem dX2_play_38 : decode cX2_play 38 = .ok (.aload_n 0, 1) := by decide +kernel
theorem dX2_play_39 : decode cX2_play 39 = .ok (.iconst 3, 1) := by decide +kernel
theorem dX2_play_40 : decode cX2_play 40 = .ok (.putfield 31, 3) := by decide +kernel
theorem dX2_play_43 : decode cX2_play 43 = .ok (.aload_n 0, 1) := by decide +kernel
theorem dX2_play_44 : decode cX2_play 44 = .ok (.iconst 0, 1) := by decide +kernel
theorem dX2_play_45 : decode cX2_play 45 = .ok (.iload 4, 2) := by decide +kernel
theorem dX2_play_47 : decode cX2_play 47 = .ok (.iload 5, 2) := by decide +kernel
theorem dX2_play_49 : decode cX2_play 49 = .ok (.invokevirtual 60, 3) := by decide +kernel
theorem dX2_play_52 : decode cX2_play 52 = .ok (.iconst 0, 1) := by decide +kernel
theorem dX2_play_53 : decode cX2_play 53 = .ok (.istore 6, 2) := by decide +kernel
theorem dX2_play_55 : decode cX2_play 55 = .ok (.iload 6, 2) := by decide +kernel
theorem dX2_play_57 : decode cX2_play 57 = .ok (.ldc 64, 2) := by decide +kernel
theorem dX2_play_59 : decode cX2_play 59 = .ok (.if_icmp .ge 21, 3) := by decide +kernel
theorem dX2_play_62 : decode cX2_play 62 = .ok (.aload_n 0, 1) := by decide +kernel
theorem dX2_play_63 : decode cX2_play 63 = .ok (.getfield 31, 3) := by decide +kernel
theorem dX2_play_66 : decode cX2_play 66 = .ok (.iconst 3, 1) := by decide +kernel
theorem dX2_play_67 : decode cX2_play 67 = .ok (.if_icmp .ne 13, 3) := by decide +kernel
theorem dX2_play_70 : decode cX2_play 70 = .ok (.aload_n 0, 1) := by decide +kernel
theorem dX2_play_71 : decode cX2_play 71 = .ok (.invokevirtual 65, 3) := by decide +kernel
theorem dX2_play_74 : decode cX2_play 74 = .ok (.iinc 6 1, 3) := by decide +kernel
theorem dX2_play_77 : decode cX2_play 77 = .ok (.goto (-22), 3) := by decide +kernel
theorem dX2_play_80 : decode cX2_play 80 = .ok (.aload_n 0, 1) := by decide +kernel
theorem dX2_play_81 : decode cX2_play 81 = .ok (.getfield 31, 3) := by decide +kernel
theorem dX2_play_84 : decode cX2_play 84 = .ok (.ireturn, 1) := by decide +kernel
theorem dX2_raise_0 : decode cX2_raise 0 = .ok (.aload_n 0, 1) := by decide +kernel
theorem dX2_raise_1 : decode cX2_raise 1 = .ok (.getfield 50, 3) := by decide +kernel
theorem dX2_raise_4 : decode cX2_raise 4 = .ok (.getfield 132, 3) := by decide +kernel
theorem dX2_raise_7 : decode cX2_raise 7 = .ok (.iload_n 1, 1) := by decide +kernel
theorem dX2_raise_8 : decode cX2_raise 8 = .ok (.iaload, 1) := by decide +kernel
theorem dX2_raise_9 : decode cX2_raise 9 = .ok (.ifCond .lt 33, 3) := by decide +kernel
theorem dX2_raise_12 : decode cX2_raise 12 = .ok (.aload_n 0, 1) := by decide +kernel
theorem dX2_raise_13 : decode cX2_raise 13 = .ok (.aload_n 0, 1) := by decide +kernel
theorem dX2_raise_14 : decode cX2_raise 14 = .ok (.getfield 50, 3) := by decide +kernel
theorem dX2_raise_17 : decode cX2_raise 17 = .ok (.getfield 132, 3) := by decide +kernel
theorem dX2_raise_20 : decode cX2_raise 20 = .ok (.iload_n 1, 1) := by decide +kernel
theorem dX2_raise_21 : decode cX2_raise 21 = .ok (.iaload, 1) := by decide +kernel
theorem dX2_raise_22 : decode cX2_raise 22 = .ok (.iload_n 2, 1) := by decide +kernel
theorem dX2_raise_23 : decode cX2_raise 23 = .ok (.invokevirtual 98, 3) := by decide +kernel
theorem dX2_raise_26 : decode cX2_raise 26 = .ok (.aload_n 0, 1) := by decide +kernel
theorem dX2_raise_27 : decode cX2_raise 27 = .ok (.aload_n 0, 1) := by decide +kernel
theorem dX2_raise_28 : decode cX2_raise 28 = .ok (.getfield 50, 3) := by decide +kernel
theorem dX2_raise_31 : decode cX2_raise 31 = .ok (.getfield 123, 3) := by decide +kernel
theorem dX2_raise_34 : decode cX2_raise 34 = .ok (.iload_n 1, 1) := by decide +kernel
theorem dX2_raise_35 : decode cX2_raise 35 = .ok (.iaload, 1) := by decide +kernel
theorem dX2_raise_36 : decode cX2_raise 36 = .ok (.putfield 25, 3) := by decide +kernel
theorem dX2_raise_39 : decode cX2_raise 39 = .ok (.goto 9, 3) := by decide +kernel
theorem dX2_raise_42 : decode cX2_raise 42 = .ok (.aload_n 0, 1) := by decide +kernel
theorem dX2_raise_43 : decode cX2_raise 43 = .ok (.iload_n 2, 1) := by decide +kernel
theorem dX2_raise_44 : decode cX2_raise 44 = .ok (.iconst 1, 1) := by decide +kernel
theorem dX2_raise_45 : decode cX2_raise 45 = .ok (.invokevirtual 73, 3) := by decide +kernel
theorem dX2_raise_48 : decode cX2_raise 48 = .ok (.return_, 1) := by decide +kernel
theorem dX2_see_0 : decode cX2_see 0 = .ok (.aload_n 0, 1) := by decide +kernel
theorem dX2_see_1 : decode cX2_see 1 = .ok (.getfield 43, 3) := by decide +kernel
theorem dX2_see_4 : decode cX2_see 4 = .ok (.sipush 500, 3) := by decide +kernel
theorem dX2_see_7 : decode cX2_see 7 = .ok (.if_icmp .ge 33, 3) := by decide +kernel
theorem dX2_see_10 : decode cX2_see 10 = .ok (.aload_n 0, 1) := by decide +kernel
theorem dX2_see_11 : decode cX2_see 11 = .ok (.getfield 37, 3) := by decide +kernel
theorem dX2_see_14 : decode cX2_see 14 = .ok (.aload_n 0, 1) := by decide +kernel
theorem dX2_see_15 : decode cX2_see 15 = .ok (.getfield 43, 3) := by decide +kernel
theorem dX2_see_18 : decode cX2_see 18 = .ok (.iload_n 1, 1) := by decide +kernel
theorem dX2_see_19 : decode cX2_see 19 = .ok (.iastore, 1) := by decide +kernel
theorem dX2_see_20 : decode cX2_see 20 = .ok (.aload_n 0, 1) := by decide +kernel
theorem dX2_see_21 : decode cX2_see 21 = .ok (.getfield 40, 3) := by decide +kernel
theorem dX2_see_24 : decode cX2_see 24 = .ok (.aload_n 0, 1) := by decide +kernel
theorem dX2_see_25 : decode cX2_see 25 = .ok (.getfield 43, 3) := by decide +kernel
theorem dX2_see_28 : decode cX2_see 28 = .ok (.iload_n 2, 1) := by decide +kernel
theorem dX2_see_29 : decode cX2_see 29 = .ok (.iastore, 1) := by decide +kernel
theorem dX2_see_30 : decode cX2_see 30 = .ok (.aload_n 0, 1) := by decide +kernel
theorem dX2_see_31 : decode cX2_see 31 = .ok (.dup, 1) := by decide +kernel
theorem dX2_see_32 : decode cX2_see 32 = .ok (.getfield 43, 3) := by decide +kernel
theorem dX2_see_35 : decode cX2_see 35 = .ok (.iconst 1, 1) := by decide +kernel
theorem dX2_see_36 : decode cX2_see 36 = .ok (.iadd, 1) := by decide +kernel
theorem dX2_see_37 : decode cX2_see 37 = .ok (.putfield 43, 3) := by decide +kernel
theorem dX2_see_40 : decode cX2_see 40 = .ok (.return_, 1) := by decide +kernel
theorem dX2_sightOf_0 : decode cX2_sightOf 0 = .ok (.iconst 0, 1) := by decide +kernel
theorem dX2_sightOf_1 : decode cX2_sightOf 1 = .ok (.istore_n 3, 1) := by decide +kernel
theorem dX2_sightOf_2 : decode cX2_sightOf 2 = .ok (.iconst 0, 1) := by decide +kernel
theorem dX2_sightOf_3 : decode cX2_sightOf 3 = .ok (.istore 4, 2) := by decide +kernel
theorem dX2_sightOf_5 : decode cX2_sightOf 5 = .ok (.iload 4, 2) := by decide +kernel
theorem dX2_sightOf_7 : decode cX2_sightOf 7 = .ok (.aload_n 0, 1) := by decide +kernel
theorem dX2_sightOf_8 : decode cX2_sightOf 8 = .ok (.getfield 43, 3) := by decide +kernel
theorem dX2_sightOf_11 : decode cX2_sightOf 11 = .ok (.if_icmp .ge 36, 3) := by decide +kernel
theorem dX2_sightOf_14 : decode cX2_sightOf 14 = .ok (.aload_n 0, 1) := by decide +kernel
theorem dX2_sightOf_15 : decode cX2_sightOf 15 = .ok (.getfield 37, 3) := by decide +kernel
theorem dX2_sightOf_18 : decode cX2_sightOf 18 = .ok (.iload 4, 2) := by decide +kernel
theorem dX2_sightOf_20 : decode cX2_sightOf 20 = .ok (.iaload, 1) := by decide +kernel
theorem dX2_sightOf_21 : decode cX2_sightOf 21 = .ok (.iload_n 1, 1) := by decide +kernel
theorem dX2_sightOf_22 : decode cX2_sightOf 22 = .ok (.if_icmp .ne 19, 3) := by decide +kernel
theorem dX2_sightOf_25 : decode cX2_sightOf 25 = .ok (.iload_n 3, 1) := by decide +kernel
theorem dX2_sightOf_26 : decode cX2_sightOf 26 = .ok (.iload_n 2, 1) := by decide +kernel
theorem dX2_sightOf_27 : decode cX2_sightOf 27 = .ok (.if_icmp .ne 11, 3) := by decide +kernel
theorem dX2_sightOf_30 : decode cX2_sightOf 30 = .ok (.aload_n 0, 1) := by decide +kernel
theorem dX2_sightOf_31 : decode cX2_sightOf 31 = .ok (.getfield 40, 3) := by decide +kernel
theorem dX2_sightOf_34 : decode cX2_sightOf 34 = .ok (.iload 4, 2) := by decide +kernel
theorem dX2_sightOf_36 : decode cX2_sightOf 36 = .ok (.iaload, 1) := by decide +kernel
theorem dX2_sightOf_37 : decode cX2_sightOf 37 = .ok (.ireturn, 1) := by decide +kernel
theorem dX2_sightOf_38 : decode cX2_sightOf 38 = .ok (.iinc 3 1, 3) := by decide +kernel
theorem dX2_sightOf_41 : decode cX2_sightOf 41 = .ok (.iinc 4 1, 3) := by decide +kernel
theorem dX2_sightOf_44 : decode cX2_sightOf 44 = .ok (.goto (-39), 3) := by decide +kernel
theorem dX2_sightOf_47 : decode cX2_sightOf 47 = .ok (.iconst 0, 1) := by decide +kernel
theorem dX2_sightOf_48 : decode cX2_sightOf 48 = .ok (.ireturn, 1) := by decide +kernel
theorem dX2_sightsOf_0 : decode cX2_sightsOf 0 = .ok (.iconst 0, 1) := by decide +kernel
theorem dX2_sightsOf_1 : decode cX2_sightsOf 1 = .ok (.istore_n 2, 1) := by decide +kernel
theorem dX2_sightsOf_2 : decode cX2_sightsOf 2 = .ok (.iconst 0, 1) := by decide +kernel
theorem dX2_sightsOf_3 : decode cX2_sightsOf 3 = .ok (.istore_n 3, 1) := by decide +kernel
theorem dX2_sightsOf_4 : decode cX2_sightsOf 4 = .ok (.iload_n 3, 1) := by decide +kernel
theorem dX2_sightsOf_5 : decode cX2_sightsOf 5 = .ok (.aload_n 0, 1) := by decide +kernel
theorem dX2_sightsOf_6 : decode cX2_sightsOf 6 = .ok (.getfield 43, 3) := by decide +kernel
theorem dX2_sightsOf_9 : decode cX2_sightsOf 9 = .ok (.if_icmp .ge 22, 3) := by decide +kernel
theorem dX2_sightsOf_12 : decode cX2_sightsOf 12 = .ok (.aload_n 0, 1) := by decide +kernel
theorem dX2_sightsOf_13 : decode cX2_sightsOf 13 = .ok (.getfield 37, 3) := by decide +kernel
theorem dX2_sightsOf_16 : decode cX2_sightsOf 16 = .ok (.iload_n 3, 1) := by decide +kernel
theorem dX2_sightsOf_17 : decode cX2_sightsOf 17 = .ok (.iaload, 1) := by decide +kernel
theorem dX2_sightsOf_18 : decode cX2_sightsOf 18 = .ok (.iload_n 1, 1) := by decide +kernel
theorem dX2_sightsOf_19 : decode cX2_sightsOf 19 = .ok (.if_icmp .ne 6, 3) := by decide +kernel
theorem dX2_sightsOf_22 : decode cX2_sightsOf 22 = .ok (.iinc 2 1, 3) := by decide +kernel
theorem dX2_sightsOf_25 : decode cX2_sightsOf 25 = .ok (.iinc 3 1, 3) := by decide +kernel
theorem dX2_sightsOf_28 : decode cX2_sightsOf 28 = .ok (.goto (-24), 3) := by decide +kernel
theorem dX2_sightsOf_31 : decode cX2_sightsOf 31 = .ok (.iload_n 2, 1) := by decide +kernel
theorem dX2_sightsOf_32 : decode cX2_sightsOf 32 = .ok (.ireturn, 1) := by decide +kernel
theorem dX2_step_0 : decode cX2_step 0 = .ok (.aload_n 0, 1) := by decide +kernel
theorem dX2_step_1 : decode cX2_step 1 = .ok (.getfield 25, 3) := by decide +kernel
theorem dX2_step_4 : decode cX2_step 4 = .ok (.bipush 40, 2) := by decide +kernel
theorem dX2_step_6 : decode cX2_step 6 = .ok (.if_icmp .lt 12, 3) := by decide +kernel
theorem dX2_step_9 : decode cX2_step 9 = .ok (.aload_n 0, 1) := by decide +kernel
theorem dX2_step_10 : decode cX2_step 10 = .ok (.iconst 0, 1) := by decide +kernel
theorem dX2_step_11 : decode cX2_step 11 = .ok (.iconst 0, 1) := by decide +kernel
theorem dX2_step_12 : decode cX2_step 12 = .ok (.invokevirtual 73, 3) := by decide +kernel
theorem dX2_step_15 : decode cX2_step 15 = .ok (.goto 72, 3) := by decide +kernel
theorem dX2_step_18 : decode cX2_step 18 = .ok (.aload_n 0, 1) := by decide +kernel
theorem dX2_step_19 : decode cX2_step 19 = .ok (.getfield 46, 3) := by decide +kernel
theorem dX2_step_22 : decode cX2_step 22 = .ok (.aload_n 0, 1) := by decide +kernel
theorem dX2_step_23 : decode cX2_step 23 = .ok (.getfield 25, 3) := by decide +kernel
theorem dX2_step_26 : decode cX2_step 26 = .ok (.invokestatic 77, 3) := by decide +kernel
theorem dX2_step_29 : decode cX2_step 29 = .ok (.ifCond .ne 22, 3) := by decide +kernel
theorem dX2_step_32 : decode cX2_step 32 = .ok (.aload_n 0, 1) := by decide +kernel
theorem dX2_step_33 : decode cX2_step 33 = .ok (.aload_n 0, 1) := by decide +kernel
theorem dX2_step_34 : decode cX2_step 34 = .ok (.getfield 50, 3) := by decide +kernel
theorem dX2_step_37 : decode cX2_step 37 = .ok (.getfield 81, 3) := by decide +kernel
theorem dX2_step_40 : decode cX2_step 40 = .ok (.aload_n 0, 1) := by decide +kernel
theorem dX2_step_41 : decode cX2_step 41 = .ok (.getfield 25, 3) := by decide +kernel
theorem dX2_step_44 : decode cX2_step 44 = .ok (.iaload, 1) := by decide +kernel
theorem dX2_step_45 : decode cX2_step 45 = .ok (.putfield 25, 3) := by decide +kernel
theorem dX2_step_48 : decode cX2_step 48 = .ok (.goto 39, 3) := by decide +kernel
theorem dX2_step_51 : decode cX2_step 51 = .ok (.aload_n 0, 1) := by decide +kernel
theorem dX2_step_52 : decode cX2_step 52 = .ok (.getfield 28, 3) := by decide +kernel
theorem dX2_step_55 : decode cX2_step 55 = .ok (.sipush 3000, 3) := by decide +kernel
theorem dX2_step_58 : decode cX2_step 58 = .ok (.if_icmp .lt 11, 3) := by decide +kernel
theorem dX2_step_61 : decode cX2_step 61 = .ok (.aload_n 0, 1) := by decide +kernel
theorem dX2_step_62 : decode cX2_step 62 = .ok (.iconst 2, 1) := by decide +kernel
theorem dX2_step_63 : decode cX2_step 63 = .ok (.putfield 31, 3) := by decide +kernel
theorem dX2_step_66 : decode cX2_step 66 = .ok (.goto 21, 3) := by decide +kernel
theorem dX2_step_69 : decode cX2_step 69 = .ok (.aload_n 0, 1) := by decide +kernel
theorem dX2_step_70 : decode cX2_step 70 = .ok (.dup, 1) := by decide +kernel
theorem dX2_step_71 : decode cX2_step 71 = .ok (.getfield 28, 3) := by decide +kernel
theorem dX2_step_74 : decode cX2_step 74 = .ok (.iconst 1, 1) := by decide +kernel
theorem dX2_step_75 : decode cX2_step 75 = .ok (.iadd, 1) := by decide +kernel
theorem dX2_step_76 : decode cX2_step 76 = .ok (.putfield 28, 3) := by decide +kernel
theorem dX2_step_79 : decode cX2_step 79 = .ok (.aload_n 0, 1) := by decide +kernel
theorem dX2_step_80 : decode cX2_step 80 = .ok (.aload_n 0, 1) := by decide +kernel
theorem dX2_step_81 : decode cX2_step 81 = .ok (.getfield 25, 3) := by decide +kernel
theorem dX2_step_84 : decode cX2_step 84 = .ok (.invokevirtual 84, 3) := by decide +kernel
theorem dX2_step_87 : decode cX2_step 87 = .ok (.return_, 1) := by decide +kernel
theorem dX2_store_0 : decode cX2_store 0 = .ok (.iload_n 1, 1) := by decide +kernel
theorem dX2_store_1 : decode cX2_store 1 = .ok (.bipush 6, 2) := by decide +kernel
theorem dX2_store_3 : decode cX2_store 3 = .ok (.if_icmp .lt 16, 3) := by decide +kernel
theorem dX2_store_6 : decode cX2_store 6 = .ok (.aload_n 0, 1) := by decide +kernel
theorem dX2_store_7 : decode cX2_store 7 = .ok (.getfield 9, 3) := by decide +kernel
theorem dX2_store_10 : decode cX2_store 10 = .ok (.iload_n 1, 1) := by decide +kernel
theorem dX2_store_11 : decode cX2_store 11 = .ok (.bipush 6, 2) := by decide +kernel
theorem dX2_store_13 : decode cX2_store 13 = .ok (.isub, 1) := by decide +kernel
theorem dX2_store_14 : decode cX2_store 14 = .ok (.iload_n 2, 1) := by decide +kernel
theorem dX2_store_15 : decode cX2_store 15 = .ok (.iastore, 1) := by decide +kernel
theorem dX2_store_16 : decode cX2_store 16 = .ok (.goto 22, 3) := by decide +kernel
theorem dX2_store_19 : decode cX2_store 19 = .ok (.iload_n 1, 1) := by decide +kernel
theorem dX2_store_20 : decode cX2_store 20 = .ok (.ifCond .lt 18, 3) := by decide +kernel
theorem dX2_store_23 : decode cX2_store 23 = .ok (.aload_n 0, 1) := by decide +kernel
theorem dX2_store_24 : decode cX2_store 24 = .ok (.getfield 15, 3) := by decide +kernel
theorem dX2_store_27 : decode cX2_store 27 = .ok (.aload_n 0, 1) := by decide +kernel
theorem dX2_store_28 : decode cX2_store 28 = .ok (.getfield 21, 3) := by decide +kernel
theorem dX2_store_31 : decode cX2_store 31 = .ok (.bipush 6, 2) := by decide +kernel
theorem dX2_store_33 : decode cX2_store 33 = .ok (.imul, 1) := by decide +kernel
theorem dX2_store_34 : decode cX2_store 34 = .ok (.iload_n 1, 1) := by decide +kernel
theorem dX2_store_35 : decode cX2_store 35 = .ok (.iadd, 1) := by decide +kernel
theorem dX2_store_36 : decode cX2_store 36 = .ok (.iload_n 2, 1) := by decide +kernel
theorem dX2_store_37 : decode cX2_store 37 = .ok (.iastore, 1) := by decide +kernel
theorem dX2_store_38 : decode cX2_store 38 = .ok (.return_, 1) := by decide +kernel
theorem dX2_tell_0 : decode cX2_tell 0 = .ok (.aload_n 0, 1) := by decide +kernel
theorem dX2_tell_1 : decode cX2_tell 1 = .ok (.getfield 31, 3) := by decide +kernel
theorem dX2_tell_4 : decode cX2_tell 4 = .ok (.iconst (-1), 1) := by decide +kernel
theorem dX2_tell_5 : decode cX2_tell 5 = .ok (.if_icmp .ne 5, 3) := by decide +kernel
theorem dX2_tell_8 : decode cX2_tell 8 = .ok (.iconst (-1), 1) := by decide +kernel
theorem dX2_tell_9 : decode cX2_tell 9 = .ok (.ireturn, 1) := by decide +kernel
theorem dX2_tell_10 : decode cX2_tell 10 = .ok (.iload_n 1, 1) := by decide +kernel
theorem dX2_tell_11 : decode cX2_tell 11 = .ok (.tableswitch 65 0 6 #[41, 46, 51, 56, 56, 56, 56], 41) := by decide +kernel
theorem dX2_tell_52 : decode cX2_tell 52 = .ok (.aload_n 0, 1) := by decide +kernel
theorem dX2_tell_53 : decode cX2_tell 53 = .ok (.getfield 31, 3) := by decide +kernel
theorem dX2_tell_56 : decode cX2_tell 56 = .ok (.ireturn, 1) := by decide +kernel
theorem dX2_tell_57 : decode cX2_tell 57 = .ok (.aload_n 0, 1) := by decide +kernel
theorem dX2_tell_58 : decode cX2_tell 58 = .ok (.getfield 34, 3) := by decide +kernel
theorem dX2_tell_61 : decode cX2_tell 61 = .ok (.ireturn, 1) := by decide +kernel
theorem dX2_tell_62 : decode cX2_tell 62 = .ok (.aload_n 0, 1) := by decide +kernel
theorem dX2_tell_63 : decode cX2_tell 63 = .ok (.getfield 28, 3) := by decide +kernel
theorem dX2_tell_66 : decode cX2_tell 66 = .ok (.ireturn, 1) := by decide +kernel
theorem dX2_tell_67 : decode cX2_tell 67 = .ok (.aload_n 0, 1) := by decide +kernel
theorem dX2_tell_68 : decode cX2_tell 68 = .ok (.getfield 9, 3) := by decide +kernel
theorem dX2_tell_71 : decode cX2_tell 71 = .ok (.iload_n 1, 1) := by decide +kernel
theorem dX2_tell_72 : decode cX2_tell 72 = .ok (.iconst 3, 1) := by decide +kernel
theorem dX2_tell_73 : decode cX2_tell 73 = .ok (.isub, 1) := by decide +kernel
theorem dX2_tell_74 : decode cX2_tell 74 = .ok (.iaload, 1) := by decide +kernel
theorem dX2_tell_75 : decode cX2_tell 75 = .ok (.ireturn, 1) := by decide +kernel
theorem dX2_tell_76 : decode cX2_tell 76 = .ok (.iconst (-1), 1) := by decide +kernel
theorem dX2_tell_77 : decode cX2_tell 77 = .ok (.ireturn, 1) := by decide +kernel
set_option maxHeartbeats 4000000 in
set_option maxRecDepth 100000 in
theorem s_X2_load (l : Launch) (d : Nat) {P : PP} {h : HP} (hv : Iv P h) (a2 : Int32) : Mt l yX2_load cX2_load 2 (some .int) (d + 1) [.ref 64, .int a2] h 0 0 (fun r h' => ∃ v : Int32, r = some (.int v) ∧ -2147483648 ≤ v.toInt ∧ v.toInt ≤ 2147483647 ∧ h = h') := by
  refine Mt_iv hv (by decide) (Nat.le_of_ble_eq_true rfl) ?_
  show Go l RX2 cX2_load 2 (g_rm (d + 1) 0 0) "load" (some .int) 117 0 0 (fun _ _ => True) (fun r h' => ∃ v : Int32, r = some (.int v) ∧ -2147483648 ≤ v.toInt ∧ v.toInt ≤ 2147483647 ∧ h = h') 0 0 [(0, .ref 64), (1, .int a2)] [] h
  refine go_iload_n (pc := 0) rfl dX2_load_0 ?_
  refine gf_if_ge (pc := 1) (tgt := 6) (ti_rfl a2) (by decide) dX2_load_1 (fun q1 => ?_) (fun q1 => ?_)
  ·
    refine go_iload_n (pc := 6) rfl dX2_load_6 ?_
    refine go_bipush (pc := 7) (v := 10) (by decide) dX2_load_7 ?_
    refine gf_icmp_lt (pc := 9) (tgt := 17) (ti_rfl a2) (ti_c (v := 10) (a := 10) (by decide)) (by decide) dX2_load_9 (fun q2 => ?_) (fun q2 => ?_)
    ·
      refine go_iload_n (pc := 17) rfl dX2_load_17 ?_
      refine go_bipush (pc := 18) (v := 6) (by decide) dX2_load_18 ?_
      refine gf_icmp_lt (pc := 20) (tgt := 33) (ti_rfl a2) (ti_c (v := 6) (a := 6) (by decide)) (by decide) dX2_load_20 (fun q3 => ?_) (fun q3 => ?_)
      ·
        refine go_aload_n (pc := 33) rfl dX2_load_33 ?_
        refine gi_getF (pc := 34) (q := 66) hv fL_X2_15 rfl (Nat.le_of_ble_eq_true rfl) rfl (hv.rf (by decide)) dX2_load_34 ?_
        refine go_aload_n (pc := 37) rfl dX2_load_37 ?_
        refine gi_get (pc := 38) (lo := 0) (hi := 30) hv fL_X2_21 rfl (Nat.le_of_ble_eq_true rfl) rfl rfl dX2_load_38 (fun v4 v4l v4u v4w => ?_)
        refine go_bipush (pc := 41) (v := 6) (by decide) dX2_load_41 ?_
        refine gf_imul (pc := 43) (ti_rfl v4) (ti_c (v := 6) (a := 6) (by decide)) (by omega) (by omega) dX2_load_43 (fun v5 e6 => ?_)
        refine go_iload_n (pc := 44) rfl dX2_load_44 ?_
        refine gf_iadd (pc := 45) e6 (ti_rfl a2) (by omega) (by omega) dX2_load_45 (fun v7 e8 => ?_)
        refine gi_iald (pc := 46) (lo := -2147483648) (hi := 2147483647) (len := 186) hv e8 rfl (by omega) (by omega) (fun _ => rfl) dX2_load_46 (fun v9 v9l v9u v9w => ?_)
        exact gi_iret (pc := 47) (ti_rfl v9) ⟨_, rfl, (ti_lo _), (ti_hi _), rfl⟩ hv dX2_load_47
      ·
        refine go_aload_n (pc := 23) rfl dX2_load_23 ?_
        refine gi_getF (pc := 24) (q := 65) hv fL_X2_9 rfl (Nat.le_of_ble_eq_true rfl) rfl (hv.rf (by decide)) dX2_load_24 ?_
        refine go_iload_n (pc := 27) rfl dX2_load_27 ?_
        refine go_bipush (pc := 28) (v := 6) (by decide) dX2_load_28 ?_
        refine gf_isub (pc := 30) (ti_rfl a2) (ti_c (v := 6) (a := 6) (by decide)) (by omega) (by omega) dX2_load_30 (fun v10 e11 => ?_)
        refine gi_iald (pc := 31) (lo := -2147483648) (hi := 2147483647) (len := 4) hv e11 rfl (by omega) (by omega) (fun _ => rfl) dX2_load_31 (fun v12 v12l v12u v12w => ?_)
        exact gi_iret (pc := 32) (ti_rfl v12) ⟨_, rfl, (ti_lo _), (ti_hi _), rfl⟩ hv dX2_load_32
    ·
      refine go_iload_n (pc := 12) rfl dX2_load_12 ?_
      refine go_bipush (pc := 13) (v := 10) (by decide) dX2_load_13 ?_
      have b14 := ti_le2 (ti_rfl a2)
      refine gf_isub (pc := 15) (ti_rfl a2) (ti_c (v := 10) (a := 10) (by decide)) (by omega) (by omega) dX2_load_15 (fun v13 e15 => ?_)
      exact gi_iret (pc := 16) e15 ⟨_, rfl, (ti_lo _), (ti_hi _), rfl⟩ hv dX2_load_16
  ·
    refine go_iconst (pc := 4) (v := 0) (by decide) dX2_load_4 ?_
    exact gi_iret (pc := 5) (ti_c (v := 0) (a := 0) (by decide)) ⟨_, rfl, (ti_lo _), (ti_hi _), rfl⟩ hv dX2_load_5
set_option maxHeartbeats 4000000 in
set_option maxRecDepth 100000 in
theorem s_X2_compute (l : Launch) (d : Nat) {P : PP} {h : HP} (hv : Iv P h) (a2 : Int32) (a2l : 0 ≤ a2.toInt) (a2u : a2.toInt ≤ 39) : Mt l yX2_compute cX2_compute 4 (some .int) (d + 2) [.ref 64, .int a2] h 0 0 (fun r h' => ∃ v : Int32, r = some (.int v) ∧ -2147483648 ≤ v.toInt ∧ v.toInt ≤ 2147483647 ∧ h = h') := by
  refine Mt_iv hv (by decide) (Nat.le_of_ble_eq_true rfl) ?_
  show Go l RX2 cX2_compute 4 (g_rm (d + 2) 0 0) "compute" (some .int) 117 0 0 (fun _ _ => True) (fun r h' => ∃ v : Int32, r = some (.int v) ∧ -2147483648 ≤ v.toInt ∧ v.toInt ≤ 2147483647 ∧ h = h') 0 0 [(0, .ref 64), (1, .int a2)] [] h
  have key : ∀ n : Nat, (∀ (s0 : Int32), 0 ≤ s0.toInt → s0.toInt ≤ 1 → (1 : Int) < n → Go l RX2 cX2_compute 4 (g_rm (d + 2) 0 0) "compute" (some .int) 117 0 0 (fun _ _ => True) (fun r h' => ∃ v : Int32, r = some (.int v) ∧ -2147483648 ≤ v.toInt ∧ v.toInt ≤ 2147483647 ∧ h = h') 0 102 [] [.int s0] h) := by
    intro n
    induction n with
    | zero => exact (by intros; omega)
    | succ n ih =>
      refine ?_
      ·
        intro s0 s0l s0u hm
        exact gi_iret (pc := 102) (ti_rfl s0) ⟨_, rfl, (ti_lo _), (ti_hi _), rfl⟩ hv dX2_compute_102
  refine go_aload_n (pc := 0) rfl dX2_compute_0 ?_
  refine go_aload_n (pc := 1) rfl dX2_compute_1 ?_
  refine gi_getC (pc := 2) hv fL_X2_50 rfl (Nat.le_of_ble_eq_true rfl) rfl (by decide) dX2_compute_2 (fun c1 hc1 fc1 => ?_)
  refine gi_getF (pc := 5) (q := c1 + 9) hv fL_X2_111 (by rcases hc1 with rfl | rfl <;> rfl) (Nat.le_of_ble_eq_true rfl) rfl (by rcases hc1 with rfl | rfl <;> exact hv.rf (by decide)) dX2_compute_5 ?_
  refine go_iload_n (pc := 8) rfl dX2_compute_8 ?_
  refine gi_iald (pc := 9) (lo := -2147483648) (hi := 2147483647) (len := 40) hv (ti_rfl a2) (by rcases hc1 with rfl | rfl <;> rfl) (by omega) (by omega) (fun _ => by rcases hc1 with rfl | rfl <;> rfl) dX2_compute_9 (fun v2 v2l v2u v2w => ?_)
  refine go_invV (pc := 10) (sl := 0) (s_X2_load l (d + 0) hv v2) mL_X2_114 iM_X2_load sM_X2_load (hv.sh rfl) rfl rfl rfl (Nat.le_of_ble_eq_true rfl) (show d + 0 + 1 + 1 ≤ d + 2 by omega) (show 8 + (2 + 11) + 40 * (d + 0 + 1) ≤ 40 * (d + 2) by omega) (g_c0 hv.ln) (Nat.le_of_ble_eq_true rfl) dX2_compute_10 ?_
  intro r h3 hq _
  obtain ⟨v4, rfl, v4l, v4u, rfl⟩ := hq
  refine go_istore_n (pc := 13) (Nat.le_of_ble_eq_true rfl) dX2_compute_13 (go_lv (lv2 := [(0, .ref 64), (1, .int a2), (2, .int v4)]) rfl ?_)
  refine go_aload_n (pc := 14) rfl dX2_compute_14 ?_
  refine go_aload_n (pc := 15) rfl dX2_compute_15 ?_
  refine gi_getC (pc := 16) hv fL_X2_50 rfl (Nat.le_of_ble_eq_true rfl) rfl (by decide) dX2_compute_16 (fun c5 hc5 fc5 => ?_)
  refine gi_getF (pc := 19) (q := c5 + 10) hv fL_X2_120 (by rcases hc5 with rfl | rfl <;> rfl) (Nat.le_of_ble_eq_true rfl) rfl (by rcases hc5 with rfl | rfl <;> exact hv.rf (by decide)) dX2_compute_19 ?_
  refine go_iload_n (pc := 22) rfl dX2_compute_22 ?_
  refine gi_iald (pc := 23) (lo := -2147483648) (hi := 2147483647) (len := 40) hv (ti_rfl a2) (by rcases hc5 with rfl | rfl <;> rfl) (by omega) (by omega) (fun _ => by rcases hc5 with rfl | rfl <;> rfl) dX2_compute_23 (fun v6 v6l v6u v6w => ?_)
  refine go_invV (pc := 24) (sl := 0) (s_X2_load l (d + 0) hv v6) mL_X2_114 iM_X2_load sM_X2_load (hv.sh rfl) rfl rfl rfl (Nat.le_of_ble_eq_true rfl) (show d + 0 + 1 + 1 ≤ d + 2 by omega) (show 8 + (2 + 11) + 40 * (d + 0 + 1) ≤ 40 * (d + 2) by omega) (g_c0 hv.ln) (Nat.le_of_ble_eq_true rfl) dX2_compute_24 ?_
  intro r h7 hq _
  obtain ⟨v8, rfl, v8l, v8u, rfl⟩ := hq
  refine go_istore_n (pc := 27) (Nat.le_of_ble_eq_true rfl) dX2_compute_27 (go_lv (lv2 := [(0, .ref 64), (1, .int a2), (2, .int v4), (3, .int v8)]) rfl ?_)
  refine go_aload_n (pc := 28) rfl dX2_compute_28 ?_
  refine gi_getC (pc := 29) hv fL_X2_50 rfl (Nat.le_of_ble_eq_true rfl) rfl (by decide) dX2_compute_29 (fun c9 hc9 fc9 => ?_)
  refine gi_getF (pc := 32) (q := c9 + 8) hv fL_X2_126 (by rcases hc9 with rfl | rfl <;> rfl) (Nat.le_of_ble_eq_true rfl) rfl (by rcases hc9 with rfl | rfl <;> exact hv.rf (by decide)) dX2_compute_32 ?_
  refine go_iload_n (pc := 35) rfl dX2_compute_35 ?_
  refine gi_iald (pc := 36) (lo := -2147483648) (hi := 2147483647) (len := 40) hv (ti_rfl a2) (by rcases hc9 with rfl | rfl <;> rfl) (by omega) (by omega) (fun _ => by rcases hc9 with rfl | rfl <;> rfl) dX2_compute_36 (fun v10 v10l v10u v10w => ?_)
  by_cases q11 : v10.toInt = 42
  ·
    refine go_lookup (pc := 37) (tgt := 88) (off := 51) (by decide) (by rw [show (v10 : Int32).toInt = v10.toInt from (ti_rfl v10), q11]; decide) (by decide) dX2_compute_37 ?_
    refine go_iload_n (pc := 88) rfl dX2_compute_88 ?_
    refine go_iload_n (pc := 89) rfl dX2_compute_89 ?_
    refine gu_imul (pc := 90) dX2_compute_90 (fun v12 => ?_)
    exact gi_iret (pc := 91) (ti_rfl v12) ⟨_, rfl, (ti_lo _), (ti_hi _), rfl⟩ hv dX2_compute_91
  by_cases q13 : v10.toInt = 43
  ·
    refine go_lookup (pc := 37) (tgt := 80) (off := 43) (by decide) (by rw [show (v10 : Int32).toInt = v10.toInt from (ti_rfl v10), q13]; decide) (by decide) dX2_compute_37 ?_
    refine go_iload_n (pc := 80) rfl dX2_compute_80 ?_
    refine go_iload_n (pc := 81) rfl dX2_compute_81 ?_
    refine gu_iadd (pc := 82) dX2_compute_82 (fun v14 => ?_)
    exact gi_iret (pc := 83) (ti_rfl v14) ⟨_, rfl, (ti_lo _), (ti_hi _), rfl⟩ hv dX2_compute_83
  by_cases q15 : v10.toInt = 45
  ·
    refine go_lookup (pc := 37) (tgt := 84) (off := 47) (by decide) (by rw [show (v10 : Int32).toInt = v10.toInt from (ti_rfl v10), q15]; decide) (by decide) dX2_compute_37 ?_
    refine go_iload_n (pc := 84) rfl dX2_compute_84 ?_
    refine go_iload_n (pc := 85) rfl dX2_compute_85 ?_
    refine gu_isub (pc := 86) dX2_compute_86 (fun v16 => ?_)
    exact gi_iret (pc := 87) (ti_rfl v16) ⟨_, rfl, (ti_lo _), (ti_hi _), rfl⟩ hv dX2_compute_87
  by_cases q17 : v10.toInt = 60
  ·
    refine go_lookup (pc := 37) (tgt := 92) (off := 55) (by decide) (by rw [show (v10 : Int32).toInt = v10.toInt from (ti_rfl v10), q17]; decide) (by decide) dX2_compute_37 ?_
    refine go_iload_n (pc := 92) rfl dX2_compute_92 ?_
    refine go_iload_n (pc := 93) rfl dX2_compute_93 ?_
    refine gf_icmp_ge (pc := 94) (tgt := 101) (ti_rfl v4) (ti_rfl v8) (by decide) dX2_compute_94 (fun q18 => ?_) (fun q18 => ?_)
    ·
      refine go_iconst (pc := 101) (v := 0) (by decide) dX2_compute_101 ?_
      have z19 : (0 : Int32).toInt = 0 := (ti_c (v := 0) (a := 0) (by decide))
      exact go_lv rfl ((key 14) 0  (by omega) (by omega) (by omega))
    ·
      refine go_iconst (pc := 97) (v := 1) (by decide) dX2_compute_97 ?_
      refine go_goto (pc := 98) (tgt := 102) (by decide) dX2_compute_98 ?_
      have z20 : (1 : Int32).toInt = 1 := (ti_c (v := 1) (a := 1) (by decide))
      exact go_lv rfl ((key 14) 1  (by omega) (by omega) (by omega))
  refine go_lookup (pc := 37) (tgt := 103) (off := 66) (by decide) (by rw [show (v10 : Int32).toInt = v10.toInt from (ti_rfl v10)]; simp [Op.lookupswitch.offset]; (repeat rw [if_neg (by omega)])) (by decide) dX2_compute_37 ?_
  refine go_iload_n (pc := 103) rfl dX2_compute_103 ?_
  exact gi_iret (pc := 104) (ti_rfl v4) ⟨_, rfl, (ti_lo _), (ti_hi _), rfl⟩ hv dX2_compute_104
set_option maxHeartbeats 4000000 in
set_option maxRecDepth 100000 in
theorem s_X2_tell (l : Launch) (d : Nat) {P : PP} {h : HP} (hv : Iv P h) (a2 : Int32) : Mt l yX2_tell cX2_tell 2 (some .int) (d + 1) [.ref 64, .int a2] h 0 0 (fun r h' => ∃ v : Int32, r = some (.int v) ∧ -2147483648 ≤ v.toInt ∧ v.toInt ≤ 2147483647 ∧ h = h') := by
  refine Mt_iv hv (by decide) (Nat.le_of_ble_eq_true rfl) ?_
  show Go l RX2 cX2_tell 2 (g_rm (d + 1) 0 0) "tell" (some .int) 117 0 0 (fun _ _ => True) (fun r h' => ∃ v : Int32, r = some (.int v) ∧ -2147483648 ≤ v.toInt ∧ v.toInt ≤ 2147483647 ∧ h = h') 0 0 [(0, .ref 64), (1, .int a2)] [] h
  refine go_aload_n (pc := 0) rfl dX2_tell_0 ?_
  refine gi_get (pc := 1) (lo := -1) (hi := 3) hv fL_X2_31 rfl (Nat.le_of_ble_eq_true rfl) rfl rfl dX2_tell_1 (fun v1 v1l v1u v1w => ?_)
  refine go_iconst (pc := 4) (v := (-1)) (by decide) dX2_tell_4 ?_
  refine gf_icmp_ne (pc := 5) (tgt := 10) (ti_rfl v1) (ti_c (v := (-1)) (a := (-1)) (by decide)) (by decide) dX2_tell_5 (fun q2 => ?_) (fun q2 => ?_)
  ·
    refine go_iload_n (pc := 10) rfl dX2_tell_10 ?_
    by_cases q3 : a2.toInt = 0
    ·
      refine go_tableIn (pc := 11) (tgt := 52) (off := 41) (by rw [show (a2 : Int32).toInt = a2.toInt from (ti_rfl a2)]; omega) (by rw [show (a2 : Int32).toInt = a2.toInt from (ti_rfl a2)]; omega) (by rw [show (a2 : Int32).toInt = a2.toInt from (ti_rfl a2), q3]; rfl) (by decide) dX2_tell_11 ?_
      refine go_aload_n (pc := 52) rfl dX2_tell_52 ?_
      refine gi_get (pc := 53) (lo := -1) (hi := 3) hv fL_X2_31 rfl (Nat.le_of_ble_eq_true rfl) rfl rfl dX2_tell_53 (fun v4 v4l v4u v4w => ?_)
      have v4r : v1 = h.2.1 64 6 := v1w
      have v4q : TI v4 v1.toInt := by rw [v4w.trans v4r.symm]; exact (ti_rfl v1)
      exact gi_iret (pc := 56) v4q ⟨_, rfl, (ti_lo _), (ti_hi _), rfl⟩ hv dX2_tell_56
    by_cases q5 : a2.toInt = 1
    ·
      refine go_tableIn (pc := 11) (tgt := 57) (off := 46) (by rw [show (a2 : Int32).toInt = a2.toInt from (ti_rfl a2)]; omega) (by rw [show (a2 : Int32).toInt = a2.toInt from (ti_rfl a2)]; omega) (by rw [show (a2 : Int32).toInt = a2.toInt from (ti_rfl a2), q5]; rfl) (by decide) dX2_tell_11 ?_
      refine go_aload_n (pc := 57) rfl dX2_tell_57 ?_
      refine gi_get (pc := 58) (lo := -2147483648) (hi := 2147483647) hv fL_X2_34 rfl (Nat.le_of_ble_eq_true rfl) rfl rfl dX2_tell_58 (fun v6 v6l v6u v6w => ?_)
      exact gi_iret (pc := 61) (ti_rfl v6) ⟨_, rfl, (ti_lo _), (ti_hi _), rfl⟩ hv dX2_tell_61
    by_cases q7 : a2.toInt = 2
    ·
      refine go_tableIn (pc := 11) (tgt := 62) (off := 51) (by rw [show (a2 : Int32).toInt = a2.toInt from (ti_rfl a2)]; omega) (by rw [show (a2 : Int32).toInt = a2.toInt from (ti_rfl a2)]; omega) (by rw [show (a2 : Int32).toInt = a2.toInt from (ti_rfl a2), q7]; rfl) (by decide) dX2_tell_11 ?_
      refine go_aload_n (pc := 62) rfl dX2_tell_62 ?_
      refine gi_get (pc := 63) (lo := 0) (hi := 3000) hv fL_X2_28 rfl (Nat.le_of_ble_eq_true rfl) rfl rfl dX2_tell_63 (fun v8 v8l v8u v8w => ?_)
      exact gi_iret (pc := 66) (ti_rfl v8) ⟨_, rfl, (ti_lo _), (ti_hi _), rfl⟩ hv dX2_tell_66
    by_cases q9 : a2.toInt = 3
    ·
      refine go_tableIn (pc := 11) (tgt := 67) (off := 56) (by rw [show (a2 : Int32).toInt = a2.toInt from (ti_rfl a2)]; omega) (by rw [show (a2 : Int32).toInt = a2.toInt from (ti_rfl a2)]; omega) (by rw [show (a2 : Int32).toInt = a2.toInt from (ti_rfl a2), q9]; rfl) (by decide) dX2_tell_11 ?_
      refine go_aload_n (pc := 67) rfl dX2_tell_67 ?_
      refine gi_getF (pc := 68) (q := 65) hv fL_X2_9 rfl (Nat.le_of_ble_eq_true rfl) rfl (hv.rf (by decide)) dX2_tell_68 ?_
      refine go_iload_n (pc := 71) rfl dX2_tell_71 ?_
      refine go_iconst (pc := 72) (v := 3) (by decide) dX2_tell_72 ?_
      refine gf_isub (pc := 73) (ti_rfl a2) (ti_c (v := 3) (a := 3) (by decide)) (by omega) (by omega) dX2_tell_73 (fun v10 e11 => ?_)
      refine gi_iald (pc := 74) (lo := -2147483648) (hi := 2147483647) (len := 4) hv e11 rfl (by omega) (by omega) (fun _ => rfl) dX2_tell_74 (fun v12 v12l v12u v12w => ?_)
      exact gi_iret (pc := 75) (ti_rfl v12) ⟨_, rfl, (ti_lo _), (ti_hi _), rfl⟩ hv dX2_tell_75
    by_cases q13 : a2.toInt = 4
    ·
      refine go_tableIn (pc := 11) (tgt := 67) (off := 56) (by rw [show (a2 : Int32).toInt = a2.toInt from (ti_rfl a2)]; omega) (by rw [show (a2 : Int32).toInt = a2.toInt from (ti_rfl a2)]; omega) (by rw [show (a2 : Int32).toInt = a2.toInt from (ti_rfl a2), q13]; rfl) (by decide) dX2_tell_11 ?_
      refine go_aload_n (pc := 67) rfl dX2_tell_67 ?_
      refine gi_getF (pc := 68) (q := 65) hv fL_X2_9 rfl (Nat.le_of_ble_eq_true rfl) rfl (hv.rf (by decide)) dX2_tell_68 ?_
      refine go_iload_n (pc := 71) rfl dX2_tell_71 ?_
      refine go_iconst (pc := 72) (v := 3) (by decide) dX2_tell_72 ?_
      refine gf_isub (pc := 73) (ti_rfl a2) (ti_c (v := 3) (a := 3) (by decide)) (by omega) (by omega) dX2_tell_73 (fun v14 e15 => ?_)
      refine gi_iald (pc := 74) (lo := -2147483648) (hi := 2147483647) (len := 4) hv e15 rfl (by omega) (by omega) (fun _ => rfl) dX2_tell_74 (fun v16 v16l v16u v16w => ?_)
      exact gi_iret (pc := 75) (ti_rfl v16) ⟨_, rfl, (ti_lo _), (ti_hi _), rfl⟩ hv dX2_tell_75
    by_cases q17 : a2.toInt = 5
    ·
      refine go_tableIn (pc := 11) (tgt := 67) (off := 56) (by rw [show (a2 : Int32).toInt = a2.toInt from (ti_rfl a2)]; omega) (by rw [show (a2 : Int32).toInt = a2.toInt from (ti_rfl a2)]; omega) (by rw [show (a2 : Int32).toInt = a2.toInt from (ti_rfl a2), q17]; rfl) (by decide) dX2_tell_11 ?_
      refine go_aload_n (pc := 67) rfl dX2_tell_67 ?_
      refine gi_getF (pc := 68) (q := 65) hv fL_X2_9 rfl (Nat.le_of_ble_eq_true rfl) rfl (hv.rf (by decide)) dX2_tell_68 ?_
      refine go_iload_n (pc := 71) rfl dX2_tell_71 ?_
      refine go_iconst (pc := 72) (v := 3) (by decide) dX2_tell_72 ?_
      refine gf_isub (pc := 73) (ti_rfl a2) (ti_c (v := 3) (a := 3) (by decide)) (by omega) (by omega) dX2_tell_73 (fun v18 e19 => ?_)
      refine gi_iald (pc := 74) (lo := -2147483648) (hi := 2147483647) (len := 4) hv e19 rfl (by omega) (by omega) (fun _ => rfl) dX2_tell_74 (fun v20 v20l v20u v20w => ?_)
      exact gi_iret (pc := 75) (ti_rfl v20) ⟨_, rfl, (ti_lo _), (ti_hi _), rfl⟩ hv dX2_tell_75
    by_cases q21 : a2.toInt = 6
    ·
      refine go_tableIn (pc := 11) (tgt := 67) (off := 56) (by rw [show (a2 : Int32).toInt = a2.toInt from (ti_rfl a2)]; omega) (by rw [show (a2 : Int32).toInt = a2.toInt from (ti_rfl a2)]; omega) (by rw [show (a2 : Int32).toInt = a2.toInt from (ti_rfl a2), q21]; rfl) (by decide) dX2_tell_11 ?_
      refine go_aload_n (pc := 67) rfl dX2_tell_67 ?_
      refine gi_getF (pc := 68) (q := 65) hv fL_X2_9 rfl (Nat.le_of_ble_eq_true rfl) rfl (hv.rf (by decide)) dX2_tell_68 ?_
      refine go_iload_n (pc := 71) rfl dX2_tell_71 ?_
      refine go_iconst (pc := 72) (v := 3) (by decide) dX2_tell_72 ?_
      refine gf_isub (pc := 73) (ti_rfl a2) (ti_c (v := 3) (a := 3) (by decide)) (by omega) (by omega) dX2_tell_73 (fun v22 e23 => ?_)
      refine gi_iald (pc := 74) (lo := -2147483648) (hi := 2147483647) (len := 4) hv e23 rfl (by omega) (by omega) (fun _ => rfl) dX2_tell_74 (fun v24 v24l v24u v24w => ?_)
      exact gi_iret (pc := 75) (ti_rfl v24) ⟨_, rfl, (ti_lo _), (ti_hi _), rfl⟩ hv dX2_tell_75
    refine go_tableOut (pc := 11) (tgt := 76) (by rw [show (a2 : Int32).toInt = a2.toInt from (ti_rfl a2)]; omega) (by decide) dX2_tell_11 ?_
    refine go_iconst (pc := 76) (v := (-1)) (by decide) dX2_tell_76 ?_
    exact gi_iret (pc := 77) (ti_c (v := (-1)) (a := (-1)) (by decide)) ⟨_, rfl, (ti_lo _), (ti_hi _), rfl⟩ hv dX2_tell_77
  ·
    refine go_iconst (pc := 8) (v := (-1)) (by decide) dX2_tell_8 ?_
    exact gi_iret (pc := 9) (ti_c (v := (-1)) (a := (-1)) (by decide)) ⟨_, rfl, (ti_lo _), (ti_hi _), rfl⟩ hv dX2_tell_9
set_option maxHeartbeats 4000000 in
set_option maxRecDepth 100000 in
theorem s_X2_sightsOf (l : Launch) (d : Nat) {P : PP} {h : HP} (hv : Iv P h) (a2 : Int32) : Mt l yX2_sightsOf cX2_sightsOf 4 (some .int) (d + 1) [.ref 64, .int a2] h 0 0 (fun r h' => ∃ v : Int32, r = some (.int v) ∧ -2147483648 ≤ v.toInt ∧ v.toInt ≤ 2147483647 ∧ h = h') := by
  refine Mt_iv hv (by decide) (Nat.le_of_ble_eq_true rfl) ?_
  show Go l RX2 cX2_sightsOf 4 (g_rm (d + 1) 0 0) "sightsOf" (some .int) 117 0 0 (fun _ _ => True) (fun r h' => ∃ v : Int32, r = some (.int v) ∧ -2147483648 ≤ v.toInt ∧ v.toInt ≤ 2147483647 ∧ h = h') 0 0 [(0, .ref 64), (1, .int a2)] [] h
  have key : ∀ n : Nat, (∀ (l1 : Int32) (l2 : Int32) (l3 : Int32), 0 ≤ l3.toInt → l3.toInt ≤ 500 → (4 * (500 - l3.toInt) + 3 : Int) < n → Go l RX2 cX2_sightsOf 4 (g_rm (d + 1) 0 0) "sightsOf" (some .int) 117 0 0 (fun _ _ => True) (fun r h' => ∃ v : Int32, r = some (.int v) ∧ -2147483648 ≤ v.toInt ∧ v.toInt ≤ 2147483647 ∧ h = h') 0 4 [(0, .ref 64), (1, .int l1), (2, .int l2), (3, .int l3)] [] h) ∧ (∀ (l1 : Int32) (l2 : Int32) (l3 : Int32), 0 ≤ l3.toInt → l3.toInt ≤ 499 → (4 * (500 - l3.toInt) + 2 : Int) < n → Go l RX2 cX2_sightsOf 4 (g_rm (d + 1) 0 0) "sightsOf" (some .int) 117 0 0 (fun _ _ => True) (fun r h' => ∃ v : Int32, r = some (.int v) ∧ -2147483648 ≤ v.toInt ∧ v.toInt ≤ 2147483647 ∧ h = h') 0 25 [(0, .ref 64), (1, .int l1), (2, .int l2), (3, .int l3)] [] h) := by
    intro n
    induction n with
    | zero => exact ⟨(by intros; omega), (by intros; omega)⟩
    | succ n ih =>
      refine ⟨?_, ?_⟩
      ·
        intro l1 l2 l3 l3l l3u hm
        refine go_iload_n (pc := 4) rfl dX2_sightsOf_4 ?_
        refine go_aload_n (pc := 5) rfl dX2_sightsOf_5 ?_
        refine gi_get (pc := 6) (lo := 0) (hi := 500) hv fL_X2_43 rfl (Nat.le_of_ble_eq_true rfl) rfl rfl dX2_sightsOf_6 (fun v1 v1l v1u v1w => ?_)
        refine gf_icmp_ge (pc := 9) (tgt := 31) (ti_rfl l3) (ti_rfl v1) (by decide) dX2_sightsOf_9 (fun q2 => ?_) (fun q2 => ?_)
        ·
          refine go_iload_n (pc := 31) rfl dX2_sightsOf_31 ?_
          exact gi_iret (pc := 32) (ti_rfl l2) ⟨_, rfl, (ti_lo _), (ti_hi _), rfl⟩ hv dX2_sightsOf_32
        ·
          refine go_aload_n (pc := 12) rfl dX2_sightsOf_12 ?_
          refine gi_getF (pc := 13) (q := 68) hv fL_X2_37 rfl (Nat.le_of_ble_eq_true rfl) rfl (hv.rf (by decide)) dX2_sightsOf_13 ?_
          refine go_iload_n (pc := 16) rfl dX2_sightsOf_16 ?_
          refine gi_iald (pc := 17) (lo := -2147483648) (hi := 2147483647) (len := 500) hv (ti_rfl l3) rfl (by omega) (by omega) (fun _ => rfl) dX2_sightsOf_17 (fun v3 v3l v3u v3w => ?_)
          refine go_iload_n (pc := 18) rfl dX2_sightsOf_18 ?_
          refine gf_icmp_ne (pc := 19) (tgt := 25) (ti_rfl v3) (ti_rfl l1) (by decide) dX2_sightsOf_19 (fun q4 => ?_) (fun q4 => ?_)
          ·
            exact go_lv rfl (ih.2 l1 l2 l3  (by omega) (by omega) (by omega))
          ·
            refine gu_iinc (pc := 22) (Nat.le_of_ble_eq_true rfl) rfl dX2_sightsOf_22 (fun v5 => ?_)
            refine go_lv (lv2 := [(0, .ref 64), (1, .int l1), (2, .int v5), (3, .int l3)]) rfl ?_
            exact go_lv rfl (ih.2 l1 v5 l3  (by omega) (by omega) (by omega))
      ·
        intro l1 l2 l3 l3l l3u hm
        refine gf_iinc (pc := 25) (Nat.le_of_ble_eq_true rfl) rfl (ti_rfl l3) (ti_c (by decide)) (by omega) (by omega) dX2_sightsOf_25 (fun v7 e8 => ?_)
        refine go_lv (lv2 := [(0, .ref 64), (1, .int l1), (2, .int l2), (3, .int v7)]) rfl ?_
        refine go_goto (pc := 28) (tgt := 4) (by decide) dX2_sightsOf_28 ?_
        have z9 : (v7 : Int32).toInt = (l3.toInt + 1) := e8
        exact go_lv rfl (ih.1 l1 l2 v7  (by omega) (by omega) (by omega))
  refine go_iconst (pc := 0) (v := 0) (by decide) dX2_sightsOf_0 ?_
  refine go_istore_n (pc := 1) (Nat.le_of_ble_eq_true rfl) dX2_sightsOf_1 (go_lv (lv2 := [(0, .ref 64), (1, .int a2), (2, .int 0)]) rfl ?_)
  refine go_iconst (pc := 2) (v := 0) (by decide) dX2_sightsOf_2 ?_
  refine go_istore_n (pc := 3) (Nat.le_of_ble_eq_true rfl) dX2_sightsOf_3 (go_lv (lv2 := [(0, .ref 64), (1, .int a2), (2, .int 0), (3, .int 0)]) rfl ?_)
  have z10 : (0 : Int32).toInt = 0 := (ti_c (v := 0) (a := 0) (by decide))
  have z11 : (0 : Int32).toInt = 0 := (ti_c (v := 0) (a := 0) (by decide))
  exact go_lv rfl ((key 2021).1 a2 0 0  (by omega) (by omega) (by omega))
set_option maxHeartbeats 4000000 in
set_option maxRecDepth 100000 in
theorem s_X2_sightOf (l : Launch) (d : Nat) {P : PP} {h : HP} (hv : Iv P h) (a2 : Int32) (a3 : Int32) : Mt l yX2_sightOf cX2_sightOf 5 (some .int) (d + 1) [.ref 64, .int a2, .int a3] h 0 0 (fun r h' => ∃ v : Int32, r = some (.int v) ∧ -2147483648 ≤ v.toInt ∧ v.toInt ≤ 2147483647 ∧ h = h') := by
  refine Mt_iv hv (by decide) (Nat.le_of_ble_eq_true rfl) ?_
  show Go l RX2 cX2_sightOf 5 (g_rm (d + 1) 0 0) "sightOf" (some .int) 117 0 0 (fun _ _ => True) (fun r h' => ∃ v : Int32, r = some (.int v) ∧ -2147483648 ≤ v.toInt ∧ v.toInt ≤ 2147483647 ∧ h = h') 0 0 [(0, .ref 64), (1, .int a2), (2, .int a3)] [] h
  have key : ∀ n : Nat, (∀ (l1 : Int32) (l2 : Int32) (l3 : Int32) (l4 : Int32), 0 ≤ l4.toInt → l4.toInt ≤ 500 → (4 * (500 - l4.toInt) + 3 : Int) < n → Go l RX2 cX2_sightOf 5 (g_rm (d + 1) 0 0) "sightOf" (some .int) 117 0 0 (fun _ _ => True) (fun r h' => ∃ v : Int32, r = some (.int v) ∧ -2147483648 ≤ v.toInt ∧ v.toInt ≤ 2147483647 ∧ h = h') 0 5 [(0, .ref 64), (1, .int l1), (2, .int l2), (3, .int l3), (4, .int l4)] [] h) ∧ (∀ (l1 : Int32) (l2 : Int32) (l3 : Int32) (l4 : Int32), 0 ≤ l4.toInt → l4.toInt ≤ 499 → (4 * (500 - l4.toInt) + 2 : Int) < n → Go l RX2 cX2_sightOf 5 (g_rm (d + 1) 0 0) "sightOf" (some .int) 117 0 0 (fun _ _ => True) (fun r h' => ∃ v : Int32, r = some (.int v) ∧ -2147483648 ≤ v.toInt ∧ v.toInt ≤ 2147483647 ∧ h = h') 0 41 [(0, .ref 64), (1, .int l1), (2, .int l2), (3, .int l3), (4, .int l4)] [] h) := by
    intro n
    induction n with
    | zero => exact ⟨(by intros; omega), (by intros; omega)⟩
    | succ n ih =>
      refine ⟨?_, ?_⟩
      ·
        intro l1 l2 l3 l4 l4l l4u hm
        refine go_iload (pc := 5) rfl dX2_sightOf_5 ?_
        refine go_aload_n (pc := 7) rfl dX2_sightOf_7 ?_
        refine gi_get (pc := 8) (lo := 0) (hi := 500) hv fL_X2_43 rfl (Nat.le_of_ble_eq_true rfl) rfl rfl dX2_sightOf_8 (fun v1 v1l v1u v1w => ?_)
        refine gf_icmp_ge (pc := 11) (tgt := 47) (ti_rfl l4) (ti_rfl v1) (by decide) dX2_sightOf_11 (fun q2 => ?_) (fun q2 => ?_)
        ·
          refine go_iconst (pc := 47) (v := 0) (by decide) dX2_sightOf_47 ?_
          exact gi_iret (pc := 48) (ti_c (v := 0) (a := 0) (by decide)) ⟨_, rfl, (ti_lo _), (ti_hi _), rfl⟩ hv dX2_sightOf_48
        ·
          refine go_aload_n (pc := 14) rfl dX2_sightOf_14 ?_
          refine gi_getF (pc := 15) (q := 68) hv fL_X2_37 rfl (Nat.le_of_ble_eq_true rfl) rfl (hv.rf (by decide)) dX2_sightOf_15 ?_
          refine go_iload (pc := 18) rfl dX2_sightOf_18 ?_
          refine gi_iald (pc := 20) (lo := -2147483648) (hi := 2147483647) (len := 500) hv (ti_rfl l4) rfl (by omega) (by omega) (fun _ => rfl) dX2_sightOf_20 (fun v3 v3l v3u v3w => ?_)
          refine go_iload_n (pc := 21) rfl dX2_sightOf_21 ?_
          refine gf_icmp_ne (pc := 22) (tgt := 41) (ti_rfl v3) (ti_rfl l1) (by decide) dX2_sightOf_22 (fun q4 => ?_) (fun q4 => ?_)
          ·
            exact go_lv rfl (ih.2 l1 l2 l3 l4  (by omega) (by omega) (by omega))
          ·
            refine go_iload_n (pc := 25) rfl dX2_sightOf_25 ?_
            refine go_iload_n (pc := 26) rfl dX2_sightOf_26 ?_
            refine gf_icmp_ne (pc := 27) (tgt := 38) (ti_rfl l3) (ti_rfl l2) (by decide) dX2_sightOf_27 (fun q5 => ?_) (fun q5 => ?_)
            ·
              refine gu_iinc (pc := 38) (Nat.le_of_ble_eq_true rfl) rfl dX2_sightOf_38 (fun v6 => ?_)
              refine go_lv (lv2 := [(0, .ref 64), (1, .int l1), (2, .int l2), (3, .int v6), (4, .int l4)]) rfl ?_
              exact go_lv rfl (ih.2 l1 l2 v6 l4  (by omega) (by omega) (by omega))
            ·
              refine go_aload_n (pc := 30) rfl dX2_sightOf_30 ?_
              refine gi_getF (pc := 31) (q := 69) hv fL_X2_40 rfl (Nat.le_of_ble_eq_true rfl) rfl (hv.rf (by decide)) dX2_sightOf_31 ?_
              refine go_iload (pc := 34) rfl dX2_sightOf_34 ?_
              refine gi_iald (pc := 36) (lo := -2147483648) (hi := 2147483647) (len := 500) hv (ti_rfl l4) rfl (by omega) (by omega) (fun _ => rfl) dX2_sightOf_36 (fun v8 v8l v8u v8w => ?_)
              exact gi_iret (pc := 37) (ti_rfl v8) ⟨_, rfl, (ti_lo _), (ti_hi _), rfl⟩ hv dX2_sightOf_37
      ·
        intro l1 l2 l3 l4 l4l l4u hm
        refine gf_iinc (pc := 41) (Nat.le_of_ble_eq_true rfl) rfl (ti_rfl l4) (ti_c (by decide)) (by omega) (by omega) dX2_sightOf_41 (fun v9 e10 => ?_)
        refine go_lv (lv2 := [(0, .ref 64), (1, .int l1), (2, .int l2), (3, .int l3), (4, .int v9)]) rfl ?_
        refine go_goto (pc := 44) (tgt := 5) (by decide) dX2_sightOf_44 ?_
        have z11 : (v9 : Int32).toInt = (l4.toInt + 1) := e10
        exact go_lv rfl (ih.1 l1 l2 l3 v9  (by omega) (by omega) (by omega))
  refine go_iconst (pc := 0) (v := 0) (by decide) dX2_sightOf_0 ?_
  refine go_istore_n (pc := 1) (Nat.le_of_ble_eq_true rfl) dX2_sightOf_1 (go_lv (lv2 := [(0, .ref 64), (1, .int a2), (2, .int a3), (3, .int 0)]) rfl ?_)
  refine go_iconst (pc := 2) (v := 0) (by decide) dX2_sightOf_2 ?_
  refine go_istore (pc := 3) (Nat.le_of_ble_eq_true rfl) dX2_sightOf_3 (go_lv (lv2 := [(0, .ref 64), (1, .int a2), (2, .int a3), (3, .int 0), (4, .int 0)]) rfl ?_)
  have z12 : (0 : Int32).toInt = 0 := (ti_c (v := 0) (a := 0) (by decide))
  have z13 : (0 : Int32).toInt = 0 := (ti_c (v := 0) (a := 0) (by decide))
  exact go_lv rfl ((key 2021).1 a2 a3 0 0  (by omega) (by omega) (by omega))
