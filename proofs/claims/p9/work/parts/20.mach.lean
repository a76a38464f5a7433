theorem dX2_compute_0 : decode cX2_compute 0 = .ok (.aload_n 0, 1) := by decide +kernel
theorem dX2_compute_1 : decode cX2_compute 1 = .ok (.aload_n 0, 1) := by decide +kernel
theorem dX2_compute_2 : decode cX2_compute 2 = .ok (.getfield 50, 3) := by decide +kernel
theorem dX2_compute_5 : decode cX2_compute 5 = .ok (.getfield 111, 3) := by decide +kernel
theorem dX2_compute_8 : decode cX2_compute 8 = .ok (.iload_n 1, 1) := by decide +kernel
theorem dX2_compute_9 : decode cX2_compute 9 = .ok (.iaload, 1) := by decide +kernel
theorem dX2_compute_10 : decode cX2_compute 10 = .ok (.invokevirtual 114, 3) := by decide +kernel
theorem dX2_compute_13 : decode cX2_compute 13 = .ok (.istore_n 2, 1) := by decide +kernel
theorem dX2_compute_14 : decode cX2_compute 14 = .ok (.aload_n 0, 1) := by decide +kernel
theorem dX2_compute_15 : decode cX2_compute 15 = .ok (.aload_n 0, 1) := by decide +kernel
theorem dX2_compute_16 : decode cX2_compute 16 = .ok (.getfield 50, 3) := by decide +kernel
theorem dX2_compute_19 : decode cX2_compute 19 = .ok (.getfield 120, 3) := by decide +kernel
theorem dX2_compute_22 : decode cX2_compute 22 = .ok (.iload_n 1, 1) := by decide +kernel
theorem dX2_compute_23 : decode cX2_compute 23 = .ok (.iaload, 1) := by decide +kernel
theorem dX2_compute_24 : decode cX2_compute 24 = .ok (.invokevirtual 114, 3) := by decide +kernel
theorem dX2_compute_27 : decode cX2_compute 27 = .ok (.istore_n 3, 1) := by decide +kernel
theorem dX2_compute_28 : decode cX2_compute 28 = .ok (.aload_n 0, 1) := by decide +kernel
theorem dX2_compute_29 : decode cX2_compute 29 = .ok (.getfield 50, 3) := by decide +kernel
theorem dX2_compute_32 : decode cX2_compute 32 = .ok (.getfield 126, 3) := by decide +kernel
theorem dX2_compute_35 : decode cX2_compute 35 = .ok (.iload_n 1, 1) := by decide +kernel
theorem dX2_compute_36 : decode cX2_compute 36 = .ok (.iaload, 1) := by decide +kernel
theorem dX2_compute_37 : decode cX2_compute 37 = .ok (.lookupswitch 66 #[(42, 51), (43, 43), (45, 47), (60, 55)], 43) := by decide +kernel
theorem dX2_compute_80 : decode cX2_compute 80 = .ok (.iload_n 2, 1) := by decide +kernel
theorem dX2_compute_81 : decode cX2_compute 81 = .ok (.iload_n 3, 1) := by decide +kernel
theorem dX2_compute_82 : decode cX2_compute 82 = .ok (.iadd, 1) := by decide +kernel
theorem dX2_compute_83 : decode cX2_compute 83 = .ok (.ireturn, 1) := by decide +kernel
theorem dX2_compute_84 : decode cX2_compute 84 = .ok (.iload_n 2, 1) := by decide +kernel
theorem dX2_compute_85 : decode cX2_compute 85 = .ok (.iload_n 3, 1) := by decide +kernel
theorem dX2_compute_86 : decode cX2_compute 86 = .ok (.isub, 1) := by decide +kernel
theorem dX2_compute_87 : decode cX2_compute 87 = .ok (.ireturn, 1) := by decide +kernel
theorem dX2_compute_88 : decode cX2_compute 88 = .ok (.iload_n 2, 1) := by decide +kernel
theorem dX2_compute_89 : decode cX2_compute 89 = .ok (.iload_n 3, 1) := by decide +kernel
theorem dX2_compute_90 : decode cX2_compute 90 = .ok (.imul, 1) := by decide +kernel
theorem dX2_compute_91 : decode cX2_compute 91 = .ok (.ireturn, 1) := by decide +kernel
theorem dX2_compute_92 : decode cX2_compute 92 = .ok (.iload_n 2, 1) := by decide +kernel
theorem dX2_compute_93 : decode cX2_compute 93 = .ok (.iload_n 3, 1) := by decide +kernel
theorem dX2_compute_94 : decode cX2_compute 94 = .ok (.if_icmp .ge 7, 3) := by decide +kernel
theorem dX2_compute_97 : decode cX2_compute 97 = .ok (.iconst 1, 1) := by decide +kernel
theorem dX2_compute_98 : decode cX2_compute 98 = .ok (.goto 4, 3) := by decide +kernel
theorem dX2_compute_101 : decode cX2_compute 101 = .ok (.iconst 0, 1) := by decide +kernel
theorem dX2_compute_102 : decode cX2_compute 102 = .ok (.ireturn, 1) := by decide +kernel
theorem dX2_compute_103 : decode cX2_compute 103 = .ok (.iload_n 2, 1) := by decide +kernel
theorem dX2_compute_104 : decode cX2_compute 104 = .ok (.ireturn, 1) := by decide +kernel
theorem dX2_enter_0 : decode cX2_enter 0 = .ok (.aload_n 0, 1) := by decide +kernel
theorem dX2_enter_1 : decode cX2_enter 1 = .ok (.getfield 21, 3) := by decide +kernel
theorem dX2_enter_4 : decode cX2_enter 4 = .ok (.bipush 6, 2) := by decide +kernel
theorem dX2_enter_6 : decode cX2_enter 6 = .ok (.imul, 1) := by decide +kernel
theorem dX2_enter_7 : decode cX2_enter 7 = .ok (.istore 4, 2) := by decide +kernel
theorem dX2_enter_9 : decode cX2_enter 9 = .ok (.iconst 0, 1) := by decide +kernel
theorem dX2_enter_10 : decode cX2_enter 10 = .ok (.istore 5, 2) := by decide +kernel
theorem dX2_enter_12 : decode cX2_enter 12 = .ok (.iload 5, 2) := by decide +kernel
theorem dX2_enter_14 : decode cX2_enter 14 = .ok (.bipush 6, 2) := by decide +kernel
theorem dX2_enter_16 : decode cX2_enter 16 = .ok (.if_icmp .ge 20, 3) := by decide +kernel
theorem dX2_enter_19 : decode cX2_enter 19 = .ok (.aload_n 0, 1) := by decide +kernel
theorem dX2_enter_20 : decode cX2_enter 20 = .ok (.getfield 15, 3) := by decide +kernel
theorem dX2_enter_23 : decode cX2_enter 23 = .ok (.iload 4, 2) := by decide +kernel
theorem dX2_enter_25 : decode cX2_enter 25 = .ok (.iload 5, 2) := by decide +kernel
theorem dX2_enter_27 : decode cX2_enter 27 = .ok (.iadd, 1) := by decide +kernel
theorem dX2_enter_28 : decode cX2_enter 28 = .ok (.iconst 0, 1) := by decide +kernel
theorem dX2_enter_29 : decode cX2_enter 29 = .ok (.iastore, 1) := by decide +kernel
theorem dX2_enter_30 : decode cX2_enter 30 = .ok (.iinc 5 1, 3) := by decide +kernel
theorem dX2_enter_33 : decode cX2_enter 33 = .ok (.goto (-21), 3) := by decide +kernel
theorem dX2_enter_36 : decode cX2_enter 36 = .ok (.aload_n 0, 1) := by decide +kernel
theorem dX2_enter_37 : decode cX2_enter 37 = .ok (.getfield 15, 3) := by decide +kernel
theorem dX2_enter_40 : decode cX2_enter 40 = .ok (.iload 4, 2) := by decide +kernel
theorem dX2_enter_42 : decode cX2_enter 42 = .ok (.iload_n 2, 1) := by decide +kernel
theorem dX2_enter_43 : decode cX2_enter 43 = .ok (.iastore, 1) := by decide +kernel
theorem dX2_enter_44 : decode cX2_enter 44 = .ok (.aload_n 0, 1) := by decide +kernel
theorem dX2_enter_45 : decode cX2_enter 45 = .ok (.getfield 15, 3) := by decide +kernel
theorem dX2_enter_48 : decode cX2_enter 48 = .ok (.iload 4, 2) := by decide +kernel
theorem dX2_enter_50 : decode cX2_enter 50 = .ok (.iconst 1, 1) := by decide +kernel
theorem dX2_enter_51 : decode cX2_enter 51 = .ok (.iadd, 1) := by decide +kernel
theorem dX2_enter_52 : decode cX2_enter 52 = .ok (.iload_n 3, 1) := by decide +kernel
theorem dX2_enter_53 : decode cX2_enter 53 = .ok (.iastore, 1) := by decide +kernel
theorem dX2_enter_54 : decode cX2_enter 54 = .ok (.aload_n 0, 1) := by decide +kernel
theorem dX2_enter_55 : decode cX2_enter 55 = .ok (.aload_n 0, 1) := by decide +kernel
theorem dX2_enter_56 : decode cX2_enter 56 = .ok (.getfield 50, 3) := by decide +kernel
theorem dX2_enter_59 : decode cX2_enter 59 = .ok (.getfield 68, 3) := by decide +kernel
theorem dX2_enter_62 : decode cX2_enter 62 = .ok (.iload_n 1, 1) := by decide +kernel
theorem dX2_enter_63 : decode cX2_enter 63 = .ok (.iaload, 1) := by decide +kernel
theorem dX2_enter_64 : decode cX2_enter 64 = .ok (.putfield 25, 3) := by decide +kernel
theorem dX2_enter_67 : decode cX2_enter 67 = .ok (.return_, 1) := by decide +kernel
theorem dX2_forget_0 : decode cX2_forget 0 = .ok (.aload_n 0, 1) := by decide +kernel
theorem dX2_forget_1 : decode cX2_forget 1 = .ok (.iconst (-1), 1) := by decide +kernel
theorem dX2_forget_2 : decode cX2_forget 2 = .ok (.putfield 31, 3) := by decide +kernel
theorem dX2_forget_5 : decode cX2_forget 5 = .ok (.aload_n 0, 1) := by decide +kernel
theorem dX2_forget_6 : decode cX2_forget 6 = .ok (.iconst 0, 1) := by decide +kernel
theorem dX2_forget_7 : decode cX2_forget 7 = .ok (.putfield 43, 3) := by decide +kernel
theorem dX2_forget_10 : decode cX2_forget 10 = .ok (.return_, 1) := by decide +kernel
theorem dX2_leave_0 : decode cX2_leave 0 = .ok (.iconst 0, 1) := by decide +kernel
theorem dX2_leave_1 : decode cX2_leave 1 = .ok (.istore_n 3, 1) := by decide +kernel
theorem dX2_leave_2 : decode cX2_leave 2 = .ok (.iconst 0, 1) := by decide +kernel
theorem dX2_leave_3 : decode cX2_leave 3 = .ok (.istore 4, 2) := by decide +kernel
theorem dX2_leave_5 : decode cX2_leave 5 = .ok (.iload 4, 2) := by decide +kernel
theorem dX2_leave_7 : decode cX2_leave 7 = .ok (.bipush 31, 2) := by decide +kernel
theorem dX2_leave_9 : decode cX2_leave 9 = .ok (.if_icmp .ge 138, 3) := by decide +kernel
theorem dX2_leave_12 : decode cX2_leave 12 = .ok (.aload_n 0, 1) := by decide +kernel
theorem dX2_leave_13 : decode cX2_leave 13 = .ok (.getfield 21, 3) := by decide +kernel
theorem dX2_leave_16 : decode cX2_leave 16 = .ok (.ifCond .le 131, 3) := by decide +kernel
theorem dX2_leave_19 : decode cX2_leave 19 = .ok (.iload_n 3, 1) := by decide +kernel
theorem dX2_leave_20 : decode cX2_leave 20 = .ok (.ifCond .ne 127, 3) := by decide +kernel
theorem dX2_leave_23 : decode cX2_leave 23 = .ok (.aload_n 0, 1) := by decide +kernel
theorem dX2_leave_24 : decode cX2_leave 24 = .ok (.getfield 18, 3) := by decide +kernel
theorem dX2_leave_27 : decode cX2_leave 27 = .ok (.aload_n 0, 1) := by decide +kernel
theorem dX2_leave_28 : decode cX2_leave 28 = .ok (.getfield 21, 3) := by decide +kernel
theorem dX2_leave_31 : decode cX2_leave 31 = .ok (.iaload, 1) := by decide +kernel
theorem dX2_leave_32 : decode cX2_leave 32 = .ok (.istore 5, 2) := by decide +kernel
theorem dX2_leave_34 : decode cX2_leave 34 = .ok (.aload_n 0, 1) := by decide +kernel
theorem dX2_leave_35 : decode cX2_leave 35 = .ok (.dup, 1) := by decide +kernel
theorem dX2_leave_36 : decode cX2_leave 36 = .ok (.getfield 21, 3) := by decide +kernel
theorem dX2_leave_39 : decode cX2_leave 39 = .ok (.iconst 1, 1) := by decide +kernel
theorem dX2_leave_40 : decode cX2_leave 40 = .ok (.isub, 1) := by decide +kernel
theorem dX2_leave_41 : decode cX2_leave 41 = .ok (.putfield 21, 3) := by decide +kernel
theorem dX2_leave_44 : decode cX2_leave 44 = .ok (.aload_n 0, 1) := by decide +kernel
theorem dX2_leave_45 : decode cX2_leave 45 = .ok (.iload 5, 2) := by decide +kernel
theorem dX2_leave_47 : decode cX2_leave 47 = .ok (.iload_n 1, 1) := by decide +kernel
theorem dX2_leave_48 : decode cX2_leave 48 = .ok (.invokevirtual 102, 3) := by decide +kernel
theorem dX2_leave_51 : decode cX2_leave 51 = .ok (.iload_n 2, 1) := by decide +kernel
theorem dX2_leave_52 : decode cX2_leave 52 = .ok (.ifCond .eq 16, 3) := by decide +kernel
theorem dX2_leave_55 : decode cX2_leave 55 = .ok (.aload_n 0, 1) := by decide +kernel
theorem dX2_leave_56 : decode cX2_leave 56 = .ok (.getfield 50, 3) := by decide +kernel
theorem dX2_leave_59 : decode cX2_leave 59 = .ok (.getfield 132, 3) := by decide +kernel
theorem dX2_leave_62 : decode cX2_leave 62 = .ok (.iload 5, 2) := by decide +kernel
theorem dX2_leave_64 : decode cX2_leave 64 = .ok (.iaload, 1) := by decide +kernel
theorem dX2_leave_65 : decode cX2_leave 65 = .ok (.ifCond .lt 7, 3) := by decide +kernel
theorem dX2_leave_68 : decode cX2_leave 68 = .ok (.iconst 1, 1) := by decide +kernel
theorem dX2_leave_69 : decode cX2_leave 69 = .ok (.goto 4, 3) := by decide +kernel
theorem dX2_leave_72 : decode cX2_leave 72 = .ok (.iconst 0, 1) := by decide +kernel
theorem dX2_leave_73 : decode cX2_leave 73 = .ok (.istore_n 3, 1) := by decide +kernel
theorem dX2_leave_74 : decode cX2_leave 74 = .ok (.iload_n 3, 1) := by decide +kernel
theorem dX2_leave_75 : decode cX2_leave 75 = .ok (.ifCond .eq 66, 3) := by decide +kernel
theorem dX2_leave_78 : decode cX2_leave 78 = .ok (.aload_n 0, 1) := by decide +kernel
theorem dX2_leave_79 : decode cX2_leave 79 = .ok (.iload_n 2, 1) := by decide +kernel
theorem dX2_leave_80 : decode cX2_leave 80 = .ok (.ifCond .eq 16, 3) := by decide +kernel
theorem dX2_leave_83 : decode cX2_leave 83 = .ok (.aload_n 0, 1) := by decide +kernel
theorem dX2_leave_84 : decode cX2_leave 84 = .ok (.getfield 50, 3) := by decide +kernel
theorem dX2_leave_87 : decode cX2_leave 87 = .ok (.getfield 132, 3) := by decide +kernel
theorem dX2_leave_90 : decode cX2_leave 90 = .ok (.iload 5, 2) := by decide +kernel
theorem dX2_leave_92 : decode cX2_leave 92 = .ok (.iaload, 1) := by decide +kernel
theorem dX2_leave_93 : decode cX2_leave 93 = .ok (.goto 13, 3) := by decide +kernel
theorem dX2_leave_96 : decode cX2_leave 96 = .ok (.aload_n 0, 1) := by decide +kernel
theorem dX2_leave_97 : decode cX2_leave 97 = .ok (.getfield 50, 3) := by decide +kernel
theorem dX2_leave_100 : decode cX2_leave 100 = .ok (.getfield 95, 3) := by decide +kernel
theorem dX2_leave_103 : decode cX2_leave 103 = .ok (.iload 5, 2) := by decide +kernel
theorem dX2_leave_105 : decode cX2_leave 105 = .ok (.iaload, 1) := by decide +kernel
theorem dX2_leave_106 : decode cX2_leave 106 = .ok (.iload_n 1, 1) := by decide +kernel
theorem dX2_leave_107 : decode cX2_leave 107 = .ok (.invokevirtual 98, 3) := by decide +kernel
theorem dX2_leave_110 : decode cX2_leave 110 = .ok (.aload_n 0, 1) := by decide +kernel
theorem dX2_leave_111 : decode cX2_leave 111 = .ok (.iload_n 2, 1) := by decide +kernel
theorem dX2_leave_112 : decode cX2_leave 112 = .ok (.ifCond .eq 16, 3) := by decide +kernel
theorem dX2_leave_115 : decode cX2_leave 115 = .ok (.aload_n 0, 1) := by decide +kernel
theorem dX2_leave_116 : decode cX2_leave 116 = .ok (.getfield 50, 3) := by decide +kernel
theorem dX2_leave_119 : decode cX2_leave 119 = .ok (.getfield 123, 3) := by decide +kernel
theorem dX2_leave_122 : decode cX2_leave 122 = .ok (.iload 5, 2) := by decide +kernel
theorem dX2_leave_124 : decode cX2_leave 124 = .ok (.iaload, 1) := by decide +kernel
theorem dX2_leave_125 : decode cX2_leave 125 = .ok (.goto 13, 3) := by decide +kernel
theorem dX2_leave_128 : decode cX2_leave 128 = .ok (.aload_n 0, 1) := by decide +kernel
theorem dX2_leave_129 : decode cX2_leave 129 = .ok (.getfield 50, 3) := by decide +kernel
theorem dX2_leave_132 : decode cX2_leave 132 = .ok (.getfield 105, 3) := by decide +kernel
theorem dX2_leave_135 : decode cX2_leave 135 = .ok (.iload 5, 2) := by decide +kernel
theorem dX2_leave_137 : decode cX2_leave 137 = .ok (.iaload, 1) := by decide +kernel
theorem dX2_leave_138 : decode cX2_leave 138 = .ok (.putfield 25, 3) := by decide +kernel
theorem dX2_leave_141 : decode cX2_leave 141 = .ok (.iinc 4 1, 3) := by decide +kernel
theorem dX2_leave_144 : decode cX2_leave 144 = .ok (.goto (-139), 3) := by decide +kernel
theorem dX2_leave_147 : decode cX2_leave 147 = .ok (.iload_n 3, 1) := by decide +kernel
theorem dX2_leave_148 : decode cX2_leave 148 = .ok (.ifCond .ne 21, 3) := by decide +kernel
theorem dX2_leave_151 : decode cX2_leave 151 = .ok (.aload_n 0, 1) := by decide +kernel
theorem dX2_leave_152 : decode cX2_leave 152 = .ok (.iload_n 2, 1) := by decide +kernel
theorem dX2_leave_153 : decode cX2_leave 153 = .ok (.ifCond .eq 7, 3) := by decide +kernel
theorem dX2_leave_156 : decode cX2_leave 156 = .ok (.iconst 1, 1) := by decide +kernel
theorem dX2_leave_157 : decode cX2_leave 157 = .ok (.goto 4, 3) := by decide +kernel
theorem dX2_leave_160 : decode cX2_leave 160 = .ok (.iconst 0, 1) := by decide +kernel
theorem dX2_leave_161 : decode cX2_leave 161 = .ok (.putfield 31, 3) := by decide +kernel
theorem dX2_leave_164 : decode cX2_leave 164 = .ok (.aload_n 0, 1) := by decide +kernel
theorem dX2_leave_165 : decode cX2_leave 165 = .ok (.iload_n 1, 1) := by decide +kernel
theorem dX2_leave_166 : decode cX2_leave 166 = .ok (.putfield 34, 3) := by decide +kernel
theorem dX2_leave_169 : decode cX2_leave 169 = .ok (.return_, 1) := by decide +kernel
theorem dX2_load_0 : decode cX2_load 0 = .ok (.iload_n 1, 1) := by decide +kernel
theorem dX2_load_1 : decode cX2_load 1 = .ok (.ifCond .ge 5, 3) := by decide +kernel
theorem dX2_load_4 : decode cX2_load 4 = .ok (.iconst 0, 1) := by decide +kernel
theorem dX2_load_5 : decode cX2_load 5 = .ok (.ireturn, 1) := by decide +kernel
theorem dX2_load_6 : decode cX2_load 6 = .ok (.iload_n 1, 1) := by decide +kernel
theorem dX2_load_7 : decode cX2_load 7 = .ok (.bipush 10, 2) := by decide +kernel
theorem dX2_load_9 : decode cX2_load 9 = .ok (.if_icmp .lt 8, 3) := by decide +kernel
theorem dX2_load_12 : decode cX2_load 12 = .ok (.iload_n 1, 1) := by decide +kernel
theorem dX2_load_13 : decode cX2_load 13 = .ok (.bipush 10, 2) := by decide +kernel
theorem dX2_load_15 : decode cX2_load 15 = .ok (.isub, 1) := by decide +kernel
theorem dX2_load_16 : decode cX2_load 16 = .ok (.ireturn, 1) := by decide +kernel
theorem dX2_load_17 : decode cX2_load 17 = .ok (.iload_n 1, 1) := by decide +kernel
theorem dX2_load_18 : decode cX2_load 18 = .ok (.bipush 6, 2) := by decide +kernel
theorem dX2_load_20 : decode cX2_load 20 = .ok (.if_icmp .lt 13, 3) := by decide +kernel
theorem dX2_load_23 : decode cX2_load 23 = .ok (.aload_n 0, 1) := by decide +kernel
theorem dX2_load_24 : decode cX2_load 24 = .ok (.getfield 9, 3) := by decide +kernel
theorem dX2_load_27 : decode cX2_load 27 = .ok (.iload_n 1, 1) := by decide +kernel
theorem dX2_load_28 : decode cX2_load 28 = .ok (.bipush 6, 2) := by decide +kernel
theorem dX2_load_30 : decode cX2_load 30 = .ok (.isub, 1) := by decide +kernel
theorem dX2_load_31 : decode cX2_load 31 = .ok (.iaload, 1) := by decide +kernel
theorem dX2_load_32 : decode cX2_load 32 = .ok (.ireturn, 1) := by decide +kernel
theorem dX2_load_33 : decode cX2_load 33 = .ok (.aload_n 0, 1) := by decide +kernel
theorem dX2_load_34 : decode cX2_load 34 = .ok (.getfield 15, 3) := by decide +kernel
theorem dX2_load_37 : decode cX2_load 37 = .ok (.aload_n 0, 1) := by decide +kernel
theorem dX2_load_38 : decode cX2_load 38 = .ok (.getfield 21, 3) := by decide +kernel
theorem dX2_load_41 : decode cX2_load 41 = .ok (.bipush 6, 2) := by decide +kernel
theorem dX2_load_43 : decode cX2_load 43 = .ok (.imul, 1) := by decide +kernel
theorem dX2_load_44 : decode cX2_load 44 = .ok (.iload_n 1, 1) := by decide +kernel
theorem dX2_load_45 : decode cX2_load 45 = .ok (.iadd, 1) := by decide +kernel
theorem dX2_load_46 : decode cX2_load 46 = .ok (.iaload, 1) := by decide +kernel
theorem dX2_load_47 : decode cX2_load 47 = .ok (.ireturn, 1) := by decide +kernel
theorem dX2_open_0 : decode cX2_open 0 = .ok (.aload_n 0, 1) := by decide +kernel
theorem dX2_open_1 : decode cX2_open 1 = .ok (.getfield 21, 3) := by decide +kernel
theorem dX2_open_4 : decode cX2_open 4 = .ok (.iconst 1, 1) := by decide +kernel
theorem dX2_open_5 : decode cX2_open 5 = .ok (.iadd, 1) := by decide +kernel
theorem dX2_open_6 : decode cX2_open 6 = .ok (.bipush 31, 2) := by decide +kernel
theorem dX2_open_8 : decode cX2_open 8 = .ok (.if_icmp .lt 9, 3) := by decide +kernel
theorem dX2_open_11 : decode cX2_open 11 = .ok (.aload_n 0, 1) := by decide +kernel
theorem dX2_open_12 : decode cX2_open 12 = .ok (.iconst 2, 1) := by decide +kernel
theorem dX2_open_13 : decode cX2_open 13 = .ok (.putfield 31, 3) := by decide +kernel
theorem dX2_open_16 : decode cX2_open 16 = .ok (.return_, 1) := by decide +kernel
theorem dX2_open_17 : decode cX2_open 17 = .ok (.aload_n 0, 1) := by decide +kernel
theorem dX2_open_18 : decode cX2_open 18 = .ok (.aload_n 0, 1) := by decide +kernel
theorem dX2_open_19 : decode cX2_open 19 = .ok (.getfield 50, 3) := by decide +kernel
theorem dX2_open_22 : decode cX2_open 22 = .ok (.getfield 111, 3) := by decide +kernel
theorem dX2_open_25 : decode cX2_open 25 = .ok (.iload_n 1, 1) := by decide +kernel
theorem dX2_open_26 : decode cX2_open 26 = .ok (.iaload, 1) := by decide +kernel
theorem dX2_open_27 : decode cX2_open 27 = .ok (.invokevirtual 114, 3) := by decide +kernel
theorem dX2_open_30 : decode cX2_open 30 = .ok (.istore_n 2, 1) := by decide +kernel
theorem dX2_open_31 : decode cX2_open 31 = .ok (.aload_n 0, 1) := by decide +kernel
theorem dX2_open_32 : decode cX2_open 32 = .ok (.aload_n 0, 1) := by decide +kernel
theorem dX2_open_33 : decode cX2_open 33 = .ok (.getfield 50, 3) := by decide +kernel
theorem dX2_open_36 : decode cX2_open 36 = .ok (.getfield 120, 3) := by decide +kernel
theorem dX2_open_39 : decode cX2_open 39 = .ok (.iload_n 1, 1) := by decide +kernel
theorem dX2_open_40 : decode cX2_open 40 = .ok (.iaload, 1) := by decide +kernel
theorem dX2_open_41 : decode cX2_open 41 = .ok (.invokevirtual 114, 3) := by decide +kernel
theorem dX2_open_44 : decode cX2_open 44 = .ok (.istore_n 3, 1) := by decide +kernel
theorem dX2_open_45 : decode cX2_open 45 = .ok (.aload_n 0, 1) := by decide +kernel
theorem dX2_open_46 : decode cX2_open 46 = .ok (.dup, 1) := by decide +kernel
theorem dX2_open_47 : decode cX2_open 47 = .ok (.getfield 21, 3) := by decide +kernel
theorem dX2_open_50 : decode cX2_open 50 = .ok (.iconst 1, 1) := by decide +kernel
theorem dX2_open_51 : decode cX2_open 51 = .ok (.iadd, 1) := by decide +kernel
theorem dX2_open_52 : decode cX2_open 52 = .ok (.putfield 21, 3) := by decide +kernel
theorem dX2_open_55 : decode cX2_open 55 = .ok (.aload_n 0, 1) := by decide +kernel
theorem dX2_open_56 : decode cX2_open 56 = .ok (.getfield 18, 3) := by decide +kernel
theorem dX2_open_59 : decode cX2_open 59 = .ok (.aload_n 0, 1) := by decide +kernel
theorem dX2_open_60 : decode cX2_open 60 = .ok (.getfield 21, 3) := by decide +kernel
theorem dX2_open_63 : decode cX2_open 63 = .ok (.iload_n 1, 1) := by decide +kernel
theorem dX2_open_64 : decode cX2_open 64 = .ok (.iastore, 1) := by decide +kernel
theorem dX2_open_65 : decode cX2_open 65 = .ok (.aload_n 0, 1) := by decide +kernel
theorem dX2_open_66 : decode cX2_open 66 = .ok (.aload_n 0, 1) := by decide +kernel
theorem dX2_open_67 : decode cX2_open 67 = .ok (.getfield 50, 3) := by decide +kernel
theorem dX2_open_70 : decode cX2_open 70 = .ok (.getfield 129, 3) := by decide +kernel
theorem dX2_open_73 : decode cX2_open 73 = .ok (.iload_n 1, 1) := by decide +kernel
theorem dX2_open_74 : decode cX2_open 74 = .ok (.iaload, 1) := by decide +kernel
theorem dX2_open_75 : decode cX2_open 75 = .ok (.iload_n 2, 1) := by decide +kernel
theorem dX2_open_76 : decode cX2_open 76 = .ok (.iload_n 3, 1) := by decide +kernel
theorem dX2_open_77 : decode cX2_open 77 = .ok (.invokevirtual 60, 3) := by decide +kernel
theorem dX2_open_80 : decode cX2_open 80 = .ok (.return_, 1) := by decide +kernel
theorem dX2_perform_0 : decode cX2_perform 0 = .ok (.aload_n 0, 1) := by decide +kernel
theorem dX2_perform_1 : decode cX2_perform 1 = .ok (.getfield 50, 3) := by decide +kernel
theorem dX2_perform_4 : decode cX2_perform 4 = .ok (.getfield 88, 3) := by decide +kernel
theorem dX2_perform_7 : decode cX2_perform 7 = .ok (.iload_n 1, 1) := by decide +kernel
theorem dX2_perform_8 : decode cX2_perform 8 = .ok (.iaload, 1) := by decide +kernel
theorem dX2_perform_9 : decode cX2_perform 9 = .ok (.tableswitch 167 0 5 #[39, 81, 167, 167, 89, 128], 39) := by decide +kernel
theorem dX2_perform_48 : decode cX2_perform 48 = .ok (.aload_n 0, 1) := by decide +kernel
theorem dX2_perform_49 : decode cX2_perform 49 = .ok (.iload_n 1, 1) := by decide +kernel
theorem dX2_perform_50 : decode cX2_perform 50 = .ok (.invokevirtual 91, 3) := by decide +kernel
theorem dX2_perform_53 : decode cX2_perform 53 = .ok (.istore_n 2, 1) := by decide +kernel
theorem dX2_perform_54 : decode cX2_perform 54 = .ok (.aload_n 0, 1) := by decide +kernel
theorem dX2_perform_55 : decode cX2_perform 55 = .ok (.aload_n 0, 1) := by decide +kernel
theorem dX2_perform_56 : decode cX2_perform 56 = .ok (.getfield 50, 3) := by decide +kernel
theorem dX2_perform_59 : decode cX2_perform 59 = .ok (.getfield 95, 3) := by decide +kernel
theorem dX2_perform_62 : decode cX2_perform 62 = .ok (.iload_n 1, 1) := by decide +kernel
theorem dX2_perform_63 : decode cX2_perform 63 = .ok (.iaload, 1) := by decide +kernel
theorem dX2_perform_64 : decode cX2_perform 64 = .ok (.iload_n 2, 1) := by decide +kernel
theorem dX2_perform_65 : decode cX2_perform 65 = .ok (.invokevirtual 98, 3) := by decide +kernel
theorem dX2_perform_68 : decode cX2_perform 68 = .ok (.aload_n 0, 1) := by decide +kernel
theorem dX2_perform_69 : decode cX2_perform 69 = .ok (.iload_n 1, 1) := by decide +kernel
theorem dX2_perform_70 : decode cX2_perform 70 = .ok (.iload_n 2, 1) := by decide +kernel
theorem dX2_perform_71 : decode cX2_perform 71 = .ok (.invokevirtual 102, 3) := by decide +kernel
theorem dX2_perform_74 : decode cX2_perform 74 = .ok (.aload_n 0, 1) := by decide +kernel
theorem dX2_perform_75 : decode cX2_perform 75 = .ok (.aload_n 0, 1) := by decide +kernel
theorem dX2_perform_76 : decode cX2_perform 76 = .ok (.getfield 50, 3) := by decide +kernel
theorem dX2_perform_79 : decode cX2_perform 79 = .ok (.getfield 105, 3) := by decide +kernel
theorem dX2_perform_82 : decode cX2_perform 82 = .ok (.iload_n 1, 1) := by decide +kernel
theorem dX2_perform_83 : decode cX2_perform 83 = .ok (.iaload, 1) := by decide +kernel
theorem dX2_perform_84 : decode cX2_perform 84 = .ok (.putfield 25, 3) := by decide +kernel
theorem dX2_perform_87 : decode cX2_perform 87 = .ok (.goto 167, 3) := by decide +kernel
theorem dX2_perform_90 : decode cX2_perform 90 = .ok (.aload_n 0, 1) := by decide +kernel
theorem dX2_perform_91 : decode cX2_perform 91 = .ok (.iload_n 1, 1) := by decide +kernel
theorem dX2_perform_92 : decode cX2_perform 92 = .ok (.invokevirtual 108, 3) := by decide +kernel
theorem dX2_perform_95 : decode cX2_perform 95 = .ok (.goto 159, 3) := by decide +kernel
theorem dX2_perform_98 : decode cX2_perform 98 = .ok (.aload_n 0, 1) := by decide +kernel
theorem dX2_perform_99 : decode cX2_perform 99 = .ok (.iload_n 1, 1) := by decide +kernel
theorem dX2_perform_100 : decode cX2_perform 100 = .ok (.aload_n 0, 1) := by decide +kernel
theorem dX2_perform_101 : decode cX2_perform 101 = .ok (.aload_n 0, 1) := by decide +kernel
theorem dX2_perform_102 : decode cX2_perform 102 = .ok (.getfield 50, 3) := by decide +kernel
theorem dX2_perform_105 : decode cX2_perform 105 = .ok (.getfield 111, 3) := by decide +kernel
theorem dX2_perform_108 : decode cX2_perform 108 = .ok (.iload_n 1, 1) := by decide +kernel
theorem dX2_perform_109 : decode cX2_perform 109 = .ok (.iaload, 1) := by decide +kernel
theorem dX2_perform_110 : decode cX2_perform 110 = .ok (.invokevirtual 114, 3) := by decide +kernel
theorem dX2_perform_113 : decode cX2_perform 113 = .ok (.invokevirtual 102, 3) := by decide +kernel
theorem dX2_perform_116 : decode cX2_perform 116 = .ok (.aload_n 0, 1) := by decide +kernel
theorem dX2_perform_117 : decode cX2_perform 117 = .ok (.iload_n 1, 1) := by decide +kernel
theorem dX2_perform_118 : decode cX2_perform 118 = .ok (.aload_n 0, 1) := by decide +kernel
theorem dX2_perform_119 : decode cX2_perform 119 = .ok (.aload_n 0, 1) := by decide +kernel
theorem dX2_perform_120 : decode cX2_perform 120 = .ok (.getfield 50, 3) := by decide +kernel
theorem dX2_perform_123 : decode cX2_perform 123 = .ok (.getfield 111, 3) := by decide +kernel
theorem dX2_perform_126 : decode cX2_perform 126 = .ok (.iload_n 1, 1) := by decide +kernel
theorem dX2_perform_127 : decode cX2_perform 127 = .ok (.iaload, 1) := by decide +kernel
theorem dX2_perform_128 : decode cX2_perform 128 = .ok (.invokevirtual 114, 3) := by decide +kernel
theorem dX2_perform_131 : decode cX2_perform 131 = .ok (.invokevirtual 117, 3) := by decide +kernel
theorem dX2_perform_134 : decode cX2_perform 134 = .ok (.goto 120, 3) := by decide +kernel
theorem dX2_perform_137 : decode cX2_perform 137 = .ok (.aload_n 0, 1) := by decide +kernel
theorem dX2_perform_138 : decode cX2_perform 138 = .ok (.iload_n 1, 1) := by decide +kernel
theorem dX2_perform_139 : decode cX2_perform 139 = .ok (.aload_n 0, 1) := by decide +kernel
theorem dX2_perform_140 : decode cX2_perform 140 = .ok (.aload_n 0, 1) := by decide +kernel
theorem dX2_perform_141 : decode cX2_perform 141 = .ok (.getfield 50, 3) := by decide +kernel
theorem dX2_perform_144 : decode cX2_perform 144 = .ok (.getfield 111, 3) := by decide +kernel
theorem dX2_perform_147 : decode cX2_perform 147 = .ok (.iload_n 1, 1) := by decide +kernel
theorem dX2_perform_148 : decode cX2_perform 148 = .ok (.iaload, 1) := by decide +kernel
theorem dX2_perform_149 : decode cX2_perform 149 = .ok (.invokevirtual 114, 3) := by decide +kernel
theorem dX2_perform_152 : decode cX2_perform 152 = .ok (.invokevirtual 102, 3) := by decide +kernel
theorem dX2_perform_155 : decode cX2_perform 155 = .ok (.aload_n 0, 1) := by decide +kernel
theorem dX2_perform_156 : decode cX2_perform 156 = .ok (.aload_n 0, 1) := by decide +kernel
theorem dX2_perform_157 : decode cX2_perform 157 = .ok (.aload_n 0, 1) := by decide +kernel
theorem dX2_perform_158 : decode cX2_perform 158 = .ok (.getfield 50, 3) := by decide +kernel
theorem dX2_perform_161 : decode cX2_perform 161 = .ok (.getfield 111, 3) := by decide +kernel
theorem dX2_perform_164 : decode cX2_perform 164 = .ok (.iload_n 1, 1) := by decide +kernel
theorem dX2_perform_165 : decode cX2_perform 165 = .ok (.iaload, 1) := by decide +kernel
theorem dX2_perform_166 : decode cX2_perform 166 = .ok (.invokevirtual 114, 3) := by decide +kernel
theorem dX2_perform_169 : decode cX2_perform 169 = .ok (.iconst 0, 1) := by decide +kernel
theorem dX2_perform_170 : decode cX2_perform 170 = .ok (.invokevirtual 73, 3) := by decide +kernel
theorem dX2_perform_173 : decode cX2_perform 173 = .ok (.goto 81, 3) := by decide +kernel
theorem dX2_perform_176 : decode cX2_perform 176 = .ok (.aload_n 0, 1) := by decide +kernel
theorem dX2_perform_177 : decode cX2_perform 177 = .ok (.aload_n 0, 1) := by decide +kernel
theorem dX2_perform_178 : decode cX2_perform 178 = .ok (.getfield 50, 3) := by decide +kernel
theorem dX2_perform_181 : decode cX2_perform 181 = .ok (.getfield 111, 3) := by decide +kernel
theorem dX2_perform_184 : decode cX2_perform 184 = .ok (.iload_n 1, 1) := by decide +kernel
theorem dX2_perform_185 : decode cX2_perform 185 = .ok (.iaload, 1) := by decide +kernel
theorem dX2_perform_186 : decode cX2_perform 186 = .ok (.invokevirtual 114, 3) := by decide +kernel
theorem dX2_perform_189 : decode cX2_perform 189 = .ok (.aload_n 0, 1) := by decide +kernel
theorem dX2_perform_190 : decode cX2_perform 190 = .ok (.aload_n 0, 1) := by decide +kernel
theorem dX2_perform_191 : decode cX2_perform 191 = .ok (.getfield 50, 3) := by decide +kernel
theorem dX2_perform_194 : decode cX2_perform 194 = .ok (.getfield 120, 3) := by decide +kernel
theorem dX2_perform_197 : decode cX2_perform 197 = .ok (.iload_n 1, 1) := by decide +kernel
theorem dX2_perform_198 : decode cX2_perform 198 = .ok (.iaload, 1) := by decide +kernel
theorem dX2_perform_199 : decode cX2_perform 199 = .ok (.invokevirtual 114, 3) := by decide +kernel
theorem dX2_perform_202 : decode cX2_perform 202 = .ok (.if_icmp .ge 7, 3) := by decide +kernel
theorem dX2_perform_205 : decode cX2_perform 205 = .ok (.iconst 1, 1) := by decide +kernel
theorem dX2_perform_206 : decode cX2_perform 206 = .ok (.goto 4, 3) := by decide +kernel
theorem dX2_perform_209 : decode cX2_perform 209 = .ok (.iconst 0, 1) := by decide +kernel
theorem dX2_perform_210 : decode cX2_perform 210 = .ok (.istore_n 3, 1) := by decide +kernel
theorem dX2_perform_211 : decode cX2_perform 211 = .ok (.aload_n 0, 1) := by decide +kernel
theorem dX2_perform_212 : decode cX2_perform 212 = .ok (.iload_n 1, 1) := by decide +kernel
theorem dX2_perform_213 : decode cX2_perform 213 = .ok (.iload_n 3, 1) := by decide +kernel
theorem dX2_perform_214 : decode cX2_perform 214 = .ok (.ifCond .eq 7, 3) := by decide +kernel
theorem dX2_perform_217 : decode cX2_perform 217 = .ok (.iconst 1, 1) := by decide +kernel
theorem dX2_perform_218 : decode cX2_perform 218 = .ok (.goto 4, 3) := by decide +kernel
theorem dX2_perform_221 : decode cX2_perform 221 = .ok (.iconst 0, 1) := by decide +kernel
theorem dX2_perform_222 : decode cX2_perform 222 = .ok (.invokevirtual 102, 3) := by decide +kernel
theorem dX2_perform_225 : decode cX2_perform 225 = .ok (.aload_n 0, 1) := by decide +kernel
theorem dX2_perform_226 : decode cX2_perform 226 = .ok (.iload_n 3, 1) := by decide +kernel
theorem dX2_perform_227 : decode cX2_perform 227 = .ok (.ifCond .eq 15, 3) := by decide +kernel
theorem dX2_perform_230 : decode cX2_perform 230 = .ok (.aload_n 0, 1) := by decide +kernel
theorem dX2_perform_231 : decode cX2_perform 231 = .ok (.getfield 50, 3) := by decide +kernel
theorem dX2_perform_234 : decode cX2_perform 234 = .ok (.getfield 123, 3) := by decide +kernel
theorem dX2_perform_237 : decode cX2_perform 237 = .ok (.iload_n 1, 1) := by decide +kernel
theorem dX2_perform_238 : decode cX2_perform 238 = .ok (.iaload, 1) := by decide +kernel
theorem dX2_perform_239 : decode cX2_perform 239 = .ok (.goto 12, 3) := by decide +kernel
theorem dX2_perform_242 : decode cX2_perform 242 = .ok (.aload_n 0, 1) := by decide +kernel
theorem dX2_perform_243 : decode cX2_perform 243 = .ok (.getfield 50, 3) := by decide +kernel
theorem dX2_perform_246 : decode cX2_perform 246 = .ok (.getfield 105, 3) := by decide +kernel
theorem dX2_perform_249 : decode cX2_perform 249 = .ok (.iload_n 1, 1) := by decide +kernel
theorem dX2_perform_250 : decode cX2_perform 250 = .ok (.iaload, 1) := by decide +kernel
theorem dX2_perform_251 : decode cX2_perform 251 = .ok (.putfield 25, 3) := by decide +kernel
theorem dX2_perform_254 : decode cX2_perform 254 = .ok (.return_, 1) := by decide +kernel
theorem dX2_play_0 : decode cX2_play 0 = .ok (.aload_n 0, 1) := by decide +kernel
theorem dX2_play_1 : decode cX2_play 1 = .ok (.aload_n 1, 1) := by decide +kernel
theorem dX2_play_2 : decode cX2_play 2 = .ok (.putfield 50, 3) := by decide +kernel
theorem dX2_play_5 : decode cX2_play 5 = .ok (.aload_n 0, 1) := by decide +kernel
theorem dX2_play_6 : decode cX2_play 6 = .ok (.lload_n 2, 1) := by decide +kernel
theorem dX2_play_7 : decode cX2_play 7 = .ok (.putfield 46, 3) := by decide +kernel
theorem dX2_play_10 : decode cX2_play 10 = .ok (.aload_n 0, 1) := by decide +kernel
theorem dX2_play_11 : decode cX2_play 11 = .ok (.getfield 9, 3) := by decide +kernel
theorem dX2_play_14 : decode cX2_play 14 = .ok (.iconst 0, 1) := by decide +kernel
theorem dX2_play_15 : decode cX2_play 15 = .ok (.invokestatic 54, 3) := by decide +kernel
theorem dX2_play_18 : decode cX2_play 18 = .ok (.aload_n 0, 1) := by decide +kernel
theorem dX2_play_19 : decode cX2_play 19 = .ok (.iconst 0, 1) := by decide +kernel
theorem dX2_play_20 : decode cX2_play 20 = .ok (.putfield 21, 3) := by decide +kernel
theorem dX2_play_23 : decode cX2_play 23 = .ok (.aload_n 0, 1) := by decide +kernel
theorem dX2_play_24 : decode cX2_play 24 = .ok (.iconst 0, 1) := by decide +kernel
theorem dX2_play_25 : decode cX2_play 25 = .ok (.putfield 28, 3) := by decide +kernel
theorem dX2_play_28 : decode cX2_play 28 = .ok (.aload_n 0, 1) := by decide +kernel
theorem dX2_play_29 : decode cX2_play 29 = .ok (.iconst 0, 1) := by decide +kernel
theorem dX2_play_30 : decode cX2_play 30 = .ok (.putfield 34, 3) := by decide +kernel
theorem dX2_play_33 : decode cX2_play 33 = .ok (.aload_n 0, 1) := by decide +kernel
theorem dX2_play_34 : decode cX2_play 34 = .ok (.iconst 0, 1) := by decide +kernel
theorem dX2_play_35 : decode cX2_play 35 = .ok (.putfield 43, 3) := by decide +kernel
theorem dX2_play_38 : decode cX2_play 38 = .ok (.aload_n 0, 1) := by decide +kernel
theorem dX2_play_39 : decode cX2_play 39 = .ok (.iconst 3, 1) := by decide +kernel
theorem dX2_play_40 : decode cX2_play 40 = .ok (.putfield 31, 3) := by decide +kernel
theorem dX2_play_43 : decode cX2_play 43 = .ok (.aload_n 0, 1) := by decide +kernel
theorem dX2_play_44 : decode cX2_play 44 = .ok (.iconst 0, 1) := by decide +kernel
theorem dX2_play_45 : decode cX2_play 45 = .ok (.iload 4, 2) := by decide +kernel
theorem dX2_play_47 : decode cX2_play 47 = .ok (.iload 5, 2) := by decide +kernel
theorem dX2_play_49 : decode cX2_play 49 = .ok (.invokevirtual 60, 3) := by decide +kernel
theorem dX2_play_52 : decode cX2_play 52 = .ok (.iconst 0, 1) := by decide +kernel
theorem dX2_play_53 : decode cX2_play 53 = .ok (.istore 6, 2) := by decide +kernel
theorem dX2_play_55 : decode cX2_play 55 = .ok (.iload 6, 2) := by decide +kernel
theorem dX2_play_57 : decode cX2_play 57 = .ok (.ldc 64, 2) := by decide +kernel
theorem dX2_play_59 : decode cX2_play 59 = .ok (.if_icmp .ge 21, 3) := by decide +kernel
theorem dX2_play_62 : decode cX2_play 62 = .ok (.aload_n 0, 1) := by decide +kernel
theorem dX2_play_63 : decode cX2_play 63 = .ok (.getfield 31, 3) := by decide +kernel
theorem dX2_play_66 : decode cX2_play 66 = .ok (.iconst 3, 1) := by decide +kernel
theorem dX2_play_67 : decode cX2_play 67 = .ok (.if_icmp .ne 13, 3) := by decide +kernel
theorem dX2_play_70 : decode cX2_play 70 = .ok (.aload_n 0, 1) := by decide +kernel
theorem dX2_play_71 : decode cX2_play 71 = .ok (.invokevirtual 65, 3) := by decide +kernel
theorem dX2_play_74 : decode cX2_play 74 = .ok (.iinc 6 1, 3) := by decide +kernel
theorem dX2_play_77 : decode cX2_play 77 = .ok (.goto (-22), 3) := by decide +kernel
theorem dX2_play_80 : decode cX2_play 80 = .ok (.aload_n 0, 1) := by decide +kernel
theorem dX2_play_81 : decode cX2_play 81 = .ok (.getfield 31, 3) := by decide +kernel
theorem dX2_play_84 : decode cX2_play 84 = .ok (.ireturn, 1) := by decide +kernel
theorem dX2_raise_0 : decode cX2_raise 0 = .ok (.aload_n 0, 1) := by decide +kernel
theorem dX2_raise_1 : decode cX2_raise 1 = .ok (.getfield 50, 3) := by decide +kernel
theorem dX2_raise_4 : decode cX2_raise 4 = .ok (.getfield 132, 3) := by decide +kernel
theorem dX2_raise_7 : decode cX2_raise 7 = .ok (.iload_n 1, 1) := by decide +kernel
theorem dX2_raise_8 : decode cX2_raise 8 = .ok (.iaload, 1) := by decide +kernel
theorem dX2_raise_9 : decode cX2_raise 9 = .ok (.ifCond .lt 33, 3) := by decide +kernel
theorem dX2_raise_12 : decode cX2_raise 12 = .ok (.aload_n 0, 1) := by decide +kernel
theorem dX2_raise_13 : decode cX2_raise 13 = .ok (.aload_n 0, 1) := by decide +kernel
theorem dX2_raise_14 : decode cX2_raise 14 = .ok (.getfield 50, 3) := by decide +kernel
theorem dX2_raise_17 : decode cX2_raise 17 = .ok (.getfield 132, 3) := by decide +kernel
theorem dX2_raise_20 : decode cX2_raise 20 = .ok (.iload_n 1, 1) := by decide +kernel
theorem dX2_raise_21 : decode cX2_raise 21 = .ok (.iaload, 1) := by decide +kernel
theorem dX2_raise_22 : decode cX2_raise 22 = .ok (.iload_n 2, 1) := by decide +kernel
theorem dX2_raise_23 : decode cX2_raise 23 = .ok (.invokevirtual 98, 3) := by decide +kernel
theorem dX2_raise_26 : decode cX2_raise 26 = .ok (.aload_n 0, 1) := by decide +kernel
theorem dX2_raise_27 : decode cX2_raise 27 = .ok (.aload_n 0, 1) := by decide +kernel
theorem dX2_raise_28 : decode cX2_raise 28 = .ok (.getfield 50, 3) := by decide +kernel
theorem dX2_raise_31 : decode cX2_raise 31 = .ok (.getfield 123, 3) := by decide +kernel
theorem dX2_raise_34 : decode cX2_raise 34 = .ok (.iload_n 1, 1) := by decide +kernel
theorem dX2_raise_35 : decode cX2_raise 35 = .ok (.iaload, 1) := by decide +kernel
theorem dX2_raise_36 : decode cX2_raise 36 = .ok (.putfield 25, 3) := by decide +kernel
theorem dX2_raise_39 : decode cX2_raise 39 = .ok (.goto 9, 3) := by decide +kernel
theorem dX2_raise_42 : decode cX2_raise 42 = .ok (.aload_n 0, 1) := by decide +kernel
theorem dX2_raise_43 : decode cX2_raise 43 = .ok (.iload_n 2, 1) := by decide +kernel
theorem dX2_raise_44 : decode cX2_raise 44 = .ok (.iconst 1, 1) := by decide +kernel
theorem dX2_raise_45 : decode cX2_raise 45 = .ok (.invokevirtual 73, 3) := by decide +kernel
theorem dX2_raise_48 : decode cX2_raise 48 = .ok (.return_, 1) := by decide +kernel
theorem dX2_see_0 : decode cX2_see 0 = .ok (.aload_n 0, 1) := by decide +kernel
theorem dX2_see_1 : decode cX2_see 1 = .ok (.getfield 43, 3) := by decide +kernel
theorem dX2_see_4 : decode cX2_see 4 = .ok (.sipush 500, 3) := by decide +kernel
theorem dX2_see_7 : decode cX2_see 7 = .ok (.if_icmp .ge 33, 3) := by decide +kernel
theorem dX2_see_10 : decode cX2_see 10 = .ok (.aload_n 0, 1) := by decide +kernel
theorem dX2_see_11 : decode cX2_see 11 = .ok (.getfield 37, 3) := by decide +kernel
theorem dX2_see_14 : decode cX2_see 14 = .ok (.aload_n 0, 1) := by decide +kernel
theorem dX2_see_15 : decode cX2_see 15 = .ok (.getfield 43, 3) := by decide +kernel
theorem dX2_see_18 : decode cX2_see 18 = .ok (.iload_n 1, 1) := by decide +kernel
theorem dX2_see_19 : decode cX2_see 19 = .ok (.iastore, 1) := by decide +kernel
theorem dX2_see_20 : decode cX2_see 20 = .ok (.aload_n 0, 1) := by decide +kernel
theorem dX2_see_21 : decode cX2_see 21 = .ok (.getfield 40, 3) := by decide +kernel
theorem dX2_see_24 : decode cX2_see 24 = .ok (.aload_n 0, 1) := by decide +kernel
theorem dX2_see_25 : decode cX2_see 25 = .ok (.getfield 43, 3) := by decide +kernel
theorem dX2_see_28 : decode cX2_see 28 = .ok (.iload_n 2, 1) := by decide +kernel
theorem dX2_see_29 : decode cX2_see 29 = .ok (.iastore, 1) := by decide +kernel
theorem dX2_see_30 : decode cX2_see 30 = .ok (.aload_n 0, 1) := by decide +kernel
theorem dX2_see_31 : decode cX2_see 31 = .ok (.dup, 1) := by decide +kernel
theorem dX2_see_32 : decode cX2_see 32 = .ok (.getfield 43, 3) := by decide +kernel
theorem dX2_see_35 : decode cX2_see 35 = .ok (.iconst 1, 1) := by decide +kernel
theorem dX2_see_36 : decode cX2_see 36 = .ok (.iadd, 1) := by decide +kernel
theorem dX2_see_37 : decode cX2_see 37 = .ok (.putfield 43, 3) := by decide +kernel
theorem dX2_see_40 : decode cX2_see 40 = .ok (.return_, 1) := by decide +kernel
theorem dX2_sightOf_0 : decode cX2_sightOf 0 = .ok (.iconst 0, 1) := by decide +kernel
theorem dX2_sightOf_1 : decode cX2_sightOf 1 = .ok (.istore_n 3, 1) := by decide +kernel
theorem dX2_sightOf_2 : decode cX2_sightOf 2 = .ok (.iconst 0, 1) := by decide +kernel
theorem dX2_sightOf_3 : decode cX2_sightOf 3 = .ok (.istore 4, 2) := by decide +kernel
theorem dX2_sightOf_5 : decode cX2_sightOf 5 = .ok (.iload 4, 2) := by decide +kernel
theorem dX2_sightOf_7 : decode cX2_sightOf 7 = .ok (.aload_n 0, 1) := by decide +kernel
theorem dX2_sightOf_8 : decode cX2_sightOf 8 = .ok (.getfield 43, 3) := by decide +kernel
theorem dX2_sightOf_11 : decode cX2_sightOf 11 = .ok (.if_icmp .ge 36, 3) := by decide +kernel
theorem dX2_sightOf_14 : decode cX2_sightOf 14 = .ok (.aload_n 0, 1) := by decide +kernel
theorem dX2_sightOf_15 : decode cX2_sightOf 15 = .ok (.getfield 37, 3) := by decide +kernel
theorem dX2_sightOf_18 : decode cX2_sightOf 18 = .ok (.iload 4, 2) := by decide +kernel
theorem dX2_sightOf_20 : decode cX2_sightOf 20 = .ok (.iaload, 1) := by decide +kernel
theorem dX2_sightOf_21 : decode cX2_sightOf 21 = .ok (.iload_n 1, 1) := by decide +kernel
theorem dX2_sightOf_22 : decode cX2_sightOf 22 = .ok (.if_icmp .ne 19, 3) := by decide +kernel
theorem dX2_sightOf_25 : decode cX2_sightOf 25 = .ok (.iload_n 3, 1) := by decide +kernel
theorem dX2_sightOf_26 : decode cX2_sightOf 26 = .ok (.iload_n 2, 1) := by decide +kernel
theorem dX2_sightOf_27 : decode cX2_sightOf 27 = .ok (.if_icmp .ne 11, 3) := by decide +kernel
theorem dX2_sightOf_30 : decode cX2_sightOf 30 = .ok (.aload_n 0, 1) := by decide +kernel
theorem dX2_sightOf_31 : decode cX2_sightOf 31 = .ok (.getfield 40, 3) := by decide +kernel
theorem dX2_sightOf_34 : decode cX2_sightOf 34 = .ok (.iload 4, 2) := by decide +kernel
theorem dX2_sightOf_36 : decode cX2_sightOf 36 = .ok (.iaload, 1) := by decide +kernel
theorem dX2_sightOf_37 : decode cX2_sightOf 37 = .ok (.ireturn, 1) := by decide +kernel
theorem dX2_sightOf_38 : decode cX2_sightOf 38 = .ok (.iinc 3 1, 3) := by decide +kernel
theorem dX2_sightOf_41 : decode cX2_sightOf 41 = .ok (.iinc 4 1, 3) := by decide +kernel
theorem dX2_sightOf_44 : decode cX2_sightOf 44 = .ok (.goto (-39), 3) := by decide +kernel
theorem dX2_sightOf_47 : decode cX2_sightOf 47 = .ok (.iconst 0, 1) := by decide +kernel
theorem dX2_sightOf_48 : decode cX2_sightOf 48 = .ok (.ireturn, 1) := by decide +kernel
theorem dX2_sightsOf_0 : decode cX2_sightsOf 0 = .ok (.iconst 0, 1) := by decide +kernel
theorem dX2_sightsOf_1 : decode cX2_sightsOf 1 = .ok (.istore_n 2, 1) := by decide +kernel
theorem dX2_sightsOf_2 : decode cX2_sightsOf 2 = .ok (.iconst 0, 1) := by decide +kernel
theorem dX2_sightsOf_3 : decode cX2_sightsOf 3 = .ok (.istore_n 3, 1) := by decide +kernel
theorem dX2_sightsOf_4 : decode cX2_sightsOf 4 = .ok (.iload_n 3, 1) := by decide +kernel
theorem dX2_sightsOf_5 : decode cX2_sightsOf 5 = .ok (.aload_n 0, 1) := by decide +kernel
theorem dX2_sightsOf_6 : decode cX2_sightsOf 6 = .ok (.getfield 43, 3) := by decide +kernel
theorem dX2_sightsOf_9 : decode cX2_sightsOf 9 = .ok (.if_icmp .ge 22, 3) := by decide +kernel
theorem dX2_sightsOf_12 : decode cX2_sightsOf 12 = .ok (.aload_n 0, 1) := by decide +kernel
theorem dX2_sightsOf_13 : decode cX2_sightsOf 13 = .ok (.getfield 37, 3) := by decide +kernel
theorem dX2_sightsOf_16 : decode cX2_sightsOf 16 = .ok (.iload_n 3, 1) := by decide +kernel
theorem dX2_sightsOf_17 : decode cX2_sightsOf 17 = .ok (.iaload, 1) := by decide +kernel
theorem dX2_sightsOf_18 : decode cX2_sightsOf 18 = .ok (.iload_n 1, 1) := by decide +kernel
theorem dX2_sightsOf_19 : decode cX2_sightsOf 19 = .ok (.if_icmp .ne 6, 3) := by decide +kernel
theorem dX2_sightsOf_22 : decode cX2_sightsOf 22 = .ok (.iinc 2 1, 3) := by decide +kernel
theorem dX2_sightsOf_25 : decode cX2_sightsOf 25 = .ok (.iinc 3 1, 3) := by decide +kernel
theorem dX2_sightsOf_28 : decode cX2_sightsOf 28 = .ok (.goto (-24), 3) := by decide +kernel
theorem dX2_sightsOf_31 : decode cX2_sightsOf 31 = .ok (.iload_n 2, 1) := by decide +kernel
theorem dX2_sightsOf_32 : decode cX2_sightsOf 32 = .ok (.ireturn, 1) := by decide +kernel
theorem dX2_step_0 : decode cX2_step 0 = .ok (.aload_n 0, 1) := by decide +kernel
theorem dX2_step_1 : decode cX2_step 1 = .ok (.getfield 25, 3) := by decide +kernel
theorem dX2_step_4 : decode cX2_step 4 = .ok (.bipush 40, 2) := by decide +kernel
theorem dX2_step_6 : decode cX2_step 6 = .ok (.if_icmp .lt 12, 3) := by decide +kernel
theorem dX2_step_9 : decode cX2_step 9 = .ok (.aload_n 0, 1) := by decide +kernel
theorem dX2_step_10 : decode cX2_step 10 = .ok (.iconst 0, 1) := by decide +kernel
theorem dX2_step_11 : decode cX2_step 11 = .ok (.iconst 0, 1) := by decide +kernel
theorem dX2_step_12 : decode cX2_step 12 = .ok (.invokevirtual 73, 3) := by decide +kernel
theorem dX2_step_15 : decode cX2_step 15 = .ok (.goto 72, 3) := by decide +kernel
theorem dX2_step_18 : decode cX2_step 18 = .ok (.aload_n 0, 1) := by decide +kernel
theorem dX2_step_19 : decode cX2_step 19 = .ok (.getfield 46, 3) := by decide +kernel
theorem dX2_step_22 : decode cX2_step 22 = .ok (.aload_n 0, 1) := by decide +kernel
theorem dX2_step_23 : decode cX2_step 23 = .ok (.getfield 25, 3) := by decide +kernel
theorem dX2_step_26 : decode cX2_step 26 = .ok (.invokestatic 77, 3) := by decide +kernel
theorem dX2_step_29 : decode cX2_step 29 = .ok (.ifCond .ne 22, 3) := by decide +kernel
theorem dX2_step_32 : decode cX2_step 32 = .ok (.aload_n 0, 1) := by decide +kernel
theorem dX2_step_33 : decode cX2_step 33 = .ok (.aload_n 0, 1) := by decide +kernel
theorem dX2_step_34 : decode cX2_step 34 = .ok (.getfield 50, 3) := by decide +kernel
theorem dX2_step_37 : decode cX2_step 37 = .ok (.getfield 81, 3) := by decide +kernel
theorem dX2_step_40 : decode cX2_step 40 = .ok (.aload_n 0, 1) := by decide +kernel
theorem dX2_step_41 : decode cX2_step 41 = .ok (.getfield 25, 3) := by decide +kernel
theorem dX2_step_44 : decode cX2_step 44 = .ok (.iaload, 1) := by decide +kernel
theorem dX2_step_45 : decode cX2_step 45 = .ok (.putfield 25, 3) := by decide +kernel
theorem dX2_step_48 : decode cX2_step 48 = .ok (.goto 39, 3) := by decide +kernel
theorem dX2_step_51 : decode cX2_step 51 = .ok (.aload_n 0, 1) := by decide +kernel
theorem dX2_step_52 : decode cX2_step 52 = .ok (.getfield 28, 3) := by decide +kernel
theorem dX2_step_55 : decode cX2_step 55 = .ok (.sipush 3000, 3) := by decide +kernel
theorem dX2_step_58 : decode cX2_step 58 = .ok (.if_icmp .lt 11, 3) := by decide +kernel
theorem dX2_step_61 : decode cX2_step 61 = .ok (.aload_n 0, 1) := by decide +kernel
theorem dX2_step_62 : decode cX2_step 62 = .ok (.iconst 2, 1) := by decide +kernel
theorem dX2_step_63 : decode cX2_step 63 = .ok (.putfield 31, 3) := by decide +kernel
theorem dX2_step_66 : decode cX2_step 66 = .ok (.goto 21, 3) := by decide +kernel
theorem dX2_step_69 : decode cX2_step 69 = .ok (.aload_n 0, 1) := by decide +kernel
theorem dX2_step_70 : decode cX2_step 70 = .ok (.dup, 1) := by decide +kernel
theorem dX2_step_71 : decode cX2_step 71 = .ok (.getfield 28, 3) := by decide +kernel
theorem dX2_step_74 : decode cX2_step 74 = .ok (.iconst 1, 1) := by decide +kernel
theorem dX2_step_75 : decode cX2_step 75 = .ok (.iadd, 1) := by decide +kernel
theorem dX2_step_76 : decode cX2_step 76 = .ok (.putfield 28, 3) := by decide +kernel
theorem dX2_step_79 : decode cX2_step 79 = .ok (.aload_n 0, 1) := by decide +kernel
theorem dX2_step_80 : decode cX2_step 80 = .ok (.aload_n 0, 1) := by decide +kernel
theorem dX2_step_81 : decode cX2_step 81 = .ok (.getfield 25, 3) := by decide +kernel
theorem dX2_step_84 : decode cX2_step 84 = .ok (.invokevirtual 84, 3) := by decide +kernel
theorem dX2_step_87 : decode cX2_step 87 = .ok (.return_, 1) := by decide +kernel
theorem dX2_store_0 : decode cX2_store 0 = .ok (.iload_n 1, 1) := by decide +kernel
theorem dX2_store_1 : decode cX2_store 1 = .ok (.bipush 6, 2) := by decide +kernel
theorem dX2_store_3 : decode cX2_store 3 = .ok (.if_icmp .lt 16, 3) := by decide +kernel
theorem dX2_store_6 : decode cX2_store 6 = .ok (.aload_n 0, 1) := by decide +kernel
theorem dX2_store_7 : decode cX2_store 7 = .ok (.getfield 9, 3) := by decide +kernel
theorem dX2_store_10 : decode cX2_store 10 = .ok (.iload_n 1, 1) := by decide +kernel
theorem dX2_store_11 : decode cX2_store 11 = .ok (.bipush 6, 2) := by decide +kernel
theorem dX2_store_13 : decode cX2_store 13 = .ok (.isub, 1) := by decide +kernel
theorem dX2_store_14 : decode cX2_store 14 = .ok (.iload_n 2, 1) := by decide +kernel
theorem dX2_store_15 : decode cX2_store 15 = .ok (.iastore, 1) := by decide +kernel
theorem dX2_store_16 : decode cX2_store 16 = .ok (.goto 22, 3) := by decide +kernel
theorem dX2_store_19 : decode cX2_store 19 = .ok (.iload_n 1, 1) := by decide +kernel
theorem dX2_store_20 : decode cX2_store 20 = .ok (.ifCond .lt 18, 3) := by decide +kernel
theorem dX2_store_23 : decode cX2_store 23 = .ok (.aload_n 0, 1) := by decide +kernel
theorem dX2_store_24 : decode cX2_store 24 = .ok (.getfield 15, 3) := by decide +kernel
theorem dX2_store_27 : decode cX2_store 27 = .ok (.aload_n 0, 1) := by decide +kernel
theorem dX2_store_28 : decode cX2_store 28 = .ok (.getfield 21, 3) := by decide +kernel
theorem dX2_store_31 : decode cX2_store 31 = .ok (.bipush 6, 2) := by decide +kernel
theorem dX2_store_33 : decode cX2_store 33 = .ok (.imul, 1) := by decide +kernel
theorem dX2_store_34 : decode cX2_store 34 = .ok (.iload_n 1, 1) := by decide +kernel
theorem dX2_store_35 : decode cX2_store 35 = .ok (.iadd, 1) := by decide +kernel
theorem dX2_store_36 : decode cX2_store 36 = .ok (.iload_n 2, 1) := by decide +kernel
theorem dX2_store_37 : decode cX2_store 37 = .ok (.iastore, 1) := by decide +kernel
theorem dX2_store_38 : decode cX2_store 38 = .ok (.return_, 1) := by decide +kernel
theorem dX2_tell_0 : decode cX2_tell 0 = .ok (.aload_n 0, 1) := by decide +kernel
theorem dX2_tell_1 : decode cX2_tell 1 = .ok (.getfield 31, 3) := by decide +kernel
theorem dX2_tell_4 : decode cX2_tell 4 = .ok (.iconst (-1), 1) := by decide +kernel
theorem dX2_tell_5 : decode cX2_tell 5 = .ok (.if_icmp .ne 5, 3) := by decide +kernel
theorem dX2_tell_8 : decode cX2_tell 8 = .ok (.iconst (-1), 1) := by decide +kernel
theorem dX2_tell_9 : decode cX2_tell 9 = .ok (.ireturn, 1) := by decide +kernel
theorem dX2_tell_10 : decode cX2_tell 10 = .ok (.iload_n 1, 1) := by decide +kernel
theorem dX2_tell_11 : decode cX2_tell 11 = .ok (.tableswitch 65 0 6 #[41, 46, 51, 56, 56, 56, 56], 41) := by decide +kernel
theorem dX2_tell_52 : decode cX2_tell 52 = .ok (.aload_n 0, 1) := by decide +kernel
theorem dX2_tell_53 : decode cX2_tell 53 = .ok (.getfield 31, 3) := by decide +kernel
theorem dX2_tell_56 : decode cX2_tell 56 = .ok (.ireturn, 1) := by decide +kernel
theorem dX2_tell_57 : decode cX2_tell 57 = .ok (.aload_n 0, 1) := by decide +kernel
theorem dX2_tell_58 : decode cX2_tell 58 = .ok (.getfield 34, 3) := by decide +kernel
theorem dX2_tell_61 : decode cX2_tell 61 = .ok (.ireturn, 1) := by decide +kernel
theorem dX2_tell_62 : decode cX2_tell 62 = .ok (.aload_n 0, 1) := by decide +kernel
theorem dX2_tell_63 : decode cX2_tell 63 = .ok (.getfield 28, 3) := by decide +kernel
theorem dX2_tell_66 : decode cX2_tell 66 = .ok (.ireturn, 1) := by decide +kernel
theorem dX2_tell_67 : decode cX2_tell 67 = .ok (.aload_n 0, 1) := by decide +kernel
theorem dX2_tell_68 : decode cX2_tell 68 = .ok (.getfield 9, 3) := by decide +kernel
theorem dX2_tell_71 : decode cX2_tell 71 = .ok (.iload_n 1, 1) := by decide +kernel
theorem dX2_tell_72 : decode cX2_tell 72 = .ok (.iconst 3, 1) := by decide +kernel
theorem dX2_tell_73 : decode cX2_tell 73 = .ok (.isub, 1) := by decide +kernel
theorem dX2_tell_74 : decode cX2_tell 74 = .ok (.iaload, 1) := by decide +kernel
theorem dX2_tell_75 : decode cX2_tell 75 = .ok (.ireturn, 1) := by decide +kernel
theorem dX2_tell_76 : decode cX2_tell 76 = .ok (.iconst (-1), 1) := by decide +kernel
theorem dX2_tell_77 : decode cX2_tell 77 = .ok (.ireturn, 1) := by decide +kernel
set_option maxHeartbeats 4000000 in
set_option maxRecDepth 100000 in
theorem s_X2_forget (l : Launch) (d : Nat) {P : PP} {h : HP} (hv : Iv P h)  : Mt l yX2_forget cX2_forget 1 none (d + 1) [.ref 64] h 0 0 (fun r h' => r = none ∧ Iv P h') := by
  refine Mt_iv hv (by decide) (Nat.le_of_ble_eq_true rfl) ?_
  show Go l RX2 cX2_forget 1 (g_rm (d + 1) 0 0) "forget" none 117 0 0 (fun _ _ => True) (fun r h' => r = none ∧ Iv P h') 0 0 [(0, .ref 64)] [] h
  refine go_aload_n (pc := 0) rfl dX2_forget_0 ?_
  refine go_iconst (pc := 1) (v := (-1)) (by decide) dX2_forget_1 ?_
  refine gi_put (pc := 2) (lo := -1) (hi := 3) hv (ti_c (v := (-1)) (a := (-1)) (by decide)) (fP_X2_31 _) rfl (Nat.le_of_ble_eq_true rfl) rfl rfl (by omega) (by omega) rfl rfl (by decide) (by decide) (by decide) (by decide) dX2_forget_2 (fun h1 hv1 hv1e => ?_)
  refine go_aload_n (pc := 5) rfl dX2_forget_5 ?_
  refine go_iconst (pc := 6) (v := 0) (by decide) dX2_forget_6 ?_
  refine gi_put (pc := 7) (lo := 0) (hi := 500) hv1 (ti_c (v := 0) (a := 0) (by decide)) (fP_X2_43 _) rfl (Nat.le_of_ble_eq_true rfl) rfl rfl (by omega) (by omega) rfl rfl (by decide) (by decide) (by decide) (by decide) dX2_forget_7 (fun h2 hv2 hv2e => ?_)
  exact gi_vret (pc := 10) ⟨rfl, hv2⟩ hv2 dX2_forget_10
set_option maxHeartbeats 4000000 in
set_option maxRecDepth 100000 in
theorem s_X2_enter (l : Launch) (d : Nat) {P : PP} {h : HP} (hv : Iv P h) (a2 : Int32) (a2l : 0 ≤ a2.toInt) (a2u : a2.toInt ≤ 4) (a3 : Int32) (a4 : Int32) : Mt l yX2_enter cX2_enter 6 none (d + 1) [.ref 64, .int a2, .int a3, .int a4] h 0 0 (fun r h' => r = none ∧ Iv P h') := by
  refine Mt_iv hv (by decide) (Nat.le_of_ble_eq_true rfl) ?_
  show Go l RX2 cX2_enter 6 (g_rm (d + 1) 0 0) "enter" none 117 0 0 (fun _ _ => True) (fun r h' => r = none ∧ Iv P h') 0 0 [(0, .ref 64), (1, .int a2), (2, .int a3), (3, .int a4)] [] h
  have key : ∀ n : Nat, (∀ (l1 : Int32) (l2 : Int32) (l3 : Int32) (l4 : Int32) (l5 : Int32) (hx : HP), Iv P hx → 0 ≤ l1.toInt → l1.toInt ≤ 4 → 0 ≤ l4.toInt → l4.toInt ≤ 180 → 0 ≤ l5.toInt → l5.toInt ≤ 6 → (3 * (6 - l5.toInt) + 2 : Int) < n → Go l RX2 cX2_enter 6 (g_rm (d + 1) 0 0) "enter" none 117 0 0 (fun _ _ => True) (fun r h' => r = none ∧ Iv P h') 0 12 [(0, .ref 64), (1, .int l1), (2, .int l2), (3, .int l3), (4, .int l4), (5, .int l5)] [] hx) := by
    intro n
    induction n with
    | zero => exact (by intros; omega)
    | succ n ih =>
      refine ?_
      ·
        intro l1 l2 l3 l4 l5 hx hvx l1l l1u l4l l4u l5l l5u hm
        refine go_iload (pc := 12) rfl dX2_enter_12 ?_
        refine go_bipush (pc := 14) (v := 6) (by decide) dX2_enter_14 ?_
        refine gf_icmp_ge (pc := 16) (tgt := 36) (ti_rfl l5) (ti_c (v := 6) (a := 6) (by decide)) (by decide) dX2_enter_16 (fun q1 => ?_) (fun q1 => ?_)
        ·
          refine go_aload_n (pc := 36) rfl dX2_enter_36 ?_
          refine gi_getF (pc := 37) (q := 66) hvx fL_X2_15 rfl (Nat.le_of_ble_eq_true rfl) rfl (hvx.rf (by decide)) dX2_enter_37 ?_
          refine go_iload (pc := 40) rfl dX2_enter_40 ?_
          refine go_iload_n (pc := 42) rfl dX2_enter_42 ?_
          refine gi_iast (pc := 43) (lo := -2147483648) (hi := 2147483647) (len := 186) hvx (ti_rfl l4) (ti_rfl l2) rfl (by omega) (by omega) (fun _ => rfl) (ti_ge (ti_rfl l2)) (ti_le2 (ti_rfl l2)) (by decide) dX2_enter_43 (fun h2 hv2 hv2e => ?_)
          refine go_aload_n (pc := 44) rfl dX2_enter_44 ?_
          refine gi_getF (pc := 45) (q := 66) hv2 fL_X2_15 rfl (Nat.le_of_ble_eq_true rfl) rfl (hv2.rf (by decide)) dX2_enter_45 ?_
          refine go_iload (pc := 48) rfl dX2_enter_48 ?_
          refine go_iconst (pc := 50) (v := 1) (by decide) dX2_enter_50 ?_
          refine gf_iadd (pc := 51) (ti_rfl l4) (ti_c (v := 1) (a := 1) (by decide)) (by omega) (by omega) dX2_enter_51 (fun v3 e4 => ?_)
          refine go_iload_n (pc := 52) rfl dX2_enter_52 ?_
          refine gi_iast (pc := 53) (lo := -2147483648) (hi := 2147483647) (len := 186) hv2 e4 (ti_rfl l3) rfl (by omega) (by omega) (fun _ => rfl) (ti_ge (ti_rfl l3)) (ti_le2 (ti_rfl l3)) (by decide) dX2_enter_53 (fun h5 hv5 hv5e => ?_)
          refine go_aload_n (pc := 54) rfl dX2_enter_54 ?_
          refine go_aload_n (pc := 55) rfl dX2_enter_55 ?_
          refine gi_getC (pc := 56) hv5 fL_X2_50 rfl (Nat.le_of_ble_eq_true rfl) rfl (by decide) dX2_enter_56 (fun c6 hc6 fc6 => ?_)
          refine gi_getF (pc := 59) (q := c6 + 1) hv5 fL_X2_68 (by rcases hc6 with rfl | rfl <;> rfl) (Nat.le_of_ble_eq_true rfl) rfl (by rcases hc6 with rfl | rfl <;> exact hv5.rf (by decide)) dX2_enter_59 ?_
          refine go_iload_n (pc := 62) rfl dX2_enter_62 ?_
          refine gi_iald (pc := 63) (lo := 0) (hi := 44) (len := 5) hv5 (ti_rfl l1) (by rcases hc6 with rfl | rfl <;> rfl) (by omega) (by omega) (fun _ => by rcases hc6 with rfl | rfl <;> rfl) dX2_enter_63 (fun v7 v7l v7u v7w => ?_)
          refine gi_put (pc := 64) (lo := 0) (hi := 44) hv5 (ti_rfl v7) (fP_X2_25 _) rfl (Nat.le_of_ble_eq_true rfl) rfl rfl (by omega) (by omega) rfl rfl (by decide) (by decide) (by decide) (by decide) dX2_enter_64 (fun h8 hv8 hv8e => ?_)
          exact gi_vret (pc := 67) ⟨rfl, hv8⟩ hv8 dX2_enter_67
        ·
          refine go_aload_n (pc := 19) rfl dX2_enter_19 ?_
          refine gi_getF (pc := 20) (q := 66) hvx fL_X2_15 rfl (Nat.le_of_ble_eq_true rfl) rfl (hvx.rf (by decide)) dX2_enter_20 ?_
          refine go_iload (pc := 23) rfl dX2_enter_23 ?_
          refine go_iload (pc := 25) rfl dX2_enter_25 ?_
          refine gf_iadd (pc := 27) (ti_rfl l4) (ti_rfl l5) (by omega) (by omega) dX2_enter_27 (fun v9 e10 => ?_)
          refine go_iconst (pc := 28) (v := 0) (by decide) dX2_enter_28 ?_
          refine gi_iast (pc := 29) (lo := -2147483648) (hi := 2147483647) (len := 186) hvx e10 (ti_c (v := 0) (a := 0) (by decide)) rfl (by omega) (by omega) (fun _ => rfl) (ti_ge (ti_c (v := 0) (a := 0) (by decide))) (ti_le2 (ti_c (v := 0) (a := 0) (by decide))) (by decide) dX2_enter_29 (fun h11 hv11 hv11e => ?_)
          refine gf_iinc (pc := 30) (Nat.le_of_ble_eq_true rfl) rfl (ti_rfl l5) (ti_c (by decide)) (by omega) (by omega) dX2_enter_30 (fun v12 e13 => ?_)
          refine go_lv (lv2 := [(0, .ref 64), (1, .int l1), (2, .int l2), (3, .int l3), (4, .int l4), (5, .int v12)]) rfl ?_
          refine go_goto (pc := 33) (tgt := 12) (by decide) dX2_enter_33 ?_
          have z14 : (v12 : Int32).toInt = (l5.toInt + 1) := e13
          exact go_lv rfl (ih l1 l2 l3 l4 v12 h11 hv11 (by omega) (by omega) (by omega) (by omega) (by omega) (by omega) (by omega))
  refine go_aload_n (pc := 0) rfl dX2_enter_0 ?_
  refine gi_get (pc := 1) (lo := 0) (hi := 30) hv fL_X2_21 rfl (Nat.le_of_ble_eq_true rfl) rfl rfl dX2_enter_1 (fun v15 v15l v15u v15w => ?_)
  refine go_bipush (pc := 4) (v := 6) (by decide) dX2_enter_4 ?_
  refine gf_imul (pc := 6) (ti_rfl v15) (ti_c (v := 6) (a := 6) (by decide)) (by omega) (by omega) dX2_enter_6 (fun v16 e17 => ?_)
  refine go_istore (pc := 7) (Nat.le_of_ble_eq_true rfl) dX2_enter_7 (go_lv (lv2 := [(0, .ref 64), (1, .int a2), (2, .int a3), (3, .int a4), (4, .int v16)]) rfl ?_)
  refine go_iconst (pc := 9) (v := 0) (by decide) dX2_enter_9 ?_
  refine go_istore (pc := 10) (Nat.le_of_ble_eq_true rfl) dX2_enter_10 (go_lv (lv2 := [(0, .ref 64), (1, .int a2), (2, .int a3), (3, .int a4), (4, .int v16), (5, .int 0)]) rfl ?_)
  have z18 : (v16 : Int32).toInt = (v15.toInt * 6) := e17
  have z19 : (0 : Int32).toInt = 0 := (ti_c (v := 0) (a := 0) (by decide))
  exact go_lv rfl ((key 37) a2 a3 a4 v16 0 h hv (by omega) (by omega) (by omega) (by omega) (by omega) (by omega) (by omega))
set_option maxHeartbeats 4000000 in
set_option maxRecDepth 100000 in
theorem s_X2_load (l : Launch) (d : Nat) {P : PP} {h : HP} (hv : Iv P h) (a2 : Int32) : Mt l yX2_load cX2_load 2 (some .int) (d + 1) [.ref 64, .int a2] h 0 0 (fun r h' => ∃ v : Int32, r = some (.int v) ∧ -2147483648 ≤ v.toInt ∧ v.toInt ≤ 2147483647 ∧ h = h') := by
  refine Mt_iv hv (by decide) (Nat.le_of_ble_eq_true rfl) ?_
  show Go l RX2 cX2_load 2 (g_rm (d + 1) 0 0) "load" (some .int) 117 0 0 (fun _ _ => True) (fun r h' => ∃ v : Int32, r = some (.int v) ∧ -2147483648 ≤ v.toInt ∧ v.toInt ≤ 2147483647 ∧ h = h') 0 0 [(0, .ref 64), (1, .int a2)] [] h
  refine go_iload_n (pc := 0) rfl dX2_load_0 ?_
  refine gf_if_ge (pc := 1) (tgt := 6) (ti_rfl a2) (by decide) dX2_load_1 (fun q1 => ?_) (fun q1 => ?_)
  ·
    refine go_iload_n (pc := 6) rfl dX2_load_6 ?_
    refine go_bipush (pc := 7) (v := 10) (by decide) dX2_load_7 ?_
    refine gf_icmp_lt (pc := 9) (tgt := 17) (ti_rfl a2) (ti_c (v := 10) (a := 10) (by decide)) (by decide) dX2_load_9 (fun q2 => ?_) (fun q2 => ?_)
    ·
      refine go_iload_n (pc := 17) rfl dX2_load_17 ?_
      refine go_bipush (pc := 18) (v := 6) (by decide) dX2_load_18 ?_
      refine gf_icmp_lt (pc := 20) (tgt := 33) (ti_rfl a2) (ti_c (v := 6) (a := 6) (by decide)) (by decide) dX2_load_20 (fun q3 => ?_) (fun q3 => ?_)
      ·
        refine go_aload_n (pc := 33) rfl dX2_load_33 ?_
        refine gi_getF (pc := 34) (q := 66) hv fL_X2_15 rfl (Nat.le_of_ble_eq_true rfl) rfl (hv.rf (by decide)) dX2_load_34 ?_
        refine go_aload_n (pc := 37) rfl dX2_load_37 ?_
        refine gi_get (pc := 38) (lo := 0) (hi := 30) hv fL_X2_21 rfl (Nat.le_of_ble_eq_true rfl) rfl rfl dX2_load_38 (fun v4 v4l v4u v4w => ?_)
        refine go_bipush (pc := 41) (v := 6) (by decide) dX2_load_41 ?_
        refine gf_imul (pc := 43) (ti_rfl v4) (ti_c (v := 6) (a := 6) (by decide)) (by omega) (by omega) dX2_load_43 (fun v5 e6 => ?_)
        refine go_iload_n (pc := 44) rfl dX2_load_44 ?_
        refine gf_iadd (pc := 45) e6 (ti_rfl a2) (by omega) (by omega) dX2_load_45 (fun v7 e8 => ?_)
        refine gi_iald (pc := 46) (lo := -2147483648) (hi := 2147483647) (len := 186) hv e8 rfl (by omega) (by omega) (fun _ => rfl) dX2_load_46 (fun v9 v9l v9u v9w => ?_)
        exact gi_iret (pc := 47) (ti_rfl v9) ⟨_, rfl, (ti_lo _), (ti_hi _), rfl⟩ hv dX2_load_47
      ·
        refine go_aload_n (pc := 23) rfl dX2_load_23 ?_
        refine gi_getF (pc := 24) (q := 65) hv fL_X2_9 rfl (Nat.le_of_ble_eq_true rfl) rfl (hv.rf (by decide)) dX2_load_24 ?_
        refine go_iload_n (pc := 27) rfl dX2_load_27 ?_
        refine go_bipush (pc := 28) (v := 6) (by decide) dX2_load_28 ?_
        refine gf_isub (pc := 30) (ti_rfl a2) (ti_c (v := 6) (a := 6) (by decide)) (by omega) (by omega) dX2_load_30 (fun v10 e11 => ?_)
        refine gi_iald (pc := 31) (lo := -2147483648) (hi := 2147483647) (len := 4) hv e11 rfl (by omega) (by omega) (fun _ => rfl) dX2_load_31 (fun v12 v12l v12u v12w => ?_)
        exact gi_iret (pc := 32) (ti_rfl v12) ⟨_, rfl, (ti_lo _), (ti_hi _), rfl⟩ hv dX2_load_32
    ·
      refine go_iload_n (pc := 12) rfl dX2_load_12 ?_
      refine go_bipush (pc := 13) (v := 10) (by decide) dX2_load_13 ?_
      have b14 := ti_le2 (ti_rfl a2)
      refine gf_isub (pc := 15) (ti_rfl a2) (ti_c (v := 10) (a := 10) (by decide)) (by omega) (by omega) dX2_load_15 (fun v13 e15 => ?_)
      exact gi_iret (pc := 16) e15 ⟨_, rfl, (ti_lo _), (ti_hi _), rfl⟩ hv dX2_load_16
  ·
    refine go_iconst (pc := 4) (v := 0) (by decide) dX2_load_4 ?_
    exact gi_iret (pc := 5) (ti_c (v := 0) (a := 0) (by decide)) ⟨_, rfl, (ti_lo _), (ti_hi _), rfl⟩ hv dX2_load_5
set_option maxHeartbeats 4000000 in
set_option maxRecDepth 100000 in
theorem s_X2_store (l : Launch) (d : Nat) {P : PP} {h : HP} (hv : Iv P h) (a2 : Int32) (a2l : -1 ≤ a2.toInt) (a2u : a2.toInt ≤ 9) (a3 : Int32) : Mt l yX2_store cX2_store 3 none (d + 1) [.ref 64, .int a2, .int a3] h 0 0 (fun r h' => r = none ∧ Iv P h') := by
  refine Mt_iv hv (by decide) (Nat.le_of_ble_eq_true rfl) ?_
  show Go l RX2 cX2_store 3 (g_rm (d + 1) 0 0) "store" none 117 0 0 (fun _ _ => True) (fun r h' => r = none ∧ Iv P h') 0 0 [(0, .ref 64), (1, .int a2), (2, .int a3)] [] h
  have key : ∀ n : Nat, (∀  (hx : HP), Iv P hx → (1 : Int) < n → Go l RX2 cX2_store 3 (g_rm (d + 1) 0 0) "store" none 117 0 0 (fun _ _ => True) (fun r h' => r = none ∧ Iv P h') 0 38 [] [] hx) := by
    intro n
    induction n with
    | zero => exact (by intros; omega)
    | succ n ih =>
      refine ?_
      ·
        intro hx hvx hm
        exact gi_vret (pc := 38) ⟨rfl, hvx⟩ hvx dX2_store_38
  refine go_iload_n (pc := 0) rfl dX2_store_0 ?_
  refine go_bipush (pc := 1) (v := 6) (by decide) dX2_store_1 ?_
  refine gf_icmp_lt (pc := 3) (tgt := 19) (ti_rfl a2) (ti_c (v := 6) (a := 6) (by decide)) (by decide) dX2_store_3 (fun q1 => ?_) (fun q1 => ?_)
  ·
    refine go_iload_n (pc := 19) rfl dX2_store_19 ?_
    refine gf_if_lt (pc := 20) (tgt := 38) (ti_rfl a2) (by decide) dX2_store_20 (fun q2 => ?_) (fun q2 => ?_)
    ·
      exact go_lv rfl ((key 14)  h hv  (by omega))
    ·
      refine go_aload_n (pc := 23) rfl dX2_store_23 ?_
      refine gi_getF (pc := 24) (q := 66) hv fL_X2_15 rfl (Nat.le_of_ble_eq_true rfl) rfl (hv.rf (by decide)) dX2_store_24 ?_
      refine go_aload_n (pc := 27) rfl dX2_store_27 ?_
      refine gi_get (pc := 28) (lo := 0) (hi := 30) hv fL_X2_21 rfl (Nat.le_of_ble_eq_true rfl) rfl rfl dX2_store_28 (fun v3 v3l v3u v3w => ?_)
      refine go_bipush (pc := 31) (v := 6) (by decide) dX2_store_31 ?_
      refine gf_imul (pc := 33) (ti_rfl v3) (ti_c (v := 6) (a := 6) (by decide)) (by omega) (by omega) dX2_store_33 (fun v4 e5 => ?_)
      refine go_iload_n (pc := 34) rfl dX2_store_34 ?_
      refine gf_iadd (pc := 35) e5 (ti_rfl a2) (by omega) (by omega) dX2_store_35 (fun v6 e7 => ?_)
      refine go_iload_n (pc := 36) rfl dX2_store_36 ?_
      refine gi_iast (pc := 37) (lo := -2147483648) (hi := 2147483647) (len := 186) hv e7 (ti_rfl a3) rfl (by omega) (by omega) (fun _ => rfl) (ti_ge (ti_rfl a3)) (ti_le2 (ti_rfl a3)) (by decide) dX2_store_37 (fun h8 hv8 hv8e => ?_)
      exact go_lv rfl ((key 14)  h8 hv8  (by omega))
  ·
    refine go_aload_n (pc := 6) rfl dX2_store_6 ?_
    refine gi_getF (pc := 7) (q := 65) hv fL_X2_9 rfl (Nat.le_of_ble_eq_true rfl) rfl (hv.rf (by decide)) dX2_store_7 ?_
    refine go_iload_n (pc := 10) rfl dX2_store_10 ?_
    refine go_bipush (pc := 11) (v := 6) (by decide) dX2_store_11 ?_
    refine gf_isub (pc := 13) (ti_rfl a2) (ti_c (v := 6) (a := 6) (by decide)) (by omega) (by omega) dX2_store_13 (fun v9 e10 => ?_)
    refine go_iload_n (pc := 14) rfl dX2_store_14 ?_
    refine gi_iast (pc := 15) (lo := -2147483648) (hi := 2147483647) (len := 4) hv e10 (ti_rfl a3) rfl (by omega) (by omega) (fun _ => rfl) (ti_ge (ti_rfl a3)) (ti_le2 (ti_rfl a3)) (by decide) dX2_store_15 (fun h11 hv11 hv11e => ?_)
    refine go_goto (pc := 16) (tgt := 38) (by decide) dX2_store_16 ?_
    exact go_lv rfl ((key 14)  h11 hv11  (by omega))
set_option maxHeartbeats 4000000 in
set_option maxRecDepth 100000 in
theorem s_X2_see (l : Launch) (d : Nat) {P : PP} {h : HP} (hv : Iv P h) (a2 : Int32) (a3 : Int32) : Mt l yX2_see cX2_see 3 none (d + 1) [.ref 64, .int a2, .int a3] h 0 0 (fun r h' => r = none ∧ Iv P h') := by
  refine Mt_iv hv (by decide) (Nat.le_of_ble_eq_true rfl) ?_
  show Go l RX2 cX2_see 3 (g_rm (d + 1) 0 0) "see" none 117 0 0 (fun _ _ => True) (fun r h' => r = none ∧ Iv P h') 0 0 [(0, .ref 64), (1, .int a2), (2, .int a3)] [] h
  have key : ∀ n : Nat, (∀  (hx : HP), Iv P hx → (1 : Int) < n → Go l RX2 cX2_see 3 (g_rm (d + 1) 0 0) "see" none 117 0 0 (fun _ _ => True) (fun r h' => r = none ∧ Iv P h') 0 40 [] [] hx) := by
    intro n
    induction n with
    | zero => exact (by intros; omega)
    | succ n ih =>
      refine ?_
      ·
        intro hx hvx hm
        exact gi_vret (pc := 40) ⟨rfl, hvx⟩ hvx dX2_see_40
  refine go_aload_n (pc := 0) rfl dX2_see_0 ?_
  refine gi_get (pc := 1) (lo := 0) (hi := 500) hv fL_X2_43 rfl (Nat.le_of_ble_eq_true rfl) rfl rfl dX2_see_1 (fun v1 v1l v1u v1w => ?_)
  refine go_sipush (pc := 4) (v := 500) (by decide) dX2_see_4 ?_
  refine gf_icmp_ge (pc := 7) (tgt := 40) (ti_rfl v1) (ti_c (v := 500) (a := 500) (by decide)) (by decide) dX2_see_7 (fun q2 => ?_) (fun q2 => ?_)
  ·
    exact go_lv rfl ((key 14)  h hv  (by omega))
  ·
    refine go_aload_n (pc := 10) rfl dX2_see_10 ?_
    refine gi_getF (pc := 11) (q := 68) hv fL_X2_37 rfl (Nat.le_of_ble_eq_true rfl) rfl (hv.rf (by decide)) dX2_see_11 ?_
    refine go_aload_n (pc := 14) rfl dX2_see_14 ?_
    refine gi_get (pc := 15) (lo := 0) (hi := 500) hv fL_X2_43 rfl (Nat.le_of_ble_eq_true rfl) rfl rfl dX2_see_15 (fun v3 v3l v3u v3w => ?_)
    have v3r : v1 = h.2.1 64 10 := v1w
    have v3q : TI v3 v1.toInt := by rw [v3w.trans v3r.symm]; exact (ti_rfl v1)
    refine go_iload_n (pc := 18) rfl dX2_see_18 ?_
    refine gi_iast (pc := 19) (lo := -2147483648) (hi := 2147483647) (len := 500) hv v3q (ti_rfl a2) rfl (by omega) (by omega) (fun _ => rfl) (ti_ge (ti_rfl a2)) (ti_le2 (ti_rfl a2)) (by decide) dX2_see_19 (fun h4 hv4 hv4e => ?_)
    refine go_aload_n (pc := 20) rfl dX2_see_20 ?_
    refine gi_getF (pc := 21) (q := 69) hv4 fL_X2_40 rfl (Nat.le_of_ble_eq_true rfl) rfl (hv4.rf (by decide)) dX2_see_21 ?_
    refine go_aload_n (pc := 24) rfl dX2_see_24 ?_
    refine gi_get (pc := 25) (lo := 0) (hi := 500) hv4 fL_X2_43 rfl (Nat.le_of_ble_eq_true rfl) rfl rfl dX2_see_25 (fun v5 v5l v5u v5w => ?_)
    have v5r : v1 = h4.2.1 64 10 := (show v1 = h4.2.1 64 10 from by rw [hv4e]; exact (g_iI rfl v1w.symm).symm)
    have v5q : TI v5 v1.toInt := by rw [v5w.trans v5r.symm]; exact (ti_rfl v1)
    refine go_iload_n (pc := 28) rfl dX2_see_28 ?_
    refine gi_iast (pc := 29) (lo := -2147483648) (hi := 2147483647) (len := 500) hv4 v5q (ti_rfl a3) rfl (by omega) (by omega) (fun _ => rfl) (ti_ge (ti_rfl a3)) (ti_le2 (ti_rfl a3)) (by decide) dX2_see_29 (fun h6 hv6 hv6e => ?_)
    refine go_aload_n (pc := 30) rfl dX2_see_30 ?_
    refine go_dup (pc := 31) rfl dX2_see_31 ?_
    refine gi_get (pc := 32) (lo := 0) (hi := 500) hv6 fL_X2_43 rfl (Nat.le_of_ble_eq_true rfl) rfl rfl dX2_see_32 (fun v7 v7l v7u v7w => ?_)
    have v7r : v1 = h6.2.1 64 10 := (show v1 = h6.2.1 64 10 from by rw [hv6e]; exact (g_iI rfl (show v1 = h4.2.1 64 10 from by rw [hv4e]; exact (g_iI rfl v1w.symm).symm).symm).symm)
    have v7q : TI v7 v1.toInt := by rw [v7w.trans v7r.symm]; exact (ti_rfl v1)
    refine go_iconst (pc := 35) (v := 1) (by decide) dX2_see_35 ?_
    refine gf_iadd (pc := 36) v7q (ti_c (v := 1) (a := 1) (by decide)) (by omega) (by omega) dX2_see_36 (fun v8 e9 => ?_)
    refine gi_put (pc := 37) (lo := 0) (hi := 500) hv6 e9 (fP_X2_43 _) rfl (Nat.le_of_ble_eq_true rfl) rfl rfl (by omega) (by omega) rfl rfl (by decide) (by decide) (by decide) (by decide) dX2_see_37 (fun h10 hv10 hv10e => ?_)
    exact go_lv rfl ((key 14)  h10 hv10  (by omega))
set_option maxHeartbeats 4000000 in
set_option maxRecDepth 100000 in
theorem s_X2_compute (l : Launch) (d : Nat) {P : PP} {h : HP} (hv : Iv P h) (a2 : Int32) (a2l : 0 ≤ a2.toInt) (a2u : a2.toInt ≤ 39) : Mt l yX2_compute cX2_compute 4 (some .int) (d + 2) [.ref 64, .int a2] h 0 0 (fun r h' => ∃ v : Int32, r = some (.int v) ∧ -2147483648 ≤ v.toInt ∧ v.toInt ≤ 2147483647 ∧ h = h') := by
  refine Mt_iv hv (by decide) (Nat.le_of_ble_eq_true rfl) ?_
  show Go l RX2 cX2_compute 4 (g_rm (d + 2) 0 0) "compute" (some .int) 117 0 0 (fun _ _ => True) (fun r h' => ∃ v : Int32, r = some (.int v) ∧ -2147483648 ≤ v.toInt ∧ v.toInt ≤ 2147483647 ∧ h = h') 0 0 [(0, .ref 64), (1, .int a2)] [] h
  have key : ∀ n : Nat, (∀ (s0 : Int32), 0 ≤ s0.toInt → s0.toInt ≤ 1 → (1 : Int) < n → Go l RX2 cX2_compute 4 (g_rm (d + 2) 0 0) "compute" (some .int) 117 0 0 (fun _ _ => True) (fun r h' => ∃ v : Int32, r = some (.int v) ∧ -2147483648 ≤ v.toInt ∧ v.toInt ≤ 2147483647 ∧ h = h') 0 102 [] [.int s0] h) := by
    intro n
    induction n with
    | zero => exact (by intros; omega)
    | succ n ih =>
      refine ?_
      ·
        intro s0 s0l s0u hm
        exact gi_iret (pc := 102) (ti_rfl s0) ⟨_, rfl, (ti_lo _), (ti_hi _), rfl⟩ hv dX2_compute_102
  refine go_aload_n (pc := 0) rfl dX2_compute_0 ?_
  refine go_aload_n (pc := 1) rfl dX2_compute_1 ?_
  refine gi_getC (pc := 2) hv fL_X2_50 rfl (Nat.le_of_ble_eq_true rfl) rfl (by decide) dX2_compute_2 (fun c1 hc1 fc1 => ?_)
  refine gi_getF (pc := 5) (q := c1 + 9) hv fL_X2_111 (by rcases hc1 with rfl | rfl <;> rfl) (Nat.le_of_ble_eq_true rfl) rfl (by rcases hc1 with rfl | rfl <;> exact hv.rf (by decide)) dX2_compute_5 ?_
  refine go_iload_n (pc := 8) rfl dX2_compute_8 ?_
  refine gi_iald (pc := 9) (lo := -2147483648) (hi := 2147483647) (len := 40) hv (ti_rfl a2) (by rcases hc1 with rfl | rfl <;> rfl) (by omega) (by omega) (fun _ => by rcases hc1 with rfl | rfl <;> rfl) dX2_compute_9 (fun v2 v2l v2u v2w => ?_)
  refine go_invV (pc := 10) (sl := 0) (s_X2_load l (d + 0) hv v2) mL_X2_114 iM_X2_load sM_X2_load (hv.sh rfl) rfl rfl rfl (Nat.le_of_ble_eq_true rfl) (show d + 0 + 1 + 1 ≤ d + 2 by omega) (show 8 + (2 + 11) + 40 * (d + 0 + 1) ≤ 40 * (d + 2) by omega) (g_c0 hv.ln) (Nat.le_of_ble_eq_true rfl) dX2_compute_10 ?_
  intro r h3 hq _
  obtain ⟨v4, rfl, v4l, v4u, rfl⟩ := hq
  refine go_istore_n (pc := 13) (Nat.le_of_ble_eq_true rfl) dX2_compute_13 (go_lv (lv2 := [(0, .ref 64), (1, .int a2), (2, .int v4)]) rfl ?_)
  refine go_aload_n (pc := 14) rfl dX2_compute_14 ?_
  refine go_aload_n (pc := 15) rfl dX2_compute_15 ?_
  refine gi_getC (pc := 16) hv fL_X2_50 rfl (Nat.le_of_ble_eq_true rfl) rfl (by decide) dX2_compute_16 (fun c5 hc5 fc5 => ?_)
  refine gi_getF (pc := 19) (q := c5 + 10) hv fL_X2_120 (by rcases hc5 with rfl | rfl <;> rfl) (Nat.le_of_ble_eq_true rfl) rfl (by rcases hc5 with rfl | rfl <;> exact hv.rf (by decide)) dX2_compute_19 ?_
  refine go_iload_n (pc := 22) rfl dX2_compute_22 ?_
  refine gi_iald (pc := 23) (lo := -2147483648) (hi := 2147483647) (len := 40) hv (ti_rfl a2) (by rcases hc5 with rfl | rfl <;> rfl) (by omega) (by omega) (fun _ => by rcases hc5 with rfl | rfl <;> rfl) dX2_compute_23 (fun v6 v6l v6u v6w => ?_)
  refine go_invV (pc := 24) (sl := 0) (s_X2_load l (d + 0) hv v6) mL_X2_114 iM_X2_load sM_X2_load (hv.sh rfl) rfl rfl rfl (Nat.le_of_ble_eq_true rfl) (show d + 0 + 1 + 1 ≤ d + 2 by omega) (show 8 + (2 + 11) + 40 * (d + 0 + 1) ≤ 40 * (d + 2) by omega) (g_c0 hv.ln) (Nat.le_of_ble_eq_true rfl) dX2_compute_24 ?_
  intro r h7 hq _
  obtain ⟨v8, rfl, v8l, v8u, rfl⟩ := hq
  refine go_istore_n (pc := 27) (Nat.le_of_ble_eq_true rfl) dX2_compute_27 (go_lv (lv2 := [(0, .ref 64), (1, .int a2), (2, .int v4), (3, .int v8)]) rfl ?_)
  refine go_aload_n (pc := 28) rfl dX2_compute_28 ?_
  refine gi_getC (pc := 29) hv fL_X2_50 rfl (Nat.le_of_ble_eq_true rfl) rfl (by decide) dX2_compute_29 (fun c9 hc9 fc9 => ?_)
  refine gi_getF (pc := 32) (q := c9 + 8) hv fL_X2_126 (by rcases hc9 with rfl | rfl <;> rfl) (Nat.le_of_ble_eq_true rfl) rfl (by rcases hc9 with rfl | rfl <;> exact hv.rf (by decide)) dX2_compute_32 ?_
  refine go_iload_n (pc := 35) rfl dX2_compute_35 ?_
  refine gi_iald (pc := 36) (lo := -2147483648) (hi := 2147483647) (len := 40) hv (ti_rfl a2) (by rcases hc9 with rfl | rfl <;> rfl) (by omega) (by omega) (fun _ => by rcases hc9 with rfl | rfl <;> rfl) dX2_compute_36 (fun v10 v10l v10u v10w => ?_)
  by_cases q11 : v10.toInt = 42
  ·
    refine go_lookup (pc := 37) (tgt := 88) (off := 51) (by decide) (by rw [show (v10 : Int32).toInt = v10.toInt from (ti_rfl v10), q11]; decide) (by decide) dX2_compute_37 ?_
    refine go_iload_n (pc := 88) rfl dX2_compute_88 ?_
    refine go_iload_n (pc := 89) rfl dX2_compute_89 ?_
    refine gu_imul (pc := 90) dX2_compute_90 (fun v12 => ?_)
    exact gi_iret (pc := 91) (ti_rfl v12) ⟨_, rfl, (ti_lo _), (ti_hi _), rfl⟩ hv dX2_compute_91
  by_cases q13 : v10.toInt = 43
  ·
    refine go_lookup (pc := 37) (tgt := 80) (off := 43) (by decide) (by rw [show (v10 : Int32).toInt = v10.toInt from (ti_rfl v10), q13]; decide) (by decide) dX2_compute_37 ?_
    refine go_iload_n (pc := 80) rfl dX2_compute_80 ?_
    refine go_iload_n (pc := 81) rfl dX2_compute_81 ?_
    refine gu_iadd (pc := 82) dX2_compute_82 (fun v14 => ?_)
    exact gi_iret (pc := 83) (ti_rfl v14) ⟨_, rfl, (ti_lo _), (ti_hi _), rfl⟩ hv dX2_compute_83
  by_cases q15 : v10.toInt = 45
  ·
    refine go_lookup (pc := 37) (tgt := 84) (off := 47) (by decide) (by rw [show (v10 : Int32).toInt = v10.toInt from (ti_rfl v10), q15]; decide) (by decide) dX2_compute_37 ?_
    refine go_iload_n (pc := 84) rfl dX2_compute_84 ?_
    refine go_iload_n (pc := 85) rfl dX2_compute_85 ?_
    refine gu_isub (pc := 86) dX2_compute_86 (fun v16 => ?_)
    exact gi_iret (pc := 87) (ti_rfl v16) ⟨_, rfl, (ti_lo _), (ti_hi _), rfl⟩ hv dX2_compute_87
  by_cases q17 : v10.toInt = 60
  ·
    refine go_lookup (pc := 37) (tgt := 92) (off := 55) (by decide) (by rw [show (v10 : Int32).toInt = v10.toInt from (ti_rfl v10), q17]; decide) (by decide) dX2_compute_37 ?_
    refine go_iload_n (pc := 92) rfl dX2_compute_92 ?_
    refine go_iload_n (pc := 93) rfl dX2_compute_93 ?_
    refine gf_icmp_ge (pc := 94) (tgt := 101) (ti_rfl v4) (ti_rfl v8) (by decide) dX2_compute_94 (fun q18 => ?_) (fun q18 => ?_)
    ·
      refine go_iconst (pc := 101) (v := 0) (by decide) dX2_compute_101 ?_
      have z19 : (0 : Int32).toInt = 0 := (ti_c (v := 0) (a := 0) (by decide))
      exact go_lv rfl ((key 14) 0  (by omega) (by omega) (by omega))
    ·
      refine go_iconst (pc := 97) (v := 1) (by decide) dX2_compute_97 ?_
      refine go_goto (pc := 98) (tgt := 102) (by decide) dX2_compute_98 ?_
      have z20 : (1 : Int32).toInt = 1 := (ti_c (v := 1) (a := 1) (by decide))
      exact go_lv rfl ((key 14) 1  (by omega) (by omega) (by omega))
  refine go_lookup (pc := 37) (tgt := 103) (off := 66) (by decide) (by rw [show (v10 : Int32).toInt = v10.toInt from (ti_rfl v10)]; simp [Op.lookupswitch.offset]; (repeat rw [if_neg (by omega)])) (by decide) dX2_compute_37 ?_
  refine go_iload_n (pc := 103) rfl dX2_compute_103 ?_
  exact gi_iret (pc := 104) (ti_rfl v4) ⟨_, rfl, (ti_lo _), (ti_hi _), rfl⟩ hv dX2_compute_104
set_option maxHeartbeats 4000000 in
set_option maxRecDepth 100000 in
theorem s_X2_leave (l : Launch) (d : Nat) {P : PP} {h : HP} (hv : Iv P h) (a2 : Int32) (a3 : Int32) (a3l : 0 ≤ a3.toInt) (a3u : a3.toInt ≤ 1) : Mt l yX2_leave cX2_leave 6 none (d + 2) [.ref 64, .int a2, .int a3] h 0 0 (fun r h' => r = none ∧ Iv P h') := by
  refine Mt_iv hv (by decide) (Nat.le_of_ble_eq_true rfl) ?_
  show Go l RX2 cX2_leave 6 (g_rm (d + 2) 0 0) "leave" none 117 0 0 (fun _ _ => True) (fun r h' => r = none ∧ Iv P h') 0 0 [(0, .ref 64), (1, .int a2), (2, .int a3)] [] h
  have key : ∀ n : Nat, (∀ (l1 : Int32) (l2 : Int32) (l3 : Int32) (l4 : Int32) (hx : HP), Iv P hx → 0 ≤ l2.toInt → l2.toInt ≤ 1 → 0 ≤ l3.toInt → l3.toInt ≤ 1 → 0 ≤ l4.toInt → l4.toInt ≤ 31 → (8 * (31 - l4.toInt) + 10 : Int) < n → Go l RX2 cX2_leave 6 (g_rm (d + 2) 0 0) "leave" none 117 0 0 (fun _ _ => True) (fun r h' => r = none ∧ Iv P h') 0 5 [(0, .ref 64), (1, .int l1), (2, .int l2), (3, .int l3), (4, .int l4)] [] hx) ∧ (∀ (l1 : Int32) (l2 : Int32) (l4 : Int32) (l5 : Int32) (hx : HP), Iv P hx → 0 ≤ l2.toInt → l2.toInt ≤ 1 → 0 ≤ l4.toInt → l4.toInt ≤ 30 → 0 ≤ l5.toInt → l5.toInt ≤ 39 → (8 * (31 - l4.toInt) + 9 : Int) < n → Go l RX2 cX2_leave 6 (g_rm (d + 2) 0 0) "leave" none 117 0 0 (fun _ _ => True) (fun r h' => r = none ∧ Iv P h') 0 68 [(0, .ref 64), (1, .int l1), (2, .int l2), (4, .int l4), (5, .int l5)] [] hx) ∧ (∀ (l1 : Int32) (l2 : Int32) (l4 : Int32) (l5 : Int32) (s0 : Int32) (hx : HP), Iv P hx → 0 ≤ l2.toInt → l2.toInt ≤ 1 → 0 ≤ l4.toInt → l4.toInt ≤ 30 → 0 ≤ l5.toInt → l5.toInt ≤ 39 → 0 ≤ s0.toInt → s0.toInt ≤ 1 → (8 * (31 - l4.toInt) + 8 : Int) < n → Go l RX2 cX2_leave 6 (g_rm (d + 2) 0 0) "leave" none 117 0 0 (fun _ _ => True) (fun r h' => r = none ∧ Iv P h') 0 73 [(0, .ref 64), (1, .int l1), (2, .int l2), (4, .int l4), (5, .int l5)] [.int s0] hx) ∧ (∀ (l1 : Int32) (l2 : Int32) (l3 : Int32) (l4 : Int32) (l5 : Int32) (s0 : Int32) (hx : HP), Iv P hx → 0 ≤ l2.toInt → l2.toInt ≤ 1 → 1 ≤ l3.toInt → l3.toInt ≤ 1 → 0 ≤ l4.toInt → l4.toInt ≤ 30 → 0 ≤ l5.toInt → l5.toInt ≤ 39 → -1 ≤ s0.toInt → s0.toInt ≤ 9 → (8 * (31 - l4.toInt) + 7 : Int) < n → Go l RX2 cX2_leave 6 (g_rm (d + 2) 0 0) "leave" none 117 0 0 (fun _ _ => True) (fun r h' => r = none ∧ Iv P h') 0 106 [(0, .ref 64), (1, .int l1), (2, .int l2), (3, .int l3), (4, .int l4), (5, .int l5)] [.int s0, .ref 64] hx) ∧ (∀ (l1 : Int32) (l2 : Int32) (l3 : Int32) (l4 : Int32) (s0 : Int32) (hx : HP), Iv P hx → 0 ≤ l2.toInt → l2.toInt ≤ 1 → 1 ≤ l3.toInt → l3.toInt ≤ 1 → 0 ≤ l4.toInt → l4.toInt ≤ 30 → 0 ≤ s0.toInt → s0.toInt ≤ 44 → (8 * (31 - l4.toInt) + 6 : Int) < n → Go l RX2 cX2_leave 6 (g_rm (d + 2) 0 0) "leave" none 117 0 0 (fun _ _ => True) (fun r h' => r = none ∧ Iv P h') 0 138 [(0, .ref 64), (1, .int l1), (2, .int l2), (3, .int l3), (4, .int l4)] [.int s0, .ref 64] hx) ∧ (∀ (l1 : Int32) (l2 : Int32) (l3 : Int32) (l4 : Int32) (hx : HP), Iv P hx → 0 ≤ l2.toInt → l2.toInt ≤ 1 → 0 ≤ l3.toInt → l3.toInt ≤ 1 → 0 ≤ l4.toInt → l4.toInt ≤ 30 → (8 * (31 - l4.toInt) + 5 : Int) < n → Go l RX2 cX2_leave 6 (g_rm (d + 2) 0 0) "leave" none 117 0 0 (fun _ _ => True) (fun r h' => r = none ∧ Iv P h') 0 141 [(0, .ref 64), (1, .int l1), (2, .int l2), (3, .int l3), (4, .int l4)] [] hx) ∧ (∀ (l1 : Int32) (l2 : Int32) (l3 : Int32) (hx : HP), Iv P hx → 0 ≤ l2.toInt → l2.toInt ≤ 1 → 0 ≤ l3.toInt → l3.toInt ≤ 1 → (3 : Int) < n → Go l RX2 cX2_leave 6 (g_rm (d + 2) 0 0) "leave" none 117 0 0 (fun _ _ => True) (fun r h' => r = none ∧ Iv P h') 0 147 [(0, .ref 64), (1, .int l1), (2, .int l2), (3, .int l3)] [] hx) ∧ (∀ (l1 : Int32) (s0 : Int32) (hx : HP), Iv P hx → 0 ≤ s0.toInt → s0.toInt ≤ 1 → (2 : Int) < n → Go l RX2 cX2_leave 6 (g_rm (d + 2) 0 0) "leave" none 117 0 0 (fun _ _ => True) (fun r h' => r = none ∧ Iv P h') 0 161 [(0, .ref 64), (1, .int l1)] [.int s0, .ref 64] hx) ∧ (∀  (hx : HP), Iv P hx → (1 : Int) < n → Go l RX2 cX2_leave 6 (g_rm (d + 2) 0 0) "leave" none 117 0 0 (fun _ _ => True) (fun r h' => r = none ∧ Iv P h') 0 169 [] [] hx) := by
    intro n
    induction n with
    | zero => exact ⟨(by intros; omega), (by intros; omega), (by intros; omega), (by intros; omega), (by intros; omega), (by intros; omega), (by intros; omega), (by intros; omega), (by intros; omega)⟩
    | succ n ih =>
      refine ⟨?_, ?_, ?_, ?_, ?_, ?_, ?_, ?_, ?_⟩
      ·
        intro l1 l2 l3 l4 hx hvx l2l l2u l3l l3u l4l l4u hm
        refine go_iload (pc := 5) rfl dX2_leave_5 ?_
        refine go_bipush (pc := 7) (v := 31) (by decide) dX2_leave_7 ?_
        refine gf_icmp_ge (pc := 9) (tgt := 147) (ti_rfl l4) (ti_c (v := 31) (a := 31) (by decide)) (by decide) dX2_leave_9 (fun q1 => ?_) (fun q1 => ?_)
        ·
          exact go_lv rfl (ih.2.2.2.2.2.2.1 l1 l2 l3 hx hvx (by omega) (by omega) (by omega) (by omega) (by omega))
        ·
          refine go_aload_n (pc := 12) rfl dX2_leave_12 ?_
          refine gi_get (pc := 13) (lo := 0) (hi := 30) hvx fL_X2_21 rfl (Nat.le_of_ble_eq_true rfl) rfl rfl dX2_leave_13 (fun v2 v2l v2u v2w => ?_)
          refine gf_if_le (pc := 16) (tgt := 147) (ti_rfl v2) (by decide) dX2_leave_16 (fun q3 => ?_) (fun q3 => ?_)
          ·
            exact go_lv rfl (ih.2.2.2.2.2.2.1 l1 l2 l3 hx hvx (by omega) (by omega) (by omega) (by omega) (by omega))
          ·
            refine go_iload_n (pc := 19) rfl dX2_leave_19 ?_
            refine gf_if_ne (pc := 20) (tgt := 147) (ti_rfl l3) (by decide) dX2_leave_20 (fun q4 => ?_) (fun q4 => ?_)
            ·
              exact go_lv rfl (ih.2.2.2.2.2.2.1 l1 l2 l3 hx hvx (by omega) (by omega) (by omega) (by omega) (by omega))
            ·
              refine go_aload_n (pc := 23) rfl dX2_leave_23 ?_
              refine gi_getF (pc := 24) (q := 67) hvx fL_X2_18 rfl (Nat.le_of_ble_eq_true rfl) rfl (hvx.rf (by decide)) dX2_leave_24 ?_
              refine go_aload_n (pc := 27) rfl dX2_leave_27 ?_
              refine gi_get (pc := 28) (lo := 0) (hi := 30) hvx fL_X2_21 rfl (Nat.le_of_ble_eq_true rfl) rfl rfl dX2_leave_28 (fun v5 v5l v5u v5w => ?_)
              have v5r : v2 = hx.2.1 64 3 := v2w
              have v5q : TI v5 v2.toInt := by rw [v5w.trans v5r.symm]; exact (ti_rfl v2)
              refine gi_iald (pc := 31) (lo := 0) (hi := 39) (len := 31) hvx v5q rfl (by omega) (by omega) (fun _ => rfl) dX2_leave_31 (fun v6 v6l v6u v6w => ?_)
              refine go_istore (pc := 32) (Nat.le_of_ble_eq_true rfl) dX2_leave_32 (go_lv (lv2 := [(0, .ref 64), (1, .int l1), (2, .int l2), (3, .int l3), (4, .int l4), (5, .int v6)]) rfl ?_)
              refine go_aload_n (pc := 34) rfl dX2_leave_34 ?_
              refine go_dup (pc := 35) rfl dX2_leave_35 ?_
              refine gi_get (pc := 36) (lo := 0) (hi := 30) hvx fL_X2_21 rfl (Nat.le_of_ble_eq_true rfl) rfl rfl dX2_leave_36 (fun v7 v7l v7u v7w => ?_)
              have v7r : v2 = hx.2.1 64 3 := v2w
              have v7q : TI v7 v2.toInt := by rw [v7w.trans v7r.symm]; exact (ti_rfl v2)
              refine go_iconst (pc := 39) (v := 1) (by decide) dX2_leave_39 ?_
              refine gf_isub (pc := 40) v7q (ti_c (v := 1) (a := 1) (by decide)) (by omega) (by omega) dX2_leave_40 (fun v8 e9 => ?_)
              refine gi_put (pc := 41) (lo := 0) (hi := 30) hvx e9 (fP_X2_21 _) rfl (Nat.le_of_ble_eq_true rfl) rfl rfl (by omega) (by omega) rfl rfl (by decide) (by decide) (by decide) (by decide) dX2_leave_41 (fun h10 hv10 hv10e => ?_)
              refine go_aload_n (pc := 44) rfl dX2_leave_44 ?_
              refine go_iload (pc := 45) rfl dX2_leave_45 ?_
              refine go_iload_n (pc := 47) rfl dX2_leave_47 ?_
              refine go_invV (pc := 48) (sl := 0) (s_X2_see l (d + 0) hv10 v6 l1) mL_X2_102 iM_X2_see sM_X2_see (hv10.sh rfl) rfl rfl rfl (Nat.le_of_ble_eq_true rfl) (show d + 0 + 1 + 1 ≤ d + 2 by omega) (show 8 + (3 + 11) + 40 * (d + 0 + 1) ≤ 40 * (d + 2) by omega) (g_c0 hv10.ln) (Nat.le_of_ble_eq_true rfl) dX2_leave_48 ?_
              intro r h11 hq _
              obtain ⟨rfl, hv11⟩ := hq
              refine go_iload_n (pc := 51) rfl dX2_leave_51 ?_
              refine gf_if_eq (pc := 52) (tgt := 68) (ti_rfl l2) (by decide) dX2_leave_52 (fun q12 => ?_) (fun q12 => ?_)
              ·
                exact go_lv rfl (ih.2.1 l1 l2 l4 v6 h11 hv11 (by omega) (by omega) (by omega) (by omega) (by omega) (by omega) (by omega))
              ·
                refine go_aload_n (pc := 55) rfl dX2_leave_55 ?_
                refine gi_getC (pc := 56) hv11 fL_X2_50 rfl (Nat.le_of_ble_eq_true rfl) rfl (by decide) dX2_leave_56 (fun c13 hc13 fc13 => ?_)
                refine gi_getF (pc := 59) (q := c13 + 14) hv11 fL_X2_132 (by rcases hc13 with rfl | rfl <;> rfl) (Nat.le_of_ble_eq_true rfl) rfl (by rcases hc13 with rfl | rfl <;> exact hv11.rf (by decide)) dX2_leave_59 ?_
                refine go_iload (pc := 62) rfl dX2_leave_62 ?_
                refine gi_iald (pc := 64) (lo := -1) (hi := 5) (len := 40) hv11 (ti_rfl v6) (by rcases hc13 with rfl | rfl <;> rfl) (by omega) (by omega) (fun _ => by rcases hc13 with rfl | rfl <;> rfl) dX2_leave_64 (fun v14 v14l v14u v14w => ?_)
                refine gf_if_lt (pc := 65) (tgt := 72) (ti_rfl v14) (by decide) dX2_leave_65 (fun q15 => ?_) (fun q15 => ?_)
                ·
                  refine go_iconst (pc := 72) (v := 0) (by decide) dX2_leave_72 ?_
                  have z16 : (0 : Int32).toInt = 0 := (ti_c (v := 0) (a := 0) (by decide))
                  exact go_lv rfl (ih.2.2.1 l1 l2 l4 v6 0 h11 hv11 (by omega) (by omega) (by omega) (by omega) (by omega) (by omega) (by omega) (by omega) (by omega))
                ·
                  exact go_lv rfl (ih.2.1 l1 l2 l4 v6 h11 hv11 (by omega) (by omega) (by omega) (by omega) (by omega) (by omega) (by omega))
      ·
        intro l1 l2 l4 l5 hx hvx l2l l2u l4l l4u l5l l5u hm
        refine go_iconst (pc := 68) (v := 1) (by decide) dX2_leave_68 ?_
        refine go_goto (pc := 69) (tgt := 73) (by decide) dX2_leave_69 ?_
        have z17 : (1 : Int32).toInt = 1 := (ti_c (v := 1) (a := 1) (by decide))
        exact go_lv rfl (ih.2.2.1 l1 l2 l4 l5 1 hx hvx (by omega) (by omega) (by omega) (by omega) (by omega) (by omega) (by omega) (by omega) (by omega))
      ·
        intro l1 l2 l4 l5 s0 hx hvx l2l l2u l4l l4u l5l l5u s0l s0u hm
        refine go_istore_n (pc := 73) (Nat.le_of_ble_eq_true rfl) dX2_leave_73 (go_lv (lv2 := [(0, .ref 64), (1, .int l1), (2, .int l2), (3, .int s0), (4, .int l4), (5, .int l5)]) rfl ?_)
        refine go_iload_n (pc := 74) rfl dX2_leave_74 ?_
        refine gf_if_eq (pc := 75) (tgt := 141) (ti_rfl s0) (by decide) dX2_leave_75 (fun q18 => ?_) (fun q18 => ?_)
        ·
          exact go_lv rfl (ih.2.2.2.2.2.1 l1 l2 s0 l4 hx hvx (by omega) (by omega) (by omega) (by omega) (by omega) (by omega) (by omega))
        ·
          refine go_aload_n (pc := 78) rfl dX2_leave_78 ?_
          refine go_iload_n (pc := 79) rfl dX2_leave_79 ?_
          refine gf_if_eq (pc := 80) (tgt := 96) (ti_rfl l2) (by decide) dX2_leave_80 (fun q19 => ?_) (fun q19 => ?_)
          ·
            refine go_aload_n (pc := 96) rfl dX2_leave_96 ?_
            refine gi_getC (pc := 97) hvx fL_X2_50 rfl (Nat.le_of_ble_eq_true rfl) rfl (by decide) dX2_leave_97 (fun c20 hc20 fc20 => ?_)
            refine gi_getF (pc := 100) (q := c20 + 6) hvx fL_X2_95 (by rcases hc20 with rfl | rfl <;> rfl) (Nat.le_of_ble_eq_true rfl) rfl (by rcases hc20 with rfl | rfl <;> exact hvx.rf (by decide)) dX2_leave_100 ?_
            refine go_iload (pc := 103) rfl dX2_leave_103 ?_
            refine gi_iald (pc := 105) (lo := -1) (hi := 9) (len := 40) hvx (ti_rfl l5) (by rcases hc20 with rfl | rfl <;> rfl) (by omega) (by omega) (fun _ => by rcases hc20 with rfl | rfl <;> rfl) dX2_leave_105 (fun v21 v21l v21u v21w => ?_)
            exact go_lv rfl (ih.2.2.2.1 l1 l2 s0 l4 l5 v21 hx hvx (by omega) (by omega) (by omega) (by omega) (by omega) (by omega) (by omega) (by omega) (by omega) (by omega) (by omega))
          ·
            refine go_aload_n (pc := 83) rfl dX2_leave_83 ?_
            refine gi_getC (pc := 84) hvx fL_X2_50 rfl (Nat.le_of_ble_eq_true rfl) rfl (by decide) dX2_leave_84 (fun c22 hc22 fc22 => ?_)
            refine gi_getF (pc := 87) (q := c22 + 14) hvx fL_X2_132 (by rcases hc22 with rfl | rfl <;> rfl) (Nat.le_of_ble_eq_true rfl) rfl (by rcases hc22 with rfl | rfl <;> exact hvx.rf (by decide)) dX2_leave_87 ?_
            refine go_iload (pc := 90) rfl dX2_leave_90 ?_
            refine gi_iald (pc := 92) (lo := -1) (hi := 5) (len := 40) hvx (ti_rfl l5) (by rcases hc22 with rfl | rfl <;> rfl) (by omega) (by omega) (fun _ => by rcases hc22 with rfl | rfl <;> rfl) dX2_leave_92 (fun v23 v23l v23u v23w => ?_)
            refine go_goto (pc := 93) (tgt := 106) (by decide) dX2_leave_93 ?_
            exact go_lv rfl (ih.2.2.2.1 l1 l2 s0 l4 l5 v23 hx hvx (by omega) (by omega) (by omega) (by omega) (by omega) (by omega) (by omega) (by omega) (by omega) (by omega) (by omega))
      ·
        intro l1 l2 l3 l4 l5 s0 hx hvx l2l l2u l3l l3u l4l l4u l5l l5u s0l s0u hm
        refine go_iload_n (pc := 106) rfl dX2_leave_106 ?_
        refine go_invV (pc := 107) (sl := 0) (s_X2_store l (d + 0) hvx s0 (by rw [show (s0 : Int32).toInt = s0.toInt from (ti_rfl s0)]; omega) (by rw [show (s0 : Int32).toInt = s0.toInt from (ti_rfl s0)]; omega) l1) mL_X2_98 iM_X2_store sM_X2_store (hvx.sh rfl) rfl rfl rfl (Nat.le_of_ble_eq_true rfl) (show d + 0 + 1 + 1 ≤ d + 2 by omega) (show 8 + (3 + 11) + 40 * (d + 0 + 1) ≤ 40 * (d + 2) by omega) (g_c0 hvx.ln) (Nat.le_of_ble_eq_true rfl) dX2_leave_107 ?_
        intro r h24 hq _
        obtain ⟨rfl, hv24⟩ := hq
        refine go_aload_n (pc := 110) rfl dX2_leave_110 ?_
        refine go_iload_n (pc := 111) rfl dX2_leave_111 ?_
        refine gf_if_eq (pc := 112) (tgt := 128) (ti_rfl l2) (by decide) dX2_leave_112 (fun q25 => ?_) (fun q25 => ?_)
        ·
          refine go_aload_n (pc := 128) rfl dX2_leave_128 ?_
          refine gi_getC (pc := 129) hv24 fL_X2_50 rfl (Nat.le_of_ble_eq_true rfl) rfl (by decide) dX2_leave_129 (fun c26 hc26 fc26 => ?_)
          refine gi_getF (pc := 132) (q := c26 + 12) hv24 fL_X2_105 (by rcases hc26 with rfl | rfl <;> rfl) (Nat.le_of_ble_eq_true rfl) rfl (by rcases hc26 with rfl | rfl <;> exact hv24.rf (by decide)) dX2_leave_132 ?_
          refine go_iload (pc := 135) rfl dX2_leave_135 ?_
          refine gi_iald (pc := 137) (lo := 0) (hi := 44) (len := 40) hv24 (ti_rfl l5) (by rcases hc26 with rfl | rfl <;> rfl) (by omega) (by omega) (fun _ => by rcases hc26 with rfl | rfl <;> rfl) dX2_leave_137 (fun v27 v27l v27u v27w => ?_)
          exact go_lv rfl (ih.2.2.2.2.1 l1 l2 l3 l4 v27 h24 hv24 (by omega) (by omega) (by omega) (by omega) (by omega) (by omega) (by omega) (by omega) (by omega))
        ·
          refine go_aload_n (pc := 115) rfl dX2_leave_115 ?_
          refine gi_getC (pc := 116) hv24 fL_X2_50 rfl (Nat.le_of_ble_eq_true rfl) rfl (by decide) dX2_leave_116 (fun c28 hc28 fc28 => ?_)
          refine gi_getF (pc := 119) (q := c28 + 13) hv24 fL_X2_123 (by rcases hc28 with rfl | rfl <;> rfl) (Nat.le_of_ble_eq_true rfl) rfl (by rcases hc28 with rfl | rfl <;> exact hv24.rf (by decide)) dX2_leave_119 ?_
          refine go_iload (pc := 122) rfl dX2_leave_122 ?_
          refine gi_iald (pc := 124) (lo := 0) (hi := 44) (len := 40) hv24 (ti_rfl l5) (by rcases hc28 with rfl | rfl <;> rfl) (by omega) (by omega) (fun _ => by rcases hc28 with rfl | rfl <;> rfl) dX2_leave_124 (fun v29 v29l v29u v29w => ?_)
          refine go_goto (pc := 125) (tgt := 138) (by decide) dX2_leave_125 ?_
          exact go_lv rfl (ih.2.2.2.2.1 l1 l2 l3 l4 v29 h24 hv24 (by omega) (by omega) (by omega) (by omega) (by omega) (by omega) (by omega) (by omega) (by omega))
      ·
        intro l1 l2 l3 l4 s0 hx hvx l2l l2u l3l l3u l4l l4u s0l s0u hm
        refine gi_put (pc := 138) (lo := 0) (hi := 44) hvx (ti_rfl s0) (fP_X2_25 _) rfl (Nat.le_of_ble_eq_true rfl) rfl rfl (by omega) (by omega) rfl rfl (by decide) (by decide) (by decide) (by decide) dX2_leave_138 (fun h30 hv30 hv30e => ?_)
        exact go_lv rfl (ih.2.2.2.2.2.1 l1 l2 l3 l4 h30 hv30 (by omega) (by omega) (by omega) (by omega) (by omega) (by omega) (by omega))
      ·
        intro l1 l2 l3 l4 hx hvx l2l l2u l3l l3u l4l l4u hm
        refine gf_iinc (pc := 141) (Nat.le_of_ble_eq_true rfl) rfl (ti_rfl l4) (ti_c (by decide)) (by omega) (by omega) dX2_leave_141 (fun v31 e32 => ?_)
        refine go_lv (lv2 := [(0, .ref 64), (1, .int l1), (2, .int l2), (3, .int l3), (4, .int v31)]) rfl ?_
        refine go_goto (pc := 144) (tgt := 5) (by decide) dX2_leave_144 ?_
        have z33 : (v31 : Int32).toInt = (l4.toInt + 1) := e32
        exact go_lv rfl (ih.1 l1 l2 l3 v31 hx hvx (by omega) (by omega) (by omega) (by omega) (by omega) (by omega) (by omega))
      ·
        intro l1 l2 l3 hx hvx l2l l2u l3l l3u hm
        refine go_iload_n (pc := 147) rfl dX2_leave_147 ?_
        refine gf_if_ne (pc := 148) (tgt := 169) (ti_rfl l3) (by decide) dX2_leave_148 (fun q34 => ?_) (fun q34 => ?_)
        ·
          exact go_lv rfl (ih.2.2.2.2.2.2.2.2  hx hvx  (by omega))
        ·
          refine go_aload_n (pc := 151) rfl dX2_leave_151 ?_
          refine go_iload_n (pc := 152) rfl dX2_leave_152 ?_
          refine gf_if_eq (pc := 153) (tgt := 160) (ti_rfl l2) (by decide) dX2_leave_153 (fun q35 => ?_) (fun q35 => ?_)
          ·
            refine go_iconst (pc := 160) (v := 0) (by decide) dX2_leave_160 ?_
            have z36 : (0 : Int32).toInt = 0 := (ti_c (v := 0) (a := 0) (by decide))
            exact go_lv rfl (ih.2.2.2.2.2.2.2.1 l1 0 hx hvx (by omega) (by omega) (by omega))
          ·
            refine go_iconst (pc := 156) (v := 1) (by decide) dX2_leave_156 ?_
            refine go_goto (pc := 157) (tgt := 161) (by decide) dX2_leave_157 ?_
            have z37 : (1 : Int32).toInt = 1 := (ti_c (v := 1) (a := 1) (by decide))
            exact go_lv rfl (ih.2.2.2.2.2.2.2.1 l1 1 hx hvx (by omega) (by omega) (by omega))
      ·
        intro l1 s0 hx hvx s0l s0u hm
        refine gi_put (pc := 161) (lo := -1) (hi := 3) hvx (ti_rfl s0) (fP_X2_31 _) rfl (Nat.le_of_ble_eq_true rfl) rfl rfl (by omega) (by omega) rfl rfl (by decide) (by decide) (by decide) (by decide) dX2_leave_161 (fun h38 hv38 hv38e => ?_)
        refine go_aload_n (pc := 164) rfl dX2_leave_164 ?_
        refine go_iload_n (pc := 165) rfl dX2_leave_165 ?_
        refine gi_put (pc := 166) (lo := -2147483648) (hi := 2147483647) hv38 (ti_rfl l1) (fP_X2_34 _) rfl (Nat.le_of_ble_eq_true rfl) rfl rfl (ti_ge (ti_rfl l1)) (ti_le2 (ti_rfl l1)) rfl rfl (by decide) (by decide) (by decide) (by decide) dX2_leave_166 (fun h39 hv39 hv39e => ?_)
        exact go_lv rfl (ih.2.2.2.2.2.2.2.2  h39 hv39  (by omega))
      ·
        intro hx hvx hm
        exact gi_vret (pc := 169) ⟨rfl, hvx⟩ hvx dX2_leave_169
  refine go_iconst (pc := 0) (v := 0) (by decide) dX2_leave_0 ?_
  refine go_istore_n (pc := 1) (Nat.le_of_ble_eq_true rfl) dX2_leave_1 (go_lv (lv2 := [(0, .ref 64), (1, .int a2), (2, .int a3), (3, .int 0)]) rfl ?_)
  refine go_iconst (pc := 2) (v := 0) (by decide) dX2_leave_2 ?_
  refine go_istore (pc := 3) (Nat.le_of_ble_eq_true rfl) dX2_leave_3 (go_lv (lv2 := [(0, .ref 64), (1, .int a2), (2, .int a3), (3, .int 0), (4, .int 0)]) rfl ?_)
  have z40 : (0 : Int32).toInt = 0 := (ti_c (v := 0) (a := 0) (by decide))
  have z41 : (0 : Int32).toInt = 0 := (ti_c (v := 0) (a := 0) (by decide))
  exact go_lv rfl ((key 280).1 a2 a3 0 0 h hv (by omega) (by omega) (by omega) (by omega) (by omega) (by omega) (by omega))
set_option maxHeartbeats 4000000 in
set_option maxRecDepth 100000 in
theorem s_X2_raise (l : Launch) (d : Nat) {P : PP} {h : HP} (hv : Iv P h) (a2 : Int32) (a2l : 0 ≤ a2.toInt) (a2u : a2.toInt ≤ 39) (a3 : Int32) : Mt l yX2_raise cX2_raise 3 none (d + 3) [.ref 64, .int a2, .int a3] h 0 0 (fun r h' => r = none ∧ Iv P h') := by
  refine Mt_iv hv (by decide) (Nat.le_of_ble_eq_true rfl) ?_
  show Go l RX2 cX2_raise 3 (g_rm (d + 3) 0 0) "raise" none 117 0 0 (fun _ _ => True) (fun r h' => r = none ∧ Iv P h') 0 0 [(0, .ref 64), (1, .int a2), (2, .int a3)] [] h
  have key : ∀ n : Nat, (∀  (hx : HP), Iv P hx → (1 : Int) < n → Go l RX2 cX2_raise 3 (g_rm (d + 3) 0 0) "raise" none 117 0 0 (fun _ _ => True) (fun r h' => r = none ∧ Iv P h') 0 48 [] [] hx) := by
    intro n
    induction n with
    | zero => exact (by intros; omega)
    | succ n ih =>
      refine ?_
      ·
        intro hx hvx hm
        exact gi_vret (pc := 48) ⟨rfl, hvx⟩ hvx dX2_raise_48
  refine go_aload_n (pc := 0) rfl dX2_raise_0 ?_
  refine gi_getC (pc := 1) hv fL_X2_50 rfl (Nat.le_of_ble_eq_true rfl) rfl (by decide) dX2_raise_1 (fun c1 hc1 fc1 => ?_)
  refine gi_getF (pc := 4) (q := c1 + 14) hv fL_X2_132 (by rcases hc1 with rfl | rfl <;> rfl) (Nat.le_of_ble_eq_true rfl) rfl (by rcases hc1 with rfl | rfl <;> exact hv.rf (by decide)) dX2_raise_4 ?_
  refine go_iload_n (pc := 7) rfl dX2_raise_7 ?_
  refine gi_iald (pc := 8) (lo := -1) (hi := 5) (len := 40) hv (ti_rfl a2) (by rcases hc1 with rfl | rfl <;> rfl) (by omega) (by omega) (fun _ => by rcases hc1 with rfl | rfl <;> rfl) dX2_raise_8 (fun v2 v2l v2u v2w => ?_)
  refine gf_if_lt (pc := 9) (tgt := 42) (ti_rfl v2) (by decide) dX2_raise_9 (fun q3 => ?_) (fun q3 => ?_)
  ·
    refine go_aload_n (pc := 42) rfl dX2_raise_42 ?_
    refine go_iload_n (pc := 43) rfl dX2_raise_43 ?_
    refine go_iconst (pc := 44) (v := 1) (by decide) dX2_raise_44 ?_
    refine go_invV (pc := 45) (sl := 0) (s_X2_leave l (d + 0) hv a3 1 (by rw [show (1 : Int32).toInt = 1 from (ti_c (v := 1) (a := 1) (by decide))]; omega) (by rw [show (1 : Int32).toInt = 1 from (ti_c (v := 1) (a := 1) (by decide))]; omega)) mL_X2_73 iM_X2_leave sM_X2_leave (hv.sh rfl) rfl rfl rfl (Nat.le_of_ble_eq_true rfl) (show d + 0 + 2 + 1 ≤ d + 3 by omega) (show 8 + (6 + 11) + 40 * (d + 0 + 2) ≤ 40 * (d + 3) by omega) (g_c0 hv.ln) (Nat.le_of_ble_eq_true rfl) dX2_raise_45 ?_
    intro r h4 hq _
    obtain ⟨rfl, hv4⟩ := hq
    exact go_lv rfl ((key 14)  h4 hv4  (by omega))
  ·
    refine go_aload_n (pc := 12) rfl dX2_raise_12 ?_
    refine go_aload_n (pc := 13) rfl dX2_raise_13 ?_
    refine gi_getC (pc := 14) hv fL_X2_50 rfl (Nat.le_of_ble_eq_true rfl) rfl (by decide) dX2_raise_14 (fun c5 hc5 fc5 => ?_)
    refine gi_getF (pc := 17) (q := c5 + 14) hv fL_X2_132 (by rcases hc5 with rfl | rfl <;> rfl) (Nat.le_of_ble_eq_true rfl) rfl (by rcases hc5 with rfl | rfl <;> exact hv.rf (by decide)) dX2_raise_17 ?_
    refine go_iload_n (pc := 20) rfl dX2_raise_20 ?_
    refine gi_iald (pc := 21) (lo := -1) (hi := 5) (len := 40) hv (ti_rfl a2) (by rcases hc5 with rfl | rfl <;> rfl) (by omega) (by omega) (fun _ => by rcases hc5 with rfl | rfl <;> rfl) dX2_raise_21 (fun v6 v6l v6u v6w => ?_)
    refine go_iload_n (pc := 22) rfl dX2_raise_22 ?_
    refine go_invV (pc := 23) (sl := 0) (s_X2_store l (d + 1) hv v6 (by rw [show (v6 : Int32).toInt = v6.toInt from (ti_rfl v6)]; omega) (by rw [show (v6 : Int32).toInt = v6.toInt from (ti_rfl v6)]; omega) a3) mL_X2_98 iM_X2_store sM_X2_store (hv.sh rfl) rfl rfl rfl (Nat.le_of_ble_eq_true rfl) (show d + 1 + 1 + 1 ≤ d + 3 by omega) (show 8 + (3 + 11) + 40 * (d + 1 + 1) ≤ 40 * (d + 3) by omega) (g_c0 hv.ln) (Nat.le_of_ble_eq_true rfl) dX2_raise_23 ?_
    intro r h7 hq _
    obtain ⟨rfl, hv7⟩ := hq
    refine go_aload_n (pc := 26) rfl dX2_raise_26 ?_
    refine go_aload_n (pc := 27) rfl dX2_raise_27 ?_
    refine gi_getC (pc := 28) hv7 fL_X2_50 rfl (Nat.le_of_ble_eq_true rfl) rfl (by decide) dX2_raise_28 (fun c8 hc8 fc8 => ?_)
    refine gi_getF (pc := 31) (q := c8 + 13) hv7 fL_X2_123 (by rcases hc8 with rfl | rfl <;> rfl) (Nat.le_of_ble_eq_true rfl) rfl (by rcases hc8 with rfl | rfl <;> exact hv7.rf (by decide)) dX2_raise_31 ?_
    refine go_iload_n (pc := 34) rfl dX2_raise_34 ?_
    refine gi_iald (pc := 35) (lo := 0) (hi := 44) (len := 40) hv7 (ti_rfl a2) (by rcases hc8 with rfl | rfl <;> rfl) (by omega) (by omega) (fun _ => by rcases hc8 with rfl | rfl <;> rfl) dX2_raise_35 (fun v9 v9l v9u v9w => ?_)
    refine gi_put (pc := 36) (lo := 0) (hi := 44) hv7 (ti_rfl v9) (fP_X2_25 _) rfl (Nat.le_of_ble_eq_true rfl) rfl rfl (by omega) (by omega) rfl rfl (by decide) (by decide) (by decide) (by decide) dX2_raise_36 (fun h10 hv10 hv10e => ?_)
    refine go_goto (pc := 39) (tgt := 48) (by decide) dX2_raise_39 ?_
    exact go_lv rfl ((key 14)  h10 hv10  (by omega))
set_option maxHeartbeats 4000000 in
set_option maxRecDepth 100000 in
theorem s_X2_tell (l : Launch) (d : Nat) {P : PP} {h : HP} (hv : Iv P h) (a2 : Int32) : Mt l yX2_tell cX2_tell 2 (some .int) (d + 1) [.ref 64, .int a2] h 0 0 (fun r h' => ∃ v : Int32, r = some (.int v) ∧ -2147483648 ≤ v.toInt ∧ v.toInt ≤ 2147483647 ∧ h = h') := by
  refine Mt_iv hv (by decide) (Nat.le_of_ble_eq_true rfl) ?_
  show Go l RX2 cX2_tell 2 (g_rm (d + 1) 0 0) "tell" (some .int) 117 0 0 (fun _ _ => True) (fun r h' => ∃ v : Int32, r = some (.int v) ∧ -2147483648 ≤ v.toInt ∧ v.toInt ≤ 2147483647 ∧ h = h') 0 0 [(0, .ref 64), (1, .int a2)] [] h
  refine go_aload_n (pc := 0) rfl dX2_tell_0 ?_
  refine gi_get (pc := 1) (lo := -1) (hi := 3) hv fL_X2_31 rfl (Nat.le_of_ble_eq_true rfl) rfl rfl dX2_tell_1 (fun v1 v1l v1u v1w => ?_)
  refine go_iconst (pc := 4) (v := (-1)) (by decide) dX2_tell_4 ?_
  refine gf_icmp_ne (pc := 5) (tgt := 10) (ti_rfl v1) (ti_c (v := (-1)) (a := (-1)) (by decide)) (by decide) dX2_tell_5 (fun q2 => ?_) (fun q2 => ?_)
  ·
    refine go_iload_n (pc := 10) rfl dX2_tell_10 ?_
    by_cases q3 : a2.toInt = 0
    ·
      refine go_tableIn (pc := 11) (tgt := 52) (off := 41) (by rw [show (a2 : Int32).toInt = a2.toInt from (ti_rfl a2)]; omega) (by rw [show (a2 : Int32).toInt = a2.toInt from (ti_rfl a2)]; omega) (by rw [show (a2 : Int32).toInt = a2.toInt from (ti_rfl a2), q3]; rfl) (by decide) dX2_tell_11 ?_
      refine go_aload_n (pc := 52) rfl dX2_tell_52 ?_
      refine gi_get (pc := 53) (lo := -1) (hi := 3) hv fL_X2_31 rfl (Nat.le_of_ble_eq_true rfl) rfl rfl dX2_tell_53 (fun v4 v4l v4u v4w => ?_)
      have v4r : v1 = h.2.1 64 6 := v1w
      have v4q : TI v4 v1.toInt := by rw [v4w.trans v4r.symm]; exact (ti_rfl v1)
      exact gi_iret (pc := 56) v4q ⟨_, rfl, (ti_lo _), (ti_hi _), rfl⟩ hv dX2_tell_56
    by_cases q5 : a2.toInt = 1
    ·
      refine go_tableIn (pc := 11) (tgt := 57) (off := 46) (by rw [show (a2 : Int32).toInt = a2.toInt from (ti_rfl a2)]; omega) (by rw [show (a2 : Int32).toInt = a2.toInt from (ti_rfl a2)]; omega) (by rw [show (a2 : Int32).toInt = a2.toInt from (ti_rfl a2), q5]; rfl) (by decide) dX2_tell_11 ?_
      refine go_aload_n (pc := 57) rfl dX2_tell_57 ?_
      refine gi_get (pc := 58) (lo := -2147483648) (hi := 2147483647) hv fL_X2_34 rfl (Nat.le_of_ble_eq_true rfl) rfl rfl dX2_tell_58 (fun v6 v6l v6u v6w => ?_)
      exact gi_iret (pc := 61) (ti_rfl v6) ⟨_, rfl, (ti_lo _), (ti_hi _), rfl⟩ hv dX2_tell_61
    by_cases q7 : a2.toInt = 2
    ·
      refine go_tableIn (pc := 11) (tgt := 62) (off := 51) (by rw [show (a2 : Int32).toInt = a2.toInt from (ti_rfl a2)]; omega) (by rw [show (a2 : Int32).toInt = a2.toInt from (ti_rfl a2)]; omega) (by rw [show (a2 : Int32).toInt = a2.toInt from (ti_rfl a2), q7]; rfl) (by decide) dX2_tell_11 ?_
      refine go_aload_n (pc := 62) rfl dX2_tell_62 ?_
      refine gi_get (pc := 63) (lo := 0) (hi := 3000) hv fL_X2_28 rfl (Nat.le_of_ble_eq_true rfl) rfl rfl dX2_tell_63 (fun v8 v8l v8u v8w => ?_)
      exact gi_iret (pc := 66) (ti_rfl v8) ⟨_, rfl, (ti_lo _), (ti_hi _), rfl⟩ hv dX2_tell_66
    by_cases q9 : a2.toInt = 3
    ·
      refine go_tableIn (pc := 11) (tgt := 67) (off := 56) (by rw [show (a2 : Int32).toInt = a2.toInt from (ti_rfl a2)]; omega) (by rw [show (a2 : Int32).toInt = a2.toInt from (ti_rfl a2)]; omega) (by rw [show (a2 : Int32).toInt = a2.toInt from (ti_rfl a2), q9]; rfl) (by decide) dX2_tell_11 ?_
      refine go_aload_n (pc := 67) rfl dX2_tell_67 ?_
      refine gi_getF (pc := 68) (q := 65) hv fL_X2_9 rfl (Nat.le_of_ble_eq_true rfl) rfl (hv.rf (by decide)) dX2_tell_68 ?_
      refine go_iload_n (pc := 71) rfl dX2_tell_71 ?_
      refine go_iconst (pc := 72) (v := 3) (by decide) dX2_tell_72 ?_
      refine gf_isub (pc := 73) (ti_rfl a2) (ti_c (v := 3) (a := 3) (by decide)) (by omega) (by omega) dX2_tell_73 (fun v10 e11 => ?_)
      refine gi_iald (pc := 74) (lo := -2147483648) (hi := 2147483647) (len := 4) hv e11 rfl (by omega) (by omega) (fun _ => rfl) dX2_tell_74 (fun v12 v12l v12u v12w => ?_)
      exact gi_iret (pc := 75) (ti_rfl v12) ⟨_, rfl, (ti_lo _), (ti_hi _), rfl⟩ hv dX2_tell_75
    by_cases q13 : a2.toInt = 4
    ·
      refine go_tableIn (pc := 11) (tgt := 67) (off := 56) (by rw [show (a2 : Int32).toInt = a2.toInt from (ti_rfl a2)]; omega) (by rw [show (a2 : Int32).toInt = a2.toInt from (ti_rfl a2)]; omega) (by rw [show (a2 : Int32).toInt = a2.toInt from (ti_rfl a2), q13]; rfl) (by decide) dX2_tell_11 ?_
      refine go_aload_n (pc := 67) rfl dX2_tell_67 ?_
      refine gi_getF (pc := 68) (q := 65) hv fL_X2_9 rfl (Nat.le_of_ble_eq_true rfl) rfl (hv.rf (by decide)) dX2_tell_68 ?_
      refine go_iload_n (pc := 71) rfl dX2_tell_71 ?_
      refine go_iconst (pc := 72) (v := 3) (by decide) dX2_tell_72 ?_
      refine gf_isub (pc := 73) (ti_rfl a2) (ti_c (v := 3) (a := 3) (by decide)) (by omega) (by omega) dX2_tell_73 (fun v14 e15 => ?_)
      refine gi_iald (pc := 74) (lo := -2147483648) (hi := 2147483647) (len := 4) hv e15 rfl (by omega) (by omega) (fun _ => rfl) dX2_tell_74 (fun v16 v16l v16u v16w => ?_)
      exact gi_iret (pc := 75) (ti_rfl v16) ⟨_, rfl, (ti_lo _), (ti_hi _), rfl⟩ hv dX2_tell_75
    by_cases q17 : a2.toInt = 5
    ·
      refine go_tableIn (pc := 11) (tgt := 67) (off := 56) (by rw [show (a2 : Int32).toInt = a2.toInt from (ti_rfl a2)]; omega) (by rw [show (a2 : Int32).toInt = a2.toInt from (ti_rfl a2)]; omega) (by rw [show (a2 : Int32).toInt = a2.toInt from (ti_rfl a2), q17]; rfl) (by decide) dX2_tell_11 ?_
      refine go_aload_n (pc := 67) rfl dX2_tell_67 ?_
      refine gi_getF (pc := 68) (q := 65) hv fL_X2_9 rfl (Nat.le_of_ble_eq_true rfl) rfl (hv.rf (by decide)) dX2_tell_68 ?_
      refine go_iload_n (pc := 71) rfl dX2_tell_71 ?_
      refine go_iconst (pc := 72) (v := 3) (by decide) dX2_tell_72 ?_
      refine gf_isub (pc := 73) (ti_rfl a2) (ti_c (v := 3) (a := 3) (by decide)) (by omega) (by omega) dX2_tell_73 (fun v18 e19 => ?_)
      refine gi_iald (pc := 74) (lo := -2147483648) (hi := 2147483647) (len := 4) hv e19 rfl (by omega) (by omega) (fun _ => rfl) dX2_tell_74 (fun v20 v20l v20u v20w => ?_)
      exact gi_iret (pc := 75) (ti_rfl v20) ⟨_, rfl, (ti_lo _), (ti_hi _), rfl⟩ hv dX2_tell_75
    by_cases q21 : a2.toInt = 6
    ·
      refine go_tableIn (pc := 11) (tgt := 67) (off := 56) (by rw [show (a2 : Int32).toInt = a2.toInt from (ti_rfl a2)]; omega) (by rw [show (a2 : Int32).toInt = a2.toInt from (ti_rfl a2)]; omega) (by rw [show (a2 : Int32).toInt = a2.toInt from (ti_rfl a2), q21]; rfl) (by decide) dX2_tell_11 ?_
      refine go_aload_n (pc := 67) rfl dX2_tell_67 ?_
      refine gi_getF (pc := 68) (q := 65) hv fL_X2_9 rfl (Nat.le_of_ble_eq_true rfl) rfl (hv.rf (by decide)) dX2_tell_68 ?_
      refine go_iload_n (pc := 71) rfl dX2_tell_71 ?_
      refine go_iconst (pc := 72) (v := 3) (by decide) dX2_tell_72 ?_
      refine gf_isub (pc := 73) (ti_rfl a2) (ti_c (v := 3) (a := 3) (by decide)) (by omega) (by omega) dX2_tell_73 (fun v22 e23 => ?_)
      refine gi_iald (pc := 74) (lo := -2147483648) (hi := 2147483647) (len := 4) hv e23 rfl (by omega) (by omega) (fun _ => rfl) dX2_tell_74 (fun v24 v24l v24u v24w => ?_)
      exact gi_iret (pc := 75) (ti_rfl v24) ⟨_, rfl, (ti_lo _), (ti_hi _), rfl⟩ hv dX2_tell_75
    refine go_tableOut (pc := 11) (tgt := 76) (by rw [show (a2 : Int32).toInt = a2.toInt from (ti_rfl a2)]; omega) (by decide) dX2_tell_11 ?_
    refine go_iconst (pc := 76) (v := (-1)) (by decide) dX2_tell_76 ?_
    exact gi_iret (pc := 77) (ti_c (v := (-1)) (a := (-1)) (by decide)) ⟨_, rfl, (ti_lo _), (ti_hi _), rfl⟩ hv dX2_tell_77
  ·
    refine go_iconst (pc := 8) (v := (-1)) (by decide) dX2_tell_8 ?_
    exact gi_iret (pc := 9) (ti_c (v := (-1)) (a := (-1)) (by decide)) ⟨_, rfl, (ti_lo _), (ti_hi _), rfl⟩ hv dX2_tell_9
set_option maxHeartbeats 4000000 in
set_option maxRecDepth 100000 in
theorem s_X2_sightsOf (l : Launch) (d : Nat) {P : PP} {h : HP} (hv : Iv P h) (a2 : Int32) : Mt l yX2_sightsOf cX2_sightsOf 4 (some .int) (d + 1) [.ref 64, .int a2] h 0 0 (fun r h' => ∃ v : Int32, r = some (.int v) ∧ -2147483648 ≤ v.toInt ∧ v.toInt ≤ 2147483647 ∧ h = h') := by
  refine Mt_iv hv (by decide) (Nat.le_of_ble_eq_true rfl) ?_
  show Go l RX2 cX2_sightsOf 4 (g_rm (d + 1) 0 0) "sightsOf" (some .int) 117 0 0 (fun _ _ => True) (fun r h' => ∃ v : Int32, r = some (.int v) ∧ -2147483648 ≤ v.toInt ∧ v.toInt ≤ 2147483647 ∧ h = h') 0 0 [(0, .ref 64), (1, .int a2)] [] h
  have key : ∀ n : Nat, (∀ (l1 : Int32) (l2 : Int32) (l3 : Int32), 0 ≤ l3.toInt → l3.toInt ≤ 500 → (4 * (500 - l3.toInt) + 3 : Int) < n → Go l RX2 cX2_sightsOf 4 (g_rm (d + 1) 0 0) "sightsOf" (some .int) 117 0 0 (fun _ _ => True) (fun r h' => ∃ v : Int32, r = some (.int v) ∧ -2147483648 ≤ v.toInt ∧ v.toInt ≤ 2147483647 ∧ h = h') 0 4 [(0, .ref 64), (1, .int l1), (2, .int l2), (3, .int l3)] [] h) ∧ (∀ (l1 : Int32) (l2 : Int32) (l3 : Int32), 0 ≤ l3.toInt → l3.toInt ≤ 499 → (4 * (500 - l3.toInt) + 2 : Int) < n → Go l RX2 cX2_sightsOf 4 (g_rm (d + 1) 0 0) "sightsOf" (some .int) 117 0 0 (fun _ _ => True) (fun r h' => ∃ v : Int32, r = some (.int v) ∧ -2147483648 ≤ v.toInt ∧ v.toInt ≤ 2147483647 ∧ h = h') 0 25 [(0, .ref 64), (1, .int l1), (2, .int l2), (3, .int l3)] [] h) := by
    intro n
    induction n with
    | zero => exact ⟨(by intros; omega), (by intros; omega)⟩
    | succ n ih =>
      refine ⟨?_, ?_⟩
      ·
        intro l1 l2 l3 l3l l3u hm
        refine go_iload_n (pc := 4) rfl dX2_sightsOf_4 ?_
        refine go_aload_n (pc := 5) rfl dX2_sightsOf_5 ?_
        refine gi_get (pc := 6) (lo := 0) (hi := 500) hv fL_X2_43 rfl (Nat.le_of_ble_eq_true rfl) rfl rfl dX2_sightsOf_6 (fun v1 v1l v1u v1w => ?_)
        refine gf_icmp_ge (pc := 9) (tgt := 31) (ti_rfl l3) (ti_rfl v1) (by decide) dX2_sightsOf_9 (fun q2 => ?_) (fun q2 => ?_)
        ·
          refine go_iload_n (pc := 31) rfl dX2_sightsOf_31 ?_
          exact gi_iret (pc := 32) (ti_rfl l2) ⟨_, rfl, (ti_lo _), (ti_hi _), rfl⟩ hv dX2_sightsOf_32
        ·
          refine go_aload_n (pc := 12) rfl dX2_sightsOf_12 ?_
          refine gi_getF (pc := 13) (q := 68) hv fL_X2_37 rfl (Nat.le_of_ble_eq_true rfl) rfl (hv.rf (by decide)) dX2_sightsOf_13 ?_
          refine go_iload_n (pc := 16) rfl dX2_sightsOf_16 ?_
          refine gi_iald (pc := 17) (lo := -2147483648) (hi := 2147483647) (len := 500) hv (ti_rfl l3) rfl (by omega) (by omega) (fun _ => rfl) dX2_sightsOf_17 (fun v3 v3l v3u v3w => ?_)
          refine go_iload_n (pc := 18) rfl dX2_sightsOf_18 ?_
          refine gf_icmp_ne (pc := 19) (tgt := 25) (ti_rfl v3) (ti_rfl l1) (by decide) dX2_sightsOf_19 (fun q4 => ?_) (fun q4 => ?_)
          ·
            exact go_lv rfl (ih.2 l1 l2 l3  (by omega) (by omega) (by omega))
          ·
            refine gu_iinc (pc := 22) (Nat.le_of_ble_eq_true rfl) rfl dX2_sightsOf_22 (fun v5 => ?_)
            refine go_lv (lv2 := [(0, .ref 64), (1, .int l1), (2, .int v5), (3, .int l3)]) rfl ?_
            exact go_lv rfl (ih.2 l1 v5 l3  (by omega) (by omega) (by omega))
      ·
        intro l1 l2 l3 l3l l3u hm
        refine gf_iinc (pc := 25) (Nat.le_of_ble_eq_true rfl) rfl (ti_rfl l3) (ti_c (by decide)) (by omega) (by omega) dX2_sightsOf_25 (fun v7 e8 => ?_)
        refine go_lv (lv2 := [(0, .ref 64), (1, .int l1), (2, .int l2), (3, .int v7)]) rfl ?_
        refine go_goto (pc := 28) (tgt := 4) (by decide) dX2_sightsOf_28 ?_
        have z9 : (v7 : Int32).toInt = (l3.toInt + 1) := e8
        exact go_lv rfl (ih.1 l1 l2 v7  (by omega) (by omega) (by omega))
  refine go_iconst (pc := 0) (v := 0) (by decide) dX2_sightsOf_0 ?_
  refine go_istore_n (pc := 1) (Nat.le_of_ble_eq_true rfl) dX2_sightsOf_1 (go_lv (lv2 := [(0, .ref 64), (1, .int a2), (2, .int 0)]) rfl ?_)
  refine go_iconst (pc := 2) (v := 0) (by decide) dX2_sightsOf_2 ?_
  refine go_istore_n (pc := 3) (Nat.le_of_ble_eq_true rfl) dX2_sightsOf_3 (go_lv (lv2 := [(0, .ref 64), (1, .int a2), (2, .int 0), (3, .int 0)]) rfl ?_)
  have z10 : (0 : Int32).toInt = 0 := (ti_c (v := 0) (a := 0) (by decide))
  have z11 : (0 : Int32).toInt = 0 := (ti_c (v := 0) (a := 0) (by decide))
  exact go_lv rfl ((key 2021).1 a2 0 0  (by omega) (by omega) (by omega))
set_option maxHeartbeats 4000000 in
set_option maxRecDepth 100000 in
theorem s_X2_sightOf (l : Launch) (d : Nat) {P : PP} {h : HP} (hv : Iv P h) (a2 : Int32) (a3 : Int32) : Mt l yX2_sightOf cX2_sightOf 5 (some .int) (d + 1) [.ref 64, .int a2, .int a3] h 0 0 (fun r h' => ∃ v : Int32, r = some (.int v) ∧ -2147483648 ≤ v.toInt ∧ v.toInt ≤ 2147483647 ∧ h = h') := by
  refine Mt_iv hv (by decide) (Nat.le_of_ble_eq_true rfl) ?_
  show Go l RX2 cX2_sightOf 5 (g_rm (d + 1) 0 0) "sightOf" (some .int) 117 0 0 (fun _ _ => True) (fun r h' => ∃ v : Int32, r = some (.int v) ∧ -2147483648 ≤ v.toInt ∧ v.toInt ≤ 2147483647 ∧ h = h') 0 0 [(0, .ref 64), (1, .int a2), (2, .int a3)] [] h
  have key : ∀ n : Nat, (∀ (l1 : Int32) (l2 : Int32) (l3 : Int32) (l4 : Int32), 0 ≤ l4.toInt → l4.toInt ≤ 500 → (4 * (500 - l4.toInt) + 3 : Int) < n → Go l RX2 cX2_sightOf 5 (g_rm (d + 1) 0 0) "sightOf" (some .int) 117 0 0 (fun _ _ => True) (fun r h' => ∃ v : Int32, r = some (.int v) ∧ -2147483648 ≤ v.toInt ∧ v.toInt ≤ 2147483647 ∧ h = h') 0 5 [(0, .ref 64), (1, .int l1), (2, .int l2), (3, .int l3), (4, .int l4)] [] h) ∧ (∀ (l1 : Int32) (l2 : Int32) (l3 : Int32) (l4 : Int32), 0 ≤ l4.toInt → l4.toInt ≤ 499 → (4 * (500 - l4.toInt) + 2 : Int) < n → Go l RX2 cX2_sightOf 5 (g_rm (d + 1) 0 0) "sightOf" (some .int) 117 0 0 (fun _ _ => True) (fun r h' => ∃ v : Int32, r = some (.int v) ∧ -2147483648 ≤ v.toInt ∧ v.toInt ≤ 2147483647 ∧ h = h') 0 41 [(0, .ref 64), (1, .int l1), (2, .int l2), (3, .int l3), (4, .int l4)] [] h) := by
    intro n
    induction n with
    | zero => exact ⟨(by intros; omega), (by intros; omega)⟩
    | succ n ih =>
      refine ⟨?_, ?_⟩
      ·
        intro l1 l2 l3 l4 l4l l4u hm
        refine go_iload (pc := 5) rfl dX2_sightOf_5 ?_
        refine go_aload_n (pc := 7) rfl dX2_sightOf_7 ?_
        refine gi_get (pc := 8) (lo := 0) (hi := 500) hv fL_X2_43 rfl (Nat.le_of_ble_eq_true rfl) rfl rfl dX2_sightOf_8 (fun v1 v1l v1u v1w => ?_)
        refine gf_icmp_ge (pc := 11) (tgt := 47) (ti_rfl l4) (ti_rfl v1) (by decide) dX2_sightOf_11 (fun q2 => ?_) (fun q2 => ?_)
        ·
          refine go_iconst (pc := 47) (v := 0) (by decide) dX2_sightOf_47 ?_
          exact gi_iret (pc := 48) (ti_c (v := 0) (a := 0) (by decide)) ⟨_, rfl, (ti_lo _), (ti_hi _), rfl⟩ hv dX2_sightOf_48
        ·
          refine go_aload_n (pc := 14) rfl dX2_sightOf_14 ?_
          refine gi_getF (pc := 15) (q := 68) hv fL_X2_37 rfl (Nat.le_of_ble_eq_true rfl) rfl (hv.rf (by decide)) dX2_sightOf_15 ?_
          refine go_iload (pc := 18) rfl dX2_sightOf_18 ?_
          refine gi_iald (pc := 20) (lo := -2147483648) (hi := 2147483647) (len := 500) hv (ti_rfl l4) rfl (by omega) (by omega) (fun _ => rfl) dX2_sightOf_20 (fun v3 v3l v3u v3w => ?_)
          refine go_iload_n (pc := 21) rfl dX2_sightOf_21 ?_
          refine gf_icmp_ne (pc := 22) (tgt := 41) (ti_rfl v3) (ti_rfl l1) (by decide) dX2_sightOf_22 (fun q4 => ?_) (fun q4 => ?_)
          ·
            exact go_lv rfl (ih.2 l1 l2 l3 l4  (by omega) (by omega) (by omega))
          ·
            refine go_iload_n (pc := 25) rfl dX2_sightOf_25 ?_
            refine go_iload_n (pc := 26) rfl dX2_sightOf_26 ?_
            refine gf_icmp_ne (pc := 27) (tgt := 38) (ti_rfl l3) (ti_rfl l2) (by decide) dX2_sightOf_27 (fun q5 => ?_) (fun q5 => ?_)
            ·
              refine gu_iinc (pc := 38) (Nat.le_of_ble_eq_true rfl) rfl dX2_sightOf_38 (fun v6 => ?_)
              refine go_lv (lv2 := [(0, .ref 64), (1, .int l1), (2, .int l2), (3, .int v6), (4, .int l4)]) rfl ?_
              exact go_lv rfl (ih.2 l1 l2 v6 l4  (by omega) (by omega) (by omega))
            ·
              refine go_aload_n (pc := 30) rfl dX2_sightOf_30 ?_
              refine gi_getF (pc := 31) (q := 69) hv fL_X2_40 rfl (Nat.le_of_ble_eq_true rfl) rfl (hv.rf (by decide)) dX2_sightOf_31 ?_
              refine go_iload (pc := 34) rfl dX2_sightOf_34 ?_
              refine gi_iald (pc := 36) (lo := -2147483648) (hi := 2147483647) (len := 500) hv (ti_rfl l4) rfl (by omega) (by omega) (fun _ => rfl) dX2_sightOf_36 (fun v8 v8l v8u v8w => ?_)
              exact gi_iret (pc := 37) (ti_rfl v8) ⟨_, rfl, (ti_lo _), (ti_hi _), rfl⟩ hv dX2_sightOf_37
      ·
        intro l1 l2 l3 l4 l4l l4u hm
        refine gf_iinc (pc := 41) (Nat.le_of_ble_eq_true rfl) rfl (ti_rfl l4) (ti_c (by decide)) (by omega) (by omega) dX2_sightOf_41 (fun v9 e10 => ?_)
        refine go_lv (lv2 := [(0, .ref 64), (1, .int l1), (2, .int l2), (3, .int l3), (4, .int v9)]) rfl ?_
        refine go_goto (pc := 44) (tgt := 5) (by decide) dX2_sightOf_44 ?_
        have z11 : (v9 : Int32).toInt = (l4.toInt + 1) := e10
        exact go_lv rfl (ih.1 l1 l2 l3 v9  (by omega) (by omega) (by omega))
  refine go_iconst (pc := 0) (v := 0) (by decide) dX2_sightOf_0 ?_
  refine go_istore_n (pc := 1) (Nat.le_of_ble_eq_true rfl) dX2_sightOf_1 (go_lv (lv2 := [(0, .ref 64), (1, .int a2), (2, .int a3), (3, .int 0)]) rfl ?_)
  refine go_iconst (pc := 2) (v := 0) (by decide) dX2_sightOf_2 ?_
  refine go_istore (pc := 3) (Nat.le_of_ble_eq_true rfl) dX2_sightOf_3 (go_lv (lv2 := [(0, .ref 64), (1, .int a2), (2, .int a3), (3, .int 0), (4, .int 0)]) rfl ?_)
  have z12 : (0 : Int32).toInt = 0 := (ti_c (v := 0) (a := 0) (by decide))
  have z13 : (0 : Int32).toInt = 0 := (ti_c (v := 0) (a := 0) (by decide))
  exact go_lv rfl ((key 2021).1 a2 a3 0 0  (by omega) (by omega) (by omega))
set_option maxHeartbeats 4000000 in
set_option maxRecDepth 100000 in
theorem s_X2_open (l : Launch) (d : Nat) {P : PP} {h : HP} (hv : Iv P h) (a2 : Int32) (a2l : 0 ≤ a2.toInt) (a2u : a2.toInt ≤ 39) (hp : ∀ c, h.2.2.2 64 11 = .ref c → (h.2.1 (c + 2) a2.toInt.toNat).toInt = 1) : Mt l yX2_open cX2_open 4 none (d + 2) [.ref 64, .int a2] h 0 0 (fun r h' => r = none ∧ Iv P h') := by
  refine Mt_iv hv (by decide) (Nat.le_of_ble_eq_true rfl) ?_
  show Go l RX2 cX2_open 4 (g_rm (d + 2) 0 0) "open" none 117 0 0 (fun _ _ => True) (fun r h' => r = none ∧ Iv P h') 0 0 [(0, .ref 64), (1, .int a2)] [] h
  refine go_aload_n (pc := 0) rfl dX2_open_0 ?_
  refine gi_get (pc := 1) (lo := 0) (hi := 30) hv fL_X2_21 rfl (Nat.le_of_ble_eq_true rfl) rfl rfl dX2_open_1 (fun v1 v1l v1u v1w => ?_)
  refine go_iconst (pc := 4) (v := 1) (by decide) dX2_open_4 ?_
  refine gf_iadd (pc := 5) (ti_rfl v1) (ti_c (v := 1) (a := 1) (by decide)) (by omega) (by omega) dX2_open_5 (fun v2 e3 => ?_)
  refine go_bipush (pc := 6) (v := 31) (by decide) dX2_open_6 ?_
  refine gf_icmp_lt (pc := 8) (tgt := 17) e3 (ti_c (v := 31) (a := 31) (by decide)) (by decide) dX2_open_8 (fun q4 => ?_) (fun q4 => ?_)
  ·
    refine go_aload_n (pc := 17) rfl dX2_open_17 ?_
    refine go_aload_n (pc := 18) rfl dX2_open_18 ?_
    refine gi_getC (pc := 19) hv fL_X2_50 rfl (Nat.le_of_ble_eq_true rfl) rfl (by decide) dX2_open_19 (fun c5 hc5 fc5 => ?_)
    refine gi_getF (pc := 22) (q := c5 + 9) hv fL_X2_111 (by rcases hc5 with rfl | rfl <;> rfl) (Nat.le_of_ble_eq_true rfl) rfl (by rcases hc5 with rfl | rfl <;> exact hv.rf (by decide)) dX2_open_22 ?_
    refine go_iload_n (pc := 25) rfl dX2_open_25 ?_
    refine gi_iald (pc := 26) (lo := -2147483648) (hi := 2147483647) (len := 40) hv (ti_rfl a2) (by rcases hc5 with rfl | rfl <;> rfl) (by omega) (by omega) (fun _ => by rcases hc5 with rfl | rfl <;> rfl) dX2_open_26 (fun v6 v6l v6u v6w => ?_)
    refine go_invV (pc := 27) (sl := 0) (s_X2_load l (d + 0) hv v6) mL_X2_114 iM_X2_load sM_X2_load (hv.sh rfl) rfl rfl rfl (Nat.le_of_ble_eq_true rfl) (show d + 0 + 1 + 1 ≤ d + 2 by omega) (show 8 + (2 + 11) + 40 * (d + 0 + 1) ≤ 40 * (d + 2) by omega) (g_c0 hv.ln) (Nat.le_of_ble_eq_true rfl) dX2_open_27 ?_
    intro r h7 hq _
    obtain ⟨v8, rfl, v8l, v8u, rfl⟩ := hq
    refine go_istore_n (pc := 30) (Nat.le_of_ble_eq_true rfl) dX2_open_30 (go_lv (lv2 := [(0, .ref 64), (1, .int a2), (2, .int v8)]) rfl ?_)
    refine go_aload_n (pc := 31) rfl dX2_open_31 ?_
    refine go_aload_n (pc := 32) rfl dX2_open_32 ?_
    refine gi_getC (pc := 33) hv fL_X2_50 rfl (Nat.le_of_ble_eq_true rfl) rfl (by decide) dX2_open_33 (fun c9 hc9 fc9 => ?_)
    refine gi_getF (pc := 36) (q := c9 + 10) hv fL_X2_120 (by rcases hc9 with rfl | rfl <;> rfl) (Nat.le_of_ble_eq_true rfl) rfl (by rcases hc9 with rfl | rfl <;> exact hv.rf (by decide)) dX2_open_36 ?_
    refine go_iload_n (pc := 39) rfl dX2_open_39 ?_
    refine gi_iald (pc := 40) (lo := -2147483648) (hi := 2147483647) (len := 40) hv (ti_rfl a2) (by rcases hc9 with rfl | rfl <;> rfl) (by omega) (by omega) (fun _ => by rcases hc9 with rfl | rfl <;> rfl) dX2_open_40 (fun v10 v10l v10u v10w => ?_)
    refine go_invV (pc := 41) (sl := 0) (s_X2_load l (d + 0) hv v10) mL_X2_114 iM_X2_load sM_X2_load (hv.sh rfl) rfl rfl rfl (Nat.le_of_ble_eq_true rfl) (show d + 0 + 1 + 1 ≤ d + 2 by omega) (show 8 + (2 + 11) + 40 * (d + 0 + 1) ≤ 40 * (d + 2) by omega) (g_c0 hv.ln) (Nat.le_of_ble_eq_true rfl) dX2_open_41 ?_
    intro r h11 hq _
    obtain ⟨v12, rfl, v12l, v12u, rfl⟩ := hq
    refine go_istore_n (pc := 44) (Nat.le_of_ble_eq_true rfl) dX2_open_44 (go_lv (lv2 := [(0, .ref 64), (1, .int a2), (2, .int v8), (3, .int v12)]) rfl ?_)
    refine go_aload_n (pc := 45) rfl dX2_open_45 ?_
    refine go_dup (pc := 46) rfl dX2_open_46 ?_
    refine gi_get (pc := 47) (lo := 0) (hi := 30) hv fL_X2_21 rfl (Nat.le_of_ble_eq_true rfl) rfl rfl dX2_open_47 (fun v13 v13l v13u v13w => ?_)
    have v13r : v1 = h.2.1 64 3 := v1w
    have v13q : TI v13 v1.toInt := by rw [v13w.trans v13r.symm]; exact (ti_rfl v1)
    refine go_iconst (pc := 50) (v := 1) (by decide) dX2_open_50 ?_
    refine gf_iadd (pc := 51) v13q (ti_c (v := 1) (a := 1) (by decide)) (by omega) (by omega) dX2_open_51 (fun v14 e15 => ?_)
    refine gi_put (pc := 52) (lo := 0) (hi := 30) hv e15 (fP_X2_21 _) rfl (Nat.le_of_ble_eq_true rfl) rfl rfl (by omega) (by omega) rfl rfl (by decide) (by decide) (by decide) (by decide) dX2_open_52 (fun h16 hv16 hv16e => ?_)
    refine go_aload_n (pc := 55) rfl dX2_open_55 ?_
    refine gi_getF (pc := 56) (q := 67) hv16 fL_X2_18 rfl (Nat.le_of_ble_eq_true rfl) rfl (hv16.rf (by decide)) dX2_open_56 ?_
    refine go_aload_n (pc := 59) rfl dX2_open_59 ?_
    refine gi_get (pc := 60) (lo := 0) (hi := 30) hv16 fL_X2_21 rfl (Nat.le_of_ble_eq_true rfl) rfl rfl dX2_open_60 (fun v17 v17l v17u v17w => ?_)
    have v17r : v14 = h16.2.1 64 3 := (show v14 = h16.2.1 64 3 from by rw [hv16e]; exact g_iS.symm)
    have v17q : TI v17 ((v1.toInt + 1)) := by rw [v17w.trans v17r.symm]; exact e15
    refine go_iload_n (pc := 63) rfl dX2_open_63 ?_
    refine gi_iast (pc := 64) (lo := 0) (hi := 39) (len := 31) hv16 v17q (ti_rfl a2) rfl (by omega) (by omega) (fun _ => rfl) (by omega) (by omega) (by decide) dX2_open_64 (fun h18 hv18 hv18e => ?_)
    refine go_aload_n (pc := 65) rfl dX2_open_65 ?_
    refine go_aload_n (pc := 66) rfl dX2_open_66 ?_
    refine gi_getC (pc := 67) hv18 fL_X2_50 rfl (Nat.le_of_ble_eq_true rfl) rfl (by decide) dX2_open_67 (fun c19 hc19 fc19 => ?_)
    refine gi_getF (pc := 70) (q := c19 + 7) hv18 fL_X2_129 (by rcases hc19 with rfl | rfl <;> rfl) (Nat.le_of_ble_eq_true rfl) rfl (by rcases hc19 with rfl | rfl <;> exact hv18.rf (by decide)) dX2_open_70 ?_
    refine go_iload_n (pc := 73) rfl dX2_open_73 ?_
    refine gi_iald (pc := 74) (lo := -2) (hi := 4) (len := 40) hv18 (ti_rfl a2) (by rcases hc19 with rfl | rfl <;> rfl) (by omega) (by omega) (fun _ => by rcases hc19 with rfl | rfl <;> rfl) dX2_open_74 (fun v20 v20l v20u v20w => ?_)
    refine go_iload_n (pc := 75) rfl dX2_open_75 ?_
    refine go_iload_n (pc := 76) rfl dX2_open_76 ?_
    have kk : 0 ≤ v20.toInt := by
      rw [v20w]
      refine hv18.2.2.2.2.2.1 c19 hc19 _ ?_
      have e1 : (h18.2.1 (c19 + 2) a2.toInt.toNat) = h.2.1 (c19 + 2) a2.toInt.toNat := by rw [hv18e, hv16e]; rcases hc19 with rfl | rfl <;> rfl
      rw [e1]
      exact hp c19 (by rw [← fc19, hv18e, hv16e]; rfl)
    refine go_invV (pc := 77) (sl := 0) (s_X2_enter l (d + 0) hv18 v20 (by rw [show (v20 : Int32).toInt = v20.toInt from (ti_rfl v20)]; omega) (by rw [show (v20 : Int32).toInt = v20.toInt from (ti_rfl v20)]; omega) v8 v12) mL_X2_60 iM_X2_enter sM_X2_enter (hv18.sh rfl) rfl rfl rfl (Nat.le_of_ble_eq_true rfl) (show d + 0 + 1 + 1 ≤ d + 2 by omega) (show 8 + (6 + 11) + 40 * (d + 0 + 1) ≤ 40 * (d + 2) by omega) (g_c0 hv18.ln) (Nat.le_of_ble_eq_true rfl) dX2_open_77 ?_
    intro r h21 hq _
    obtain ⟨rfl, hv21⟩ := hq
    exact gi_vret (pc := 80) ⟨rfl, hv21⟩ hv21 dX2_open_80
  ·
    refine go_aload_n (pc := 11) rfl dX2_open_11 ?_
    refine go_iconst (pc := 12) (v := 2) (by decide) dX2_open_12 ?_
    refine gi_put (pc := 13) (lo := -1) (hi := 3) hv (ti_c (v := 2) (a := 2) (by decide)) (fP_X2_31 _) rfl (Nat.le_of_ble_eq_true rfl) rfl rfl (by omega) (by omega) rfl rfl (by decide) (by decide) (by decide) (by decide) dX2_open_13 (fun h22 hv22 hv22e => ?_)
    exact gi_vret (pc := 16) ⟨rfl, hv22⟩ hv22 dX2_open_16
set_option maxHeartbeats 4000000 in
set_option maxRecDepth 100000 in
theorem s_X2_perform (l : Launch) (d : Nat) {P : PP} {h : HP} (hv : Iv P h) (a2 : Int32) (a2l : 0 ≤ a2.toInt) (a2u : a2.toInt ≤ 39) : Mt l yX2_perform cX2_perform 4 none (d + 4) [.ref 64, .int a2] h 0 0 (fun r h' => r = none ∧ Iv P h') := by
  refine Mt_iv hv (by decide) (Nat.le_of_ble_eq_true rfl) ?_
  show Go l RX2 cX2_perform 4 (g_rm (d + 4) 0 0) "perform" none 117 0 0 (fun _ _ => True) (fun r h' => r = none ∧ Iv P h') 0 0 [(0, .ref 64), (1, .int a2)] [] h
  have key : ∀ n : Nat, (∀ (l1 : Int32) (s0 : Int32) (hx : HP), Iv P hx → 0 ≤ l1.toInt → l1.toInt ≤ 39 → 0 ≤ s0.toInt → s0.toInt ≤ 1 → (4 : Int) < n → Go l RX2 cX2_perform 4 (g_rm (d + 4) 0 0) "perform" none 117 0 0 (fun _ _ => True) (fun r h' => r = none ∧ Iv P h') 0 210 [(0, .ref 64), (1, .int l1)] [.int s0] hx) ∧ (∀ (l1 : Int32) (l3 : Int32) (s0 : Int32) (s1 : Int32) (hx : HP), Iv P hx → 0 ≤ l1.toInt → l1.toInt ≤ 39 → 0 ≤ l3.toInt → l3.toInt ≤ 1 → 0 ≤ s0.toInt → s0.toInt ≤ 1 → 0 ≤ s1.toInt → s1.toInt ≤ 39 → (3 : Int) < n → Go l RX2 cX2_perform 4 (g_rm (d + 4) 0 0) "perform" none 117 0 0 (fun _ _ => True) (fun r h' => r = none ∧ Iv P h') 0 222 [(0, .ref 64), (1, .int l1), (3, .int l3)] [.int s0, .int s1, .ref 64] hx) ∧ (∀ (s0 : Int32) (hx : HP), Iv P hx → 0 ≤ s0.toInt → s0.toInt ≤ 44 → (2 : Int) < n → Go l RX2 cX2_perform 4 (g_rm (d + 4) 0 0) "perform" none 117 0 0 (fun _ _ => True) (fun r h' => r = none ∧ Iv P h') 0 251 [] [.int s0, .ref 64] hx) ∧ (∀  (hx : HP), Iv P hx → (1 : Int) < n → Go l RX2 cX2_perform 4 (g_rm (d + 4) 0 0) "perform" none 117 0 0 (fun _ _ => True) (fun r h' => r = none ∧ Iv P h') 0 254 [] [] hx) := by
    intro n
    induction n with
    | zero => exact ⟨(by intros; omega), (by intros; omega), (by intros; omega), (by intros; omega)⟩
    | succ n ih =>
      refine ⟨?_, ?_, ?_, ?_⟩
      ·
        intro l1 s0 hx hvx l1l l1u s0l s0u hm
        refine go_istore_n (pc := 210) (Nat.le_of_ble_eq_true rfl) dX2_perform_210 (go_lv (lv2 := [(0, .ref 64), (1, .int l1), (3, .int s0)]) rfl ?_)
        refine go_aload_n (pc := 211) rfl dX2_perform_211 ?_
        refine go_iload_n (pc := 212) rfl dX2_perform_212 ?_
        refine go_iload_n (pc := 213) rfl dX2_perform_213 ?_
        refine gf_if_eq (pc := 214) (tgt := 221) (ti_rfl s0) (by decide) dX2_perform_214 (fun q1 => ?_) (fun q1 => ?_)
        ·
          refine go_iconst (pc := 221) (v := 0) (by decide) dX2_perform_221 ?_
          have z2 : (0 : Int32).toInt = 0 := (ti_c (v := 0) (a := 0) (by decide))
          exact go_lv rfl (ih.2.1 l1 s0 0 l1 hx hvx (by omega) (by omega) (by omega) (by omega) (by omega) (by omega) (by omega) (by omega) (by omega))
        ·
          refine go_iconst (pc := 217) (v := 1) (by decide) dX2_perform_217 ?_
          refine go_goto (pc := 218) (tgt := 222) (by decide) dX2_perform_218 ?_
          have z3 : (1 : Int32).toInt = 1 := (ti_c (v := 1) (a := 1) (by decide))
          exact go_lv rfl (ih.2.1 l1 s0 1 l1 hx hvx (by omega) (by omega) (by omega) (by omega) (by omega) (by omega) (by omega) (by omega) (by omega))
      ·
        intro l1 l3 s0 s1 hx hvx l1l l1u l3l l3u s0l s0u s1l s1u hm
        refine go_invV (pc := 222) (sl := 0) (s_X2_see l (d + 2) hvx s1 s0) mL_X2_102 iM_X2_see sM_X2_see (hvx.sh rfl) rfl rfl rfl (Nat.le_of_ble_eq_true rfl) (show d + 2 + 1 + 1 ≤ d + 4 by omega) (show 8 + (3 + 11) + 40 * (d + 2 + 1) ≤ 40 * (d + 4) by omega) (g_c0 hvx.ln) (Nat.le_of_ble_eq_true rfl) dX2_perform_222 ?_
        intro r h4 hq _
        obtain ⟨rfl, hv4⟩ := hq
        refine go_aload_n (pc := 225) rfl dX2_perform_225 ?_
        refine go_iload_n (pc := 226) rfl dX2_perform_226 ?_
        refine gf_if_eq (pc := 227) (tgt := 242) (ti_rfl l3) (by decide) dX2_perform_227 (fun q5 => ?_) (fun q5 => ?_)
        ·
          refine go_aload_n (pc := 242) rfl dX2_perform_242 ?_
          refine gi_getC (pc := 243) hv4 fL_X2_50 rfl (Nat.le_of_ble_eq_true rfl) rfl (by decide) dX2_perform_243 (fun c6 hc6 fc6 => ?_)
          refine gi_getF (pc := 246) (q := c6 + 12) hv4 fL_X2_105 (by rcases hc6 with rfl | rfl <;> rfl) (Nat.le_of_ble_eq_true rfl) rfl (by rcases hc6 with rfl | rfl <;> exact hv4.rf (by decide)) dX2_perform_246 ?_
          refine go_iload_n (pc := 249) rfl dX2_perform_249 ?_
          refine gi_iald (pc := 250) (lo := 0) (hi := 44) (len := 40) hv4 (ti_rfl l1) (by rcases hc6 with rfl | rfl <;> rfl) (by omega) (by omega) (fun _ => by rcases hc6 with rfl | rfl <;> rfl) dX2_perform_250 (fun v7 v7l v7u v7w => ?_)
          exact go_lv rfl (ih.2.2.1 v7 h4 hv4 (by omega) (by omega) (by omega))
        ·
          refine go_aload_n (pc := 230) rfl dX2_perform_230 ?_
          refine gi_getC (pc := 231) hv4 fL_X2_50 rfl (Nat.le_of_ble_eq_true rfl) rfl (by decide) dX2_perform_231 (fun c8 hc8 fc8 => ?_)
          refine gi_getF (pc := 234) (q := c8 + 13) hv4 fL_X2_123 (by rcases hc8 with rfl | rfl <;> rfl) (Nat.le_of_ble_eq_true rfl) rfl (by rcases hc8 with rfl | rfl <;> exact hv4.rf (by decide)) dX2_perform_234 ?_
          refine go_iload_n (pc := 237) rfl dX2_perform_237 ?_
          refine gi_iald (pc := 238) (lo := 0) (hi := 44) (len := 40) hv4 (ti_rfl l1) (by rcases hc8 with rfl | rfl <;> rfl) (by omega) (by omega) (fun _ => by rcases hc8 with rfl | rfl <;> rfl) dX2_perform_238 (fun v9 v9l v9u v9w => ?_)
          refine go_goto (pc := 239) (tgt := 251) (by decide) dX2_perform_239 ?_
          exact go_lv rfl (ih.2.2.1 v9 h4 hv4 (by omega) (by omega) (by omega))
      ·
        intro s0 hx hvx s0l s0u hm
        refine gi_put (pc := 251) (lo := 0) (hi := 44) hvx (ti_rfl s0) (fP_X2_25 _) rfl (Nat.le_of_ble_eq_true rfl) rfl rfl (by omega) (by omega) rfl rfl (by decide) (by decide) (by decide) (by decide) dX2_perform_251 (fun h10 hv10 hv10e => ?_)
        exact go_lv rfl (ih.2.2.2  h10 hv10  (by omega))
      ·
        intro hx hvx hm
        exact gi_vret (pc := 254) ⟨rfl, hvx⟩ hvx dX2_perform_254
  refine go_aload_n (pc := 0) rfl dX2_perform_0 ?_
  refine gi_getC (pc := 1) hv fL_X2_50 rfl (Nat.le_of_ble_eq_true rfl) rfl (by decide) dX2_perform_1 (fun c11 hc11 fc11 => ?_)
  refine gi_getF (pc := 4) (q := c11 + 2) hv fL_X2_88 (by rcases hc11 with rfl | rfl <;> rfl) (Nat.le_of_ble_eq_true rfl) rfl (by rcases hc11 with rfl | rfl <;> exact hv.rf (by decide)) dX2_perform_4 ?_
  refine go_iload_n (pc := 7) rfl dX2_perform_7 ?_
  refine gi_iald (pc := 8) (lo := 0) (hi := 5) (len := 40) hv (ti_rfl a2) (by rcases hc11 with rfl | rfl <;> rfl) (by omega) (by omega) (fun _ => by rcases hc11 with rfl | rfl <;> rfl) dX2_perform_8 (fun v12 v12l v12u v12w => ?_)
  by_cases q13 : v12.toInt = 0
  ·
    refine go_tableIn (pc := 9) (tgt := 48) (off := 39) (by rw [show (v12 : Int32).toInt = v12.toInt from (ti_rfl v12)]; omega) (by rw [show (v12 : Int32).toInt = v12.toInt from (ti_rfl v12)]; omega) (by rw [show (v12 : Int32).toInt = v12.toInt from (ti_rfl v12), q13]; rfl) (by decide) dX2_perform_9 ?_
    refine go_aload_n (pc := 48) rfl dX2_perform_48 ?_
    refine go_iload_n (pc := 49) rfl dX2_perform_49 ?_
    refine go_invV (pc := 50) (sl := 0) (s_X2_compute l (d + 1) hv a2 (by rw [show (a2 : Int32).toInt = a2.toInt from (ti_rfl a2)]; omega) (by rw [show (a2 : Int32).toInt = a2.toInt from (ti_rfl a2)]; omega)) mL_X2_91 iM_X2_compute sM_X2_compute (hv.sh rfl) rfl rfl rfl (Nat.le_of_ble_eq_true rfl) (show d + 1 + 2 + 1 ≤ d + 4 by omega) (show 8 + (4 + 11) + 40 * (d + 1 + 2) ≤ 40 * (d + 4) by omega) (g_c0 hv.ln) (Nat.le_of_ble_eq_true rfl) dX2_perform_50 ?_
    intro r h14 hq _
    obtain ⟨v15, rfl, v15l, v15u, rfl⟩ := hq
    refine go_istore_n (pc := 53) (Nat.le_of_ble_eq_true rfl) dX2_perform_53 (go_lv (lv2 := [(0, .ref 64), (1, .int a2), (2, .int v15)]) rfl ?_)
    refine go_aload_n (pc := 54) rfl dX2_perform_54 ?_
    refine go_aload_n (pc := 55) rfl dX2_perform_55 ?_
    refine gi_getC (pc := 56) hv fL_X2_50 rfl (Nat.le_of_ble_eq_true rfl) rfl (by decide) dX2_perform_56 (fun c16 hc16 fc16 => ?_)
    refine gi_getF (pc := 59) (q := c16 + 6) hv fL_X2_95 (by rcases hc16 with rfl | rfl <;> rfl) (Nat.le_of_ble_eq_true rfl) rfl (by rcases hc16 with rfl | rfl <;> exact hv.rf (by decide)) dX2_perform_59 ?_
    refine go_iload_n (pc := 62) rfl dX2_perform_62 ?_
    refine gi_iald (pc := 63) (lo := -1) (hi := 9) (len := 40) hv (ti_rfl a2) (by rcases hc16 with rfl | rfl <;> rfl) (by omega) (by omega) (fun _ => by rcases hc16 with rfl | rfl <;> rfl) dX2_perform_63 (fun v17 v17l v17u v17w => ?_)
    refine go_iload_n (pc := 64) rfl dX2_perform_64 ?_
    refine go_invV (pc := 65) (sl := 0) (s_X2_store l (d + 2) hv v17 (by rw [show (v17 : Int32).toInt = v17.toInt from (ti_rfl v17)]; omega) (by rw [show (v17 : Int32).toInt = v17.toInt from (ti_rfl v17)]; omega) v15) mL_X2_98 iM_X2_store sM_X2_store (hv.sh rfl) rfl rfl rfl (Nat.le_of_ble_eq_true rfl) (show d + 2 + 1 + 1 ≤ d + 4 by omega) (show 8 + (3 + 11) + 40 * (d + 2 + 1) ≤ 40 * (d + 4) by omega) (g_c0 hv.ln) (Nat.le_of_ble_eq_true rfl) dX2_perform_65 ?_
    intro r h18 hq _
    obtain ⟨rfl, hv18⟩ := hq
    refine go_aload_n (pc := 68) rfl dX2_perform_68 ?_
    refine go_iload_n (pc := 69) rfl dX2_perform_69 ?_
    refine go_iload_n (pc := 70) rfl dX2_perform_70 ?_
    refine go_invV (pc := 71) (sl := 0) (s_X2_see l (d + 2) hv18 a2 v15) mL_X2_102 iM_X2_see sM_X2_see (hv18.sh rfl) rfl rfl rfl (Nat.le_of_ble_eq_true rfl) (show d + 2 + 1 + 1 ≤ d + 4 by omega) (show 8 + (3 + 11) + 40 * (d + 2 + 1) ≤ 40 * (d + 4) by omega) (g_c0 hv18.ln) (Nat.le_of_ble_eq_true rfl) dX2_perform_71 ?_
    intro r h19 hq _
    obtain ⟨rfl, hv19⟩ := hq
    refine go_aload_n (pc := 74) rfl dX2_perform_74 ?_
    refine go_aload_n (pc := 75) rfl dX2_perform_75 ?_
    refine gi_getC (pc := 76) hv19 fL_X2_50 rfl (Nat.le_of_ble_eq_true rfl) rfl (by decide) dX2_perform_76 (fun c20 hc20 fc20 => ?_)
    refine gi_getF (pc := 79) (q := c20 + 12) hv19 fL_X2_105 (by rcases hc20 with rfl | rfl <;> rfl) (Nat.le_of_ble_eq_true rfl) rfl (by rcases hc20 with rfl | rfl <;> exact hv19.rf (by decide)) dX2_perform_79 ?_
    refine go_iload_n (pc := 82) rfl dX2_perform_82 ?_
    refine gi_iald (pc := 83) (lo := 0) (hi := 44) (len := 40) hv19 (ti_rfl a2) (by rcases hc20 with rfl | rfl <;> rfl) (by omega) (by omega) (fun _ => by rcases hc20 with rfl | rfl <;> rfl) dX2_perform_83 (fun v21 v21l v21u v21w => ?_)
    refine gi_put (pc := 84) (lo := 0) (hi := 44) hv19 (ti_rfl v21) (fP_X2_25 _) rfl (Nat.le_of_ble_eq_true rfl) rfl rfl (by omega) (by omega) rfl rfl (by decide) (by decide) (by decide) (by decide) dX2_perform_84 (fun h22 hv22 hv22e => ?_)
    refine go_goto (pc := 87) (tgt := 254) (by decide) dX2_perform_87 ?_
    exact go_lv rfl ((key 17).2.2.2  h22 hv22  (by omega))
  by_cases q23 : v12.toInt = 1
  ·
    refine go_tableIn (pc := 9) (tgt := 90) (off := 81) (by rw [show (v12 : Int32).toInt = v12.toInt from (ti_rfl v12)]; omega) (by rw [show (v12 : Int32).toInt = v12.toInt from (ti_rfl v12)]; omega) (by rw [show (v12 : Int32).toInt = v12.toInt from (ti_rfl v12), q23]; rfl) (by decide) dX2_perform_9 ?_
    refine go_aload_n (pc := 90) rfl dX2_perform_90 ?_
    refine go_iload_n (pc := 91) rfl dX2_perform_91 ?_
    refine go_invV (pc := 92) (sl := 0) (s_X2_open l (d + 1) hv a2 (by rw [show (a2 : Int32).toInt = a2.toInt from (ti_rfl a2)]; omega) (by rw [show (a2 : Int32).toInt = a2.toInt from (ti_rfl a2)]; omega) (fun c2 hc2 => by have e := fc11.symm.trans hc2; cases e; rw [← v12w]; exact q23)) mL_X2_108 iM_X2_open sM_X2_open (hv.sh rfl) rfl rfl rfl (Nat.le_of_ble_eq_true rfl) (show d + 1 + 2 + 1 ≤ d + 4 by omega) (show 8 + (4 + 11) + 40 * (d + 1 + 2) ≤ 40 * (d + 4) by omega) (g_c0 hv.ln) (Nat.le_of_ble_eq_true rfl) dX2_perform_92 ?_
    intro r h24 hq _
    obtain ⟨rfl, hv24⟩ := hq
    refine go_goto (pc := 95) (tgt := 254) (by decide) dX2_perform_95 ?_
    exact go_lv rfl ((key 17).2.2.2  h24 hv24  (by omega))
  by_cases q25 : v12.toInt = 2
  ·
    refine go_tableIn (pc := 9) (tgt := 176) (off := 167) (by rw [show (v12 : Int32).toInt = v12.toInt from (ti_rfl v12)]; omega) (by rw [show (v12 : Int32).toInt = v12.toInt from (ti_rfl v12)]; omega) (by rw [show (v12 : Int32).toInt = v12.toInt from (ti_rfl v12), q25]; rfl) (by decide) dX2_perform_9 ?_
    refine go_aload_n (pc := 176) rfl dX2_perform_176 ?_
    refine go_aload_n (pc := 177) rfl dX2_perform_177 ?_
    refine gi_getC (pc := 178) hv fL_X2_50 rfl (Nat.le_of_ble_eq_true rfl) rfl (by decide) dX2_perform_178 (fun c26 hc26 fc26 => ?_)
    refine gi_getF (pc := 181) (q := c26 + 9) hv fL_X2_111 (by rcases hc26 with rfl | rfl <;> rfl) (Nat.le_of_ble_eq_true rfl) rfl (by rcases hc26 with rfl | rfl <;> exact hv.rf (by decide)) dX2_perform_181 ?_
    refine go_iload_n (pc := 184) rfl dX2_perform_184 ?_
    refine gi_iald (pc := 185) (lo := -2147483648) (hi := 2147483647) (len := 40) hv (ti_rfl a2) (by rcases hc26 with rfl | rfl <;> rfl) (by omega) (by omega) (fun _ => by rcases hc26 with rfl | rfl <;> rfl) dX2_perform_185 (fun v27 v27l v27u v27w => ?_)
    refine go_invV (pc := 186) (sl := 0) (s_X2_load l (d + 2) hv v27) mL_X2_114 iM_X2_load sM_X2_load (hv.sh rfl) rfl rfl rfl (Nat.le_of_ble_eq_true rfl) (show d + 2 + 1 + 1 ≤ d + 4 by omega) (show 8 + (2 + 11) + 40 * (d + 2 + 1) ≤ 40 * (d + 4) by omega) (g_c0 hv.ln) (Nat.le_of_ble_eq_true rfl) dX2_perform_186 ?_
    intro r h28 hq _
    obtain ⟨v29, rfl, v29l, v29u, rfl⟩ := hq
    refine go_aload_n (pc := 189) rfl dX2_perform_189 ?_
    refine go_aload_n (pc := 190) rfl dX2_perform_190 ?_
    refine gi_getC (pc := 191) hv fL_X2_50 rfl (Nat.le_of_ble_eq_true rfl) rfl (by decide) dX2_perform_191 (fun c30 hc30 fc30 => ?_)
    refine gi_getF (pc := 194) (q := c30 + 10) hv fL_X2_120 (by rcases hc30 with rfl | rfl <;> rfl) (Nat.le_of_ble_eq_true rfl) rfl (by rcases hc30 with rfl | rfl <;> exact hv.rf (by decide)) dX2_perform_194 ?_
    refine go_iload_n (pc := 197) rfl dX2_perform_197 ?_
    refine gi_iald (pc := 198) (lo := -2147483648) (hi := 2147483647) (len := 40) hv (ti_rfl a2) (by rcases hc30 with rfl | rfl <;> rfl) (by omega) (by omega) (fun _ => by rcases hc30 with rfl | rfl <;> rfl) dX2_perform_198 (fun v31 v31l v31u v31w => ?_)
    refine go_invV (pc := 199) (sl := 0) (s_X2_load l (d + 2) hv v31) mL_X2_114 iM_X2_load sM_X2_load (hv.sh rfl) rfl rfl rfl (Nat.le_of_ble_eq_true rfl) (show d + 2 + 1 + 1 ≤ d + 4 by omega) (show 8 + (2 + 11) + 40 * (d + 2 + 1) ≤ 40 * (d + 4) by omega) (g_c0 hv.ln) (Nat.le_of_ble_eq_true rfl) dX2_perform_199 ?_
    intro r h32 hq _
    obtain ⟨v33, rfl, v33l, v33u, rfl⟩ := hq
    refine gf_icmp_ge (pc := 202) (tgt := 209) (ti_rfl v29) (ti_rfl v33) (by decide) dX2_perform_202 (fun q34 => ?_) (fun q34 => ?_)
    ·
      refine go_iconst (pc := 209) (v := 0) (by decide) dX2_perform_209 ?_
      have z35 : (0 : Int32).toInt = 0 := (ti_c (v := 0) (a := 0) (by decide))
      exact go_lv rfl ((key 17).1 a2 0 h hv (by omega) (by omega) (by omega) (by omega) (by omega))
    ·
      refine go_iconst (pc := 205) (v := 1) (by decide) dX2_perform_205 ?_
      refine go_goto (pc := 206) (tgt := 210) (by decide) dX2_perform_206 ?_
      have z36 : (1 : Int32).toInt = 1 := (ti_c (v := 1) (a := 1) (by decide))
      exact go_lv rfl ((key 17).1 a2 1 h hv (by omega) (by omega) (by omega) (by omega) (by omega))
  by_cases q37 : v12.toInt = 3
  ·
    refine go_tableIn (pc := 9) (tgt := 176) (off := 167) (by rw [show (v12 : Int32).toInt = v12.toInt from (ti_rfl v12)]; omega) (by rw [show (v12 : Int32).toInt = v12.toInt from (ti_rfl v12)]; omega) (by rw [show (v12 : Int32).toInt = v12.toInt from (ti_rfl v12), q37]; rfl) (by decide) dX2_perform_9 ?_
    refine go_aload_n (pc := 176) rfl dX2_perform_176 ?_
    refine go_aload_n (pc := 177) rfl dX2_perform_177 ?_
    refine gi_getC (pc := 178) hv fL_X2_50 rfl (Nat.le_of_ble_eq_true rfl) rfl (by decide) dX2_perform_178 (fun c38 hc38 fc38 => ?_)
    refine gi_getF (pc := 181) (q := c38 + 9) hv fL_X2_111 (by rcases hc38 with rfl | rfl <;> rfl) (Nat.le_of_ble_eq_true rfl) rfl (by rcases hc38 with rfl | rfl <;> exact hv.rf (by decide)) dX2_perform_181 ?_
    refine go_iload_n (pc := 184) rfl dX2_perform_184 ?_
    refine gi_iald (pc := 185) (lo := -2147483648) (hi := 2147483647) (len := 40) hv (ti_rfl a2) (by rcases hc38 with rfl | rfl <;> rfl) (by omega) (by omega) (fun _ => by rcases hc38 with rfl | rfl <;> rfl) dX2_perform_185 (fun v39 v39l v39u v39w => ?_)
    refine go_invV (pc := 186) (sl := 0) (s_X2_load l (d + 2) hv v39) mL_X2_114 iM_X2_load sM_X2_load (hv.sh rfl) rfl rfl rfl (Nat.le_of_ble_eq_true rfl) (show d + 2 + 1 + 1 ≤ d + 4 by omega) (show 8 + (2 + 11) + 40 * (d + 2 + 1) ≤ 40 * (d + 4) by omega) (g_c0 hv.ln) (Nat.le_of_ble_eq_true rfl) dX2_perform_186 ?_
    intro r h40 hq _
    obtain ⟨v41, rfl, v41l, v41u, rfl⟩ := hq
    refine go_aload_n (pc := 189) rfl dX2_perform_189 ?_
    refine go_aload_n (pc := 190) rfl dX2_perform_190 ?_
    refine gi_getC (pc := 191) hv fL_X2_50 rfl (Nat.le_of_ble_eq_true rfl) rfl (by decide) dX2_perform_191 (fun c42 hc42 fc42 => ?_)
    refine gi_getF (pc := 194) (q := c42 + 10) hv fL_X2_120 (by rcases hc42 with rfl | rfl <;> rfl) (Nat.le_of_ble_eq_true rfl) rfl (by rcases hc42 with rfl | rfl <;> exact hv.rf (by decide)) dX2_perform_194 ?_
    refine go_iload_n (pc := 197) rfl dX2_perform_197 ?_
    refine gi_iald (pc := 198) (lo := -2147483648) (hi := 2147483647) (len := 40) hv (ti_rfl a2) (by rcases hc42 with rfl | rfl <;> rfl) (by omega) (by omega) (fun _ => by rcases hc42 with rfl | rfl <;> rfl) dX2_perform_198 (fun v43 v43l v43u v43w => ?_)
    refine go_invV (pc := 199) (sl := 0) (s_X2_load l (d + 2) hv v43) mL_X2_114 iM_X2_load sM_X2_load (hv.sh rfl) rfl rfl rfl (Nat.le_of_ble_eq_true rfl) (show d + 2 + 1 + 1 ≤ d + 4 by omega) (show 8 + (2 + 11) + 40 * (d + 2 + 1) ≤ 40 * (d + 4) by omega) (g_c0 hv.ln) (Nat.le_of_ble_eq_true rfl) dX2_perform_199 ?_
    intro r h44 hq _
    obtain ⟨v45, rfl, v45l, v45u, rfl⟩ := hq
    refine gf_icmp_ge (pc := 202) (tgt := 209) (ti_rfl v41) (ti_rfl v45) (by decide) dX2_perform_202 (fun q46 => ?_) (fun q46 => ?_)
    ·
      refine go_iconst (pc := 209) (v := 0) (by decide) dX2_perform_209 ?_
      have z47 : (0 : Int32).toInt = 0 := (ti_c (v := 0) (a := 0) (by decide))
      exact go_lv rfl ((key 17).1 a2 0 h hv (by omega) (by omega) (by omega) (by omega) (by omega))
    ·
      refine go_iconst (pc := 205) (v := 1) (by decide) dX2_perform_205 ?_
      refine go_goto (pc := 206) (tgt := 210) (by decide) dX2_perform_206 ?_
      have z48 : (1 : Int32).toInt = 1 := (ti_c (v := 1) (a := 1) (by decide))
      exact go_lv rfl ((key 17).1 a2 1 h hv (by omega) (by omega) (by omega) (by omega) (by omega))
  by_cases q49 : v12.toInt = 4
  ·
    refine go_tableIn (pc := 9) (tgt := 98) (off := 89) (by rw [show (v12 : Int32).toInt = v12.toInt from (ti_rfl v12)]; omega) (by rw [show (v12 : Int32).toInt = v12.toInt from (ti_rfl v12)]; omega) (by rw [show (v12 : Int32).toInt = v12.toInt from (ti_rfl v12), q49]; rfl) (by decide) dX2_perform_9 ?_
    refine go_aload_n (pc := 98) rfl dX2_perform_98 ?_
    refine go_iload_n (pc := 99) rfl dX2_perform_99 ?_
    refine go_aload_n (pc := 100) rfl dX2_perform_100 ?_
    refine go_aload_n (pc := 101) rfl dX2_perform_101 ?_
    refine gi_getC (pc := 102) hv fL_X2_50 rfl (Nat.le_of_ble_eq_true rfl) rfl (by decide) dX2_perform_102 (fun c50 hc50 fc50 => ?_)
    refine gi_getF (pc := 105) (q := c50 + 9) hv fL_X2_111 (by rcases hc50 with rfl | rfl <;> rfl) (Nat.le_of_ble_eq_true rfl) rfl (by rcases hc50 with rfl | rfl <;> exact hv.rf (by decide)) dX2_perform_105 ?_
    refine go_iload_n (pc := 108) rfl dX2_perform_108 ?_
    refine gi_iald (pc := 109) (lo := -2147483648) (hi := 2147483647) (len := 40) hv (ti_rfl a2) (by rcases hc50 with rfl | rfl <;> rfl) (by omega) (by omega) (fun _ => by rcases hc50 with rfl | rfl <;> rfl) dX2_perform_109 (fun v51 v51l v51u v51w => ?_)
    refine go_invV (pc := 110) (sl := 0) (s_X2_load l (d + 2) hv v51) mL_X2_114 iM_X2_load sM_X2_load (hv.sh rfl) rfl rfl rfl (Nat.le_of_ble_eq_true rfl) (show d + 2 + 1 + 1 ≤ d + 4 by omega) (show 8 + (2 + 11) + 40 * (d + 2 + 1) ≤ 40 * (d + 4) by omega) (g_c0 hv.ln) (Nat.le_of_ble_eq_true rfl) dX2_perform_110 ?_
    intro r h52 hq _
    obtain ⟨v53, rfl, v53l, v53u, rfl⟩ := hq
    refine go_invV (pc := 113) (sl := 0) (s_X2_see l (d + 2) hv a2 v53) mL_X2_102 iM_X2_see sM_X2_see (hv.sh rfl) rfl rfl rfl (Nat.le_of_ble_eq_true rfl) (show d + 2 + 1 + 1 ≤ d + 4 by omega) (show 8 + (3 + 11) + 40 * (d + 2 + 1) ≤ 40 * (d + 4) by omega) (g_c0 hv.ln) (Nat.le_of_ble_eq_true rfl) dX2_perform_113 ?_
    intro r h54 hq _
    obtain ⟨rfl, hv54⟩ := hq
    refine go_aload_n (pc := 116) rfl dX2_perform_116 ?_
    refine go_iload_n (pc := 117) rfl dX2_perform_117 ?_
    refine go_aload_n (pc := 118) rfl dX2_perform_118 ?_
    refine go_aload_n (pc := 119) rfl dX2_perform_119 ?_
    refine gi_getC (pc := 120) hv54 fL_X2_50 rfl (Nat.le_of_ble_eq_true rfl) rfl (by decide) dX2_perform_120 (fun c55 hc55 fc55 => ?_)
    refine gi_getF (pc := 123) (q := c55 + 9) hv54 fL_X2_111 (by rcases hc55 with rfl | rfl <;> rfl) (Nat.le_of_ble_eq_true rfl) rfl (by rcases hc55 with rfl | rfl <;> exact hv54.rf (by decide)) dX2_perform_123 ?_
    refine go_iload_n (pc := 126) rfl dX2_perform_126 ?_
    refine gi_iald (pc := 127) (lo := -2147483648) (hi := 2147483647) (len := 40) hv54 (ti_rfl a2) (by rcases hc55 with rfl | rfl <;> rfl) (by omega) (by omega) (fun _ => by rcases hc55 with rfl | rfl <;> rfl) dX2_perform_127 (fun v56 v56l v56u v56w => ?_)
    refine go_invV (pc := 128) (sl := 0) (s_X2_load l (d + 2) hv54 v56) mL_X2_114 iM_X2_load sM_X2_load (hv54.sh rfl) rfl rfl rfl (Nat.le_of_ble_eq_true rfl) (show d + 2 + 1 + 1 ≤ d + 4 by omega) (show 8 + (2 + 11) + 40 * (d + 2 + 1) ≤ 40 * (d + 4) by omega) (g_c0 hv54.ln) (Nat.le_of_ble_eq_true rfl) dX2_perform_128 ?_
    intro r h57 hq _
    obtain ⟨v58, rfl, v58l, v58u, rfl⟩ := hq
    refine go_invV (pc := 131) (sl := 0) (s_X2_raise l (d + 0) hv54 a2 (by rw [show (a2 : Int32).toInt = a2.toInt from (ti_rfl a2)]; omega) (by rw [show (a2 : Int32).toInt = a2.toInt from (ti_rfl a2)]; omega) v58) mL_X2_117 iM_X2_raise sM_X2_raise (hv54.sh rfl) rfl rfl rfl (Nat.le_of_ble_eq_true rfl) (show d + 0 + 3 + 1 ≤ d + 4 by omega) (show 8 + (3 + 11) + 40 * (d + 0 + 3) ≤ 40 * (d + 4) by omega) (g_c0 hv54.ln) (Nat.le_of_ble_eq_true rfl) dX2_perform_131 ?_
    intro r h59 hq _
    obtain ⟨rfl, hv59⟩ := hq
    refine go_goto (pc := 134) (tgt := 254) (by decide) dX2_perform_134 ?_
    exact go_lv rfl ((key 17).2.2.2  h59 hv59  (by omega))
  by_cases q60 : v12.toInt = 5
  ·
    refine go_tableIn (pc := 9) (tgt := 137) (off := 128) (by rw [show (v12 : Int32).toInt = v12.toInt from (ti_rfl v12)]; omega) (by rw [show (v12 : Int32).toInt = v12.toInt from (ti_rfl v12)]; omega) (by rw [show (v12 : Int32).toInt = v12.toInt from (ti_rfl v12), q60]; rfl) (by decide) dX2_perform_9 ?_
    refine go_aload_n (pc := 137) rfl dX2_perform_137 ?_
    refine go_iload_n (pc := 138) rfl dX2_perform_138 ?_
    refine go_aload_n (pc := 139) rfl dX2_perform_139 ?_
    refine go_aload_n (pc := 140) rfl dX2_perform_140 ?_
    refine gi_getC (pc := 141) hv fL_X2_50 rfl (Nat.le_of_ble_eq_true rfl) rfl (by decide) dX2_perform_141 (fun c61 hc61 fc61 => ?_)
    refine gi_getF (pc := 144) (q := c61 + 9) hv fL_X2_111 (by rcases hc61 with rfl | rfl <;> rfl) (Nat.le_of_ble_eq_true rfl) rfl (by rcases hc61 with rfl | rfl <;> exact hv.rf (by decide)) dX2_perform_144 ?_
    refine go_iload_n (pc := 147) rfl dX2_perform_147 ?_
    refine gi_iald (pc := 148) (lo := -2147483648) (hi := 2147483647) (len := 40) hv (ti_rfl a2) (by rcases hc61 with rfl | rfl <;> rfl) (by omega) (by omega) (fun _ => by rcases hc61 with rfl | rfl <;> rfl) dX2_perform_148 (fun v62 v62l v62u v62w => ?_)
    refine go_invV (pc := 149) (sl := 0) (s_X2_load l (d + 2) hv v62) mL_X2_114 iM_X2_load sM_X2_load (hv.sh rfl) rfl rfl rfl (Nat.le_of_ble_eq_true rfl) (show d + 2 + 1 + 1 ≤ d + 4 by omega) (show 8 + (2 + 11) + 40 * (d + 2 + 1) ≤ 40 * (d + 4) by omega) (g_c0 hv.ln) (Nat.le_of_ble_eq_true rfl) dX2_perform_149 ?_
    intro r h63 hq _
    obtain ⟨v64, rfl, v64l, v64u, rfl⟩ := hq
    refine go_invV (pc := 152) (sl := 0) (s_X2_see l (d + 2) hv a2 v64) mL_X2_102 iM_X2_see sM_X2_see (hv.sh rfl) rfl rfl rfl (Nat.le_of_ble_eq_true rfl) (show d + 2 + 1 + 1 ≤ d + 4 by omega) (show 8 + (3 + 11) + 40 * (d + 2 + 1) ≤ 40 * (d + 4) by omega) (g_c0 hv.ln) (Nat.le_of_ble_eq_true rfl) dX2_perform_152 ?_
    intro r h65 hq _
    obtain ⟨rfl, hv65⟩ := hq
    refine go_aload_n (pc := 155) rfl dX2_perform_155 ?_
    refine go_aload_n (pc := 156) rfl dX2_perform_156 ?_
    refine go_aload_n (pc := 157) rfl dX2_perform_157 ?_
    refine gi_getC (pc := 158) hv65 fL_X2_50 rfl (Nat.le_of_ble_eq_true rfl) rfl (by decide) dX2_perform_158 (fun c66 hc66 fc66 => ?_)
    refine gi_getF (pc := 161) (q := c66 + 9) hv65 fL_X2_111 (by rcases hc66 with rfl | rfl <;> rfl) (Nat.le_of_ble_eq_true rfl) rfl (by rcases hc66 with rfl | rfl <;> exact hv65.rf (by decide)) dX2_perform_161 ?_
    refine go_iload_n (pc := 164) rfl dX2_perform_164 ?_
    refine gi_iald (pc := 165) (lo := -2147483648) (hi := 2147483647) (len := 40) hv65 (ti_rfl a2) (by rcases hc66 with rfl | rfl <;> rfl) (by omega) (by omega) (fun _ => by rcases hc66 with rfl | rfl <;> rfl) dX2_perform_165 (fun v67 v67l v67u v67w => ?_)
    refine go_invV (pc := 166) (sl := 0) (s_X2_load l (d + 2) hv65 v67) mL_X2_114 iM_X2_load sM_X2_load (hv65.sh rfl) rfl rfl rfl (Nat.le_of_ble_eq_true rfl) (show d + 2 + 1 + 1 ≤ d + 4 by omega) (show 8 + (2 + 11) + 40 * (d + 2 + 1) ≤ 40 * (d + 4) by omega) (g_c0 hv65.ln) (Nat.le_of_ble_eq_true rfl) dX2_perform_166 ?_
    intro r h68 hq _
    obtain ⟨v69, rfl, v69l, v69u, rfl⟩ := hq
    refine go_iconst (pc := 169) (v := 0) (by decide) dX2_perform_169 ?_
    refine go_invV (pc := 170) (sl := 0) (s_X2_leave l (d + 1) hv65 v69 0 (by rw [show (0 : Int32).toInt = 0 from (ti_c (v := 0) (a := 0) (by decide))]; omega) (by rw [show (0 : Int32).toInt = 0 from (ti_c (v := 0) (a := 0) (by decide))]; omega)) mL_X2_73 iM_X2_leave sM_X2_leave (hv65.sh rfl) rfl rfl rfl (Nat.le_of_ble_eq_true rfl) (show d + 1 + 2 + 1 ≤ d + 4 by omega) (show 8 + (6 + 11) + 40 * (d + 1 + 2) ≤ 40 * (d + 4) by omega) (g_c0 hv65.ln) (Nat.le_of_ble_eq_true rfl) dX2_perform_170 ?_
    intro r h70 hq _
    obtain ⟨rfl, hv70⟩ := hq
    refine go_goto (pc := 173) (tgt := 254) (by decide) dX2_perform_173 ?_
    exact go_lv rfl ((key 17).2.2.2  h70 hv70  (by omega))
  exact False.elim (by omega)
set_option maxHeartbeats 4000000 in
set_option maxRecDepth 100000 in
theorem s_X2_step (l : Launch) (d : Nat) {P : PP} {h : HP} (hv : Iv P h)  : Mt l yX2_step cX2_step 1 none (d + 5) [.ref 64] h 0 0 (fun r h' => r = none ∧ Iv P h') := by
  refine Mt_iv hv (by decide) (Nat.le_of_ble_eq_true rfl) ?_
  show Go l RX2 cX2_step 1 (g_rm (d + 5) 0 0) "step" none 117 0 0 (fun _ _ => True) (fun r h' => r = none ∧ Iv P h') 0 0 [(0, .ref 64)] [] h
  have key : ∀ n : Nat, (∀  (hx : HP), Iv P hx → (1 : Int) < n → Go l RX2 cX2_step 1 (g_rm (d + 5) 0 0) "step" none 117 0 0 (fun _ _ => True) (fun r h' => r = none ∧ Iv P h') 0 87 [] [] hx) := by
    intro n
    induction n with
    | zero => exact (by intros; omega)
    | succ n ih =>
      refine ?_
      ·
        intro hx hvx hm
        exact gi_vret (pc := 87) ⟨rfl, hvx⟩ hvx dX2_step_87
  refine go_aload_n (pc := 0) rfl dX2_step_0 ?_
  refine gi_get (pc := 1) (lo := 0) (hi := 44) hv fL_X2_25 rfl (Nat.le_of_ble_eq_true rfl) rfl rfl dX2_step_1 (fun v1 v1l v1u v1w => ?_)
  refine go_bipush (pc := 4) (v := 40) (by decide) dX2_step_4 ?_
  refine gf_icmp_lt (pc := 6) (tgt := 18) (ti_rfl v1) (ti_c (v := 40) (a := 40) (by decide)) (by decide) dX2_step_6 (fun q2 => ?_) (fun q2 => ?_)
  ·
    refine go_aload_n (pc := 18) rfl dX2_step_18 ?_
    refine gi_getL (pc := 19) hv fL_X2_46 rfl (Nat.le_of_ble_eq_true rfl) rfl dX2_step_19 (fun v3 => ?_)
    refine go_aload_n (pc := 22) rfl dX2_step_22 ?_
    refine gi_get (pc := 23) (lo := 0) (hi := 44) hv fL_X2_25 rfl (Nat.le_of_ble_eq_true rfl) rfl rfl dX2_step_23 (fun v4 v4l v4u v4w => ?_)
    have v4r : v1 = h.2.1 64 4 := v1w
    have v4q : TI v4 v1.toInt := by rw [v4w.trans v4r.symm]; exact (ti_rfl v1)
    refine go_invS (pc := 26) (sl := 0) (s_X7_has l (d + 3) hv v3 v4) mL_X2_77 iM_X7_has rfl rfl (Nat.le_of_ble_eq_true rfl) (show d + 3 + 1 + 1 ≤ d + 5 by omega) (show 8 + (3 + 11) + 40 * (d + 3 + 1) ≤ 40 * (d + 5) by omega) (g_c0 hv.ln) (Nat.le_of_ble_eq_true rfl) dX2_step_26 ?_
    intro r h5 hq _
    obtain ⟨v6, rfl, v6l, v6u, rfl⟩ := hq
    refine gf_if_ne (pc := 29) (tgt := 51) (ti_rfl v6) (by decide) dX2_step_29 (fun q7 => ?_) (fun q7 => ?_)
    ·
      refine go_aload_n (pc := 51) rfl dX2_step_51 ?_
      refine gi_get (pc := 52) (lo := 0) (hi := 3000) hv fL_X2_28 rfl (Nat.le_of_ble_eq_true rfl) rfl rfl dX2_step_52 (fun v8 v8l v8u v8w => ?_)
      refine go_sipush (pc := 55) (v := 3000) (by decide) dX2_step_55 ?_
      refine gf_icmp_lt (pc := 58) (tgt := 69) (ti_rfl v8) (ti_c (v := 3000) (a := 3000) (by decide)) (by decide) dX2_step_58 (fun q9 => ?_) (fun q9 => ?_)
      ·
        refine go_aload_n (pc := 69) rfl dX2_step_69 ?_
        refine go_dup (pc := 70) rfl dX2_step_70 ?_
        refine gi_get (pc := 71) (lo := 0) (hi := 3000) hv fL_X2_28 rfl (Nat.le_of_ble_eq_true rfl) rfl rfl dX2_step_71 (fun v10 v10l v10u v10w => ?_)
        have v10r : v8 = h.2.1 64 5 := v8w
        have v10q : TI v10 v8.toInt := by rw [v10w.trans v10r.symm]; exact (ti_rfl v8)
        refine go_iconst (pc := 74) (v := 1) (by decide) dX2_step_74 ?_
        refine gf_iadd (pc := 75) v10q (ti_c (v := 1) (a := 1) (by decide)) (by omega) (by omega) dX2_step_75 (fun v11 e12 => ?_)
        refine gi_put (pc := 76) (lo := 0) (hi := 3000) hv e12 (fP_X2_28 _) rfl (Nat.le_of_ble_eq_true rfl) rfl rfl (by omega) (by omega) rfl rfl (by decide) (by decide) (by decide) (by decide) dX2_step_76 (fun h13 hv13 hv13e => ?_)
        refine go_aload_n (pc := 79) rfl dX2_step_79 ?_
        refine go_aload_n (pc := 80) rfl dX2_step_80 ?_
        refine gi_get (pc := 81) (lo := 0) (hi := 44) hv13 fL_X2_25 rfl (Nat.le_of_ble_eq_true rfl) rfl rfl dX2_step_81 (fun v14 v14l v14u v14w => ?_)
        have v14r : v1 = h13.2.1 64 4 := (show v1 = h13.2.1 64 4 from by rw [hv13e]; exact (g_iI rfl v1w.symm).symm)
        have v14q : TI v14 v1.toInt := by rw [v14w.trans v14r.symm]; exact (ti_rfl v1)
        refine go_invV (pc := 84) (sl := 0) (s_X2_perform l (d + 0) hv13 v14 (by rw [show (v14 : Int32).toInt = v1.toInt from v14q]; omega) (by rw [show (v14 : Int32).toInt = v1.toInt from v14q]; omega)) mL_X2_84 iM_X2_perform sM_X2_perform (hv13.sh rfl) rfl rfl rfl (Nat.le_of_ble_eq_true rfl) (show d + 0 + 4 + 1 ≤ d + 5 by omega) (show 8 + (4 + 11) + 40 * (d + 0 + 4) ≤ 40 * (d + 5) by omega) (g_c0 hv13.ln) (Nat.le_of_ble_eq_true rfl) dX2_step_84 ?_
        intro r h15 hq _
        obtain ⟨rfl, hv15⟩ := hq
        exact go_lv rfl ((key 14)  h15 hv15  (by omega))
      ·
        refine go_aload_n (pc := 61) rfl dX2_step_61 ?_
        refine go_iconst (pc := 62) (v := 2) (by decide) dX2_step_62 ?_
        refine gi_put (pc := 63) (lo := -1) (hi := 3) hv (ti_c (v := 2) (a := 2) (by decide)) (fP_X2_31 _) rfl (Nat.le_of_ble_eq_true rfl) rfl rfl (by omega) (by omega) rfl rfl (by decide) (by decide) (by decide) (by decide) dX2_step_63 (fun h16 hv16 hv16e => ?_)
        refine go_goto (pc := 66) (tgt := 87) (by decide) dX2_step_66 ?_
        exact go_lv rfl ((key 14)  h16 hv16  (by omega))
    ·
      refine go_aload_n (pc := 32) rfl dX2_step_32 ?_
      refine go_aload_n (pc := 33) rfl dX2_step_33 ?_
      refine gi_getC (pc := 34) hv fL_X2_50 rfl (Nat.le_of_ble_eq_true rfl) rfl (by decide) dX2_step_34 (fun c17 hc17 fc17 => ?_)
      refine gi_getF (pc := 37) (q := c17 + 11) hv fL_X2_81 (by rcases hc17 with rfl | rfl <;> rfl) (Nat.le_of_ble_eq_true rfl) rfl (by rcases hc17 with rfl | rfl <;> exact hv.rf (by decide)) dX2_step_37 ?_
      refine go_aload_n (pc := 40) rfl dX2_step_40 ?_
      refine gi_get (pc := 41) (lo := 0) (hi := 44) hv fL_X2_25 rfl (Nat.le_of_ble_eq_true rfl) rfl rfl dX2_step_41 (fun v18 v18l v18u v18w => ?_)
      have v18r : v1 = h.2.1 64 4 := v1w
      have v18q : TI v18 v1.toInt := by rw [v18w.trans v18r.symm]; exact (ti_rfl v1)
      refine gi_iald (pc := 44) (lo := 0) (hi := 44) (len := 40) hv v18q (by rcases hc17 with rfl | rfl <;> rfl) (by omega) (by omega) (fun _ => by rcases hc17 with rfl | rfl <;> rfl) dX2_step_44 (fun v19 v19l v19u v19w => ?_)
      refine gi_put (pc := 45) (lo := 0) (hi := 44) hv (ti_rfl v19) (fP_X2_25 _) rfl (Nat.le_of_ble_eq_true rfl) rfl rfl (by omega) (by omega) rfl rfl (by decide) (by decide) (by decide) (by decide) dX2_step_45 (fun h20 hv20 hv20e => ?_)
      refine go_goto (pc := 48) (tgt := 87) (by decide) dX2_step_48 ?_
      exact go_lv rfl ((key 14)  h20 hv20  (by omega))
  ·
    refine go_aload_n (pc := 9) rfl dX2_step_9 ?_
    refine go_iconst (pc := 10) (v := 0) (by decide) dX2_step_10 ?_
    refine go_iconst (pc := 11) (v := 0) (by decide) dX2_step_11 ?_
    refine go_invV (pc := 12) (sl := 0) (s_X2_leave l (d + 2) hv 0 0 (by rw [show (0 : Int32).toInt = 0 from (ti_c (v := 0) (a := 0) (by decide))]; omega) (by rw [show (0 : Int32).toInt = 0 from (ti_c (v := 0) (a := 0) (by decide))]; omega)) mL_X2_73 iM_X2_leave sM_X2_leave (hv.sh rfl) rfl rfl rfl (Nat.le_of_ble_eq_true rfl) (show d + 2 + 2 + 1 ≤ d + 5 by omega) (show 8 + (6 + 11) + 40 * (d + 2 + 2) ≤ 40 * (d + 5) by omega) (g_c0 hv.ln) (Nat.le_of_ble_eq_true rfl) dX2_step_12 ?_
    intro r h21 hq _
    obtain ⟨rfl, hv21⟩ := hq
    refine go_goto (pc := 15) (tgt := 87) (by decide) dX2_step_15 ?_
    exact go_lv rfl ((key 14)  h21 hv21  (by omega))
set_option maxHeartbeats 4000000 in
set_option maxRecDepth 100000 in
theorem s_X2_play (l : Launch) (d : Nat) {P : PP} {h : HP} (hv : Iv P h) (c2 : Nat) (hc2 : c2 = 2 ∨ c2 = 18) (a3 : Int64) (a4 : Int32) (a5 : Int32) : Mt l yX2_play cX2_play 7 (some .int) (d + 6) [.ref 64, .ref c2, .long a3, .int a4, .int a5] h 0 0 (fun r h' => ∃ v : Int32, r = some (.int v) ∧ -1 ≤ v.toInt ∧ v.toInt ≤ 3 ∧ Iv P h') := by
  refine Mt_iv hv (by decide) (Nat.le_of_ble_eq_true rfl) ?_
  show Go l RX2 cX2_play 7 (g_rm (d + 6) 0 0) "play" (some .int) 117 0 0 (fun _ _ => True) (fun r h' => ∃ v : Int32, r = some (.int v) ∧ -1 ≤ v.toInt ∧ v.toInt ≤ 3 ∧ Iv P h') 0 0 [(0, .ref 64), (1, .ref c2), (2, .long a3), (4, .int a4), (5, .int a5)] [] h
  have key : ∀ n : Nat, (∀ (l6 : Int32) (hx : HP), Iv P hx → 0 ≤ l6.toInt → l6.toInt ≤ 1000000 → (3 * (1000000 - l6.toInt) + 3 : Int) < n → Go l RX2 cX2_play 7 (g_rm (d + 6) 0 0) "play" (some .int) 117 0 0 (fun _ _ => True) (fun r h' => ∃ v : Int32, r = some (.int v) ∧ -1 ≤ v.toInt ∧ v.toInt ≤ 3 ∧ Iv P h') 0 55 [(0, .ref 64), (6, .int l6)] [] hx) ∧ (∀  (hx : HP), Iv P hx → (1 : Int) < n → Go l RX2 cX2_play 7 (g_rm (d + 6) 0 0) "play" (some .int) 117 0 0 (fun _ _ => True) (fun r h' => ∃ v : Int32, r = some (.int v) ∧ -1 ≤ v.toInt ∧ v.toInt ≤ 3 ∧ Iv P h') 0 80 [(0, .ref 64)] [] hx) := by
    intro n
    induction n with
    | zero => exact ⟨(by intros; omega), (by intros; omega)⟩
    | succ n ih =>
      refine ⟨?_, ?_⟩
      ·
        intro l6 hx hvx l6l l6u hm
        refine go_iload (pc := 55) rfl dX2_play_55 ?_
        refine go_ldc (pc := 57) kL_X2_64 dX2_play_57 ?_
        refine gf_icmp_ge (pc := 59) (tgt := 80) (ti_rfl l6) (ti_c (v := 1000000) (a := 1000000) (by decide)) (by decide) dX2_play_59 (fun q1 => ?_) (fun q1 => ?_)
        ·
          exact go_lv rfl (ih.2  hx hvx  (by omega))
        ·
          refine go_aload_n (pc := 62) rfl dX2_play_62 ?_
          refine gi_get (pc := 63) (lo := -1) (hi := 3) hvx fL_X2_31 rfl (Nat.le_of_ble_eq_true rfl) rfl rfl dX2_play_63 (fun v2 v2l v2u v2w => ?_)
          refine go_iconst (pc := 66) (v := 3) (by decide) dX2_play_66 ?_
          refine gf_icmp_ne (pc := 67) (tgt := 80) (ti_rfl v2) (ti_c (v := 3) (a := 3) (by decide)) (by decide) dX2_play_67 (fun q3 => ?_) (fun q3 => ?_)
          ·
            exact go_lv rfl (ih.2  hx hvx  (by omega))
          ·
            refine go_aload_n (pc := 70) rfl dX2_play_70 ?_
            refine go_invV (pc := 71) (sl := 0) (s_X2_step l (d + 0) hvx ) mL_X2_65 iM_X2_step sM_X2_step (hvx.sh rfl) rfl rfl rfl (Nat.le_of_ble_eq_true rfl) (show d + 0 + 5 + 1 ≤ d + 6 by omega) (show 8 + (1 + 11) + 40 * (d + 0 + 5) ≤ 40 * (d + 6) by omega) (g_c0 hvx.ln) (Nat.le_of_ble_eq_true rfl) dX2_play_71 ?_
            intro r h4 hq _
            obtain ⟨rfl, hv4⟩ := hq
            refine gf_iinc (pc := 74) (Nat.le_of_ble_eq_true rfl) rfl (ti_rfl l6) (ti_c (by decide)) (by omega) (by omega) dX2_play_74 (fun v5 e6 => ?_)
            refine go_lv (lv2 := [(0, .ref 64), (6, .int v5)]) rfl ?_
            refine go_goto (pc := 77) (tgt := 55) (by decide) dX2_play_77 ?_
            have z7 : (v5 : Int32).toInt = (l6.toInt + 1) := e6
            exact go_lv rfl (ih.1 v5 h4 hv4 (by omega) (by omega) (by omega))
      ·
        intro hx hvx hm
        refine go_aload_n (pc := 80) rfl dX2_play_80 ?_
        refine gi_get (pc := 81) (lo := -1) (hi := 3) hvx fL_X2_31 rfl (Nat.le_of_ble_eq_true rfl) rfl rfl dX2_play_81 (fun v8 v8l v8u v8w => ?_)
        exact gi_iret (pc := 84) (ti_rfl v8) ⟨_, rfl, (by rw [show (v8 : Int32).toInt = v8.toInt from (ti_rfl v8)]; omega), (by rw [show (v8 : Int32).toInt = v8.toInt from (ti_rfl v8)]; omega), hvx⟩ hvx dX2_play_84
  refine go_aload_n (pc := 0) rfl dX2_play_0 ?_
  refine go_aload_n (pc := 1) rfl dX2_play_1 ?_
  refine gi_putC (pc := 2) hv hc2 (fP_X2_50 _) rfl (Nat.le_of_ble_eq_true rfl) rfl (fun _ => rfl) (fun _ => rfl) (by decide) (by decide) (by decide) (by decide) dX2_play_2 (fun h9 hv9 hv9e => ?_)
  refine go_aload_n (pc := 5) rfl dX2_play_5 ?_
  refine go_lload_n (pc := 6) rfl dX2_play_6 ?_
  refine gi_putL (pc := 7) hv9 (fP_X2_46 _) rfl (Nat.le_of_ble_eq_true rfl) rfl rfl rfl dX2_play_7 (fun h10 hv10 hv10e => ?_)
  refine go_aload_n (pc := 10) rfl dX2_play_10 ?_
  refine gi_getF (pc := 11) (q := 65) hv10 fL_X2_9 rfl (Nat.le_of_ble_eq_true rfl) rfl (hv10.rf (by decide)) dX2_play_11 ?_
  refine go_iconst (pc := 14) (v := 0) (by decide) dX2_play_14 ?_
  refine go_invS (pc := 15) (sl := 0) (s_J7_fill_53178_at65 l (d + 4) hv10 0) mL_X2_54 iM_J7_fill_53178 rfl rfl (Nat.le_of_ble_eq_true rfl) (show d + 4 + 1 + 1 ≤ d + 6 by omega) (show 8 + (4 + 11) + 40 * (d + 4 + 1) ≤ 40 * (d + 6) by omega) (g_c0 hv10.ln) (Nat.le_of_ble_eq_true rfl) dX2_play_15 ?_
  intro r h11 hq _
  obtain ⟨rfl, hv11⟩ := hq
  refine go_aload_n (pc := 18) rfl dX2_play_18 ?_
  refine go_iconst (pc := 19) (v := 0) (by decide) dX2_play_19 ?_
  refine gi_put (pc := 20) (lo := 0) (hi := 30) hv11 (ti_c (v := 0) (a := 0) (by decide)) (fP_X2_21 _) rfl (Nat.le_of_ble_eq_true rfl) rfl rfl (by omega) (by omega) rfl rfl (by decide) (by decide) (by decide) (by decide) dX2_play_20 (fun h12 hv12 hv12e => ?_)
  refine go_aload_n (pc := 23) rfl dX2_play_23 ?_
  refine go_iconst (pc := 24) (v := 0) (by decide) dX2_play_24 ?_
  refine gi_put (pc := 25) (lo := 0) (hi := 3000) hv12 (ti_c (v := 0) (a := 0) (by decide)) (fP_X2_28 _) rfl (Nat.le_of_ble_eq_true rfl) rfl rfl (by omega) (by omega) rfl rfl (by decide) (by decide) (by decide) (by decide) dX2_play_25 (fun h13 hv13 hv13e => ?_)
  refine go_aload_n (pc := 28) rfl dX2_play_28 ?_
  refine go_iconst (pc := 29) (v := 0) (by decide) dX2_play_29 ?_
  refine gi_put (pc := 30) (lo := -2147483648) (hi := 2147483647) hv13 (ti_c (v := 0) (a := 0) (by decide)) (fP_X2_34 _) rfl (Nat.le_of_ble_eq_true rfl) rfl rfl (ti_ge (ti_c (v := 0) (a := 0) (by decide))) (ti_le2 (ti_c (v := 0) (a := 0) (by decide))) rfl rfl (by decide) (by decide) (by decide) (by decide) dX2_play_30 (fun h14 hv14 hv14e => ?_)
  refine go_aload_n (pc := 33) rfl dX2_play_33 ?_
  refine go_iconst (pc := 34) (v := 0) (by decide) dX2_play_34 ?_
  refine gi_put (pc := 35) (lo := 0) (hi := 500) hv14 (ti_c (v := 0) (a := 0) (by decide)) (fP_X2_43 _) rfl (Nat.le_of_ble_eq_true rfl) rfl rfl (by omega) (by omega) rfl rfl (by decide) (by decide) (by decide) (by decide) dX2_play_35 (fun h15 hv15 hv15e => ?_)
  refine go_aload_n (pc := 38) rfl dX2_play_38 ?_
  refine go_iconst (pc := 39) (v := 3) (by decide) dX2_play_39 ?_
  refine gi_put (pc := 40) (lo := -1) (hi := 3) hv15 (ti_c (v := 3) (a := 3) (by decide)) (fP_X2_31 _) rfl (Nat.le_of_ble_eq_true rfl) rfl rfl (by omega) (by omega) rfl rfl (by decide) (by decide) (by decide) (by decide) dX2_play_40 (fun h16 hv16 hv16e => ?_)
  refine go_aload_n (pc := 43) rfl dX2_play_43 ?_
  refine go_iconst (pc := 44) (v := 0) (by decide) dX2_play_44 ?_
  refine go_iload (pc := 45) rfl dX2_play_45 ?_
  refine go_iload (pc := 47) rfl dX2_play_47 ?_
  refine go_invV (pc := 49) (sl := 0) (s_X2_enter l (d + 4) hv16 0 (by rw [show (0 : Int32).toInt = 0 from (ti_c (v := 0) (a := 0) (by decide))]; omega) (by rw [show (0 : Int32).toInt = 0 from (ti_c (v := 0) (a := 0) (by decide))]; omega) a4 a5) mL_X2_60 iM_X2_enter sM_X2_enter (hv16.sh rfl) rfl rfl rfl (Nat.le_of_ble_eq_true rfl) (show d + 4 + 1 + 1 ≤ d + 6 by omega) (show 8 + (6 + 11) + 40 * (d + 4 + 1) ≤ 40 * (d + 6) by omega) (g_c0 hv16.ln) (Nat.le_of_ble_eq_true rfl) dX2_play_49 ?_
  intro r h17 hq _
  obtain ⟨rfl, hv17⟩ := hq
  refine go_iconst (pc := 52) (v := 0) (by decide) dX2_play_52 ?_
  refine go_istore (pc := 53) (Nat.le_of_ble_eq_true rfl) dX2_play_53 (go_lv (lv2 := [(0, .ref 64), (1, .ref c2), (2, .long a3), (4, .int a4), (5, .int a5), (6, .int 0)]) rfl ?_)
  have z18 : (0 : Int32).toInt = 0 := (ti_c (v := 0) (a := 0) (by decide))
  exact go_lv rfl ((key 3000020).1 0 h17 hv17 (by omega) (by omega) (by omega))
