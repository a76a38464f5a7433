theorem dX3_blame_0 : decode cX3_blame 0 = .ok (.aload_n 0, 1) := by decide +kernel
theorem dX3_blame_1 : decode cX3_blame 1 = .ok (.getfield 22, 3) := by decide +kernel
theorem dX3_blame_4 : decode cX3_blame 4 = .ok (.ifCond .ne 13, 3) := by decide +kernel
theorem dX3_blame_7 : decode cX3_blame 7 = .ok (.aload_n 0, 1) := by decide +kernel
theorem dX3_blame_8 : decode cX3_blame 8 = .ok (.iload_n 1, 1) := by decide +kernel
theorem dX3_blame_9 : decode cX3_blame 9 = .ok (.bipush 8, 2) := by decide +kernel
theorem dX3_blame_11 : decode cX3_blame 11 = .ok (.iload_n 2, 1) := by decide +kernel
theorem dX3_blame_12 : decode cX3_blame 12 = .ok (.imul, 1) := by decide +kernel
theorem dX3_blame_13 : decode cX3_blame 13 = .ok (.iadd, 1) := by decide +kernel
theorem dX3_blame_14 : decode cX3_blame 14 = .ok (.putfield 22, 3) := by decide +kernel
theorem dX3_blame_17 : decode cX3_blame 17 = .ok (.return_, 1) := by decide +kernel
theorem dX3_isDigit_0 : decode cX3_isDigit 0 = .ok (.iload_n 0, 1) := by decide +kernel
theorem dX3_isDigit_1 : decode cX3_isDigit 1 = .ok (.bipush 48, 2) := by decide +kernel
theorem dX3_isDigit_3 : decode cX3_isDigit 3 = .ok (.if_icmp .lt 13, 3) := by decide +kernel
theorem dX3_isDigit_6 : decode cX3_isDigit 6 = .ok (.iload_n 0, 1) := by decide +kernel
theorem dX3_isDigit_7 : decode cX3_isDigit 7 = .ok (.bipush 57, 2) := by decide +kernel
theorem dX3_isDigit_9 : decode cX3_isDigit 9 = .ok (.if_icmp .gt 7, 3) := by decide +kernel
theorem dX3_isDigit_12 : decode cX3_isDigit 12 = .ok (.iconst 1, 1) := by decide +kernel
theorem dX3_isDigit_13 : decode cX3_isDigit 13 = .ok (.goto 4, 3) := by decide +kernel
theorem dX3_isDigit_16 : decode cX3_isDigit 16 = .ok (.iconst 0, 1) := by decide +kernel
theorem dX3_isDigit_17 : decode cX3_isDigit 17 = .ok (.ireturn, 1) := by decide +kernel
theorem dX3_kindBegunBy_0 : decode cX3_kindBegunBy 0 = .ok (.iload_n 0, 1) := by decide +kernel
theorem dX3_kindBegunBy_1 : decode cX3_kindBegunBy 1 = .ok (.lookupswitch 51 #[(33, 47), (63, 43), (64, 45), (94, 49)], 43) := by decide +kernel
theorem dX3_kindBegunBy_44 : decode cX3_kindBegunBy 44 = .ok (.iconst 2, 1) := by decide +kernel
theorem dX3_kindBegunBy_45 : decode cX3_kindBegunBy 45 = .ok (.ireturn, 1) := by decide +kernel
theorem dX3_kindBegunBy_46 : decode cX3_kindBegunBy 46 = .ok (.iconst 3, 1) := by decide +kernel
theorem dX3_kindBegunBy_47 : decode cX3_kindBegunBy 47 = .ok (.ireturn, 1) := by decide +kernel
theorem dX3_kindBegunBy_48 : decode cX3_kindBegunBy 48 = .ok (.iconst 4, 1) := by decide +kernel
theorem dX3_kindBegunBy_49 : decode cX3_kindBegunBy 49 = .ok (.ireturn, 1) := by decide +kernel
theorem dX3_kindBegunBy_50 : decode cX3_kindBegunBy 50 = .ok (.iconst 5, 1) := by decide +kernel
theorem dX3_kindBegunBy_51 : decode cX3_kindBegunBy 51 = .ok (.ireturn, 1) := by decide +kernel
theorem dX3_kindBegunBy_52 : decode cX3_kindBegunBy 52 = .ok (.iload_n 0, 1) := by decide +kernel
theorem dX3_kindBegunBy_53 : decode cX3_kindBegunBy 53 = .ok (.invokestatic 137, 3) := by decide +kernel
theorem dX3_kindBegunBy_56 : decode cX3_kindBegunBy 56 = .ok (.iconst (-1), 1) := by decide +kernel
theorem dX3_kindBegunBy_57 : decode cX3_kindBegunBy 57 = .ok (.if_icmp .ne 7, 3) := by decide +kernel
theorem dX3_kindBegunBy_60 : decode cX3_kindBegunBy 60 = .ok (.iconst (-1), 1) := by decide +kernel
theorem dX3_kindBegunBy_61 : decode cX3_kindBegunBy 61 = .ok (.goto 4, 3) := by decide +kernel
theorem dX3_kindBegunBy_64 : decode cX3_kindBegunBy 64 = .ok (.iconst 0, 1) := by decide +kernel
theorem dX3_kindBegunBy_65 : decode cX3_kindBegunBy 65 = .ok (.ireturn, 1) := by decide +kernel
theorem dX3_look_0 : decode cX3_look 0 = .ok (.aload_n 0, 1) := by decide +kernel
theorem dX3_look_1 : decode cX3_look 1 = .ok (.getfield 19, 3) := by decide +kernel
theorem dX3_look_4 : decode cX3_look 4 = .ok (.aload_n 0, 1) := by decide +kernel
theorem dX3_look_5 : decode cX3_look 5 = .ok (.getfield 15, 3) := by decide +kernel
theorem dX3_look_8 : decode cX3_look 8 = .ok (.if_icmp .ge 44, 3) := by decide +kernel
theorem dX3_look_11 : decode cX3_look 11 = .ok (.aload_n 0, 1) := by decide +kernel
theorem dX3_look_12 : decode cX3_look 12 = .ok (.getfield 9, 3) := by decide +kernel
theorem dX3_look_15 : decode cX3_look 15 = .ok (.aload_n 0, 1) := by decide +kernel
theorem dX3_look_16 : decode cX3_look 16 = .ok (.getfield 19, 3) := by decide +kernel
theorem dX3_look_19 : decode cX3_look 19 = .ok (.baload, 1) := by decide +kernel
theorem dX3_look_20 : decode cX3_look 20 = .ok (.bipush 32, 2) := by decide +kernel
theorem dX3_look_22 : decode cX3_look 22 = .ok (.if_icmp .eq 17, 3) := by decide +kernel
theorem dX3_look_25 : decode cX3_look 25 = .ok (.aload_n 0, 1) := by decide +kernel
theorem dX3_look_26 : decode cX3_look 26 = .ok (.getfield 9, 3) := by decide +kernel
theorem dX3_look_29 : decode cX3_look 29 = .ok (.aload_n 0, 1) := by decide +kernel
theorem dX3_look_30 : decode cX3_look 30 = .ok (.getfield 19, 3) := by decide +kernel
theorem dX3_look_33 : decode cX3_look 33 = .ok (.baload, 1) := by decide +kernel
theorem dX3_look_34 : decode cX3_look 34 = .ok (.bipush 10, 2) := by decide +kernel
theorem dX3_look_36 : decode cX3_look 36 = .ok (.if_icmp .ne 16, 3) := by decide +kernel
theorem dX3_look_39 : decode cX3_look 39 = .ok (.aload_n 0, 1) := by decide +kernel
theorem dX3_look_40 : decode cX3_look 40 = .ok (.dup, 1) := by decide +kernel
theorem dX3_look_41 : decode cX3_look 41 = .ok (.getfield 19, 3) := by decide +kernel
theorem dX3_look_44 : decode cX3_look 44 = .ok (.iconst 1, 1) := by decide +kernel
theorem dX3_look_45 : decode cX3_look 45 = .ok (.iadd, 1) := by decide +kernel
theorem dX3_look_46 : decode cX3_look 46 = .ok (.putfield 19, 3) := by decide +kernel
theorem dX3_look_49 : decode cX3_look 49 = .ok (.goto (-49), 3) := by decide +kernel
theorem dX3_look_52 : decode cX3_look 52 = .ok (.aload_n 0, 1) := by decide +kernel
theorem dX3_look_53 : decode cX3_look 53 = .ok (.getfield 19, 3) := by decide +kernel
theorem dX3_look_56 : decode cX3_look 56 = .ok (.aload_n 0, 1) := by decide +kernel
theorem dX3_look_57 : decode cX3_look 57 = .ok (.getfield 15, 3) := by decide +kernel
theorem dX3_look_60 : decode cX3_look 60 = .ok (.if_icmp .ge 19, 3) := by decide +kernel
theorem dX3_look_63 : decode cX3_look 63 = .ok (.aload_n 0, 1) := by decide +kernel
theorem dX3_look_64 : decode cX3_look 64 = .ok (.getfield 9, 3) := by decide +kernel
theorem dX3_look_67 : decode cX3_look 67 = .ok (.aload_n 0, 1) := by decide +kernel
theorem dX3_look_68 : decode cX3_look 68 = .ok (.getfield 19, 3) := by decide +kernel
theorem dX3_look_71 : decode cX3_look 71 = .ok (.baload, 1) := by decide +kernel
theorem dX3_look_72 : decode cX3_look 72 = .ok (.sipush 255, 3) := by decide +kernel
theorem dX3_look_75 : decode cX3_look 75 = .ok (.iand, 1) := by decide +kernel
theorem dX3_look_76 : decode cX3_look 76 = .ok (.goto 4, 3) := by decide +kernel
theorem dX3_look_79 : decode cX3_look 79 = .ok (.iconst (-1), 1) := by decide +kernel
theorem dX3_look_80 : decode cX3_look 80 = .ok (.ireturn, 1) := by decide +kernel
theorem dX3_nameOf_0 : decode cX3_nameOf 0 = .ok (.iload_n 0, 1) := by decide +kernel
theorem dX3_nameOf_1 : decode cX3_nameOf 1 = .ok (.bipush 97, 2) := by decide +kernel
theorem dX3_nameOf_3 : decode cX3_nameOf 3 = .ok (.if_icmp .lt 14, 3) := by decide +kernel
theorem dX3_nameOf_6 : decode cX3_nameOf 6 = .ok (.iload_n 0, 1) := by decide +kernel
theorem dX3_nameOf_7 : decode cX3_nameOf 7 = .ok (.bipush 102, 2) := by decide +kernel
theorem dX3_nameOf_9 : decode cX3_nameOf 9 = .ok (.if_icmp .gt 8, 3) := by decide +kernel
theorem dX3_nameOf_12 : decode cX3_nameOf 12 = .ok (.iload_n 0, 1) := by decide +kernel
theorem dX3_nameOf_13 : decode cX3_nameOf 13 = .ok (.bipush 97, 2) := by decide +kernel
theorem dX3_nameOf_15 : decode cX3_nameOf 15 = .ok (.isub, 1) := by decide +kernel
theorem dX3_nameOf_16 : decode cX3_nameOf 16 = .ok (.ireturn, 1) := by decide +kernel
theorem dX3_nameOf_17 : decode cX3_nameOf 17 = .ok (.iload_n 0, 1) := by decide +kernel
theorem dX3_nameOf_18 : decode cX3_nameOf 18 = .ok (.bipush 119, 2) := by decide +kernel
theorem dX3_nameOf_20 : decode cX3_nameOf 20 = .ok (.if_icmp .lt 19, 3) := by decide +kernel
theorem dX3_nameOf_23 : decode cX3_nameOf 23 = .ok (.iload_n 0, 1) := by decide +kernel
theorem dX3_nameOf_24 : decode cX3_nameOf 24 = .ok (.bipush 122, 2) := by decide +kernel
theorem dX3_nameOf_26 : decode cX3_nameOf 26 = .ok (.if_icmp .gt 13, 3) := by decide +kernel
theorem dX3_nameOf_29 : decode cX3_nameOf 29 = .ok (.bipush 6, 2) := by decide +kernel
theorem dX3_nameOf_31 : decode cX3_nameOf 31 = .ok (.iload_n 0, 1) := by decide +kernel
theorem dX3_nameOf_32 : decode cX3_nameOf 32 = .ok (.iadd, 1) := by decide +kernel
theorem dX3_nameOf_33 : decode cX3_nameOf 33 = .ok (.bipush 119, 2) := by decide +kernel
theorem dX3_nameOf_35 : decode cX3_nameOf 35 = .ok (.isub, 1) := by decide +kernel
theorem dX3_nameOf_36 : decode cX3_nameOf 36 = .ok (.goto 4, 3) := by decide +kernel
theorem dX3_nameOf_39 : decode cX3_nameOf 39 = .ok (.iconst (-1), 1) := by decide +kernel
theorem dX3_nameOf_40 : decode cX3_nameOf 40 = .ok (.ireturn, 1) := by decide +kernel
theorem dX3_readNumber_0 : decode cX3_readNumber 0 = .ok (.aload_n 0, 1) := by decide +kernel
theorem dX3_readNumber_1 : decode cX3_readNumber 1 = .ok (.getfield 19, 3) := by decide +kernel
theorem dX3_readNumber_4 : decode cX3_readNumber 4 = .ok (.istore_n 1, 1) := by decide +kernel
theorem dX3_readNumber_5 : decode cX3_readNumber 5 = .ok (.iconst 0, 1) := by decide +kernel
theorem dX3_readNumber_6 : decode cX3_readNumber 6 = .ok (.istore_n 2, 1) := by decide +kernel
theorem dX3_readNumber_7 : decode cX3_readNumber 7 = .ok (.aload_n 0, 1) := by decide +kernel
theorem dX3_readNumber_8 : decode cX3_readNumber 8 = .ok (.getfield 19, 3) := by decide +kernel
theorem dX3_readNumber_11 : decode cX3_readNumber 11 = .ok (.aload_n 0, 1) := by decide +kernel
theorem dX3_readNumber_12 : decode cX3_readNumber 12 = .ok (.getfield 15, 3) := by decide +kernel
theorem dX3_readNumber_15 : decode cX3_readNumber 15 = .ok (.if_icmp .ge 59, 3) := by decide +kernel
theorem dX3_readNumber_18 : decode cX3_readNumber 18 = .ok (.aload_n 0, 1) := by decide +kernel
theorem dX3_readNumber_19 : decode cX3_readNumber 19 = .ok (.getfield 9, 3) := by decide +kernel
theorem dX3_readNumber_22 : decode cX3_readNumber 22 = .ok (.aload_n 0, 1) := by decide +kernel
theorem dX3_readNumber_23 : decode cX3_readNumber 23 = .ok (.getfield 19, 3) := by decide +kernel
theorem dX3_readNumber_26 : decode cX3_readNumber 26 = .ok (.baload, 1) := by decide +kernel
theorem dX3_readNumber_27 : decode cX3_readNumber 27 = .ok (.invokestatic 210, 3) := by decide +kernel
theorem dX3_readNumber_30 : decode cX3_readNumber 30 = .ok (.ifCond .eq 44, 3) := by decide +kernel
theorem dX3_readNumber_33 : decode cX3_readNumber 33 = .ok (.aload_n 0, 1) := by decide +kernel
theorem dX3_readNumber_34 : decode cX3_readNumber 34 = .ok (.getfield 19, 3) := by decide +kernel
theorem dX3_readNumber_37 : decode cX3_readNumber 37 = .ok (.iload_n 1, 1) := by decide +kernel
theorem dX3_readNumber_38 : decode cX3_readNumber 38 = .ok (.isub, 1) := by decide +kernel
theorem dX3_readNumber_39 : decode cX3_readNumber 39 = .ok (.iconst 3, 1) := by decide +kernel
theorem dX3_readNumber_40 : decode cX3_readNumber 40 = .ok (.if_icmp .ge 21, 3) := by decide +kernel
theorem dX3_readNumber_43 : decode cX3_readNumber 43 = .ok (.iload_n 2, 1) := by decide +kernel
theorem dX3_readNumber_44 : decode cX3_readNumber 44 = .ok (.bipush 10, 2) := by decide +kernel
theorem dX3_readNumber_46 : decode cX3_readNumber 46 = .ok (.imul, 1) := by decide +kernel
theorem dX3_readNumber_47 : decode cX3_readNumber 47 = .ok (.aload_n 0, 1) := by decide +kernel
theorem dX3_readNumber_48 : decode cX3_readNumber 48 = .ok (.getfield 9, 3) := by decide +kernel
theorem dX3_readNumber_51 : decode cX3_readNumber 51 = .ok (.aload_n 0, 1) := by decide +kernel
theorem dX3_readNumber_52 : decode cX3_readNumber 52 = .ok (.getfield 19, 3) := by decide +kernel
theorem dX3_readNumber_55 : decode cX3_readNumber 55 = .ok (.baload, 1) := by decide +kernel
theorem dX3_readNumber_56 : decode cX3_readNumber 56 = .ok (.iadd, 1) := by decide +kernel
theorem dX3_readNumber_57 : decode cX3_readNumber 57 = .ok (.bipush 48, 2) := by decide +kernel
theorem dX3_readNumber_59 : decode cX3_readNumber 59 = .ok (.isub, 1) := by decide +kernel
theorem dX3_readNumber_60 : decode cX3_readNumber 60 = .ok (.istore_n 2, 1) := by decide +kernel
theorem dX3_readNumber_61 : decode cX3_readNumber 61 = .ok (.aload_n 0, 1) := by decide +kernel
theorem dX3_readNumber_62 : decode cX3_readNumber 62 = .ok (.dup, 1) := by decide +kernel
theorem dX3_readNumber_63 : decode cX3_readNumber 63 = .ok (.getfield 19, 3) := by decide +kernel
theorem dX3_readNumber_66 : decode cX3_readNumber 66 = .ok (.iconst 1, 1) := by decide +kernel
theorem dX3_readNumber_67 : decode cX3_readNumber 67 = .ok (.iadd, 1) := by decide +kernel
theorem dX3_readNumber_68 : decode cX3_readNumber 68 = .ok (.putfield 19, 3) := by decide +kernel
theorem dX3_readNumber_71 : decode cX3_readNumber 71 = .ok (.goto (-64), 3) := by decide +kernel
theorem dX3_readNumber_74 : decode cX3_readNumber 74 = .ok (.aload_n 0, 1) := by decide +kernel
theorem dX3_readNumber_75 : decode cX3_readNumber 75 = .ok (.getfield 19, 3) := by decide +kernel
theorem dX3_readNumber_78 : decode cX3_readNumber 78 = .ok (.iload_n 1, 1) := by decide +kernel
theorem dX3_readNumber_79 : decode cX3_readNumber 79 = .ok (.isub, 1) := by decide +kernel
theorem dX3_readNumber_80 : decode cX3_readNumber 80 = .ok (.iconst 3, 1) := by decide +kernel
theorem dX3_readNumber_81 : decode cX3_readNumber 81 = .ok (.if_icmp .le 9, 3) := by decide +kernel
theorem dX3_readNumber_84 : decode cX3_readNumber 84 = .ok (.aload_n 0, 1) := by decide +kernel
theorem dX3_readNumber_85 : decode cX3_readNumber 85 = .ok (.iconst 2, 1) := by decide +kernel
theorem dX3_readNumber_86 : decode cX3_readNumber 86 = .ok (.iload_n 1, 1) := by decide +kernel
theorem dX3_readNumber_87 : decode cX3_readNumber 87 = .ok (.invokevirtual 101, 3) := by decide +kernel
theorem dX3_readNumber_90 : decode cX3_readNumber 90 = .ok (.iload_n 2, 1) := by decide +kernel
theorem dX3_readNumber_91 : decode cX3_readNumber 91 = .ok (.ireturn, 1) := by decide +kernel
theorem dX3_readOperand_0 : decode cX3_readOperand 0 = .ok (.aload_n 0, 1) := by decide +kernel
theorem dX3_readOperand_1 : decode cX3_readOperand 1 = .ok (.invokevirtual 66, 3) := by decide +kernel
theorem dX3_readOperand_4 : decode cX3_readOperand 4 = .ok (.istore_n 1, 1) := by decide +kernel
theorem dX3_readOperand_5 : decode cX3_readOperand 5 = .ok (.iload_n 1, 1) := by decide +kernel
theorem dX3_readOperand_6 : decode cX3_readOperand 6 = .ok (.invokestatic 210, 3) := by decide +kernel
theorem dX3_readOperand_9 : decode cX3_readOperand 9 = .ok (.ifCond .eq 11, 3) := by decide +kernel
theorem dX3_readOperand_12 : decode cX3_readOperand 12 = .ok (.bipush 10, 2) := by decide +kernel
theorem dX3_readOperand_14 : decode cX3_readOperand 14 = .ok (.aload_n 0, 1) := by decide +kernel
theorem dX3_readOperand_15 : decode cX3_readOperand 15 = .ok (.invokevirtual 213, 3) := by decide +kernel
theorem dX3_readOperand_18 : decode cX3_readOperand 18 = .ok (.iadd, 1) := by decide +kernel
theorem dX3_readOperand_19 : decode cX3_readOperand 19 = .ok (.ireturn, 1) := by decide +kernel
theorem dX3_readOperand_20 : decode cX3_readOperand 20 = .ok (.iload_n 1, 1) := by decide +kernel
theorem dX3_readOperand_21 : decode cX3_readOperand 21 = .ok (.invokestatic 137, 3) := by decide +kernel
theorem dX3_readOperand_24 : decode cX3_readOperand 24 = .ok (.istore_n 2, 1) := by decide +kernel
theorem dX3_readOperand_25 : decode cX3_readOperand 25 = .ok (.iload_n 2, 1) := by decide +kernel
theorem dX3_readOperand_26 : decode cX3_readOperand 26 = .ok (.iconst (-1), 1) := by decide +kernel
theorem dX3_readOperand_27 : decode cX3_readOperand 27 = .ok (.if_icmp .ne 15, 3) := by decide +kernel
theorem dX3_readOperand_30 : decode cX3_readOperand 30 = .ok (.aload_n 0, 1) := by decide +kernel
theorem dX3_readOperand_31 : decode cX3_readOperand 31 = .ok (.iconst 1, 1) := by decide +kernel
theorem dX3_readOperand_32 : decode cX3_readOperand 32 = .ok (.aload_n 0, 1) := by decide +kernel
theorem dX3_readOperand_33 : decode cX3_readOperand 33 = .ok (.getfield 19, 3) := by decide +kernel
theorem dX3_readOperand_36 : decode cX3_readOperand 36 = .ok (.invokevirtual 101, 3) := by decide +kernel
theorem dX3_readOperand_39 : decode cX3_readOperand 39 = .ok (.goto 13, 3) := by decide +kernel
theorem dX3_readOperand_42 : decode cX3_readOperand 42 = .ok (.aload_n 0, 1) := by decide +kernel
theorem dX3_readOperand_43 : decode cX3_readOperand 43 = .ok (.dup, 1) := by decide +kernel
theorem dX3_readOperand_44 : decode cX3_readOperand 44 = .ok (.getfield 19, 3) := by decide +kernel
theorem dX3_readOperand_47 : decode cX3_readOperand 47 = .ok (.iconst 1, 1) := by decide +kernel
theorem dX3_readOperand_48 : decode cX3_readOperand 48 = .ok (.iadd, 1) := by decide +kernel
theorem dX3_readOperand_49 : decode cX3_readOperand 49 = .ok (.putfield 19, 3) := by decide +kernel
theorem dX3_readOperand_52 : decode cX3_readOperand 52 = .ok (.iload_n 2, 1) := by decide +kernel
theorem dX3_readOperand_53 : decode cX3_readOperand 53 = .ok (.ireturn, 1) := by decide +kernel
theorem dX3_take_0 : decode cX3_take 0 = .ok (.aload_n 0, 1) := by decide +kernel
theorem dX3_take_1 : decode cX3_take 1 = .ok (.invokevirtual 66, 3) := by decide +kernel
theorem dX3_take_4 : decode cX3_take 4 = .ok (.iload_n 1, 1) := by decide +kernel
theorem dX3_take_5 : decode cX3_take 5 = .ok (.if_icmp .ne 16, 3) := by decide +kernel
theorem dX3_take_8 : decode cX3_take 8 = .ok (.aload_n 0, 1) := by decide +kernel
theorem dX3_take_9 : decode cX3_take 9 = .ok (.dup, 1) := by decide +kernel
theorem dX3_take_10 : decode cX3_take 10 = .ok (.getfield 19, 3) := by decide +kernel
theorem dX3_take_13 : decode cX3_take 13 = .ok (.iconst 1, 1) := by decide +kernel
theorem dX3_take_14 : decode cX3_take 14 = .ok (.iadd, 1) := by decide +kernel
theorem dX3_take_15 : decode cX3_take 15 = .ok (.putfield 19, 3) := by decide +kernel
theorem dX3_take_18 : decode cX3_take 18 = .ok (.goto 12, 3) := by decide +kernel
theorem dX3_take_21 : decode cX3_take 21 = .ok (.aload_n 0, 1) := by decide +kernel
theorem dX3_take_22 : decode cX3_take 22 = .ok (.iconst 1, 1) := by decide +kernel
theorem dX3_take_23 : decode cX3_take 23 = .ok (.aload_n 0, 1) := by decide +kernel
theorem dX3_take_24 : decode cX3_take 24 = .ok (.getfield 19, 3) := by decide +kernel
theorem dX3_take_27 : decode cX3_take 27 = .ok (.invokevirtual 101, 3) := by decide +kernel
theorem dX3_take_30 : decode cX3_take 30 = .ok (.return_, 1) := by decide +kernel
theorem dX5_add_0 : decode cX5_add 0 = .ok (.aload_n 0, 1) := by decide +kernel
theorem dX5_add_1 : decode cX5_add 1 = .ok (.getfield 9, 3) := by decide +kernel
theorem dX5_add_4 : decode cX5_add 4 = .ok (.sipush 128, 3) := by decide +kernel
theorem dX5_add_7 : decode cX5_add 7 = .ok (.if_icmp .lt 5, 3) := by decide +kernel
theorem dX5_add_10 : decode cX5_add 10 = .ok (.iconst (-1), 1) := by decide +kernel
theorem dX5_add_11 : decode cX5_add 11 = .ok (.ireturn, 1) := by decide +kernel
theorem dX5_add_12 : decode cX5_add 12 = .ok (.aload_n 0, 1) := by decide +kernel
theorem dX5_add_13 : decode cX5_add 13 = .ok (.getfield 9, 3) := by decide +kernel
theorem dX5_add_16 : decode cX5_add 16 = .ok (.istore_n 2, 1) := by decide +kernel
theorem dX5_add_17 : decode cX5_add 17 = .ok (.aload_n 0, 1) := by decide +kernel
theorem dX5_add_18 : decode cX5_add 18 = .ok (.dup, 1) := by decide +kernel
theorem dX5_add_19 : decode cX5_add 19 = .ok (.getfield 9, 3) := by decide +kernel
theorem dX5_add_22 : decode cX5_add 22 = .ok (.iconst 1, 1) := by decide +kernel
theorem dX5_add_23 : decode cX5_add 23 = .ok (.iadd, 1) := by decide +kernel
theorem dX5_add_24 : decode cX5_add 24 = .ok (.putfield 9, 3) := by decide +kernel
theorem dX5_add_27 : decode cX5_add 27 = .ok (.aload_n 0, 1) := by decide +kernel
theorem dX5_add_28 : decode cX5_add 28 = .ok (.getfield 15, 3) := by decide +kernel
theorem dX5_add_31 : decode cX5_add 31 = .ok (.iload_n 2, 1) := by decide +kernel
theorem dX5_add_32 : decode cX5_add 32 = .ok (.iload_n 1, 1) := by decide +kernel
theorem dX5_add_33 : decode cX5_add 33 = .ok (.iastore, 1) := by decide +kernel
theorem dX5_add_34 : decode cX5_add 34 = .ok (.aload_n 0, 1) := by decide +kernel
theorem dX5_add_35 : decode cX5_add 35 = .ok (.getfield 19, 3) := by decide +kernel
theorem dX5_add_38 : decode cX5_add 38 = .ok (.iload_n 2, 1) := by decide +kernel
theorem dX5_add_39 : decode cX5_add 39 = .ok (.iconst (-1), 1) := by decide +kernel
theorem dX5_add_40 : decode cX5_add 40 = .ok (.iastore, 1) := by decide +kernel
theorem dX5_add_41 : decode cX5_add 41 = .ok (.aload_n 0, 1) := by decide +kernel
theorem dX5_add_42 : decode cX5_add 42 = .ok (.getfield 22, 3) := by decide +kernel
theorem dX5_add_45 : decode cX5_add 45 = .ok (.iload_n 2, 1) := by decide +kernel
theorem dX5_add_46 : decode cX5_add 46 = .ok (.iconst (-1), 1) := by decide +kernel
theorem dX5_add_47 : decode cX5_add 47 = .ok (.iastore, 1) := by decide +kernel
theorem dX5_add_48 : decode cX5_add 48 = .ok (.aload_n 0, 1) := by decide +kernel
theorem dX5_add_49 : decode cX5_add 49 = .ok (.getfield 25, 3) := by decide +kernel
theorem dX5_add_52 : decode cX5_add 52 = .ok (.iload_n 2, 1) := by decide +kernel
theorem dX5_add_53 : decode cX5_add 53 = .ok (.iconst (-1), 1) := by decide +kernel
theorem dX5_add_54 : decode cX5_add 54 = .ok (.iastore, 1) := by decide +kernel
theorem dX5_add_55 : decode cX5_add 55 = .ok (.aload_n 0, 1) := by decide +kernel
theorem dX5_add_56 : decode cX5_add 56 = .ok (.getfield 28, 3) := by decide +kernel
theorem dX5_add_59 : decode cX5_add 59 = .ok (.iload_n 2, 1) := by decide +kernel
theorem dX5_add_60 : decode cX5_add 60 = .ok (.iconst (-1), 1) := by decide +kernel
theorem dX5_add_61 : decode cX5_add 61 = .ok (.iastore, 1) := by decide +kernel
theorem dX5_add_62 : decode cX5_add 62 = .ok (.iload_n 2, 1) := by decide +kernel
theorem dX5_add_63 : decode cX5_add 63 = .ok (.ireturn, 1) := by decide +kernel
theorem dX7_summary_0 : decode cX7_summary 0 = .ok (.aload_n 0, 1) := by decide +kernel
theorem dX7_summary_1 : decode cX7_summary 1 = .ok (.iload_n 1, 1) := by decide +kernel
theorem dX7_summary_2 : decode cX7_summary 2 = .ok (.invokevirtual 87, 3) := by decide +kernel
theorem dX7_summary_5 : decode cX7_summary 5 = .ok (.ifCond .eq 30, 3) := by decide +kernel
theorem dX7_summary_8 : decode cX7_summary 8 = .ok (.aload_n 0, 1) := by decide +kernel
theorem dX7_summary_9 : decode cX7_summary 9 = .ok (.getfield 23, 3) := by decide +kernel
theorem dX7_summary_12 : decode cX7_summary 12 = .ok (.getfield 91, 3) := by decide +kernel
theorem dX7_summary_15 : decode cX7_summary 15 = .ok (.iload_n 1, 1) := by decide +kernel
theorem dX7_summary_16 : decode cX7_summary 16 = .ok (.iaload, 1) := by decide +kernel
theorem dX7_summary_17 : decode cX7_summary 17 = .ok (.iconst 1, 1) := by decide +kernel
theorem dX7_summary_18 : decode cX7_summary 18 = .ok (.if_icmp .ne 17, 3) := by decide +kernel
theorem dX7_summary_21 : decode cX7_summary 21 = .ok (.iload_n 2, 1) := by decide +kernel
theorem dX7_summary_22 : decode cX7_summary 22 = .ok (.invokestatic 133, 3) := by decide +kernel
theorem dX7_summary_25 : decode cX7_summary 25 = .ok (.ifCond .eq 10, 3) := by decide +kernel
theorem dX7_summary_28 : decode cX7_summary 28 = .ok (.iload_n 3, 1) := by decide +kernel
theorem dX7_summary_29 : decode cX7_summary 29 = .ok (.invokestatic 133, 3) := by decide +kernel
theorem dX7_summary_32 : decode cX7_summary 32 = .ok (.ifCond .ne 5, 3) := by decide +kernel
theorem dX7_summary_35 : decode cX7_summary 35 = .ok (.iconst 0, 1) := by decide +kernel
theorem dX7_summary_36 : decode cX7_summary 36 = .ok (.ireturn, 1) := by decide +kernel
theorem dX7_summary_37 : decode cX7_summary 37 = .ok (.aload_n 0, 1) := by decide +kernel
theorem dX7_summary_38 : decode cX7_summary 38 = .ok (.getfield 42, 3) := by decide +kernel
theorem dX7_summary_41 : decode cX7_summary 41 = .ok (.aload_n 0, 1) := by decide +kernel
theorem dX7_summary_42 : decode cX7_summary 42 = .ok (.getfield 23, 3) := by decide +kernel
theorem dX7_summary_45 : decode cX7_summary 45 = .ok (.invokevirtual 113, 3) := by decide +kernel
theorem dX7_summary_48 : decode cX7_summary 48 = .ok (.aload_n 0, 1) := by decide +kernel
theorem dX7_summary_49 : decode cX7_summary 49 = .ok (.getfield 42, 3) := by decide +kernel
theorem dX7_summary_52 : decode cX7_summary 52 = .ok (.aload_n 0, 1) := by decide +kernel
theorem dX7_summary_53 : decode cX7_summary 53 = .ok (.getfield 23, 3) := by decide +kernel
theorem dX7_summary_56 : decode cX7_summary 56 = .ok (.getfield 101, 3) := by decide +kernel
theorem dX7_summary_59 : decode cX7_summary 59 = .ok (.iload_n 1, 1) := by decide +kernel
theorem dX7_summary_60 : decode cX7_summary 60 = .ok (.iaload, 1) := by decide +kernel
theorem dX7_summary_61 : decode cX7_summary 61 = .ok (.iload_n 2, 1) := by decide +kernel
theorem dX7_summary_62 : decode cX7_summary 62 = .ok (.iload_n 3, 1) := by decide +kernel
theorem dX7_summary_63 : decode cX7_summary 63 = .ok (.invokevirtual 136, 3) := by decide +kernel
theorem dX7_summary_66 : decode cX7_summary 66 = .ok (.ireturn, 1) := by decide +kernel
set_option maxHeartbeats 4000000 in
set_option maxRecDepth 100000 in
theorem s_X7_summary (l : Launch) (d : Nat) {P : PP} {h : HP} (hv : Iv P h) (a2 : Int32) (a3 : Int32) (a4 : Int32) : Mt l yX7_summary cX7_summary 4 (some .boolean) (d + 7) [.ref 0, .int a2, .int a3, .int a4] h 0 0 (fun r h' => ∃ v : Int32, r = some (.int v) ∧ 0 ≤ v.toInt ∧ v.toInt ≤ 1 ∧ Iv P h') := by
  refine Mt_iv hv (by decide) (Nat.le_of_ble_eq_true rfl) ?_
  show Go l RX7 cX7_summary 4 (g_rm (d + 7) 0 0) "summary" (some .boolean) 117 0 0 (fun _ _ => True) (fun r h' => ∃ v : Int32, r = some (.int v) ∧ 0 ≤ v.toInt ∧ v.toInt ≤ 1 ∧ Iv P h') 0 0 [(0, .ref 0), (1, .int a2), (2, .int a3), (3, .int a4)] [] h
  have key : ∀ n : Nat, (∀  (h : HP), Iv P h → (1 : Int) < n → Go l RX7 cX7_summary 4 (g_rm (d + 7) 0 0) "summary" (some .boolean) 117 0 0 (fun _ _ => True) (fun r h' => ∃ v : Int32, r = some (.int v) ∧ 0 ≤ v.toInt ∧ v.toInt ≤ 1 ∧ Iv P h') 0 35 [] [] h) := by
    intro n
    induction n with
    | zero => exact (by intros; omega)
    | succ n ih =>
      refine ?_
      ·
        intro h hv hm
        refine go_iconst (pc := 35) (v := 0) (by decide) dX7_summary_35 ?_
        exact gi_zret (pc := 36) (ti_c (v := 0) (a := 0) (by decide)) (by omega) (by omega) ⟨_, rfl, (by rw [show (0 : Int32).toInt = 0 from (ti_c (v := 0) (a := 0) (by decide))]; omega), (by rw [show (0 : Int32).toInt = 0 from (ti_c (v := 0) (a := 0) (by decide))]; omega), hv⟩ hv dX7_summary_36
  refine go_aload_n (pc := 0) rfl dX7_summary_0 ?_
  refine go_iload_n (pc := 1) rfl dX7_summary_1 ?_
  refine go_invV (pc := 2) (sl := 0) (s_X7_isStatement l (d + 5) hv a2) mL_X7_87 iM_X7_isStatement sM_X7_isStatement (hv.sh rfl) rfl rfl rfl (Nat.le_of_ble_eq_true rfl) (show d + 5 + 1 + 1 ≤ d + 7 by omega) (show 8 + (2 + 11) + 40 * (d + 5 + 1) ≤ 40 * (d + 7) by omega) (g_c0 hv.ln) (Nat.le_of_ble_eq_true rfl) dX7_summary_2 ?_
  intro r h1 hq _
  obtain ⟨v2, rfl, v2l, v2u, rfl, f3⟩ := hq
  refine gf_if_eq (pc := 5) (tgt := 35) (ti_rfl v2) (by decide) dX7_summary_5 (fun q4 => ?_) (fun q4 => ?_)
  ·
    exact go_lv rfl ((key 14)  h hv  (by omega))
  ·
    refine go_aload_n (pc := 8) rfl dX7_summary_8 ?_
    refine gi_getC (pc := 9) hv fL_X7_23 rfl (Nat.le_of_ble_eq_true rfl) rfl (by decide) dX7_summary_9 (fun c5 hc5 fc5 => ?_)
    refine gi_getF (pc := 12) (q := c5 + 2) hv fL_X7_91 (by rcases hc5 with rfl | rfl <;> rfl) (Nat.le_of_ble_eq_true rfl) rfl (by rcases hc5 with rfl | rfl <;> exact hv.rf (by decide)) dX7_summary_12 ?_
    refine go_iload_n (pc := 15) rfl dX7_summary_15 ?_
    refine gi_iald (pc := 16) (lo := 0) (hi := 5) (len := 40) hv (ti_rfl a2) (by rcases hc5 with rfl | rfl <;> rfl) (by omega) (by omega) (fun _ => by rcases hc5 with rfl | rfl <;> rfl) dX7_summary_16 (fun v6 v6l v6u v6w => ?_)
    refine go_iconst (pc := 17) (v := 1) (by decide) dX7_summary_17 ?_
    refine gf_icmp_ne (pc := 18) (tgt := 35) (ti_rfl v6) (ti_c (v := 1) (a := 1) (by decide)) (by decide) dX7_summary_18 (fun q7 => ?_) (fun q7 => ?_)
    ·
      exact go_lv rfl ((key 14)  h hv  (by omega))
    ·
      refine go_iload_n (pc := 21) rfl dX7_summary_21 ?_
      refine go_invS (pc := 22) (sl := 0) (s_X7_isPort l (d + 5) hv a3) mL_X7_133 iM_X7_isPort rfl rfl (Nat.le_of_ble_eq_true rfl) (show d + 5 + 1 + 1 ≤ d + 7 by omega) (show 8 + (1 + 11) + 40 * (d + 5 + 1) ≤ 40 * (d + 7) by omega) (g_c0 hv.ln) (Nat.le_of_ble_eq_true rfl) dX7_summary_22 ?_
      intro r h8 hq _
      obtain ⟨v9, rfl, v9l, v9u, rfl, f10⟩ := hq
      refine gf_if_eq (pc := 25) (tgt := 35) (ti_rfl v9) (by decide) dX7_summary_25 (fun q11 => ?_) (fun q11 => ?_)
      ·
        exact go_lv rfl ((key 14)  h hv  (by omega))
      ·
        refine go_iload_n (pc := 28) rfl dX7_summary_28 ?_
        refine go_invS (pc := 29) (sl := 0) (s_X7_isPort l (d + 5) hv a4) mL_X7_133 iM_X7_isPort rfl rfl (Nat.le_of_ble_eq_true rfl) (show d + 5 + 1 + 1 ≤ d + 7 by omega) (show 8 + (1 + 11) + 40 * (d + 5 + 1) ≤ 40 * (d + 7) by omega) (g_c0 hv.ln) (Nat.le_of_ble_eq_true rfl) dX7_summary_29 ?_
        intro r h12 hq _
        obtain ⟨v13, rfl, v13l, v13u, rfl, f14⟩ := hq
        refine gf_if_ne (pc := 32) (tgt := 37) (ti_rfl v13) (by decide) dX7_summary_32 (fun q15 => ?_) (fun q15 => ?_)
        ·
          refine go_aload_n (pc := 37) rfl dX7_summary_37 ?_
          refine gi_getF (pc := 38) (q := 49) hv fL_X7_42 rfl (Nat.le_of_ble_eq_true rfl) rfl (hv.rf (by decide)) dX7_summary_38 ?_
          refine go_aload_n (pc := 41) rfl dX7_summary_41 ?_
          refine gi_getC (pc := 42) hv fL_X7_23 rfl (Nat.le_of_ble_eq_true rfl) rfl (by decide) dX7_summary_42 (fun c16 hc16 fc16 => ?_)
          refine go_invV (pc := 45) (sl := 0) (s_X4_prepare l (d + 0) hv c16 hc16) mL_X7_113 iM_X4_prepare sM_X4_prepare (hv.sh rfl) rfl rfl rfl (Nat.le_of_ble_eq_true rfl) (show d + 0 + 6 + 1 ≤ d + 7 by omega) (show 8 + (4 + 11) + 40 * (d + 0 + 6) ≤ 40 * (d + 7) by omega) (g_c0 hv.ln) (Nat.le_of_ble_eq_true rfl) dX7_summary_45 ?_
          intro r h17 hq _
          obtain ⟨rfl, hv17⟩ := hq
          refine go_aload_n (pc := 48) rfl dX7_summary_48 ?_
          refine gi_getF (pc := 49) (q := 49) hv17 fL_X7_42 rfl (Nat.le_of_ble_eq_true rfl) rfl (hv17.rf (by decide)) dX7_summary_49 ?_
          refine go_aload_n (pc := 52) rfl dX7_summary_52 ?_
          refine gi_getC (pc := 53) hv17 fL_X7_23 rfl (Nat.le_of_ble_eq_true rfl) rfl (by decide) dX7_summary_53 (fun c18 hc18 fc18 => ?_)
          refine gi_getF (pc := 56) (q := c18 + 7) hv17 fL_X7_101 (by rcases hc18 with rfl | rfl <;> rfl) (Nat.le_of_ble_eq_true rfl) rfl (by rcases hc18 with rfl | rfl <;> exact hv17.rf (by decide)) dX7_summary_56 ?_
          refine go_iload_n (pc := 59) rfl dX7_summary_59 ?_
          refine gi_iald (pc := 60) (lo := -2) (hi := 4) (len := 40) hv17 (ti_rfl a2) (by rcases hc18 with rfl | rfl <;> rfl) (by omega) (by omega) (fun _ => by rcases hc18 with rfl | rfl <;> rfl) dX7_summary_60 (fun v19 v19l v19u v19w => ?_)
          have kk : 0 ≤ v19.toInt := by rw [v19w]; exact hv.sum hv17 fc5 fc18 hc18 (by rw [← v6w]; omega)
          refine go_iload_n (pc := 61) rfl dX7_summary_61 ?_
          refine go_iload_n (pc := 62) rfl dX7_summary_62 ?_
          refine go_invV (pc := 63) (sl := 0) (s_X4_leadsThrough l (d + 4) hv17 v19 (by rw [show (v19 : Int32).toInt = v19.toInt from (ti_rfl v19)]; omega) (by rw [show (v19 : Int32).toInt = v19.toInt from (ti_rfl v19)]; omega) a3 a4 (by rw [show (a4 : Int32).toInt = a4.toInt from (ti_rfl a4)]; omega) (by rw [show (a4 : Int32).toInt = a4.toInt from (ti_rfl a4)]; omega)) mL_X7_136 iM_X4_leadsThrough sM_X4_leadsThrough (hv17.sh rfl) rfl rfl rfl (Nat.le_of_ble_eq_true rfl) (show d + 4 + 2 + 1 ≤ d + 7 by omega) (show 8 + (4 + 11) + 40 * (d + 4 + 2) ≤ 40 * (d + 7) by omega) (g_c0 hv17.ln) (Nat.le_of_ble_eq_true rfl) dX7_summary_63 ?_
          intro r h20 hq _
          obtain ⟨v21, rfl, v21l, v21u, rfl⟩ := hq
          exact gi_zret (pc := 66) (ti_rfl v21) (by omega) (by omega) ⟨_, rfl, (by rw [show (v21 : Int32).toInt = v21.toInt from (ti_rfl v21)]; omega), (by rw [show (v21 : Int32).toInt = v21.toInt from (ti_rfl v21)]; omega), hv17⟩ hv17 dX7_summary_66
        ·
          exact go_lv rfl ((key 14)  h hv  (by omega))
set_option maxHeartbeats 4000000 in
set_option maxRecDepth 100000 in
theorem s_X3_isDigit (l : Launch) (d : Nat) {P : PP} {h : HP} (hv : Iv P h) (a1 : Int32) : Mt l yX3_isDigit cX3_isDigit 1 (some .boolean) (d + 1) [.int a1] h 0 0 (fun r h' => ∃ v : Int32, r = some (.int v) ∧ 0 ≤ v.toInt ∧ v.toInt ≤ 1 ∧ h = h') := by
  refine Mt_iv hv (by decide) (Nat.le_of_ble_eq_true rfl) ?_
  show Go l RX3 cX3_isDigit 1 (g_rm (d + 1) 0 0) "isDigit" (some .boolean) 117 0 0 (fun _ _ => True) (fun r h' => ∃ v : Int32, r = some (.int v) ∧ 0 ≤ v.toInt ∧ v.toInt ≤ 1 ∧ h = h') 0 0 [(0, .int a1)] [] h
  have key : ∀ n : Nat, (∀ (_ : Unit), (2 : Int) < n → Go l RX3 cX3_isDigit 1 (g_rm (d + 1) 0 0) "isDigit" (some .boolean) 117 0 0 (fun _ _ => True) (fun r h' => ∃ v : Int32, r = some (.int v) ∧ 0 ≤ v.toInt ∧ v.toInt ≤ 1 ∧ h = h') 0 16 [] [] h) ∧ (∀ (s0 : Int32), 0 ≤ s0.toInt → s0.toInt ≤ 1 → (1 : Int) < n → Go l RX3 cX3_isDigit 1 (g_rm (d + 1) 0 0) "isDigit" (some .boolean) 117 0 0 (fun _ _ => True) (fun r h' => ∃ v : Int32, r = some (.int v) ∧ 0 ≤ v.toInt ∧ v.toInt ≤ 1 ∧ h = h') 0 17 [] [.int s0] h) := by
    intro n
    induction n with
    | zero => exact ⟨(by intros; omega), (by intros; omega)⟩
    | succ n ih =>
      refine ⟨?_, ?_⟩
      ·
        intro _ hm
        refine go_iconst (pc := 16) (v := 0) (by decide) dX3_isDigit_16 ?_
        have z1 : (0 : Int32).toInt = 0 := (ti_c (v := 0) (a := 0) (by decide))
        exact go_lv rfl (ih.2 0  (by omega) (by omega) (by omega))
      ·
        intro s0 s0l s0u hm
        exact gi_zret (pc := 17) (ti_rfl s0) (by omega) (by omega) ⟨_, rfl, (by rw [show (s0 : Int32).toInt = s0.toInt from (ti_rfl s0)]; omega), (by rw [show (s0 : Int32).toInt = s0.toInt from (ti_rfl s0)]; omega), rfl⟩ hv dX3_isDigit_17
  refine go_iload_n (pc := 0) rfl dX3_isDigit_0 ?_
  refine go_bipush (pc := 1) (v := 48) (by decide) dX3_isDigit_1 ?_
  refine gf_icmp_lt (pc := 3) (tgt := 16) (ti_rfl a1) (ti_c (v := 48) (a := 48) (by decide)) (by decide) dX3_isDigit_3 (fun q2 => ?_) (fun q2 => ?_)
  ·
    exact go_lv rfl ((key 15).1 ()   (by omega))
  ·
    refine go_iload_n (pc := 6) rfl dX3_isDigit_6 ?_
    refine go_bipush (pc := 7) (v := 57) (by decide) dX3_isDigit_7 ?_
    refine gf_icmp_gt (pc := 9) (tgt := 16) (ti_rfl a1) (ti_c (v := 57) (a := 57) (by decide)) (by decide) dX3_isDigit_9 (fun q3 => ?_) (fun q3 => ?_)
    ·
      exact go_lv rfl ((key 15).1 ()   (by omega))
    ·
      refine go_iconst (pc := 12) (v := 1) (by decide) dX3_isDigit_12 ?_
      refine go_goto (pc := 13) (tgt := 17) (by decide) dX3_isDigit_13 ?_
      have z4 : (1 : Int32).toInt = 1 := (ti_c (v := 1) (a := 1) (by decide))
      exact go_lv rfl ((key 15).2 1  (by omega) (by omega) (by omega))
set_option maxHeartbeats 4000000 in
set_option maxRecDepth 100000 in
theorem s_X3_nameOf (l : Launch) (d : Nat) {P : PP} {h : HP} (hv : Iv P h) (a1 : Int32) : Mt l yX3_nameOf cX3_nameOf 1 (some .int) (d + 1) [.int a1] h 0 0 (fun r h' => ∃ v : Int32, r = some (.int v) ∧ -1 ≤ v.toInt ∧ v.toInt ≤ 9 ∧ h = h' ∧ (0 ≤ v.toInt → 0 ≤ a1.toInt ∧ a1.toInt ≤ 255)) := by
  refine Mt_iv hv (by decide) (Nat.le_of_ble_eq_true rfl) ?_
  show Go l RX3 cX3_nameOf 1 (g_rm (d + 1) 0 0) "nameOf" (some .int) 117 0 0 (fun _ _ => True) (fun r h' => ∃ v : Int32, r = some (.int v) ∧ -1 ≤ v.toInt ∧ v.toInt ≤ 9 ∧ h = h' ∧ (0 ≤ v.toInt → 0 ≤ a1.toInt ∧ a1.toInt ≤ 255)) 0 0 [(0, .int a1)] [] h
  refine go_iload_n (pc := 0) rfl dX3_nameOf_0 ?_
  refine go_bipush (pc := 1) (v := 97) (by decide) dX3_nameOf_1 ?_
  refine gf_icmp_lt (pc := 3) (tgt := 17) (ti_rfl a1) (ti_c (v := 97) (a := 97) (by decide)) (by decide) dX3_nameOf_3 (fun q1 => ?_) (fun q1 => ?_)
  ·
    refine go_iload_n (pc := 17) rfl dX3_nameOf_17 ?_
    refine go_bipush (pc := 18) (v := 119) (by decide) dX3_nameOf_18 ?_
    refine gf_icmp_lt (pc := 20) (tgt := 39) (ti_rfl a1) (ti_c (v := 119) (a := 119) (by decide)) (by decide) dX3_nameOf_20 (fun q2 => ?_) (fun q2 => False.elim (by omega))
    refine go_iconst (pc := 39) (v := (-1)) (by decide) dX3_nameOf_39 ?_
    exact gi_iret (pc := 40) (ti_c (v := (-1)) (a := (-1)) (by decide)) ⟨_, rfl, (by rw [show ((-1) : Int32).toInt = (-1) from (ti_c (v := (-1)) (a := (-1)) (by decide))]; omega), (by rw [show ((-1) : Int32).toInt = (-1) from (ti_c (v := (-1)) (a := (-1)) (by decide))]; omega), rfl, (by rw [show ((-1) : Int32).toInt = (-1) from (ti_c (v := (-1)) (a := (-1)) (by decide))]; omega)⟩ hv dX3_nameOf_40
  ·
    refine go_iload_n (pc := 6) rfl dX3_nameOf_6 ?_
    refine go_bipush (pc := 7) (v := 102) (by decide) dX3_nameOf_7 ?_
    refine gf_icmp_gt (pc := 9) (tgt := 17) (ti_rfl a1) (ti_c (v := 102) (a := 102) (by decide)) (by decide) dX3_nameOf_9 (fun q3 => ?_) (fun q3 => ?_)
    ·
      refine go_iload_n (pc := 17) rfl dX3_nameOf_17 ?_
      refine go_bipush (pc := 18) (v := 119) (by decide) dX3_nameOf_18 ?_
      refine gf_icmp_lt (pc := 20) (tgt := 39) (ti_rfl a1) (ti_c (v := 119) (a := 119) (by decide)) (by decide) dX3_nameOf_20 (fun q4 => ?_) (fun q4 => ?_)
      ·
        refine go_iconst (pc := 39) (v := (-1)) (by decide) dX3_nameOf_39 ?_
        exact gi_iret (pc := 40) (ti_c (v := (-1)) (a := (-1)) (by decide)) ⟨_, rfl, (by rw [show ((-1) : Int32).toInt = (-1) from (ti_c (v := (-1)) (a := (-1)) (by decide))]; omega), (by rw [show ((-1) : Int32).toInt = (-1) from (ti_c (v := (-1)) (a := (-1)) (by decide))]; omega), rfl, (by rw [show ((-1) : Int32).toInt = (-1) from (ti_c (v := (-1)) (a := (-1)) (by decide))]; omega)⟩ hv dX3_nameOf_40
      ·
        refine go_iload_n (pc := 23) rfl dX3_nameOf_23 ?_
        refine go_bipush (pc := 24) (v := 122) (by decide) dX3_nameOf_24 ?_
        refine gf_icmp_gt (pc := 26) (tgt := 39) (ti_rfl a1) (ti_c (v := 122) (a := 122) (by decide)) (by decide) dX3_nameOf_26 (fun q5 => ?_) (fun q5 => ?_)
        ·
          refine go_iconst (pc := 39) (v := (-1)) (by decide) dX3_nameOf_39 ?_
          exact gi_iret (pc := 40) (ti_c (v := (-1)) (a := (-1)) (by decide)) ⟨_, rfl, (by rw [show ((-1) : Int32).toInt = (-1) from (ti_c (v := (-1)) (a := (-1)) (by decide))]; omega), (by rw [show ((-1) : Int32).toInt = (-1) from (ti_c (v := (-1)) (a := (-1)) (by decide))]; omega), rfl, (by rw [show ((-1) : Int32).toInt = (-1) from (ti_c (v := (-1)) (a := (-1)) (by decide))]; omega)⟩ hv dX3_nameOf_40
        ·
          refine go_bipush (pc := 29) (v := 6) (by decide) dX3_nameOf_29 ?_
          refine go_iload_n (pc := 31) rfl dX3_nameOf_31 ?_
          refine gf_iadd (pc := 32) (ti_c (v := 6) (a := 6) (by decide)) (ti_rfl a1) (by omega) (by omega) dX3_nameOf_32 (fun v6 e7 => ?_)
          refine go_bipush (pc := 33) (v := 119) (by decide) dX3_nameOf_33 ?_
          refine gf_isub (pc := 35) e7 (ti_c (v := 119) (a := 119) (by decide)) (by omega) (by omega) dX3_nameOf_35 (fun v8 e9 => ?_)
          refine go_goto (pc := 36) (tgt := 40) (by decide) dX3_nameOf_36 ?_
          exact gi_iret (pc := 40) e9 ⟨_, rfl, (by rw [show (v8 : Int32).toInt = ((6 + a1.toInt) - 119) from e9]; omega), (by rw [show (v8 : Int32).toInt = ((6 + a1.toInt) - 119) from e9]; omega), rfl, (by rw [show (v8 : Int32).toInt = ((6 + a1.toInt) - 119) from e9]; omega)⟩ hv dX3_nameOf_40
    ·
      refine go_iload_n (pc := 12) rfl dX3_nameOf_12 ?_
      refine go_bipush (pc := 13) (v := 97) (by decide) dX3_nameOf_13 ?_
      refine gf_isub (pc := 15) (ti_rfl a1) (ti_c (v := 97) (a := 97) (by decide)) (by omega) (by omega) dX3_nameOf_15 (fun v10 e11 => ?_)
      exact gi_iret (pc := 16) e11 ⟨_, rfl, (by rw [show (v10 : Int32).toInt = (a1.toInt - 97) from e11]; omega), (by rw [show (v10 : Int32).toInt = (a1.toInt - 97) from e11]; omega), rfl, (by rw [show (v10 : Int32).toInt = (a1.toInt - 97) from e11]; omega)⟩ hv dX3_nameOf_16
set_option maxHeartbeats 4000000 in
set_option maxRecDepth 100000 in
theorem s_X3_kindBegunBy (l : Launch) (d : Nat) {P : PP} {h : HP} (hv : Iv P h) (a1 : Int32) : Mt l yX3_kindBegunBy cX3_kindBegunBy 1 (some .int) (d + 2) [.int a1] h 0 0 (fun r h' => ∃ v : Int32, r = some (.int v) ∧ -1 ≤ v.toInt ∧ v.toInt ≤ 5 ∧ h = h' ∧ (0 ≤ v.toInt → 0 ≤ a1.toInt ∧ a1.toInt ≤ 255) ∧ (¬ v.toInt = 1)) := by
  refine Mt_iv hv (by decide) (Nat.le_of_ble_eq_true rfl) ?_
  show Go l RX3 cX3_kindBegunBy 1 (g_rm (d + 2) 0 0) "kindBegunBy" (some .int) 117 0 0 (fun _ _ => True) (fun r h' => ∃ v : Int32, r = some (.int v) ∧ -1 ≤ v.toInt ∧ v.toInt ≤ 5 ∧ h = h' ∧ (0 ≤ v.toInt → 0 ≤ a1.toInt ∧ a1.toInt ≤ 255) ∧ (¬ v.toInt = 1)) 0 0 [(0, .int a1)] [] h
  refine go_iload_n (pc := 0) rfl dX3_kindBegunBy_0 ?_
  by_cases q1 : a1.toInt = 33
  ·
    refine go_lookup (pc := 1) (tgt := 48) (off := 47) (by decide) (by rw [show (a1 : Int32).toInt = a1.toInt from (ti_rfl a1), q1]; decide) (by decide) dX3_kindBegunBy_1 ?_
    refine go_iconst (pc := 48) (v := 4) (by decide) dX3_kindBegunBy_48 ?_
    exact gi_iret (pc := 49) (ti_c (v := 4) (a := 4) (by decide)) ⟨_, rfl, (by rw [show (4 : Int32).toInt = 4 from (ti_c (v := 4) (a := 4) (by decide))]; omega), (by rw [show (4 : Int32).toInt = 4 from (ti_c (v := 4) (a := 4) (by decide))]; omega), rfl, (by rw [show (4 : Int32).toInt = 4 from (ti_c (v := 4) (a := 4) (by decide))]; omega), (by rw [show (4 : Int32).toInt = 4 from (ti_c (v := 4) (a := 4) (by decide))]; omega)⟩ hv dX3_kindBegunBy_49
  by_cases q2 : a1.toInt = 63
  ·
    refine go_lookup (pc := 1) (tgt := 44) (off := 43) (by decide) (by rw [show (a1 : Int32).toInt = a1.toInt from (ti_rfl a1), q2]; decide) (by decide) dX3_kindBegunBy_1 ?_
    refine go_iconst (pc := 44) (v := 2) (by decide) dX3_kindBegunBy_44 ?_
    exact gi_iret (pc := 45) (ti_c (v := 2) (a := 2) (by decide)) ⟨_, rfl, (by rw [show (2 : Int32).toInt = 2 from (ti_c (v := 2) (a := 2) (by decide))]; omega), (by rw [show (2 : Int32).toInt = 2 from (ti_c (v := 2) (a := 2) (by decide))]; omega), rfl, (by rw [show (2 : Int32).toInt = 2 from (ti_c (v := 2) (a := 2) (by decide))]; omega), (by rw [show (2 : Int32).toInt = 2 from (ti_c (v := 2) (a := 2) (by decide))]; omega)⟩ hv dX3_kindBegunBy_45
  by_cases q3 : a1.toInt = 64
  ·
    refine go_lookup (pc := 1) (tgt := 46) (off := 45) (by decide) (by rw [show (a1 : Int32).toInt = a1.toInt from (ti_rfl a1), q3]; decide) (by decide) dX3_kindBegunBy_1 ?_
    refine go_iconst (pc := 46) (v := 3) (by decide) dX3_kindBegunBy_46 ?_
    exact gi_iret (pc := 47) (ti_c (v := 3) (a := 3) (by decide)) ⟨_, rfl, (by rw [show (3 : Int32).toInt = 3 from (ti_c (v := 3) (a := 3) (by decide))]; omega), (by rw [show (3 : Int32).toInt = 3 from (ti_c (v := 3) (a := 3) (by decide))]; omega), rfl, (by rw [show (3 : Int32).toInt = 3 from (ti_c (v := 3) (a := 3) (by decide))]; omega), (by rw [show (3 : Int32).toInt = 3 from (ti_c (v := 3) (a := 3) (by decide))]; omega)⟩ hv dX3_kindBegunBy_47
  by_cases q4 : a1.toInt = 94
  ·
    refine go_lookup (pc := 1) (tgt := 50) (off := 49) (by decide) (by rw [show (a1 : Int32).toInt = a1.toInt from (ti_rfl a1), q4]; decide) (by decide) dX3_kindBegunBy_1 ?_
    refine go_iconst (pc := 50) (v := 5) (by decide) dX3_kindBegunBy_50 ?_
    exact gi_iret (pc := 51) (ti_c (v := 5) (a := 5) (by decide)) ⟨_, rfl, (by rw [show (5 : Int32).toInt = 5 from (ti_c (v := 5) (a := 5) (by decide))]; omega), (by rw [show (5 : Int32).toInt = 5 from (ti_c (v := 5) (a := 5) (by decide))]; omega), rfl, (by rw [show (5 : Int32).toInt = 5 from (ti_c (v := 5) (a := 5) (by decide))]; omega), (by rw [show (5 : Int32).toInt = 5 from (ti_c (v := 5) (a := 5) (by decide))]; omega)⟩ hv dX3_kindBegunBy_51
  refine go_lookup (pc := 1) (tgt := 52) (off := 51) (by decide) (by rw [show (a1 : Int32).toInt = a1.toInt from (ti_rfl a1)]; simp [Op.lookupswitch.offset]; (repeat rw [if_neg (by omega)])) (by decide) dX3_kindBegunBy_1 ?_
  refine go_iload_n (pc := 52) rfl dX3_kindBegunBy_52 ?_
  refine go_invS (pc := 53) (sl := 0) (s_X3_nameOf l (d + 0) hv a1) mL_X3_137 iM_X3_nameOf rfl rfl (Nat.le_of_ble_eq_true rfl) (show d + 0 + 1 + 1 ≤ d + 2 by omega) (show 8 + (1 + 11) + 40 * (d + 0 + 1) ≤ 40 * (d + 2) by omega) (g_c0 hv.ln) (Nat.le_of_ble_eq_true rfl) dX3_kindBegunBy_53 ?_
  intro r h5 hq _
  obtain ⟨v7, rfl, v7l, v7u, rfl, f6⟩ := hq
  refine go_iconst (pc := 56) (v := (-1)) (by decide) dX3_kindBegunBy_56 ?_
  refine gf_icmp_ne (pc := 57) (tgt := 64) (ti_rfl v7) (ti_c (v := (-1)) (a := (-1)) (by decide)) (by decide) dX3_kindBegunBy_57 (fun q8 => ?_) (fun q8 => ?_)
  ·
    refine go_iconst (pc := 64) (v := 0) (by decide) dX3_kindBegunBy_64 ?_
    exact gi_iret (pc := 65) (ti_c (v := 0) (a := 0) (by decide)) ⟨_, rfl, (by rw [show (0 : Int32).toInt = 0 from (ti_c (v := 0) (a := 0) (by decide))]; omega), (by rw [show (0 : Int32).toInt = 0 from (ti_c (v := 0) (a := 0) (by decide))]; omega), rfl, (by rw [show (0 : Int32).toInt = 0 from (ti_c (v := 0) (a := 0) (by decide))]; omega), (by rw [show (0 : Int32).toInt = 0 from (ti_c (v := 0) (a := 0) (by decide))]; omega)⟩ hv dX3_kindBegunBy_65
  ·
    refine go_iconst (pc := 60) (v := (-1)) (by decide) dX3_kindBegunBy_60 ?_
    refine go_goto (pc := 61) (tgt := 65) (by decide) dX3_kindBegunBy_61 ?_
    exact gi_iret (pc := 65) (ti_c (v := (-1)) (a := (-1)) (by decide)) ⟨_, rfl, (by rw [show ((-1) : Int32).toInt = (-1) from (ti_c (v := (-1)) (a := (-1)) (by decide))]; omega), (by rw [show ((-1) : Int32).toInt = (-1) from (ti_c (v := (-1)) (a := (-1)) (by decide))]; omega), rfl, (by rw [show ((-1) : Int32).toInt = (-1) from (ti_c (v := (-1)) (a := (-1)) (by decide))]; omega), (by rw [show ((-1) : Int32).toInt = (-1) from (ti_c (v := (-1)) (a := (-1)) (by decide))]; omega)⟩ hv dX3_kindBegunBy_65
set_option maxHeartbeats 4000000 in
set_option maxRecDepth 100000 in
theorem s_X3_blame (l : Launch) (d : Nat) {P : PP} {h : HP} (hv : Iv P h) (a2 : Int32) (a3 : Int32) : Mt l yX3_blame cX3_blame 3 none (d + 1) [.ref 34, .int a2, .int a3] h 0 0 (fun r h' => r = none ∧ Iv P h') := by
  refine Mt_iv hv (by decide) (Nat.le_of_ble_eq_true rfl) ?_
  show Go l RX3 cX3_blame 3 (g_rm (d + 1) 0 0) "blame" none 117 0 0 (fun _ _ => True) (fun r h' => r = none ∧ Iv P h') 0 0 [(0, .ref 34), (1, .int a2), (2, .int a3)] [] h
  have key : ∀ n : Nat, (∀  (h : HP), Iv P h → (1 : Int) < n → Go l RX3 cX3_blame 3 (g_rm (d + 1) 0 0) "blame" none 117 0 0 (fun _ _ => True) (fun r h' => r = none ∧ Iv P h') 0 17 [] [] h) := by
    intro n
    induction n with
    | zero => exact (by intros; omega)
    | succ n ih =>
      refine ?_
      ·
        intro h hv hm
        exact gi_vret (pc := 17) ⟨rfl, hv⟩ hv dX3_blame_17
  refine go_aload_n (pc := 0) rfl dX3_blame_0 ?_
  refine gi_get (pc := 1) (lo := -2147483648) (hi := 2147483647) hv fL_X3_22 rfl (Nat.le_of_ble_eq_true rfl) rfl rfl dX3_blame_1 (fun v1 v1l v1u v1w => ?_)
  refine gf_if_ne (pc := 4) (tgt := 17) (ti_rfl v1) (by decide) dX3_blame_4 (fun q2 => ?_) (fun q2 => ?_)
  ·
    exact go_lv rfl ((key 14)  h hv  (by omega))
  ·
    refine go_aload_n (pc := 7) rfl dX3_blame_7 ?_
    refine go_iload_n (pc := 8) rfl dX3_blame_8 ?_
    refine go_bipush (pc := 9) (v := 8) (by decide) dX3_blame_9 ?_
    refine go_iload_n (pc := 11) rfl dX3_blame_11 ?_
    refine gu_imul (pc := 12) dX3_blame_12 (fun v3 => ?_)
    refine gu_iadd (pc := 13) dX3_blame_13 (fun v4 => ?_)
    refine gi_put (pc := 14) (lo := -2147483648) (hi := 2147483647) hv (ti_rfl v4) (fP_X3_22 _) rfl (Nat.le_of_ble_eq_true rfl) rfl rfl (ti_ge (ti_rfl v4)) (ti_le2 (ti_rfl v4)) rfl rfl (by decide) (by decide) (by decide) (by decide) dX3_blame_14 (fun h5 hv5 hv5e => ?_)
    exact go_lv rfl ((key 14)  h5 hv5  (by omega))
set_option maxHeartbeats 4000000 in
set_option maxRecDepth 100000 in
theorem s_X3_look (l : Launch) (d : Nat) {P : PP} {h : HP} (hv : Iv P h)  : Mt l yX3_look cX3_look 1 (some .int) (d + 1) [.ref 34] h 0 0 (fun r h' => ∃ v : Int32, r = some (.int v) ∧ -1 ≤ v.toInt ∧ v.toInt ≤ 255 ∧ Iv P h' ∧ (0 ≤ v.toInt → (h'.2.1 34 2).toInt ≤ 499)) := by
  refine Mt_iv hv (by decide) (Nat.le_of_ble_eq_true rfl) ?_
  show Go l RX3 cX3_look 1 (g_rm (d + 1) 0 0) "look" (some .int) 117 0 0 (fun _ _ => True) (fun r h' => ∃ v : Int32, r = some (.int v) ∧ -1 ≤ v.toInt ∧ v.toInt ≤ 255 ∧ Iv P h' ∧ (0 ≤ v.toInt → (h'.2.1 34 2).toInt ≤ 499)) 0 0 [(0, .ref 34)] [] h
  have key : ∀ n : Nat, (∀  (h : HP), Iv P h → ((h.2.1 34 2).toInt ≤ 499) → (0 : Int) ≤ (h.2.1 34 1).toInt → (h.2.1 34 1).toInt ≤ 500 → (0 : Int) ≤ (h.2.1 34 2).toInt → (h.2.1 34 2).toInt ≤ 500 → (3 * (500 - (h.2.1 34 2).toInt) + 4 : Int) < n → Go l RX3 cX3_look 1 (g_rm (d + 1) 0 0) "look" (some .int) 117 0 0 (fun _ _ => True) (fun r h' => ∃ v : Int32, r = some (.int v) ∧ -1 ≤ v.toInt ∧ v.toInt ≤ 255 ∧ Iv P h' ∧ (0 ≤ v.toInt → (h'.2.1 34 2).toInt ≤ 499)) 0 39 [(0, .ref 34)] [] h) ∧ (∀  (h : HP), Iv P h → (0 : Int) ≤ (h.2.1 34 1).toInt → (h.2.1 34 1).toInt ≤ 500 → (0 : Int) ≤ (h.2.1 34 2).toInt → (h.2.1 34 2).toInt ≤ 500 → (2 : Int) < n → Go l RX3 cX3_look 1 (g_rm (d + 1) 0 0) "look" (some .int) 117 0 0 (fun _ _ => True) (fun r h' => ∃ v : Int32, r = some (.int v) ∧ -1 ≤ v.toInt ∧ v.toInt ≤ 255 ∧ Iv P h' ∧ (0 ≤ v.toInt → (h'.2.1 34 2).toInt ≤ 499)) 0 52 [(0, .ref 34)] [] h) ∧ (∀ (s0 : Int32) (h : HP), Iv P h → -1 ≤ s0.toInt → s0.toInt ≤ 255 → (0 ≤ s0.toInt → (h.2.1 34 2).toInt ≤ 499) → (0 : Int) ≤ (h.2.1 34 1).toInt → (h.2.1 34 1).toInt ≤ 500 → (0 : Int) ≤ (h.2.1 34 2).toInt → (h.2.1 34 2).toInt ≤ 500 → (1 : Int) < n → Go l RX3 cX3_look 1 (g_rm (d + 1) 0 0) "look" (some .int) 117 0 0 (fun _ _ => True) (fun r h' => ∃ v : Int32, r = some (.int v) ∧ -1 ≤ v.toInt ∧ v.toInt ≤ 255 ∧ Iv P h' ∧ (0 ≤ v.toInt → (h'.2.1 34 2).toInt ≤ 499)) 0 80 [] [.int s0] h) := by
    intro n
    induction n with
    | zero => exact ⟨(by intros; omega), (by intros; omega), (by intros; omega)⟩
    | succ n ih =>
      refine ⟨?_, ?_, ?_⟩
      ·
        intro h hv x0 y0l y0u y1l y1u hm
        refine go_aload_n (pc := 39) rfl dX3_look_39 ?_
        refine go_dup (pc := 40) rfl dX3_look_40 ?_
        refine gi_get (pc := 41) (lo := 0) (hi := 500) hv fL_X3_19 rfl (Nat.le_of_ble_eq_true rfl) rfl rfl dX3_look_41 (fun v1 v1l v1u v1w => ?_)
        have g2 : (h.2.1 34 2).toInt = v1.toInt := by rw [v1w]
        refine go_iconst (pc := 44) (v := 1) (by decide) dX3_look_44 ?_
        refine gf_iadd (pc := 45) (ti_rfl v1) (ti_c (v := 1) (a := 1) (by decide)) (by omega) (by omega) dX3_look_45 (fun v3 e4 => ?_)
        refine gi_put (pc := 46) (lo := 0) (hi := 500) hv e4 (fP_X3_19 _) rfl (Nat.le_of_ble_eq_true rfl) rfl rfl (by omega) (by omega) rfl rfl (by decide) (by decide) (by decide) (by decide) dX3_look_46 (fun h5 hv5 hv5e => ?_)
        refine go_goto (pc := 49) (tgt := 0) (by decide) dX3_look_49 ?_
        refine go_aload_n (pc := 0) rfl dX3_look_0 ?_
        refine gi_get (pc := 1) (lo := 0) (hi := 500) hv5 fL_X3_19 rfl (Nat.le_of_ble_eq_true rfl) rfl rfl dX3_look_1 (fun v6 v6l v6u v6w => ?_)
        have v6r : v3 = h5.2.1 34 2 := (show v3 = h5.2.1 34 2 from by rw [hv5e]; exact g_iS.symm)
        have v6q : TI v6 ((v1.toInt + 1)) := by rw [v6w.trans v6r.symm]; exact e4
        refine go_aload_n (pc := 4) rfl dX3_look_4 ?_
        refine gi_get (pc := 5) (lo := 0) (hi := 500) hv5 fL_X3_15 rfl (Nat.le_of_ble_eq_true rfl) rfl rfl dX3_look_5 (fun v7 v7l v7u v7w => ?_)
        have g8 : (h5.2.1 34 1).toInt = v7.toInt := by rw [v7w]
        refine gf_icmp_ge (pc := 8) (tgt := 52) v6q (ti_rfl v7) (by decide) dX3_look_8 (fun q9 => ?_) (fun q9 => ?_)
        ·
          have g10 : (0 : Int) ≤ (h5.2.1 34 1).toInt := (hv5.2.1 34 1).1
          have g11 : (h5.2.1 34 1).toInt ≤ 500 := (hv5.2.1 34 1).2
          have g12 : (0 : Int) ≤ (h5.2.1 34 2).toInt := (hv5.2.1 34 2).1
          have g13 : (h5.2.1 34 2).toInt ≤ 500 := (hv5.2.1 34 2).2
          have g14 : (h5.2.1 34 2).toInt = (v1.toInt + 1) := by rw [← (show v3 = h5.2.1 34 2 from (show v3 = h5.2.1 34 2 from by rw [hv5e]; exact g_iS.symm))] <;> exact e4
          have g15 : (h5.2.1 34 1).toInt = v7.toInt := by rw [← (show v7 = h5.2.1 34 1 from v7w)] <;> exact (ti_rfl v7)
          exact go_lv rfl (ih.2.1  h5 hv5 (by omega) (by omega) (by omega) (by omega) (by omega))
        ·
          refine go_aload_n (pc := 11) rfl dX3_look_11 ?_
          have g16 : (0 : Int) ≤ (h5.2.1 34 1).toInt := (hv5.2.1 34 1).1
          have g17 : (h5.2.1 34 1).toInt ≤ 500 := (hv5.2.1 34 1).2
          have g18 : (0 : Int) ≤ (h5.2.1 34 2).toInt := (hv5.2.1 34 2).1
          have g19 : (h5.2.1 34 2).toInt ≤ 500 := (hv5.2.1 34 2).2
          have g20 : (h5.2.1 34 2).toInt = (v1.toInt + 1) := by rw [← (show v3 = h5.2.1 34 2 from (show v3 = h5.2.1 34 2 from by rw [hv5e]; exact g_iS.symm))] <;> exact e4
          have g21 : (h5.2.1 34 1).toInt = v7.toInt := by rw [← (show v7 = h5.2.1 34 1 from v7w)] <;> exact (ti_rfl v7)
          refine gi_getF (pc := 12) (q := 1) hv5 fL_X3_9 rfl (Nat.le_of_ble_eq_true rfl) rfl (hv5.tx (by omega)) dX3_look_12 ?_
          refine go_aload_n (pc := 15) rfl dX3_look_15 ?_
          refine gi_get (pc := 16) (lo := 0) (hi := 500) hv5 fL_X3_19 rfl (Nat.le_of_ble_eq_true rfl) rfl rfl dX3_look_16 (fun v22 v22l v22u v22w => ?_)
          have v22r : v3 = h5.2.1 34 2 := (show v3 = h5.2.1 34 2 from by rw [hv5e]; exact g_iS.symm)
          have v22q : TI v22 ((v1.toInt + 1)) := by rw [v22w.trans v22r.symm]; exact e4
          refine gi_bald (pc := 19) (lo := -128) (hi := 127) (len := 500) hv5 v22q rfl (by omega) (by omega) (fun _ => rfl) dX3_look_19 (fun v23 v23l v23u v23w => ?_)
          refine go_bipush (pc := 20) (v := 32) (by decide) dX3_look_20 ?_
          refine gf_icmp_eq (pc := 22) (tgt := 39) (ti_rfl v23) (ti_c (v := 32) (a := 32) (by decide)) (by decide) dX3_look_22 (fun q24 => ?_) (fun q24 => ?_)
          ·
            have g25 : (0 : Int) ≤ (h5.2.1 34 1).toInt := (hv5.2.1 34 1).1
            have g26 : (h5.2.1 34 1).toInt ≤ 500 := (hv5.2.1 34 1).2
            have g27 : (0 : Int) ≤ (h5.2.1 34 2).toInt := (hv5.2.1 34 2).1
            have g28 : (h5.2.1 34 2).toInt ≤ 500 := (hv5.2.1 34 2).2
            have g29 : (h5.2.1 34 2).toInt = (v1.toInt + 1) := by rw [← (show v3 = h5.2.1 34 2 from (show v3 = h5.2.1 34 2 from by rw [hv5e]; exact g_iS.symm))] <;> exact e4
            have g30 : (h5.2.1 34 1).toInt = v7.toInt := by rw [← (show v7 = h5.2.1 34 1 from v7w)] <;> exact (ti_rfl v7)
            exact go_lv rfl (ih.1  h5 hv5 (by omega) (by omega) (by omega) (by omega) (by omega) (by omega))
          ·
            refine go_aload_n (pc := 25) rfl dX3_look_25 ?_
            have g31 : (0 : Int) ≤ (h5.2.1 34 1).toInt := (hv5.2.1 34 1).1
            have g32 : (h5.2.1 34 1).toInt ≤ 500 := (hv5.2.1 34 1).2
            have g33 : (0 : Int) ≤ (h5.2.1 34 2).toInt := (hv5.2.1 34 2).1
            have g34 : (h5.2.1 34 2).toInt ≤ 500 := (hv5.2.1 34 2).2
            have g35 : (h5.2.1 34 2).toInt = (v1.toInt + 1) := by rw [← (show v3 = h5.2.1 34 2 from (show v3 = h5.2.1 34 2 from by rw [hv5e]; exact g_iS.symm))] <;> exact e4
            have g36 : (h5.2.1 34 1).toInt = v7.toInt := by rw [← (show v7 = h5.2.1 34 1 from v7w)] <;> exact (ti_rfl v7)
            refine gi_getF (pc := 26) (q := 1) hv5 fL_X3_9 rfl (Nat.le_of_ble_eq_true rfl) rfl (hv5.tx (by omega)) dX3_look_26 ?_
            refine go_aload_n (pc := 29) rfl dX3_look_29 ?_
            refine gi_get (pc := 30) (lo := 0) (hi := 500) hv5 fL_X3_19 rfl (Nat.le_of_ble_eq_true rfl) rfl rfl dX3_look_30 (fun v37 v37l v37u v37w => ?_)
            have v37r : v3 = h5.2.1 34 2 := (show v3 = h5.2.1 34 2 from by rw [hv5e]; exact g_iS.symm)
            have v37q : TI v37 ((v1.toInt + 1)) := by rw [v37w.trans v37r.symm]; exact e4
            refine gi_bald (pc := 33) (lo := -128) (hi := 127) (len := 500) hv5 v37q rfl (by omega) (by omega) (fun _ => rfl) dX3_look_33 (fun v38 v38l v38u v38w => ?_)
            refine go_bipush (pc := 34) (v := 10) (by decide) dX3_look_34 ?_
            refine gf_icmp_ne (pc := 36) (tgt := 52) (ti_rfl v38) (ti_c (v := 10) (a := 10) (by decide)) (by decide) dX3_look_36 (fun q39 => ?_) (fun q39 => ?_)
            ·
              have g40 : (0 : Int) ≤ (h5.2.1 34 1).toInt := (hv5.2.1 34 1).1
              have g41 : (h5.2.1 34 1).toInt ≤ 500 := (hv5.2.1 34 1).2
              have g42 : (0 : Int) ≤ (h5.2.1 34 2).toInt := (hv5.2.1 34 2).1
              have g43 : (h5.2.1 34 2).toInt ≤ 500 := (hv5.2.1 34 2).2
              have g44 : (h5.2.1 34 2).toInt = (v1.toInt + 1) := by rw [← (show v3 = h5.2.1 34 2 from (show v3 = h5.2.1 34 2 from by rw [hv5e]; exact g_iS.symm))] <;> exact e4
              have g45 : (h5.2.1 34 1).toInt = v7.toInt := by rw [← (show v7 = h5.2.1 34 1 from v7w)] <;> exact (ti_rfl v7)
              exact go_lv rfl (ih.2.1  h5 hv5 (by omega) (by omega) (by omega) (by omega) (by omega))
            ·
              have g46 : (0 : Int) ≤ (h5.2.1 34 1).toInt := (hv5.2.1 34 1).1
              have g47 : (h5.2.1 34 1).toInt ≤ 500 := (hv5.2.1 34 1).2
              have g48 : (0 : Int) ≤ (h5.2.1 34 2).toInt := (hv5.2.1 34 2).1
              have g49 : (h5.2.1 34 2).toInt ≤ 500 := (hv5.2.1 34 2).2
              have g50 : (h5.2.1 34 2).toInt = (v1.toInt + 1) := by rw [← (show v3 = h5.2.1 34 2 from (show v3 = h5.2.1 34 2 from by rw [hv5e]; exact g_iS.symm))] <;> exact e4
              have g51 : (h5.2.1 34 1).toInt = v7.toInt := by rw [← (show v7 = h5.2.1 34 1 from v7w)] <;> exact (ti_rfl v7)
              exact go_lv rfl (ih.1  h5 hv5 (by omega) (by omega) (by omega) (by omega) (by omega) (by omega))
      ·
        intro h hv y0l y0u y1l y1u hm
        refine go_aload_n (pc := 52) rfl dX3_look_52 ?_
        refine gi_get (pc := 53) (lo := 0) (hi := 500) hv fL_X3_19 rfl (Nat.le_of_ble_eq_true rfl) rfl rfl dX3_look_53 (fun v52 v52l v52u v52w => ?_)
        have g53 : (h.2.1 34 2).toInt = v52.toInt := by rw [v52w]
        refine go_aload_n (pc := 56) rfl dX3_look_56 ?_
        refine gi_get (pc := 57) (lo := 0) (hi := 500) hv fL_X3_15 rfl (Nat.le_of_ble_eq_true rfl) rfl rfl dX3_look_57 (fun v54 v54l v54u v54w => ?_)
        have g55 : (h.2.1 34 1).toInt = v54.toInt := by rw [v54w]
        refine gf_icmp_ge (pc := 60) (tgt := 79) (ti_rfl v52) (ti_rfl v54) (by decide) dX3_look_60 (fun q56 => ?_) (fun q56 => ?_)
        ·
          refine go_iconst (pc := 79) (v := (-1)) (by decide) dX3_look_79 ?_
          have z57 : ((-1) : Int32).toInt = (-1) := (ti_c (v := (-1)) (a := (-1)) (by decide))
          have g58 : (0 : Int) ≤ (h.2.1 34 1).toInt := (hv.2.1 34 1).1
          have g59 : (h.2.1 34 1).toInt ≤ 500 := (hv.2.1 34 1).2
          have g60 : (0 : Int) ≤ (h.2.1 34 2).toInt := (hv.2.1 34 2).1
          have g61 : (h.2.1 34 2).toInt ≤ 500 := (hv.2.1 34 2).2
          have g62 : (h.2.1 34 2).toInt = v52.toInt := by rw [← (show v52 = h.2.1 34 2 from v52w)] <;> exact (ti_rfl v52)
          have g63 : (h.2.1 34 1).toInt = v54.toInt := by rw [← (show v54 = h.2.1 34 1 from v54w)] <;> exact (ti_rfl v54)
          exact go_lv rfl (ih.2.2 (-1) h hv (by omega) (by omega) (by omega) (by omega) (by omega) (by omega) (by omega) (by omega))
        ·
          refine go_aload_n (pc := 63) rfl dX3_look_63 ?_
          have g64 : (0 : Int) ≤ (h.2.1 34 1).toInt := (hv.2.1 34 1).1
          have g65 : (h.2.1 34 1).toInt ≤ 500 := (hv.2.1 34 1).2
          have g66 : (0 : Int) ≤ (h.2.1 34 2).toInt := (hv.2.1 34 2).1
          have g67 : (h.2.1 34 2).toInt ≤ 500 := (hv.2.1 34 2).2
          have g68 : (h.2.1 34 2).toInt = v52.toInt := by rw [← (show v52 = h.2.1 34 2 from v52w)] <;> exact (ti_rfl v52)
          have g69 : (h.2.1 34 1).toInt = v54.toInt := by rw [← (show v54 = h.2.1 34 1 from v54w)] <;> exact (ti_rfl v54)
          refine gi_getF (pc := 64) (q := 1) hv fL_X3_9 rfl (Nat.le_of_ble_eq_true rfl) rfl (hv.tx (by omega)) dX3_look_64 ?_
          refine go_aload_n (pc := 67) rfl dX3_look_67 ?_
          refine gi_get (pc := 68) (lo := 0) (hi := 500) hv fL_X3_19 rfl (Nat.le_of_ble_eq_true rfl) rfl rfl dX3_look_68 (fun v70 v70l v70u v70w => ?_)
          have v70r : v52 = h.2.1 34 2 := v52w
          have v70q : TI v70 v52.toInt := by rw [v70w.trans v70r.symm]; exact (ti_rfl v52)
          refine gi_bald (pc := 71) (lo := -128) (hi := 127) (len := 500) hv v70q rfl (by omega) (by omega) (fun _ => rfl) dX3_look_71 (fun v71 v71l v71u v71w => ?_)
          refine go_sipush (pc := 72) (v := 255) (by decide) dX3_look_72 ?_
          refine gf_iand (pc := 75) (ti_c (v := 255) (a := 255) (by decide)) (by omega) dX3_look_75 (fun v72 v72l v72u => ?_)
          refine go_goto (pc := 76) (tgt := 80) (by decide) dX3_look_76 ?_
          have g73 : (0 : Int) ≤ (h.2.1 34 1).toInt := (hv.2.1 34 1).1
          have g74 : (h.2.1 34 1).toInt ≤ 500 := (hv.2.1 34 1).2
          have g75 : (0 : Int) ≤ (h.2.1 34 2).toInt := (hv.2.1 34 2).1
          have g76 : (h.2.1 34 2).toInt ≤ 500 := (hv.2.1 34 2).2
          have g77 : (h.2.1 34 2).toInt = v52.toInt := by rw [← (show v52 = h.2.1 34 2 from v52w)] <;> exact (ti_rfl v52)
          have g78 : (h.2.1 34 1).toInt = v54.toInt := by rw [← (show v54 = h.2.1 34 1 from v54w)] <;> exact (ti_rfl v54)
          exact go_lv rfl (ih.2.2 v72 h hv (by omega) (by omega) (by omega) (by omega) (by omega) (by omega) (by omega) (by omega))
      ·
        intro s0 h hv s0l s0u x0 y0l y0u y1l y1u hm
        have g79 : (0 : Int) ≤ (h.2.1 34 1).toInt := (hv.2.1 34 1).1
        have g80 : (h.2.1 34 1).toInt ≤ 500 := (hv.2.1 34 1).2
        have g81 : (0 : Int) ≤ (h.2.1 34 2).toInt := (hv.2.1 34 2).1
        have g82 : (h.2.1 34 2).toInt ≤ 500 := (hv.2.1 34 2).2
        exact gi_iret (pc := 80) (ti_rfl s0) ⟨_, rfl, (by rw [show (s0 : Int32).toInt = s0.toInt from (ti_rfl s0)]; omega), (by rw [show (s0 : Int32).toInt = s0.toInt from (ti_rfl s0)]; omega), hv, (by rw [show (s0 : Int32).toInt = s0.toInt from (ti_rfl s0)]; omega)⟩ hv dX3_look_80
  refine go_aload_n (pc := 0) rfl dX3_look_0 ?_
  refine gi_get (pc := 1) (lo := 0) (hi := 500) hv fL_X3_19 rfl (Nat.le_of_ble_eq_true rfl) rfl rfl dX3_look_1 (fun v83 v83l v83u v83w => ?_)
  have g84 : (h.2.1 34 2).toInt = v83.toInt := by rw [v83w]
  refine go_aload_n (pc := 4) rfl dX3_look_4 ?_
  refine gi_get (pc := 5) (lo := 0) (hi := 500) hv fL_X3_15 rfl (Nat.le_of_ble_eq_true rfl) rfl rfl dX3_look_5 (fun v85 v85l v85u v85w => ?_)
  have g86 : (h.2.1 34 1).toInt = v85.toInt := by rw [v85w]
  refine gf_icmp_ge (pc := 8) (tgt := 52) (ti_rfl v83) (ti_rfl v85) (by decide) dX3_look_8 (fun q87 => ?_) (fun q87 => ?_)
  ·
    have g88 : (0 : Int) ≤ (h.2.1 34 1).toInt := (hv.2.1 34 1).1
    have g89 : (h.2.1 34 1).toInt ≤ 500 := (hv.2.1 34 1).2
    have g90 : (0 : Int) ≤ (h.2.1 34 2).toInt := (hv.2.1 34 2).1
    have g91 : (h.2.1 34 2).toInt ≤ 500 := (hv.2.1 34 2).2
    have g92 : (h.2.1 34 2).toInt = v83.toInt := by rw [← (show v83 = h.2.1 34 2 from v83w)] <;> exact (ti_rfl v83)
    have g93 : (h.2.1 34 1).toInt = v85.toInt := by rw [← (show v85 = h.2.1 34 1 from v85w)] <;> exact (ti_rfl v85)
    exact go_lv rfl ((key 1521).2.1  h hv (by omega) (by omega) (by omega) (by omega) (by omega))
  ·
    refine go_aload_n (pc := 11) rfl dX3_look_11 ?_
    have g94 : (0 : Int) ≤ (h.2.1 34 1).toInt := (hv.2.1 34 1).1
    have g95 : (h.2.1 34 1).toInt ≤ 500 := (hv.2.1 34 1).2
    have g96 : (0 : Int) ≤ (h.2.1 34 2).toInt := (hv.2.1 34 2).1
    have g97 : (h.2.1 34 2).toInt ≤ 500 := (hv.2.1 34 2).2
    have g98 : (h.2.1 34 2).toInt = v83.toInt := by rw [← (show v83 = h.2.1 34 2 from v83w)] <;> exact (ti_rfl v83)
    have g99 : (h.2.1 34 1).toInt = v85.toInt := by rw [← (show v85 = h.2.1 34 1 from v85w)] <;> exact (ti_rfl v85)
    refine gi_getF (pc := 12) (q := 1) hv fL_X3_9 rfl (Nat.le_of_ble_eq_true rfl) rfl (hv.tx (by omega)) dX3_look_12 ?_
    refine go_aload_n (pc := 15) rfl dX3_look_15 ?_
    refine gi_get (pc := 16) (lo := 0) (hi := 500) hv fL_X3_19 rfl (Nat.le_of_ble_eq_true rfl) rfl rfl dX3_look_16 (fun v100 v100l v100u v100w => ?_)
    have v100r : v83 = h.2.1 34 2 := v83w
    have v100q : TI v100 v83.toInt := by rw [v100w.trans v100r.symm]; exact (ti_rfl v83)
    refine gi_bald (pc := 19) (lo := -128) (hi := 127) (len := 500) hv v100q rfl (by omega) (by omega) (fun _ => rfl) dX3_look_19 (fun v101 v101l v101u v101w => ?_)
    refine go_bipush (pc := 20) (v := 32) (by decide) dX3_look_20 ?_
    refine gf_icmp_eq (pc := 22) (tgt := 39) (ti_rfl v101) (ti_c (v := 32) (a := 32) (by decide)) (by decide) dX3_look_22 (fun q102 => ?_) (fun q102 => ?_)
    ·
      have g103 : (0 : Int) ≤ (h.2.1 34 1).toInt := (hv.2.1 34 1).1
      have g104 : (h.2.1 34 1).toInt ≤ 500 := (hv.2.1 34 1).2
      have g105 : (0 : Int) ≤ (h.2.1 34 2).toInt := (hv.2.1 34 2).1
      have g106 : (h.2.1 34 2).toInt ≤ 500 := (hv.2.1 34 2).2
      have g107 : (h.2.1 34 2).toInt = v83.toInt := by rw [← (show v83 = h.2.1 34 2 from v83w)] <;> exact (ti_rfl v83)
      have g108 : (h.2.1 34 1).toInt = v85.toInt := by rw [← (show v85 = h.2.1 34 1 from v85w)] <;> exact (ti_rfl v85)
      exact go_lv rfl ((key 1521).1  h hv (by omega) (by omega) (by omega) (by omega) (by omega) (by omega))
    ·
      refine go_aload_n (pc := 25) rfl dX3_look_25 ?_
      have g109 : (0 : Int) ≤ (h.2.1 34 1).toInt := (hv.2.1 34 1).1
      have g110 : (h.2.1 34 1).toInt ≤ 500 := (hv.2.1 34 1).2
      have g111 : (0 : Int) ≤ (h.2.1 34 2).toInt := (hv.2.1 34 2).1
      have g112 : (h.2.1 34 2).toInt ≤ 500 := (hv.2.1 34 2).2
      have g113 : (h.2.1 34 2).toInt = v83.toInt := by rw [← (show v83 = h.2.1 34 2 from v83w)] <;> exact (ti_rfl v83)
      have g114 : (h.2.1 34 1).toInt = v85.toInt := by rw [← (show v85 = h.2.1 34 1 from v85w)] <;> exact (ti_rfl v85)
      refine gi_getF (pc := 26) (q := 1) hv fL_X3_9 rfl (Nat.le_of_ble_eq_true rfl) rfl (hv.tx (by omega)) dX3_look_26 ?_
      refine go_aload_n (pc := 29) rfl dX3_look_29 ?_
      refine gi_get (pc := 30) (lo := 0) (hi := 500) hv fL_X3_19 rfl (Nat.le_of_ble_eq_true rfl) rfl rfl dX3_look_30 (fun v115 v115l v115u v115w => ?_)
      have v115r : v83 = h.2.1 34 2 := v83w
      have v115q : TI v115 v83.toInt := by rw [v115w.trans v115r.symm]; exact (ti_rfl v83)
      refine gi_bald (pc := 33) (lo := -128) (hi := 127) (len := 500) hv v115q rfl (by omega) (by omega) (fun _ => rfl) dX3_look_33 (fun v116 v116l v116u v116w => ?_)
      refine go_bipush (pc := 34) (v := 10) (by decide) dX3_look_34 ?_
      refine gf_icmp_ne (pc := 36) (tgt := 52) (ti_rfl v116) (ti_c (v := 10) (a := 10) (by decide)) (by decide) dX3_look_36 (fun q117 => ?_) (fun q117 => ?_)
      ·
        have g118 : (0 : Int) ≤ (h.2.1 34 1).toInt := (hv.2.1 34 1).1
        have g119 : (h.2.1 34 1).toInt ≤ 500 := (hv.2.1 34 1).2
        have g120 : (0 : Int) ≤ (h.2.1 34 2).toInt := (hv.2.1 34 2).1
        have g121 : (h.2.1 34 2).toInt ≤ 500 := (hv.2.1 34 2).2
        have g122 : (h.2.1 34 2).toInt = v83.toInt := by rw [← (show v83 = h.2.1 34 2 from v83w)] <;> exact (ti_rfl v83)
        have g123 : (h.2.1 34 1).toInt = v85.toInt := by rw [← (show v85 = h.2.1 34 1 from v85w)] <;> exact (ti_rfl v85)
        exact go_lv rfl ((key 1521).2.1  h hv (by omega) (by omega) (by omega) (by omega) (by omega))
      ·
        have g124 : (0 : Int) ≤ (h.2.1 34 1).toInt := (hv.2.1 34 1).1
        have g125 : (h.2.1 34 1).toInt ≤ 500 := (hv.2.1 34 1).2
        have g126 : (0 : Int) ≤ (h.2.1 34 2).toInt := (hv.2.1 34 2).1
        have g127 : (h.2.1 34 2).toInt ≤ 500 := (hv.2.1 34 2).2
        have g128 : (h.2.1 34 2).toInt = v83.toInt := by rw [← (show v83 = h.2.1 34 2 from v83w)] <;> exact (ti_rfl v83)
        have g129 : (h.2.1 34 1).toInt = v85.toInt := by rw [← (show v85 = h.2.1 34 1 from v85w)] <;> exact (ti_rfl v85)
        exact go_lv rfl ((key 1521).1  h hv (by omega) (by omega) (by omega) (by omega) (by omega) (by omega))
set_option maxHeartbeats 4000000 in
set_option maxRecDepth 100000 in
theorem s_X3_take (l : Launch) (d : Nat) {P : PP} {h : HP} (hv : Iv P h) (a2 : Int32) (a2l : 0 ≤ a2.toInt) (a2u : a2.toInt ≤ 255) : Mt l yX3_take cX3_take 2 none (d + 2) [.ref 34, .int a2] h 0 0 (fun r h' => r = none ∧ Iv P h') := by
  refine Mt_iv hv (by decide) (Nat.le_of_ble_eq_true rfl) ?_
  show Go l RX3 cX3_take 2 (g_rm (d + 2) 0 0) "take" none 117 0 0 (fun _ _ => True) (fun r h' => r = none ∧ Iv P h') 0 0 [(0, .ref 34), (1, .int a2)] [] h
  have key : ∀ n : Nat, (∀  (h : HP), Iv P h → (0 : Int) ≤ (h.2.1 34 2).toInt → (h.2.1 34 2).toInt ≤ 500 → (1 : Int) < n → Go l RX3 cX3_take 2 (g_rm (d + 2) 0 0) "take" none 117 0 0 (fun _ _ => True) (fun r h' => r = none ∧ Iv P h') 0 30 [] [] h) := by
    intro n
    induction n with
    | zero => exact (by intros; omega)
    | succ n ih =>
      refine ?_
      ·
        intro h hv y0l y0u hm
        exact gi_vret (pc := 30) ⟨rfl, hv⟩ hv dX3_take_30
  refine go_aload_n (pc := 0) rfl dX3_take_0 ?_
  refine go_invV (pc := 1) (sl := 0) (s_X3_look l (d + 0) hv ) mL_X3_66 iM_X3_look sM_X3_look (hv.sh rfl) rfl rfl rfl (Nat.le_of_ble_eq_true rfl) (show d + 0 + 1 + 1 ≤ d + 2 by omega) (show 8 + (1 + 11) + 40 * (d + 0 + 1) ≤ 40 * (d + 2) by omega) (g_c0 hv.ln) (Nat.le_of_ble_eq_true rfl) dX3_take_1 ?_
  intro r h1 hq _
  obtain ⟨v3, rfl, v3l, v3u, hv1, f2⟩ := hq
  refine go_iload_n (pc := 4) rfl dX3_take_4 ?_
  refine gf_icmp_ne (pc := 5) (tgt := 21) (ti_rfl v3) (ti_rfl a2) (by decide) dX3_take_5 (fun q4 => ?_) (fun q4 => ?_)
  ·
    refine go_aload_n (pc := 21) rfl dX3_take_21 ?_
    refine go_iconst (pc := 22) (v := 1) (by decide) dX3_take_22 ?_
    refine go_aload_n (pc := 23) rfl dX3_take_23 ?_
    refine gi_get (pc := 24) (lo := 0) (hi := 500) hv1 fL_X3_19 rfl (Nat.le_of_ble_eq_true rfl) rfl rfl dX3_take_24 (fun v5 v5l v5u v5w => ?_)
    have g6 : (h1.2.1 34 2).toInt = v5.toInt := by rw [v5w]
    refine go_invV (pc := 27) (sl := 0) (s_X3_blame l (d + 0) hv1 1 v5) mL_X3_101 iM_X3_blame sM_X3_blame (hv1.sh rfl) rfl rfl rfl (Nat.le_of_ble_eq_true rfl) (show d + 0 + 1 + 1 ≤ d + 2 by omega) (show 8 + (3 + 11) + 40 * (d + 0 + 1) ≤ 40 * (d + 2) by omega) (g_c0 hv1.ln) (Nat.le_of_ble_eq_true rfl) dX3_take_27 ?_
    intro r h7 hq _
    obtain ⟨rfl, hv7⟩ := hq
    have g8 : (0 : Int) ≤ (h7.2.1 34 2).toInt := (hv7.2.1 34 2).1
    have g9 : (h7.2.1 34 2).toInt ≤ 500 := (hv7.2.1 34 2).2
    exact go_lv rfl ((key 14)  h7 hv7 (by omega) (by omega) (by omega))
  ·
    refine go_aload_n (pc := 8) rfl dX3_take_8 ?_
    refine go_dup (pc := 9) rfl dX3_take_9 ?_
    refine gi_get (pc := 10) (lo := 0) (hi := 500) hv1 fL_X3_19 rfl (Nat.le_of_ble_eq_true rfl) rfl rfl dX3_take_10 (fun v10 v10l v10u v10w => ?_)
    have g11 : (h1.2.1 34 2).toInt = v10.toInt := by rw [v10w]
    refine go_iconst (pc := 13) (v := 1) (by decide) dX3_take_13 ?_
    refine gf_iadd (pc := 14) (ti_rfl v10) (ti_c (v := 1) (a := 1) (by decide)) (by omega) (by omega) dX3_take_14 (fun v12 e13 => ?_)
    refine gi_put (pc := 15) (lo := 0) (hi := 500) hv1 e13 (fP_X3_19 _) rfl (Nat.le_of_ble_eq_true rfl) rfl rfl (by omega) (by omega) rfl rfl (by decide) (by decide) (by decide) (by decide) dX3_take_15 (fun h14 hv14 hv14e => ?_)
    refine go_goto (pc := 18) (tgt := 30) (by decide) dX3_take_18 ?_
    have g15 : (0 : Int) ≤ (h14.2.1 34 2).toInt := (hv14.2.1 34 2).1
    have g16 : (h14.2.1 34 2).toInt ≤ 500 := (hv14.2.1 34 2).2
    have g17 : (h14.2.1 34 2).toInt = (v10.toInt + 1) := by rw [← (show v12 = h14.2.1 34 2 from (show v12 = h14.2.1 34 2 from by rw [hv14e]; exact g_iS.symm))] <;> exact e13
    exact go_lv rfl ((key 14)  h14 hv14 (by omega) (by omega) (by omega))
set_option maxHeartbeats 4000000 in
set_option maxRecDepth 100000 in
theorem s_X3_readNumber (l : Launch) (d : Nat) {P : PP} {h : HP} (hv : Iv P h)  : Mt l yX3_readNumber cX3_readNumber 3 (some .int) (d + 2) [.ref 34] h 0 0 (fun r h' => ∃ v : Int32, r = some (.int v) ∧ -2147483648 ≤ v.toInt ∧ v.toInt ≤ 2147483647 ∧ Iv P h') := by
  refine Mt_iv hv (by decide) (Nat.le_of_ble_eq_true rfl) ?_
  show Go l RX3 cX3_readNumber 3 (g_rm (d + 2) 0 0) "readNumber" (some .int) 117 0 0 (fun _ _ => True) (fun r h' => ∃ v : Int32, r = some (.int v) ∧ -2147483648 ≤ v.toInt ∧ v.toInt ≤ 2147483647 ∧ Iv P h') 0 0 [(0, .ref 34)] [] h
  have key : ∀ n : Nat, (∀ (l1 : Int32) (l2 : Int32) (h : HP), Iv P h → 0 ≤ l1.toInt → l1.toInt ≤ 500 → (0 : Int) ≤ (h.2.1 34 1).toInt → (h.2.1 34 1).toInt ≤ 500 → (0 : Int) ≤ (h.2.1 34 2).toInt → (h.2.1 34 2).toInt ≤ 500 → (4 * (500 - (h.2.1 34 2).toInt) + 5 : Int) < n → Go l RX3 cX3_readNumber 3 (g_rm (d + 2) 0 0) "readNumber" (some .int) 117 0 0 (fun _ _ => True) (fun r h' => ∃ v : Int32, r = some (.int v) ∧ -2147483648 ≤ v.toInt ∧ v.toInt ≤ 2147483647 ∧ Iv P h') 0 7 [(0, .ref 34), (1, .int l1), (2, .int l2)] [] h) ∧ (∀ (l1 : Int32) (l2 : Int32) (h : HP), Iv P h → 0 ≤ l1.toInt → l1.toInt ≤ 500 → ((h.2.1 34 2).toInt ≤ 499) → (0 : Int) ≤ (h.2.1 34 1).toInt → (h.2.1 34 1).toInt ≤ 500 → (0 : Int) ≤ (h.2.1 34 2).toInt → (h.2.1 34 2).toInt ≤ 500 → (4 * (500 - (h.2.1 34 2).toInt) + 4 : Int) < n → Go l RX3 cX3_readNumber 3 (g_rm (d + 2) 0 0) "readNumber" (some .int) 117 0 0 (fun _ _ => True) (fun r h' => ∃ v : Int32, r = some (.int v) ∧ -2147483648 ≤ v.toInt ∧ v.toInt ≤ 2147483647 ∧ Iv P h') 0 61 [(0, .ref 34), (1, .int l1), (2, .int l2)] [] h) ∧ (∀ (l1 : Int32) (l2 : Int32) (h : HP), Iv P h → 0 ≤ l1.toInt → l1.toInt ≤ 500 → (0 : Int) ≤ (h.2.1 34 1).toInt → (h.2.1 34 1).toInt ≤ 500 → (0 : Int) ≤ (h.2.1 34 2).toInt → (h.2.1 34 2).toInt ≤ 500 → (2 : Int) < n → Go l RX3 cX3_readNumber 3 (g_rm (d + 2) 0 0) "readNumber" (some .int) 117 0 0 (fun _ _ => True) (fun r h' => ∃ v : Int32, r = some (.int v) ∧ -2147483648 ≤ v.toInt ∧ v.toInt ≤ 2147483647 ∧ Iv P h') 0 74 [(0, .ref 34), (1, .int l1), (2, .int l2)] [] h) ∧ (∀ (l2 : Int32) (h : HP), Iv P h → (0 : Int) ≤ (h.2.1 34 1).toInt → (h.2.1 34 1).toInt ≤ 500 → (0 : Int) ≤ (h.2.1 34 2).toInt → (h.2.1 34 2).toInt ≤ 500 → (1 : Int) < n → Go l RX3 cX3_readNumber 3 (g_rm (d + 2) 0 0) "readNumber" (some .int) 117 0 0 (fun _ _ => True) (fun r h' => ∃ v : Int32, r = some (.int v) ∧ -2147483648 ≤ v.toInt ∧ v.toInt ≤ 2147483647 ∧ Iv P h') 0 90 [(2, .int l2)] [] h) := by
    intro n
    induction n with
    | zero => exact ⟨(by intros; omega), (by intros; omega), (by intros; omega), (by intros; omega)⟩
    | succ n ih =>
      refine ⟨?_, ?_, ?_, ?_⟩
      ·
        intro l1 l2 h hv l1l l1u y0l y0u y1l y1u hm
        refine go_aload_n (pc := 7) rfl dX3_readNumber_7 ?_
        refine gi_get (pc := 8) (lo := 0) (hi := 500) hv fL_X3_19 rfl (Nat.le_of_ble_eq_true rfl) rfl rfl dX3_readNumber_8 (fun v1 v1l v1u v1w => ?_)
        have g2 : (h.2.1 34 2).toInt = v1.toInt := by rw [v1w]
        refine go_aload_n (pc := 11) rfl dX3_readNumber_11 ?_
        refine gi_get (pc := 12) (lo := 0) (hi := 500) hv fL_X3_15 rfl (Nat.le_of_ble_eq_true rfl) rfl rfl dX3_readNumber_12 (fun v3 v3l v3u v3w => ?_)
        have g4 : (h.2.1 34 1).toInt = v3.toInt := by rw [v3w]
        refine gf_icmp_ge (pc := 15) (tgt := 74) (ti_rfl v1) (ti_rfl v3) (by decide) dX3_readNumber_15 (fun q5 => ?_) (fun q5 => ?_)
        ·
          have g6 : (0 : Int) ≤ (h.2.1 34 1).toInt := (hv.2.1 34 1).1
          have g7 : (h.2.1 34 1).toInt ≤ 500 := (hv.2.1 34 1).2
          have g8 : (0 : Int) ≤ (h.2.1 34 2).toInt := (hv.2.1 34 2).1
          have g9 : (h.2.1 34 2).toInt ≤ 500 := (hv.2.1 34 2).2
          have g10 : (h.2.1 34 2).toInt = v1.toInt := by rw [← (show v1 = h.2.1 34 2 from v1w)] <;> exact (ti_rfl v1)
          have g11 : (h.2.1 34 1).toInt = v3.toInt := by rw [← (show v3 = h.2.1 34 1 from v3w)] <;> exact (ti_rfl v3)
          exact go_lv rfl (ih.2.2.1 l1 l2 h hv (by omega) (by omega) (by omega) (by omega) (by omega) (by omega) (by omega))
        ·
          refine go_aload_n (pc := 18) rfl dX3_readNumber_18 ?_
          have g12 : (0 : Int) ≤ (h.2.1 34 1).toInt := (hv.2.1 34 1).1
          have g13 : (h.2.1 34 1).toInt ≤ 500 := (hv.2.1 34 1).2
          have g14 : (0 : Int) ≤ (h.2.1 34 2).toInt := (hv.2.1 34 2).1
          have g15 : (h.2.1 34 2).toInt ≤ 500 := (hv.2.1 34 2).2
          have g16 : (h.2.1 34 2).toInt = v1.toInt := by rw [← (show v1 = h.2.1 34 2 from v1w)] <;> exact (ti_rfl v1)
          have g17 : (h.2.1 34 1).toInt = v3.toInt := by rw [← (show v3 = h.2.1 34 1 from v3w)] <;> exact (ti_rfl v3)
          refine gi_getF (pc := 19) (q := 1) hv fL_X3_9 rfl (Nat.le_of_ble_eq_true rfl) rfl (hv.tx (by omega)) dX3_readNumber_19 ?_
          refine go_aload_n (pc := 22) rfl dX3_readNumber_22 ?_
          refine gi_get (pc := 23) (lo := 0) (hi := 500) hv fL_X3_19 rfl (Nat.le_of_ble_eq_true rfl) rfl rfl dX3_readNumber_23 (fun v18 v18l v18u v18w => ?_)
          have v18r : v1 = h.2.1 34 2 := v1w
          have v18q : TI v18 v1.toInt := by rw [v18w.trans v18r.symm]; exact (ti_rfl v1)
          refine gi_bald (pc := 26) (lo := -128) (hi := 127) (len := 500) hv v18q rfl (by omega) (by omega) (fun _ => rfl) dX3_readNumber_26 (fun v19 v19l v19u v19w => ?_)
          refine go_invS (pc := 27) (sl := 0) (s_X3_isDigit l (d + 0) hv v19) mL_X3_210 iM_X3_isDigit rfl rfl (Nat.le_of_ble_eq_true rfl) (show d + 0 + 1 + 1 ≤ d + 2 by omega) (show 8 + (1 + 11) + 40 * (d + 0 + 1) ≤ 40 * (d + 2) by omega) (g_c0 hv.ln) (Nat.le_of_ble_eq_true rfl) dX3_readNumber_27 ?_
          intro r h20 hq _
          obtain ⟨v21, rfl, v21l, v21u, rfl⟩ := hq
          refine gf_if_eq (pc := 30) (tgt := 74) (ti_rfl v21) (by decide) dX3_readNumber_30 (fun q22 => ?_) (fun q22 => ?_)
          ·
            have g23 : (0 : Int) ≤ (h.2.1 34 1).toInt := (hv.2.1 34 1).1
            have g24 : (h.2.1 34 1).toInt ≤ 500 := (hv.2.1 34 1).2
            have g25 : (0 : Int) ≤ (h.2.1 34 2).toInt := (hv.2.1 34 2).1
            have g26 : (h.2.1 34 2).toInt ≤ 500 := (hv.2.1 34 2).2
            have g27 : (h.2.1 34 2).toInt = v1.toInt := by rw [← (show v1 = h.2.1 34 2 from v1w)] <;> exact (ti_rfl v1)
            have g28 : (h.2.1 34 1).toInt = v3.toInt := by rw [← (show v3 = h.2.1 34 1 from v3w)] <;> exact (ti_rfl v3)
            exact go_lv rfl (ih.2.2.1 l1 l2 h hv (by omega) (by omega) (by omega) (by omega) (by omega) (by omega) (by omega))
          ·
            refine go_aload_n (pc := 33) rfl dX3_readNumber_33 ?_
            refine gi_get (pc := 34) (lo := 0) (hi := 500) hv fL_X3_19 rfl (Nat.le_of_ble_eq_true rfl) rfl rfl dX3_readNumber_34 (fun v29 v29l v29u v29w => ?_)
            have v29r : v1 = h.2.1 34 2 := v1w
            have v29q : TI v29 v1.toInt := by rw [v29w.trans v29r.symm]; exact (ti_rfl v1)
            refine go_iload_n (pc := 37) rfl dX3_readNumber_37 ?_
            refine gf_isub (pc := 38) v29q (ti_rfl l1) (by omega) (by omega) dX3_readNumber_38 (fun v30 e31 => ?_)
            refine go_iconst (pc := 39) (v := 3) (by decide) dX3_readNumber_39 ?_
            refine gf_icmp_ge (pc := 40) (tgt := 61) e31 (ti_c (v := 3) (a := 3) (by decide)) (by decide) dX3_readNumber_40 (fun q32 => ?_) (fun q32 => ?_)
            ·
              have g33 : (0 : Int) ≤ (h.2.1 34 1).toInt := (hv.2.1 34 1).1
              have g34 : (h.2.1 34 1).toInt ≤ 500 := (hv.2.1 34 1).2
              have g35 : (0 : Int) ≤ (h.2.1 34 2).toInt := (hv.2.1 34 2).1
              have g36 : (h.2.1 34 2).toInt ≤ 500 := (hv.2.1 34 2).2
              have g37 : (h.2.1 34 2).toInt = v1.toInt := by rw [← (show v1 = h.2.1 34 2 from v1w)] <;> exact (ti_rfl v1)
              have g38 : (h.2.1 34 1).toInt = v3.toInt := by rw [← (show v3 = h.2.1 34 1 from v3w)] <;> exact (ti_rfl v3)
              exact go_lv rfl (ih.2.1 l1 l2 h hv (by omega) (by omega) (by omega) (by omega) (by omega) (by omega) (by omega) (by omega))
            ·
              refine go_iload_n (pc := 43) rfl dX3_readNumber_43 ?_
              refine go_bipush (pc := 44) (v := 10) (by decide) dX3_readNumber_44 ?_
              refine gu_imul (pc := 46) dX3_readNumber_46 (fun v39 => ?_)
              refine go_aload_n (pc := 47) rfl dX3_readNumber_47 ?_
              have g40 : (0 : Int) ≤ (h.2.1 34 1).toInt := (hv.2.1 34 1).1
              have g41 : (h.2.1 34 1).toInt ≤ 500 := (hv.2.1 34 1).2
              have g42 : (0 : Int) ≤ (h.2.1 34 2).toInt := (hv.2.1 34 2).1
              have g43 : (h.2.1 34 2).toInt ≤ 500 := (hv.2.1 34 2).2
              have g44 : (h.2.1 34 2).toInt = v1.toInt := by rw [← (show v1 = h.2.1 34 2 from v1w)] <;> exact (ti_rfl v1)
              have g45 : (h.2.1 34 1).toInt = v3.toInt := by rw [← (show v3 = h.2.1 34 1 from v3w)] <;> exact (ti_rfl v3)
              refine gi_getF (pc := 48) (q := 1) hv fL_X3_9 rfl (Nat.le_of_ble_eq_true rfl) rfl (hv.tx (by omega)) dX3_readNumber_48 ?_
              refine go_aload_n (pc := 51) rfl dX3_readNumber_51 ?_
              refine gi_get (pc := 52) (lo := 0) (hi := 500) hv fL_X3_19 rfl (Nat.le_of_ble_eq_true rfl) rfl rfl dX3_readNumber_52 (fun v46 v46l v46u v46w => ?_)
              have v46r : v1 = h.2.1 34 2 := v1w
              have v46q : TI v46 v1.toInt := by rw [v46w.trans v46r.symm]; exact (ti_rfl v1)
              refine gi_bald (pc := 55) (lo := -128) (hi := 127) (len := 500) hv v46q rfl (by omega) (by omega) (fun _ => rfl) dX3_readNumber_55 (fun v47 v47l v47u v47w => ?_)
              refine gu_iadd (pc := 56) dX3_readNumber_56 (fun v48 => ?_)
              refine go_bipush (pc := 57) (v := 48) (by decide) dX3_readNumber_57 ?_
              refine gu_isub (pc := 59) dX3_readNumber_59 (fun v49 => ?_)
              refine go_istore_n (pc := 60) (Nat.le_of_ble_eq_true rfl) dX3_readNumber_60 (go_lv (lv2 := [(0, .ref 34), (1, .int l1), (2, .int v49)]) rfl ?_)
              have g50 : (0 : Int) ≤ (h.2.1 34 1).toInt := (hv.2.1 34 1).1
              have g51 : (h.2.1 34 1).toInt ≤ 500 := (hv.2.1 34 1).2
              have g52 : (0 : Int) ≤ (h.2.1 34 2).toInt := (hv.2.1 34 2).1
              have g53 : (h.2.1 34 2).toInt ≤ 500 := (hv.2.1 34 2).2
              have g54 : (h.2.1 34 2).toInt = v1.toInt := by rw [← (show v1 = h.2.1 34 2 from v1w)] <;> exact (ti_rfl v1)
              have g55 : (h.2.1 34 1).toInt = v3.toInt := by rw [← (show v3 = h.2.1 34 1 from v3w)] <;> exact (ti_rfl v3)
              exact go_lv rfl (ih.2.1 l1 v49 h hv (by omega) (by omega) (by omega) (by omega) (by omega) (by omega) (by omega) (by omega))
      ·
        intro l1 l2 h hv l1l l1u x0 y0l y0u y1l y1u hm
        refine go_aload_n (pc := 61) rfl dX3_readNumber_61 ?_
        refine go_dup (pc := 62) rfl dX3_readNumber_62 ?_
        refine gi_get (pc := 63) (lo := 0) (hi := 500) hv fL_X3_19 rfl (Nat.le_of_ble_eq_true rfl) rfl rfl dX3_readNumber_63 (fun v56 v56l v56u v56w => ?_)
        have g57 : (h.2.1 34 2).toInt = v56.toInt := by rw [v56w]
        refine go_iconst (pc := 66) (v := 1) (by decide) dX3_readNumber_66 ?_
        refine gf_iadd (pc := 67) (ti_rfl v56) (ti_c (v := 1) (a := 1) (by decide)) (by omega) (by omega) dX3_readNumber_67 (fun v58 e59 => ?_)
        refine gi_put (pc := 68) (lo := 0) (hi := 500) hv e59 (fP_X3_19 _) rfl (Nat.le_of_ble_eq_true rfl) rfl rfl (by omega) (by omega) rfl rfl (by decide) (by decide) (by decide) (by decide) dX3_readNumber_68 (fun h60 hv60 hv60e => ?_)
        refine go_goto (pc := 71) (tgt := 7) (by decide) dX3_readNumber_71 ?_
        have g61 : (0 : Int) ≤ (h60.2.1 34 1).toInt := (hv60.2.1 34 1).1
        have g62 : (h60.2.1 34 1).toInt ≤ 500 := (hv60.2.1 34 1).2
        have g63 : (0 : Int) ≤ (h60.2.1 34 2).toInt := (hv60.2.1 34 2).1
        have g64 : (h60.2.1 34 2).toInt ≤ 500 := (hv60.2.1 34 2).2
        have g65 : (h60.2.1 34 2).toInt = (v56.toInt + 1) := by rw [← (show v58 = h60.2.1 34 2 from (show v58 = h60.2.1 34 2 from by rw [hv60e]; exact g_iS.symm))] <;> exact e59
        exact go_lv rfl (ih.1 l1 l2 h60 hv60 (by omega) (by omega) (by omega) (by omega) (by omega) (by omega) (by omega))
      ·
        intro l1 l2 h hv l1l l1u y0l y0u y1l y1u hm
        refine go_aload_n (pc := 74) rfl dX3_readNumber_74 ?_
        refine gi_get (pc := 75) (lo := 0) (hi := 500) hv fL_X3_19 rfl (Nat.le_of_ble_eq_true rfl) rfl rfl dX3_readNumber_75 (fun v66 v66l v66u v66w => ?_)
        have g67 : (h.2.1 34 2).toInt = v66.toInt := by rw [v66w]
        refine go_iload_n (pc := 78) rfl dX3_readNumber_78 ?_
        refine gf_isub (pc := 79) (ti_rfl v66) (ti_rfl l1) (by omega) (by omega) dX3_readNumber_79 (fun v68 e69 => ?_)
        refine go_iconst (pc := 80) (v := 3) (by decide) dX3_readNumber_80 ?_
        refine gf_icmp_le (pc := 81) (tgt := 90) e69 (ti_c (v := 3) (a := 3) (by decide)) (by decide) dX3_readNumber_81 (fun q70 => ?_) (fun q70 => ?_)
        ·
          have g71 : (0 : Int) ≤ (h.2.1 34 1).toInt := (hv.2.1 34 1).1
          have g72 : (h.2.1 34 1).toInt ≤ 500 := (hv.2.1 34 1).2
          have g73 : (0 : Int) ≤ (h.2.1 34 2).toInt := (hv.2.1 34 2).1
          have g74 : (h.2.1 34 2).toInt ≤ 500 := (hv.2.1 34 2).2
          have g75 : (h.2.1 34 2).toInt = v66.toInt := by rw [← (show v66 = h.2.1 34 2 from v66w)] <;> exact (ti_rfl v66)
          exact go_lv rfl (ih.2.2.2 l2 h hv (by omega) (by omega) (by omega) (by omega) (by omega))
        ·
          refine go_aload_n (pc := 84) rfl dX3_readNumber_84 ?_
          refine go_iconst (pc := 85) (v := 2) (by decide) dX3_readNumber_85 ?_
          refine go_iload_n (pc := 86) rfl dX3_readNumber_86 ?_
          refine go_invV (pc := 87) (sl := 0) (s_X3_blame l (d + 0) hv 2 l1) mL_X3_101 iM_X3_blame sM_X3_blame (hv.sh rfl) rfl rfl rfl (Nat.le_of_ble_eq_true rfl) (show d + 0 + 1 + 1 ≤ d + 2 by omega) (show 8 + (3 + 11) + 40 * (d + 0 + 1) ≤ 40 * (d + 2) by omega) (g_c0 hv.ln) (Nat.le_of_ble_eq_true rfl) dX3_readNumber_87 ?_
          intro r h76 hq _
          obtain ⟨rfl, hv76⟩ := hq
          have g77 : (0 : Int) ≤ (h76.2.1 34 1).toInt := (hv76.2.1 34 1).1
          have g78 : (h76.2.1 34 1).toInt ≤ 500 := (hv76.2.1 34 1).2
          have g79 : (0 : Int) ≤ (h76.2.1 34 2).toInt := (hv76.2.1 34 2).1
          have g80 : (h76.2.1 34 2).toInt ≤ 500 := (hv76.2.1 34 2).2
          exact go_lv rfl (ih.2.2.2 l2 h76 hv76 (by omega) (by omega) (by omega) (by omega) (by omega))
      ·
        intro l2 h hv y0l y0u y1l y1u hm
        refine go_iload_n (pc := 90) rfl dX3_readNumber_90 ?_
        exact gi_iret (pc := 91) (ti_rfl l2) ⟨_, rfl, (ti_lo _), (ti_hi _), hv⟩ hv dX3_readNumber_91
  refine go_aload_n (pc := 0) rfl dX3_readNumber_0 ?_
  refine gi_get (pc := 1) (lo := 0) (hi := 500) hv fL_X3_19 rfl (Nat.le_of_ble_eq_true rfl) rfl rfl dX3_readNumber_1 (fun v81 v81l v81u v81w => ?_)
  have g82 : (h.2.1 34 2).toInt = v81.toInt := by rw [v81w]
  refine go_istore_n (pc := 4) (Nat.le_of_ble_eq_true rfl) dX3_readNumber_4 (go_lv (lv2 := [(0, .ref 34), (1, .int v81)]) rfl ?_)
  refine go_iconst (pc := 5) (v := 0) (by decide) dX3_readNumber_5 ?_
  refine go_istore_n (pc := 6) (Nat.le_of_ble_eq_true rfl) dX3_readNumber_6 (go_lv (lv2 := [(0, .ref 34), (1, .int v81), (2, .int 0)]) rfl ?_)
  have z83 : (0 : Int32).toInt = 0 := (ti_c (v := 0) (a := 0) (by decide))
  have g84 : (0 : Int) ≤ (h.2.1 34 1).toInt := (hv.2.1 34 1).1
  have g85 : (h.2.1 34 1).toInt ≤ 500 := (hv.2.1 34 1).2
  have g86 : (0 : Int) ≤ (h.2.1 34 2).toInt := (hv.2.1 34 2).1
  have g87 : (h.2.1 34 2).toInt ≤ 500 := (hv.2.1 34 2).2
  have g88 : (h.2.1 34 2).toInt = v81.toInt := by rw [← (show v81 = h.2.1 34 2 from v81w)] <;> exact (ti_rfl v81)
  exact go_lv rfl ((key 2023).1 v81 0 h hv (by omega) (by omega) (by omega) (by omega) (by omega) (by omega) (by omega))
set_option maxHeartbeats 4000000 in
set_option maxRecDepth 100000 in
theorem s_X3_readOperand (l : Launch) (d : Nat) {P : PP} {h : HP} (hv : Iv P h)  : Mt l yX3_readOperand cX3_readOperand 3 (some .int) (d + 3) [.ref 34] h 0 0 (fun r h' => ∃ v : Int32, r = some (.int v) ∧ -2147483648 ≤ v.toInt ∧ v.toInt ≤ 2147483647 ∧ Iv P h') := by
  refine Mt_iv hv (by decide) (Nat.le_of_ble_eq_true rfl) ?_
  show Go l RX3 cX3_readOperand 3 (g_rm (d + 3) 0 0) "readOperand" (some .int) 117 0 0 (fun _ _ => True) (fun r h' => ∃ v : Int32, r = some (.int v) ∧ -2147483648 ≤ v.toInt ∧ v.toInt ≤ 2147483647 ∧ Iv P h') 0 0 [(0, .ref 34)] [] h
  have key : ∀ n : Nat, (∀ (l2 : Int32) (h : HP), Iv P h → -1 ≤ l2.toInt → l2.toInt ≤ 9 → (0 : Int) ≤ (h.2.1 34 2).toInt → (h.2.1 34 2).toInt ≤ 500 → (1 : Int) < n → Go l RX3 cX3_readOperand 3 (g_rm (d + 3) 0 0) "readOperand" (some .int) 117 0 0 (fun _ _ => True) (fun r h' => ∃ v : Int32, r = some (.int v) ∧ -2147483648 ≤ v.toInt ∧ v.toInt ≤ 2147483647 ∧ Iv P h') 0 52 [(2, .int l2)] [] h) := by
    intro n
    induction n with
    | zero => exact (by intros; omega)
    | succ n ih =>
      refine ?_
      ·
        intro l2 h hv l2l l2u y0l y0u hm
        refine go_iload_n (pc := 52) rfl dX3_readOperand_52 ?_
        exact gi_iret (pc := 53) (ti_rfl l2) ⟨_, rfl, (ti_lo _), (ti_hi _), hv⟩ hv dX3_readOperand_53
  refine go_aload_n (pc := 0) rfl dX3_readOperand_0 ?_
  refine go_invV (pc := 1) (sl := 0) (s_X3_look l (d + 1) hv ) mL_X3_66 iM_X3_look sM_X3_look (hv.sh rfl) rfl rfl rfl (Nat.le_of_ble_eq_true rfl) (show d + 1 + 1 + 1 ≤ d + 3 by omega) (show 8 + (1 + 11) + 40 * (d + 1 + 1) ≤ 40 * (d + 3) by omega) (g_c0 hv.ln) (Nat.le_of_ble_eq_true rfl) dX3_readOperand_1 ?_
  intro r h1 hq _
  obtain ⟨v3, rfl, v3l, v3u, hv1, f2⟩ := hq
  refine go_istore_n (pc := 4) (Nat.le_of_ble_eq_true rfl) dX3_readOperand_4 (go_lv (lv2 := [(0, .ref 34), (1, .int v3)]) rfl ?_)
  refine go_iload_n (pc := 5) rfl dX3_readOperand_5 ?_
  refine go_invS (pc := 6) (sl := 0) (s_X3_isDigit l (d + 1) hv1 v3) mL_X3_210 iM_X3_isDigit rfl rfl (Nat.le_of_ble_eq_true rfl) (show d + 1 + 1 + 1 ≤ d + 3 by omega) (show 8 + (1 + 11) + 40 * (d + 1 + 1) ≤ 40 * (d + 3) by omega) (g_c0 hv1.ln) (Nat.le_of_ble_eq_true rfl) dX3_readOperand_6 ?_
  intro r h4 hq _
  obtain ⟨v5, rfl, v5l, v5u, rfl⟩ := hq
  refine gf_if_eq (pc := 9) (tgt := 20) (ti_rfl v5) (by decide) dX3_readOperand_9 (fun q6 => ?_) (fun q6 => ?_)
  ·
    refine go_iload_n (pc := 20) rfl dX3_readOperand_20 ?_
    refine go_invS (pc := 21) (sl := 0) (s_X3_nameOf l (d + 1) hv1 v3) mL_X3_137 iM_X3_nameOf rfl rfl (Nat.le_of_ble_eq_true rfl) (show d + 1 + 1 + 1 ≤ d + 3 by omega) (show 8 + (1 + 11) + 40 * (d + 1 + 1) ≤ 40 * (d + 3) by omega) (g_c0 hv1.ln) (Nat.le_of_ble_eq_true rfl) dX3_readOperand_21 ?_
    intro r h7 hq _
    obtain ⟨v9, rfl, v9l, v9u, rfl, f8⟩ := hq
    refine go_istore_n (pc := 24) (Nat.le_of_ble_eq_true rfl) dX3_readOperand_24 (go_lv (lv2 := [(0, .ref 34), (1, .int v3), (2, .int v9)]) rfl ?_)
    refine go_iload_n (pc := 25) rfl dX3_readOperand_25 ?_
    refine go_iconst (pc := 26) (v := (-1)) (by decide) dX3_readOperand_26 ?_
    refine gf_icmp_ne (pc := 27) (tgt := 42) (ti_rfl v9) (ti_c (v := (-1)) (a := (-1)) (by decide)) (by decide) dX3_readOperand_27 (fun q10 => ?_) (fun q10 => ?_)
    ·
      refine go_aload_n (pc := 42) rfl dX3_readOperand_42 ?_
      refine go_dup (pc := 43) rfl dX3_readOperand_43 ?_
      refine gi_get (pc := 44) (lo := 0) (hi := 500) hv1 fL_X3_19 rfl (Nat.le_of_ble_eq_true rfl) rfl rfl dX3_readOperand_44 (fun v11 v11l v11u v11w => ?_)
      have g12 : (h1.2.1 34 2).toInt = v11.toInt := by rw [v11w]
      refine go_iconst (pc := 47) (v := 1) (by decide) dX3_readOperand_47 ?_
      refine gf_iadd (pc := 48) (ti_rfl v11) (ti_c (v := 1) (a := 1) (by decide)) (by omega) (by omega) dX3_readOperand_48 (fun v13 e14 => ?_)
      refine gi_put (pc := 49) (lo := 0) (hi := 500) hv1 e14 (fP_X3_19 _) rfl (Nat.le_of_ble_eq_true rfl) rfl rfl (by omega) (by omega) rfl rfl (by decide) (by decide) (by decide) (by decide) dX3_readOperand_49 (fun h15 hv15 hv15e => ?_)
      have g16 : (0 : Int) ≤ (h15.2.1 34 2).toInt := (hv15.2.1 34 2).1
      have g17 : (h15.2.1 34 2).toInt ≤ 500 := (hv15.2.1 34 2).2
      have g18 : (h15.2.1 34 2).toInt = (v11.toInt + 1) := by rw [← (show v13 = h15.2.1 34 2 from (show v13 = h15.2.1 34 2 from by rw [hv15e]; exact g_iS.symm))] <;> exact e14
      exact go_lv rfl ((key 14) v9 h15 hv15 (by omega) (by omega) (by omega) (by omega) (by omega))
    ·
      refine go_aload_n (pc := 30) rfl dX3_readOperand_30 ?_
      refine go_iconst (pc := 31) (v := 1) (by decide) dX3_readOperand_31 ?_
      refine go_aload_n (pc := 32) rfl dX3_readOperand_32 ?_
      refine gi_get (pc := 33) (lo := 0) (hi := 500) hv1 fL_X3_19 rfl (Nat.le_of_ble_eq_true rfl) rfl rfl dX3_readOperand_33 (fun v19 v19l v19u v19w => ?_)
      have g20 : (h1.2.1 34 2).toInt = v19.toInt := by rw [v19w]
      refine go_invV (pc := 36) (sl := 0) (s_X3_blame l (d + 1) hv1 1 v19) mL_X3_101 iM_X3_blame sM_X3_blame (hv1.sh rfl) rfl rfl rfl (Nat.le_of_ble_eq_true rfl) (show d + 1 + 1 + 1 ≤ d + 3 by omega) (show 8 + (3 + 11) + 40 * (d + 1 + 1) ≤ 40 * (d + 3) by omega) (g_c0 hv1.ln) (Nat.le_of_ble_eq_true rfl) dX3_readOperand_36 ?_
      intro r h21 hq _
      obtain ⟨rfl, hv21⟩ := hq
      refine go_goto (pc := 39) (tgt := 52) (by decide) dX3_readOperand_39 ?_
      have g22 : (0 : Int) ≤ (h21.2.1 34 2).toInt := (hv21.2.1 34 2).1
      have g23 : (h21.2.1 34 2).toInt ≤ 500 := (hv21.2.1 34 2).2
      exact go_lv rfl ((key 14) v9 h21 hv21 (by omega) (by omega) (by omega) (by omega) (by omega))
  ·
    refine go_bipush (pc := 12) (v := 10) (by decide) dX3_readOperand_12 ?_
    refine go_aload_n (pc := 14) rfl dX3_readOperand_14 ?_
    refine go_invV (pc := 15) (sl := 0) (s_X3_readNumber l (d + 0) hv1 ) mL_X3_213 iM_X3_readNumber sM_X3_readNumber (hv1.sh rfl) rfl rfl rfl (Nat.le_of_ble_eq_true rfl) (show d + 0 + 2 + 1 ≤ d + 3 by omega) (show 8 + (3 + 11) + 40 * (d + 0 + 2) ≤ 40 * (d + 3) by omega) (g_c0 hv1.ln) (Nat.le_of_ble_eq_true rfl) dX3_readOperand_15 ?_
    intro r h24 hq _
    obtain ⟨v25, rfl, v25l, v25u, hv24⟩ := hq
    refine gu_iadd (pc := 18) dX3_readOperand_18 (fun v26 => ?_)
    exact gi_iret (pc := 19) (ti_rfl v26) ⟨_, rfl, (ti_lo _), (ti_hi _), hv24⟩ hv24 dX3_readOperand_19
set_option maxHeartbeats 4000000 in
set_option maxRecDepth 100000 in
theorem s_X5_add (l : Launch) (d : Nat) {P : PP} {h : HP} (hv : Iv P h) (a2 : Int32) (a2l : -1 ≤ a2.toInt) (a2u : a2.toInt ≤ 39) : Mt l yX5_add cX5_add 3 (some .int) (d + 1) [.ref 36, .int a2] h 0 0 (fun r h' => ∃ v : Int32, r = some (.int v) ∧ -1 ≤ v.toInt ∧ v.toInt ≤ 127 ∧ Iv P h') := by
  refine Mt_iv hv (by decide) (Nat.le_of_ble_eq_true rfl) ?_
  show Go l RX5 cX5_add 3 (g_rm (d + 1) 0 0) "add" (some .int) 117 0 0 (fun _ _ => True) (fun r h' => ∃ v : Int32, r = some (.int v) ∧ -1 ≤ v.toInt ∧ v.toInt ≤ 127 ∧ Iv P h') 0 0 [(0, .ref 36), (1, .int a2)] [] h
  refine go_aload_n (pc := 0) rfl dX5_add_0 ?_
  refine gi_get (pc := 1) (lo := 0) (hi := 128) hv fL_X5_9 rfl (Nat.le_of_ble_eq_true rfl) rfl rfl dX5_add_1 (fun v1 v1l v1u v1w => ?_)
  refine go_sipush (pc := 4) (v := 128) (by decide) dX5_add_4 ?_
  refine gf_icmp_lt (pc := 7) (tgt := 12) (ti_rfl v1) (ti_c (v := 128) (a := 128) (by decide)) (by decide) dX5_add_7 (fun q2 => ?_) (fun q2 => ?_)
  ·
    refine go_aload_n (pc := 12) rfl dX5_add_12 ?_
    refine gi_get (pc := 13) (lo := 0) (hi := 128) hv fL_X5_9 rfl (Nat.le_of_ble_eq_true rfl) rfl rfl dX5_add_13 (fun v3 v3l v3u v3w => ?_)
    have v3r : v1 = h.2.1 36 0 := v1w
    have v3q : TI v3 v1.toInt := by rw [v3w.trans v3r.symm]; exact (ti_rfl v1)
    refine go_istore_n (pc := 16) (Nat.le_of_ble_eq_true rfl) dX5_add_16 (go_lv (lv2 := [(0, .ref 36), (1, .int a2), (2, .int v3)]) rfl ?_)
    refine go_aload_n (pc := 17) rfl dX5_add_17 ?_
    refine go_dup (pc := 18) rfl dX5_add_18 ?_
    refine gi_get (pc := 19) (lo := 0) (hi := 128) hv fL_X5_9 rfl (Nat.le_of_ble_eq_true rfl) rfl rfl dX5_add_19 (fun v4 v4l v4u v4w => ?_)
    have v4r : v1 = h.2.1 36 0 := v1w
    have v4q : TI v4 v1.toInt := by rw [v4w.trans v4r.symm]; exact (ti_rfl v1)
    refine go_iconst (pc := 22) (v := 1) (by decide) dX5_add_22 ?_
    refine gf_iadd (pc := 23) v4q (ti_c (v := 1) (a := 1) (by decide)) (by omega) (by omega) dX5_add_23 (fun v5 e6 => ?_)
    refine gi_put (pc := 24) (lo := 0) (hi := 128) hv e6 (fP_X5_9 _) rfl (Nat.le_of_ble_eq_true rfl) rfl rfl (by omega) (by omega) rfl rfl (by decide) (by decide) (by decide) (by decide) dX5_add_24 (fun h7 hv7 hv7e => ?_)
    refine go_aload_n (pc := 27) rfl dX5_add_27 ?_
    refine gi_getF (pc := 28) (q := 37) hv7 fL_X5_15 rfl (Nat.le_of_ble_eq_true rfl) rfl (hv7.rf (by decide)) dX5_add_28 ?_
    refine go_iload_n (pc := 31) rfl dX5_add_31 ?_
    refine go_iload_n (pc := 32) rfl dX5_add_32 ?_
    refine gi_iast (pc := 33) (lo := -1) (hi := 39) (len := 128) hv7 v3q (ti_rfl a2) rfl (by omega) (by omega) (fun _ => rfl) (by omega) (by omega) (by decide) dX5_add_33 (fun h8 hv8 hv8e => ?_)
    refine go_aload_n (pc := 34) rfl dX5_add_34 ?_
    refine gi_getF (pc := 35) (q := 38) hv8 fL_X5_19 rfl (Nat.le_of_ble_eq_true rfl) rfl (hv8.rf (by decide)) dX5_add_35 ?_
    refine go_iload_n (pc := 38) rfl dX5_add_38 ?_
    refine go_iconst (pc := 39) (v := (-1)) (by decide) dX5_add_39 ?_
    refine gi_iast (pc := 40) (lo := -1) (hi := 127) (len := 128) hv8 v3q (ti_c (v := (-1)) (a := (-1)) (by decide)) rfl (by omega) (by omega) (fun _ => rfl) (by omega) (by omega) (by decide) dX5_add_40 (fun h9 hv9 hv9e => ?_)
    refine go_aload_n (pc := 41) rfl dX5_add_41 ?_
    refine gi_getF (pc := 42) (q := 39) hv9 fL_X5_22 rfl (Nat.le_of_ble_eq_true rfl) rfl (hv9.rf (by decide)) dX5_add_42 ?_
    refine go_iload_n (pc := 45) rfl dX5_add_45 ?_
    refine go_iconst (pc := 46) (v := (-1)) (by decide) dX5_add_46 ?_
    refine gi_iast (pc := 47) (lo := -1) (hi := 127) (len := 128) hv9 v3q (ti_c (v := (-1)) (a := (-1)) (by decide)) rfl (by omega) (by omega) (fun _ => rfl) (by omega) (by omega) (by decide) dX5_add_47 (fun h10 hv10 hv10e => ?_)
    refine go_aload_n (pc := 48) rfl dX5_add_48 ?_
    refine gi_getF (pc := 49) (q := 40) hv10 fL_X5_25 rfl (Nat.le_of_ble_eq_true rfl) rfl (hv10.rf (by decide)) dX5_add_49 ?_
    refine go_iload_n (pc := 52) rfl dX5_add_52 ?_
    refine go_iconst (pc := 53) (v := (-1)) (by decide) dX5_add_53 ?_
    refine gi_iast (pc := 54) (lo := -1) (hi := 127) (len := 128) hv10 v3q (ti_c (v := (-1)) (a := (-1)) (by decide)) rfl (by omega) (by omega) (fun _ => rfl) (by omega) (by omega) (by decide) dX5_add_54 (fun h11 hv11 hv11e => ?_)
    refine go_aload_n (pc := 55) rfl dX5_add_55 ?_
    refine gi_getF (pc := 56) (q := 41) hv11 fL_X5_28 rfl (Nat.le_of_ble_eq_true rfl) rfl (hv11.rf (by decide)) dX5_add_56 ?_
    refine go_iload_n (pc := 59) rfl dX5_add_59 ?_
    refine go_iconst (pc := 60) (v := (-1)) (by decide) dX5_add_60 ?_
    refine gi_iast (pc := 61) (lo := -1) (hi := 5) (len := 128) hv11 v3q (ti_c (v := (-1)) (a := (-1)) (by decide)) rfl (by omega) (by omega) (fun _ => rfl) (by omega) (by omega) (by decide) dX5_add_61 (fun h12 hv12 hv12e => ?_)
    refine go_iload_n (pc := 62) rfl dX5_add_62 ?_
    exact gi_iret (pc := 63) v3q ⟨_, rfl, (by rw [show (v3 : Int32).toInt = v1.toInt from v3q]; omega), (by rw [show (v3 : Int32).toInt = v1.toInt from v3q]; omega), hv12⟩ hv12 dX5_add_63
  ·
    refine go_iconst (pc := 10) (v := (-1)) (by decide) dX5_add_10 ?_
    exact gi_iret (pc := 11) (ti_c (v := (-1)) (a := (-1)) (by decide)) ⟨_, rfl, (by rw [show ((-1) : Int32).toInt = (-1) from (ti_c (v := (-1)) (a := (-1)) (by decide))]; omega), (by rw [show ((-1) : Int32).toInt = (-1) from (ti_c (v := (-1)) (a := (-1)) (by decide))]; omega), hv⟩ hv dX5_add_11
