theorem dX7_end_0 : decode cX7_end 0 = .ok (.iload_n 1, 1) := by decide +kernel
theorem dX7_end_1 : decode cX7_end 1 = .ok (.ifCond .lt 11, 3) := by decide +kernel
theorem dX7_end_4 : decode cX7_end 4 = .ok (.iload_n 1, 1) := by decide +kernel
theorem dX7_end_5 : decode cX7_end 5 = .ok (.aload_n 0, 1) := by decide +kernel
theorem dX7_end_6 : decode cX7_end 6 = .ok (.getfield 13, 3) := by decide +kernel
theorem dX7_end_9 : decode cX7_end 9 = .ok (.if_icmp .le 5, 3) := by decide +kernel
theorem dX7_end_12 : decode cX7_end 12 = .ok (.iconst 0, 1) := by decide +kernel
theorem dX7_end_13 : decode cX7_end 13 = .ok (.ireturn, 1) := by decide +kernel
theorem dX7_end_14 : decode cX7_end 14 = .ok (.aload_n 0, 1) := by decide +kernel
theorem dX7_end_15 : decode cX7_end 15 = .ok (.iload_n 1, 1) := by decide +kernel
theorem dX7_end_16 : decode cX7_end 16 = .ok (.putfield 13, 3) := by decide +kernel
theorem dX7_end_19 : decode cX7_end 19 = .ok (.iconst 1, 1) := by decide +kernel
theorem dX7_end_20 : decode cX7_end 20 = .ok (.ireturn, 1) := by decide +kernel
theorem dX7_feed_0 : decode cX7_feed 0 = .ok (.aload_n 0, 1) := by decide +kernel
theorem dX7_feed_1 : decode cX7_feed 1 = .ok (.getfield 13, 3) := by decide +kernel
theorem dX7_feed_4 : decode cX7_feed 4 = .ok (.bipush 20, 2) := by decide +kernel
theorem dX7_feed_6 : decode cX7_feed 6 = .ok (.iadd, 1) := by decide +kernel
theorem dX7_feed_7 : decode cX7_feed 7 = .ok (.sipush 500, 3) := by decide +kernel
theorem dX7_feed_10 : decode cX7_feed 10 = .ok (.if_icmp .le 5, 3) := by decide +kernel
theorem dX7_feed_13 : decode cX7_feed 13 = .ok (.iconst (-1), 1) := by decide +kernel
theorem dX7_feed_14 : decode cX7_feed 14 = .ok (.ireturn, 1) := by decide +kernel
theorem dX7_feed_15 : decode cX7_feed 15 = .ok (.aload_n 0, 1) := by decide +kernel
theorem dX7_feed_16 : decode cX7_feed 16 = .ok (.iload_n 1, 1) := by decide +kernel
theorem dX7_feed_17 : decode cX7_feed 17 = .ok (.invokevirtual 53, 3) := by decide +kernel
theorem dX7_feed_20 : decode cX7_feed 20 = .ok (.aload_n 0, 1) := by decide +kernel
theorem dX7_feed_21 : decode cX7_feed 21 = .ok (.iload_n 2, 1) := by decide +kernel
theorem dX7_feed_22 : decode cX7_feed 22 = .ok (.invokevirtual 53, 3) := by decide +kernel
theorem dX7_feed_25 : decode cX7_feed 25 = .ok (.aload_n 0, 1) := by decide +kernel
theorem dX7_feed_26 : decode cX7_feed 26 = .ok (.iload_n 3, 1) := by decide +kernel
theorem dX7_feed_27 : decode cX7_feed 27 = .ok (.invokevirtual 53, 3) := by decide +kernel
theorem dX7_feed_30 : decode cX7_feed 30 = .ok (.aload_n 0, 1) := by decide +kernel
theorem dX7_feed_31 : decode cX7_feed 31 = .ok (.iload 4, 2) := by decide +kernel
theorem dX7_feed_33 : decode cX7_feed 33 = .ok (.invokevirtual 53, 3) := by decide +kernel
theorem dX7_feed_36 : decode cX7_feed 36 = .ok (.aload_n 0, 1) := by decide +kernel
theorem dX7_feed_37 : decode cX7_feed 37 = .ok (.iload 5, 2) := by decide +kernel
theorem dX7_feed_39 : decode cX7_feed 39 = .ok (.invokevirtual 53, 3) := by decide +kernel
theorem dX7_feed_42 : decode cX7_feed 42 = .ok (.aload_n 0, 1) := by decide +kernel
theorem dX7_feed_43 : decode cX7_feed 43 = .ok (.getfield 13, 3) := by decide +kernel
theorem dX7_feed_46 : decode cX7_feed 46 = .ok (.ireturn, 1) := by decide +kernel
theorem dX7_putFour_0 : decode cX7_putFour 0 = .ok (.bipush 24, 2) := by decide +kernel
theorem dX7_putFour_2 : decode cX7_putFour 2 = .ok (.istore_n 2, 1) := by decide +kernel
theorem dX7_putFour_3 : decode cX7_putFour 3 = .ok (.iload_n 2, 1) := by decide +kernel
theorem dX7_putFour_4 : decode cX7_putFour 4 = .ok (.ifCond .lt 42, 3) := by decide +kernel
theorem dX7_putFour_7 : decode cX7_putFour 7 = .ok (.aload_n 0, 1) := by decide +kernel
theorem dX7_putFour_8 : decode cX7_putFour 8 = .ok (.getfield 13, 3) := by decide +kernel
theorem dX7_putFour_11 : decode cX7_putFour 11 = .ok (.sipush 500, 3) := by decide +kernel
theorem dX7_putFour_14 : decode cX7_putFour 14 = .ok (.if_icmp .ge 32, 3) := by decide +kernel
theorem dX7_putFour_17 : decode cX7_putFour 17 = .ok (.aload_n 0, 1) := by decide +kernel
theorem dX7_putFour_18 : decode cX7_putFour 18 = .ok (.getfield 9, 3) := by decide +kernel
theorem dX7_putFour_21 : decode cX7_putFour 21 = .ok (.aload_n 0, 1) := by decide +kernel
theorem dX7_putFour_22 : decode cX7_putFour 22 = .ok (.getfield 13, 3) := by decide +kernel
theorem dX7_putFour_25 : decode cX7_putFour 25 = .ok (.iload_n 1, 1) := by decide +kernel
theorem dX7_putFour_26 : decode cX7_putFour 26 = .ok (.iload_n 2, 1) := by decide +kernel
theorem dX7_putFour_27 : decode cX7_putFour 27 = .ok (.iushr, 1) := by decide +kernel
theorem dX7_putFour_28 : decode cX7_putFour 28 = .ok (.i2b, 1) := by decide +kernel
theorem dX7_putFour_29 : decode cX7_putFour 29 = .ok (.bastore, 1) := by decide +kernel
theorem dX7_putFour_30 : decode cX7_putFour 30 = .ok (.aload_n 0, 1) := by decide +kernel
theorem dX7_putFour_31 : decode cX7_putFour 31 = .ok (.dup, 1) := by decide +kernel
theorem dX7_putFour_32 : decode cX7_putFour 32 = .ok (.getfield 13, 3) := by decide +kernel
theorem dX7_putFour_35 : decode cX7_putFour 35 = .ok (.iconst 1, 1) := by decide +kernel
theorem dX7_putFour_36 : decode cX7_putFour 36 = .ok (.iadd, 1) := by decide +kernel
theorem dX7_putFour_37 : decode cX7_putFour 37 = .ok (.putfield 13, 3) := by decide +kernel
theorem dX7_putFour_40 : decode cX7_putFour 40 = .ok (.iinc 2 (-8), 3) := by decide +kernel
theorem dX7_putFour_43 : decode cX7_putFour 43 = .ok (.goto (-40), 3) := by decide +kernel
theorem dX7_putFour_46 : decode cX7_putFour 46 = .ok (.return_, 1) := by decide +kernel
theorem dX8_end_0 : decode cX8_end 0 = .ok (.iload_n 1, 1) := by decide +kernel
theorem dX8_end_1 : decode cX8_end 1 = .ok (.iconst 0, 1) := by decide +kernel
theorem dX8_end_2 : decode cX8_end 2 = .ok (.aload_n 0, 1) := by decide +kernel
theorem dX8_end_3 : decode cX8_end 3 = .ok (.getfield 151, 3) := by decide +kernel
theorem dX8_end_6 : decode cX8_end 6 = .ok (.invokestatic 159, 3) := by decide +kernel
theorem dX8_end_9 : decode cX8_end 9 = .ok (.ifCond .ne 5, 3) := by decide +kernel
theorem dX8_end_12 : decode cX8_end 12 = .ok (.iconst 0, 1) := by decide +kernel
theorem dX8_end_13 : decode cX8_end 13 = .ok (.ireturn, 1) := by decide +kernel
theorem dX8_end_14 : decode cX8_end 14 = .ok (.aload_n 0, 1) := by decide +kernel
theorem dX8_end_15 : decode cX8_end 15 = .ok (.iload_n 1, 1) := by decide +kernel
theorem dX8_end_16 : decode cX8_end 16 = .ok (.putfield 151, 3) := by decide +kernel
theorem dX8_end_19 : decode cX8_end 19 = .ok (.iconst 1, 1) := by decide +kernel
theorem dX8_end_20 : decode cX8_end 20 = .ok (.ireturn, 1) := by decide +kernel
theorem dX8_feed_0 : decode cX8_feed 0 = .ok (.aload_n 0, 1) := by decide +kernel
theorem dX8_feed_1 : decode cX8_feed 1 = .ok (.getfield 151, 3) := by decide +kernel
theorem dX8_feed_4 : decode cX8_feed 4 = .ok (.bipush 20, 2) := by decide +kernel
theorem dX8_feed_6 : decode cX8_feed 6 = .ok (.iadd, 1) := by decide +kernel
theorem dX8_feed_7 : decode cX8_feed 7 = .ok (.sipush 500, 3) := by decide +kernel
theorem dX8_feed_10 : decode cX8_feed 10 = .ok (.if_icmp .le 5, 3) := by decide +kernel
theorem dX8_feed_13 : decode cX8_feed 13 = .ok (.iconst (-1), 1) := by decide +kernel
theorem dX8_feed_14 : decode cX8_feed 14 = .ok (.ireturn, 1) := by decide +kernel
theorem dX8_feed_15 : decode cX8_feed 15 = .ok (.aload_n 0, 1) := by decide +kernel
theorem dX8_feed_16 : decode cX8_feed 16 = .ok (.iload_n 1, 1) := by decide +kernel
theorem dX8_feed_17 : decode cX8_feed 17 = .ok (.invokevirtual 155, 3) := by decide +kernel
theorem dX8_feed_20 : decode cX8_feed 20 = .ok (.aload_n 0, 1) := by decide +kernel
theorem dX8_feed_21 : decode cX8_feed 21 = .ok (.iload_n 2, 1) := by decide +kernel
theorem dX8_feed_22 : decode cX8_feed 22 = .ok (.invokevirtual 155, 3) := by decide +kernel
theorem dX8_feed_25 : decode cX8_feed 25 = .ok (.aload_n 0, 1) := by decide +kernel
theorem dX8_feed_26 : decode cX8_feed 26 = .ok (.iload_n 3, 1) := by decide +kernel
theorem dX8_feed_27 : decode cX8_feed 27 = .ok (.invokevirtual 155, 3) := by decide +kernel
theorem dX8_feed_30 : decode cX8_feed 30 = .ok (.aload_n 0, 1) := by decide +kernel
theorem dX8_feed_31 : decode cX8_feed 31 = .ok (.iload 4, 2) := by decide +kernel
theorem dX8_feed_33 : decode cX8_feed 33 = .ok (.invokevirtual 155, 3) := by decide +kernel
theorem dX8_feed_36 : decode cX8_feed 36 = .ok (.aload_n 0, 1) := by decide +kernel
theorem dX8_feed_37 : decode cX8_feed 37 = .ok (.iload 5, 2) := by decide +kernel
theorem dX8_feed_39 : decode cX8_feed 39 = .ok (.invokevirtual 155, 3) := by decide +kernel
theorem dX8_feed_42 : decode cX8_feed 42 = .ok (.aload_n 0, 1) := by decide +kernel
theorem dX8_feed_43 : decode cX8_feed 43 = .ok (.getfield 151, 3) := by decide +kernel
theorem dX8_feed_46 : decode cX8_feed 46 = .ok (.ireturn, 1) := by decide +kernel
theorem dX8_put_0 : decode cX8_put 0 = .ok (.bipush 24, 2) := by decide +kernel
theorem dX8_put_2 : decode cX8_put 2 = .ok (.istore_n 2, 1) := by decide +kernel
theorem dX8_put_3 : decode cX8_put 3 = .ok (.iload_n 2, 1) := by decide +kernel
theorem dX8_put_4 : decode cX8_put 4 = .ok (.ifCond .lt 32, 3) := by decide +kernel
theorem dX8_put_7 : decode cX8_put 7 = .ok (.aload_n 0, 1) := by decide +kernel
theorem dX8_put_8 : decode cX8_put 8 = .ok (.getfield 7, 3) := by decide +kernel
theorem dX8_put_11 : decode cX8_put 11 = .ok (.aload_n 0, 1) := by decide +kernel
theorem dX8_put_12 : decode cX8_put 12 = .ok (.getfield 151, 3) := by decide +kernel
theorem dX8_put_15 : decode cX8_put 15 = .ok (.iload_n 1, 1) := by decide +kernel
theorem dX8_put_16 : decode cX8_put 16 = .ok (.iload_n 2, 1) := by decide +kernel
theorem dX8_put_17 : decode cX8_put 17 = .ok (.ishr, 1) := by decide +kernel
theorem dX8_put_18 : decode cX8_put 18 = .ok (.i2b, 1) := by decide +kernel
theorem dX8_put_19 : decode cX8_put 19 = .ok (.bastore, 1) := by decide +kernel
theorem dX8_put_20 : decode cX8_put 20 = .ok (.aload_n 0, 1) := by decide +kernel
theorem dX8_put_21 : decode cX8_put 21 = .ok (.dup, 1) := by decide +kernel
theorem dX8_put_22 : decode cX8_put 22 = .ok (.getfield 151, 3) := by decide +kernel
theorem dX8_put_25 : decode cX8_put 25 = .ok (.iconst 1, 1) := by decide +kernel
theorem dX8_put_26 : decode cX8_put 26 = .ok (.iadd, 1) := by decide +kernel
theorem dX8_put_27 : decode cX8_put 27 = .ok (.putfield 151, 3) := by decide +kernel
theorem dX8_put_30 : decode cX8_put 30 = .ok (.iinc 2 (-8), 3) := by decide +kernel
theorem dX8_put_33 : decode cX8_put 33 = .ok (.goto (-30), 3) := by decide +kernel
theorem dX8_put_36 : decode cX8_put 36 = .ok (.return_, 1) := by decide +kernel
