theorem dX3_init_0 : decode cX3_init 0 = .ok (.aload_n 0, 1) := by decide +kernel
theorem dX3_init_1 : decode cX3_init 1 = .ok (.invokespecial 3, 3) := by decide +kernel
theorem dX3_init_4 : decode cX3_init 4 = .ok (.aload_n 0, 1) := by decide +kernel
theorem dX3_init_5 : decode cX3_init 5 = .ok (.sipush 12000, 3) := by decide +kernel
theorem dX3_init_8 : decode cX3_init 8 = .ok (.newarray .int, 2) := by decide +kernel
theorem dX3_init_10 : decode cX3_init 10 = .ok (.putfield 9, 3) := by decide +kernel
theorem dX3_init_13 : decode cX3_init 13 = .ok (.aload_n 0, 1) := by decide +kernel
theorem dX3_init_14 : decode cX3_init 14 = .ok (.bipush 6, 2) := by decide +kernel
theorem dX3_init_16 : decode cX3_init 16 = .ok (.newarray .int, 2) := by decide +kernel
theorem dX3_init_18 : decode cX3_init 18 = .ok (.putfield 15, 3) := by decide +kernel
theorem dX3_init_21 : decode cX3_init 21 = .ok (.aload_n 0, 1) := by decide +kernel
theorem dX3_init_22 : decode cX3_init 22 = .ok (.bipush 6, 2) := by decide +kernel
theorem dX3_init_24 : decode cX3_init 24 = .ok (.newarray .int, 2) := by decide +kernel
theorem dX3_init_26 : decode cX3_init 26 = .ok (.putfield 18, 3) := by decide +kernel
theorem dX3_init_29 : decode cX3_init 29 = .ok (.aload_n 0, 1) := by decide +kernel
theorem dX3_init_30 : decode cX3_init 30 = .ok (.iconst 0, 1) := by decide +kernel
theorem dX3_init_31 : decode cX3_init 31 = .ok (.putfield 21, 3) := by decide +kernel
theorem dX3_init_34 : decode cX3_init 34 = .ok (.return_, 1) := by decide +kernel
theorem dX3_now_0 : decode cX3_now 0 = .ok (.aload_n 0, 1) := by decide +kernel
theorem dX3_now_1 : decode cX3_now 1 = .ok (.getfield 21, 3) := by decide +kernel
theorem dX3_now_4 : decode cX3_now 4 = .ok (.ireturn, 1) := by decide +kernel
theorem dX3_usedNow_0 : decode cX3_usedNow 0 = .ok (.aload_n 0, 1) := by decide +kernel
theorem dX3_usedNow_1 : decode cX3_usedNow 1 = .ok (.getfield 18, 3) := by decide +kernel
theorem dX3_usedNow_4 : decode cX3_usedNow 4 = .ok (.iload_n 1, 1) := by decide +kernel
theorem dX3_usedNow_5 : decode cX3_usedNow 5 = .ok (.iaload, 1) := by decide +kernel
theorem dX3_usedNow_6 : decode cX3_usedNow 6 = .ok (.ireturn, 1) := by decide +kernel
theorem dX3_addUsed_0 : decode cX3_addUsed 0 = .ok (.aload_n 0, 1) := by decide +kernel
theorem dX3_addUsed_1 : decode cX3_addUsed 1 = .ok (.getfield 18, 3) := by decide +kernel
theorem dX3_addUsed_4 : decode cX3_addUsed 4 = .ok (.iload_n 1, 1) := by decide +kernel
theorem dX3_addUsed_5 : decode cX3_addUsed 5 = .ok (.dup2, 1) := by decide +kernel
theorem dX3_addUsed_6 : decode cX3_addUsed 6 = .ok (.iaload, 1) := by decide +kernel
theorem dX3_addUsed_7 : decode cX3_addUsed 7 = .ok (.iload_n 2, 1) := by decide +kernel
theorem dX3_addUsed_8 : decode cX3_addUsed 8 = .ok (.iadd, 1) := by decide +kernel
theorem dX3_addUsed_9 : decode cX3_addUsed 9 = .ok (.iastore, 1) := by decide +kernel
theorem dX3_addUsed_10 : decode cX3_addUsed 10 = .ok (.return_, 1) := by decide +kernel
theorem dX3_addPrice_0 : decode cX3_addPrice 0 = .ok (.aload_n 0, 1) := by decide +kernel
theorem dX3_addPrice_1 : decode cX3_addPrice 1 = .ok (.getfield 15, 3) := by decide +kernel
theorem dX3_addPrice_4 : decode cX3_addPrice 4 = .ok (.iload_n 1, 1) := by decide +kernel
theorem dX3_addPrice_5 : decode cX3_addPrice 5 = .ok (.dup2, 1) := by decide +kernel
theorem dX3_addPrice_6 : decode cX3_addPrice 6 = .ok (.iaload, 1) := by decide +kernel
theorem dX3_addPrice_7 : decode cX3_addPrice 7 = .ok (.iload_n 2, 1) := by decide +kernel
theorem dX3_addPrice_8 : decode cX3_addPrice 8 = .ok (.iadd, 1) := by decide +kernel
theorem dX3_addPrice_9 : decode cX3_addPrice 9 = .ok (.iastore, 1) := by decide +kernel
theorem dX3_addPrice_10 : decode cX3_addPrice 10 = .ok (.return_, 1) := by decide +kernel
theorem dX3_costOf_0 : decode cX3_costOf 0 = .ok (.iload_n 2, 1) := by decide +kernel
theorem dX3_costOf_1 : decode cX3_costOf 1 = .ok (.aload_n 0, 1) := by decide +kernel
theorem dX3_costOf_2 : decode cX3_costOf 2 = .ok (.getfield 21, 3) := by decide +kernel
theorem dX3_costOf_5 : decode cX3_costOf 5 = .ok (.if_icmp .ne 19, 3) := by decide +kernel
theorem dX3_costOf_8 : decode cX3_costOf 8 = .ok (.aload_n 0, 1) := by decide +kernel
theorem dX3_costOf_9 : decode cX3_costOf 9 = .ok (.getfield 15, 3) := by decide +kernel
theorem dX3_costOf_12 : decode cX3_costOf 12 = .ok (.iload_n 1, 1) := by decide +kernel
theorem dX3_costOf_13 : decode cX3_costOf 13 = .ok (.iaload, 1) := by decide +kernel
theorem dX3_costOf_14 : decode cX3_costOf 14 = .ok (.aload_n 0, 1) := by decide +kernel
theorem dX3_costOf_15 : decode cX3_costOf 15 = .ok (.getfield 18, 3) := by decide +kernel
theorem dX3_costOf_18 : decode cX3_costOf 18 = .ok (.iload_n 1, 1) := by decide +kernel
theorem dX3_costOf_19 : decode cX3_costOf 19 = .ok (.iaload, 1) := by decide +kernel
theorem dX3_costOf_20 : decode cX3_costOf 20 = .ok (.iadd, 1) := by decide +kernel
theorem dX3_costOf_21 : decode cX3_costOf 21 = .ok (.goto 15, 3) := by decide +kernel
theorem dX3_costOf_24 : decode cX3_costOf 24 = .ok (.aload_n 0, 1) := by decide +kernel
theorem dX3_costOf_25 : decode cX3_costOf 25 = .ok (.getfield 9, 3) := by decide +kernel
theorem dX3_costOf_28 : decode cX3_costOf 28 = .ok (.iload_n 1, 1) := by decide +kernel
theorem dX3_costOf_29 : decode cX3_costOf 29 = .ok (.sipush 2000, 3) := by decide +kernel
theorem dX3_costOf_32 : decode cX3_costOf 32 = .ok (.imul, 1) := by decide +kernel
theorem dX3_costOf_33 : decode cX3_costOf 33 = .ok (.iload_n 2, 1) := by decide +kernel
theorem dX3_costOf_34 : decode cX3_costOf 34 = .ok (.iadd, 1) := by decide +kernel
theorem dX3_costOf_35 : decode cX3_costOf 35 = .ok (.iaload, 1) := by decide +kernel
theorem dX3_costOf_36 : decode cX3_costOf 36 = .ok (.ireturn, 1) := by decide +kernel
theorem dX3_costOfDay_0 : decode cX3_costOfDay 0 = .ok (.iconst 0, 1) := by decide +kernel
theorem dX3_costOfDay_1 : decode cX3_costOfDay 1 = .ok (.istore_n 3, 1) := by decide +kernel
theorem dX3_costOfDay_2 : decode cX3_costOfDay 2 = .ok (.iconst 0, 1) := by decide +kernel
theorem dX3_costOfDay_3 : decode cX3_costOfDay 3 = .ok (.istore 4, 2) := by decide +kernel
theorem dX3_costOfDay_5 : decode cX3_costOfDay 5 = .ok (.iload 4, 2) := by decide +kernel
theorem dX3_costOfDay_7 : decode cX3_costOfDay 7 = .ok (.bipush 24, 2) := by decide +kernel
theorem dX3_costOfDay_9 : decode cX3_costOfDay 9 = .ok (.if_icmp .ge 24, 3) := by decide +kernel
theorem dX3_costOfDay_12 : decode cX3_costOfDay 12 = .ok (.iload_n 3, 1) := by decide +kernel
theorem dX3_costOfDay_13 : decode cX3_costOfDay 13 = .ok (.aload_n 0, 1) := by decide +kernel
theorem dX3_costOfDay_14 : decode cX3_costOfDay 14 = .ok (.iload_n 1, 1) := by decide +kernel
theorem dX3_costOfDay_15 : decode cX3_costOfDay 15 = .ok (.iload_n 2, 1) := by decide +kernel
theorem dX3_costOfDay_16 : decode cX3_costOfDay 16 = .ok (.bipush 24, 2) := by decide +kernel
theorem dX3_costOfDay_18 : decode cX3_costOfDay 18 = .ok (.imul, 1) := by decide +kernel
theorem dX3_costOfDay_19 : decode cX3_costOfDay 19 = .ok (.iload 4, 2) := by decide +kernel
theorem dX3_costOfDay_21 : decode cX3_costOfDay 21 = .ok (.iadd, 1) := by decide +kernel
theorem dX3_costOfDay_22 : decode cX3_costOfDay 22 = .ok (.invokevirtual 25, 3) := by decide +kernel
theorem dX3_costOfDay_25 : decode cX3_costOfDay 25 = .ok (.iadd, 1) := by decide +kernel
theorem dX3_costOfDay_26 : decode cX3_costOfDay 26 = .ok (.istore_n 3, 1) := by decide +kernel
theorem dX3_costOfDay_27 : decode cX3_costOfDay 27 = .ok (.iinc 4 1, 3) := by decide +kernel
theorem dX3_costOfDay_30 : decode cX3_costOfDay 30 = .ok (.goto (-25), 3) := by decide +kernel
theorem dX3_costOfDay_33 : decode cX3_costOfDay 33 = .ok (.iload_n 3, 1) := by decide +kernel
theorem dX3_costOfDay_34 : decode cX3_costOfDay 34 = .ok (.ireturn, 1) := by decide +kernel
theorem dX3_leastOfLastDay_0 : decode cX3_leastOfLastDay 0 = .ok (.aload_n 0, 1) := by decide +kernel
theorem dX3_leastOfLastDay_1 : decode cX3_leastOfLastDay 1 = .ok (.iload_n 1, 1) := by decide +kernel
theorem dX3_leastOfLastDay_2 : decode cX3_leastOfLastDay 2 = .ok (.aload_n 0, 1) := by decide +kernel
theorem dX3_leastOfLastDay_3 : decode cX3_leastOfLastDay 3 = .ok (.getfield 21, 3) := by decide +kernel
theorem dX3_leastOfLastDay_6 : decode cX3_leastOfLastDay 6 = .ok (.invokevirtual 25, 3) := by decide +kernel
theorem dX3_leastOfLastDay_9 : decode cX3_leastOfLastDay 9 = .ok (.istore_n 2, 1) := by decide +kernel
theorem dX3_leastOfLastDay_10 : decode cX3_leastOfLastDay 10 = .ok (.aload_n 0, 1) := by decide +kernel
theorem dX3_leastOfLastDay_11 : decode cX3_leastOfLastDay 11 = .ok (.invokevirtual 29, 3) := by decide +kernel
theorem dX3_leastOfLastDay_14 : decode cX3_leastOfLastDay 14 = .ok (.istore_n 3, 1) := by decide +kernel
theorem dX3_leastOfLastDay_15 : decode cX3_leastOfLastDay 15 = .ok (.iload_n 3, 1) := by decide +kernel
theorem dX3_leastOfLastDay_16 : decode cX3_leastOfLastDay 16 = .ok (.aload_n 0, 1) := by decide +kernel
theorem dX3_leastOfLastDay_17 : decode cX3_leastOfLastDay 17 = .ok (.getfield 21, 3) := by decide +kernel
theorem dX3_leastOfLastDay_20 : decode cX3_leastOfLastDay 20 = .ok (.if_icmp .ge 20, 3) := by decide +kernel
theorem dX3_leastOfLastDay_23 : decode cX3_leastOfLastDay 23 = .ok (.iload_n 2, 1) := by decide +kernel
theorem dX3_leastOfLastDay_24 : decode cX3_leastOfLastDay 24 = .ok (.aload_n 0, 1) := by decide +kernel
theorem dX3_leastOfLastDay_25 : decode cX3_leastOfLastDay 25 = .ok (.iload_n 1, 1) := by decide +kernel
theorem dX3_leastOfLastDay_26 : decode cX3_leastOfLastDay 26 = .ok (.iload_n 3, 1) := by decide +kernel
theorem dX3_leastOfLastDay_27 : decode cX3_leastOfLastDay 27 = .ok (.invokevirtual 25, 3) := by decide +kernel
theorem dX3_leastOfLastDay_30 : decode cX3_leastOfLastDay 30 = .ok (.invokestatic 33, 3) := by decide +kernel
theorem dX3_leastOfLastDay_33 : decode cX3_leastOfLastDay 33 = .ok (.istore_n 2, 1) := by decide +kernel
theorem dX3_leastOfLastDay_34 : decode cX3_leastOfLastDay 34 = .ok (.iinc 3 1, 3) := by decide +kernel
theorem dX3_leastOfLastDay_37 : decode cX3_leastOfLastDay 37 = .ok (.goto (-22), 3) := by decide +kernel
theorem dX3_leastOfLastDay_40 : decode cX3_leastOfLastDay 40 = .ok (.iload_n 2, 1) := by decide +kernel
theorem dX3_leastOfLastDay_41 : decode cX3_leastOfLastDay 41 = .ok (.ireturn, 1) := by decide +kernel
theorem dX3_greatestOfLastDay_0 : decode cX3_greatestOfLastDay 0 = .ok (.aload_n 0, 1) := by decide +kernel
theorem dX3_greatestOfLastDay_1 : decode cX3_greatestOfLastDay 1 = .ok (.iload_n 1, 1) := by decide +kernel
theorem dX3_greatestOfLastDay_2 : decode cX3_greatestOfLastDay 2 = .ok (.aload_n 0, 1) := by decide +kernel
theorem dX3_greatestOfLastDay_3 : decode cX3_greatestOfLastDay 3 = .ok (.getfield 21, 3) := by decide +kernel
theorem dX3_greatestOfLastDay_6 : decode cX3_greatestOfLastDay 6 = .ok (.invokevirtual 25, 3) := by decide +kernel
theorem dX3_greatestOfLastDay_9 : decode cX3_greatestOfLastDay 9 = .ok (.istore_n 2, 1) := by decide +kernel
theorem dX3_greatestOfLastDay_10 : decode cX3_greatestOfLastDay 10 = .ok (.aload_n 0, 1) := by decide +kernel
theorem dX3_greatestOfLastDay_11 : decode cX3_greatestOfLastDay 11 = .ok (.invokevirtual 29, 3) := by decide +kernel
theorem dX3_greatestOfLastDay_14 : decode cX3_greatestOfLastDay 14 = .ok (.istore_n 3, 1) := by decide +kernel
theorem dX3_greatestOfLastDay_15 : decode cX3_greatestOfLastDay 15 = .ok (.iload_n 3, 1) := by decide +kernel
theorem dX3_greatestOfLastDay_16 : decode cX3_greatestOfLastDay 16 = .ok (.aload_n 0, 1) := by decide +kernel
theorem dX3_greatestOfLastDay_17 : decode cX3_greatestOfLastDay 17 = .ok (.getfield 21, 3) := by decide +kernel
theorem dX3_greatestOfLastDay_20 : decode cX3_greatestOfLastDay 20 = .ok (.if_icmp .ge 20, 3) := by decide +kernel
theorem dX3_greatestOfLastDay_23 : decode cX3_greatestOfLastDay 23 = .ok (.iload_n 2, 1) := by decide +kernel
theorem dX3_greatestOfLastDay_24 : decode cX3_greatestOfLastDay 24 = .ok (.aload_n 0, 1) := by decide +kernel
theorem dX3_greatestOfLastDay_25 : decode cX3_greatestOfLastDay 25 = .ok (.iload_n 1, 1) := by decide +kernel
theorem dX3_greatestOfLastDay_26 : decode cX3_greatestOfLastDay 26 = .ok (.iload_n 3, 1) := by decide +kernel
theorem dX3_greatestOfLastDay_27 : decode cX3_greatestOfLastDay 27 = .ok (.invokevirtual 25, 3) := by decide +kernel
theorem dX3_greatestOfLastDay_30 : decode cX3_greatestOfLastDay 30 = .ok (.invokestatic 38, 3) := by decide +kernel
theorem dX3_greatestOfLastDay_33 : decode cX3_greatestOfLastDay 33 = .ok (.istore_n 2, 1) := by decide +kernel
theorem dX3_greatestOfLastDay_34 : decode cX3_greatestOfLastDay 34 = .ok (.iinc 3 1, 3) := by decide +kernel
theorem dX3_greatestOfLastDay_37 : decode cX3_greatestOfLastDay 37 = .ok (.goto (-22), 3) := by decide +kernel
theorem dX3_greatestOfLastDay_40 : decode cX3_greatestOfLastDay 40 = .ok (.iload_n 2, 1) := by decide +kernel
theorem dX3_greatestOfLastDay_41 : decode cX3_greatestOfLastDay 41 = .ok (.ireturn, 1) := by decide +kernel
theorem dX3_endHour_0 : decode cX3_endHour 0 = .ok (.iconst 0, 1) := by decide +kernel
theorem dX3_endHour_1 : decode cX3_endHour 1 = .ok (.istore_n 1, 1) := by decide +kernel
theorem dX3_endHour_2 : decode cX3_endHour 2 = .ok (.iload_n 1, 1) := by decide +kernel
theorem dX3_endHour_3 : decode cX3_endHour 3 = .ok (.bipush 6, 2) := by decide +kernel
theorem dX3_endHour_5 : decode cX3_endHour 5 = .ok (.if_icmp .ge 44, 3) := by decide +kernel
theorem dX3_endHour_8 : decode cX3_endHour 8 = .ok (.aload_n 0, 1) := by decide +kernel
theorem dX3_endHour_9 : decode cX3_endHour 9 = .ok (.getfield 9, 3) := by decide +kernel
theorem dX3_endHour_12 : decode cX3_endHour 12 = .ok (.iload_n 1, 1) := by decide +kernel
theorem dX3_endHour_13 : decode cX3_endHour 13 = .ok (.sipush 2000, 3) := by decide +kernel
theorem dX3_endHour_16 : decode cX3_endHour 16 = .ok (.imul, 1) := by decide +kernel
theorem dX3_endHour_17 : decode cX3_endHour 17 = .ok (.aload_n 0, 1) := by decide +kernel
theorem dX3_endHour_18 : decode cX3_endHour 18 = .ok (.getfield 21, 3) := by decide +kernel
theorem dX3_endHour_21 : decode cX3_endHour 21 = .ok (.iadd, 1) := by decide +kernel
theorem dX3_endHour_22 : decode cX3_endHour 22 = .ok (.aload_n 0, 1) := by decide +kernel
theorem dX3_endHour_23 : decode cX3_endHour 23 = .ok (.getfield 15, 3) := by decide +kernel
theorem dX3_endHour_26 : decode cX3_endHour 26 = .ok (.iload_n 1, 1) := by decide +kernel
theorem dX3_endHour_27 : decode cX3_endHour 27 = .ok (.iaload, 1) := by decide +kernel
theorem dX3_endHour_28 : decode cX3_endHour 28 = .ok (.aload_n 0, 1) := by decide +kernel
theorem dX3_endHour_29 : decode cX3_endHour 29 = .ok (.getfield 18, 3) := by decide +kernel
theorem dX3_endHour_32 : decode cX3_endHour 32 = .ok (.iload_n 1, 1) := by decide +kernel
theorem dX3_endHour_33 : decode cX3_endHour 33 = .ok (.iaload, 1) := by decide +kernel
theorem dX3_endHour_34 : decode cX3_endHour 34 = .ok (.iadd, 1) := by decide +kernel
theorem dX3_endHour_35 : decode cX3_endHour 35 = .ok (.iastore, 1) := by decide +kernel
theorem dX3_endHour_36 : decode cX3_endHour 36 = .ok (.aload_n 0, 1) := by decide +kernel
theorem dX3_endHour_37 : decode cX3_endHour 37 = .ok (.getfield 18, 3) := by decide +kernel
theorem dX3_endHour_40 : decode cX3_endHour 40 = .ok (.iload_n 1, 1) := by decide +kernel
theorem dX3_endHour_41 : decode cX3_endHour 41 = .ok (.iconst 0, 1) := by decide +kernel
theorem dX3_endHour_42 : decode cX3_endHour 42 = .ok (.iastore, 1) := by decide +kernel
theorem dX3_endHour_43 : decode cX3_endHour 43 = .ok (.iinc 1 1, 3) := by decide +kernel
theorem dX3_endHour_46 : decode cX3_endHour 46 = .ok (.goto (-44), 3) := by decide +kernel
theorem dX3_endHour_49 : decode cX3_endHour 49 = .ok (.aload_n 0, 1) := by decide +kernel
theorem dX3_endHour_50 : decode cX3_endHour 50 = .ok (.dup, 1) := by decide +kernel
theorem dX3_endHour_51 : decode cX3_endHour 51 = .ok (.getfield 21, 3) := by decide +kernel
theorem dX3_endHour_54 : decode cX3_endHour 54 = .ok (.iconst 1, 1) := by decide +kernel
theorem dX3_endHour_55 : decode cX3_endHour 55 = .ok (.iadd, 1) := by decide +kernel
theorem dX3_endHour_56 : decode cX3_endHour 56 = .ok (.putfield 21, 3) := by decide +kernel
theorem dX3_endHour_59 : decode cX3_endHour 59 = .ok (.return_, 1) := by decide +kernel
theorem dX3_firstOfLastDay_0 : decode cX3_firstOfLastDay 0 = .ok (.iconst 0, 1) := by decide +kernel
theorem dX3_firstOfLastDay_1 : decode cX3_firstOfLastDay 1 = .ok (.aload_n 0, 1) := by decide +kernel
theorem dX3_firstOfLastDay_2 : decode cX3_firstOfLastDay 2 = .ok (.getfield 21, 3) := by decide +kernel
theorem dX3_firstOfLastDay_5 : decode cX3_firstOfLastDay 5 = .ok (.bipush 24, 2) := by decide +kernel
theorem dX3_firstOfLastDay_7 : decode cX3_firstOfLastDay 7 = .ok (.isub, 1) := by decide +kernel
theorem dX3_firstOfLastDay_8 : decode cX3_firstOfLastDay 8 = .ok (.iconst 1, 1) := by decide +kernel
theorem dX3_firstOfLastDay_9 : decode cX3_firstOfLastDay 9 = .ok (.iadd, 1) := by decide +kernel
theorem dX3_firstOfLastDay_10 : decode cX3_firstOfLastDay 10 = .ok (.invokestatic 38, 3) := by decide +kernel
theorem dX3_firstOfLastDay_13 : decode cX3_firstOfLastDay 13 = .ok (.ireturn, 1) := by decide +kernel
theorem dX4_init_0 : decode cX4_init 0 = .ok (.aload_n 0, 1) := by decide +kernel
theorem dX4_init_1 : decode cX4_init 1 = .ok (.invokespecial 3, 3) := by decide +kernel
theorem dX4_init_4 : decode cX4_init 4 = .ok (.aload_n 0, 1) := by decide +kernel
theorem dX4_init_5 : decode cX4_init 5 = .ok (.bipush 40, 2) := by decide +kernel
theorem dX4_init_7 : decode cX4_init 7 = .ok (.newarray .int, 2) := by decide +kernel
theorem dX4_init_9 : decode cX4_init 9 = .ok (.putfield 9, 3) := by decide +kernel
theorem dX4_init_12 : decode cX4_init 12 = .ok (.aload_n 0, 1) := by decide +kernel
theorem dX4_init_13 : decode cX4_init 13 = .ok (.bipush 40, 2) := by decide +kernel
theorem dX4_init_15 : decode cX4_init 15 = .ok (.newarray .int, 2) := by decide +kernel
theorem dX4_init_17 : decode cX4_init 17 = .ok (.putfield 15, 3) := by decide +kernel
theorem dX4_init_20 : decode cX4_init 20 = .ok (.aload_n 0, 1) := by decide +kernel
theorem dX4_init_21 : decode cX4_init 21 = .ok (.bipush 40, 2) := by decide +kernel
theorem dX4_init_23 : decode cX4_init 23 = .ok (.newarray .int, 2) := by decide +kernel
theorem dX4_init_25 : decode cX4_init 25 = .ok (.putfield 18, 3) := by decide +kernel
theorem dX4_init_28 : decode cX4_init 28 = .ok (.aload_n 0, 1) := by decide +kernel
theorem dX4_init_29 : decode cX4_init 29 = .ok (.bipush 40, 2) := by decide +kernel
theorem dX4_init_31 : decode cX4_init 31 = .ok (.newarray .int, 2) := by decide +kernel
theorem dX4_init_33 : decode cX4_init 33 = .ok (.putfield 21, 3) := by decide +kernel
theorem dX4_init_36 : decode cX4_init 36 = .ok (.aload_n 0, 1) := by decide +kernel
theorem dX4_init_37 : decode cX4_init 37 = .ok (.iconst 0, 1) := by decide +kernel
theorem dX4_init_38 : decode cX4_init 38 = .ok (.putfield 24, 3) := by decide +kernel
theorem dX4_init_41 : decode cX4_init 41 = .ok (.aload_n 0, 1) := by decide +kernel
theorem dX4_init_42 : decode cX4_init 42 = .ok (.iconst 0, 1) := by decide +kernel
theorem dX4_init_43 : decode cX4_init 43 = .ok (.putfield 28, 3) := by decide +kernel
theorem dX4_init_46 : decode cX4_init 46 = .ok (.return_, 1) := by decide +kernel
theorem dX4_isFull_0 : decode cX4_isFull 0 = .ok (.aload_n 0, 1) := by decide +kernel
theorem dX4_isFull_1 : decode cX4_isFull 1 = .ok (.getfield 24, 3) := by decide +kernel
theorem dX4_isFull_4 : decode cX4_isFull 4 = .ok (.bipush 40, 2) := by decide +kernel
theorem dX4_isFull_6 : decode cX4_isFull 6 = .ok (.if_icmp .lt 7, 3) := by decide +kernel
theorem dX4_isFull_9 : decode cX4_isFull 9 = .ok (.iconst 1, 1) := by decide +kernel
theorem dX4_isFull_10 : decode cX4_isFull 10 = .ok (.goto 4, 3) := by decide +kernel
theorem dX4_isFull_13 : decode cX4_isFull 13 = .ok (.iconst 0, 1) := by decide +kernel
theorem dX4_isFull_14 : decode cX4_isFull 14 = .ok (.ireturn, 1) := by decide +kernel
theorem dX4_isKnown_0 : decode cX4_isKnown 0 = .ok (.iload_n 1, 1) := by decide +kernel
theorem dX4_isKnown_1 : decode cX4_isKnown 1 = .ok (.ifCond .lt 15, 3) := by decide +kernel
theorem dX4_isKnown_4 : decode cX4_isKnown 4 = .ok (.iload_n 1, 1) := by decide +kernel
theorem dX4_isKnown_5 : decode cX4_isKnown 5 = .ok (.aload_n 0, 1) := by decide +kernel
theorem dX4_isKnown_6 : decode cX4_isKnown 6 = .ok (.getfield 24, 3) := by decide +kernel
theorem dX4_isKnown_9 : decode cX4_isKnown 9 = .ok (.if_icmp .ge 7, 3) := by decide +kernel
theorem dX4_isKnown_12 : decode cX4_isKnown 12 = .ok (.iconst 1, 1) := by decide +kernel
theorem dX4_isKnown_13 : decode cX4_isKnown 13 = .ok (.goto 4, 3) := by decide +kernel
theorem dX4_isKnown_16 : decode cX4_isKnown 16 = .ok (.iconst 0, 1) := by decide +kernel
theorem dX4_isKnown_17 : decode cX4_isKnown 17 = .ok (.ireturn, 1) := by decide +kernel
theorem dX4_isRunning_0 : decode cX4_isRunning 0 = .ok (.aload_n 0, 1) := by decide +kernel
theorem dX4_isRunning_1 : decode cX4_isRunning 1 = .ok (.iload_n 1, 1) := by decide +kernel
theorem dX4_isRunning_2 : decode cX4_isRunning 2 = .ok (.invokevirtual 31, 3) := by decide +kernel
theorem dX4_isRunning_5 : decode cX4_isRunning 5 = .ok (.ifCond .eq 17, 3) := by decide +kernel
theorem dX4_isRunning_8 : decode cX4_isRunning 8 = .ok (.aload_n 0, 1) := by decide +kernel
theorem dX4_isRunning_9 : decode cX4_isRunning 9 = .ok (.getfield 21, 3) := by decide +kernel
theorem dX4_isRunning_12 : decode cX4_isRunning 12 = .ok (.iload_n 1, 1) := by decide +kernel
theorem dX4_isRunning_13 : decode cX4_isRunning 13 = .ok (.iaload, 1) := by decide +kernel
theorem dX4_isRunning_14 : decode cX4_isRunning 14 = .ok (.iconst (-1), 1) := by decide +kernel
theorem dX4_isRunning_15 : decode cX4_isRunning 15 = .ok (.if_icmp .ne 7, 3) := by decide +kernel
theorem dX4_isRunning_18 : decode cX4_isRunning 18 = .ok (.iconst 1, 1) := by decide +kernel
theorem dX4_isRunning_19 : decode cX4_isRunning 19 = .ok (.goto 4, 3) := by decide +kernel
theorem dX4_isRunning_22 : decode cX4_isRunning 22 = .ok (.iconst 0, 1) := by decide +kernel
theorem dX4_isRunning_23 : decode cX4_isRunning 23 = .ok (.ireturn, 1) := by decide +kernel
theorem dX4_add_0 : decode cX4_add 0 = .ok (.aload_n 0, 1) := by decide +kernel
theorem dX4_add_1 : decode cX4_add 1 = .ok (.getfield 24, 3) := by decide +kernel
theorem dX4_add_4 : decode cX4_add 4 = .ok (.istore 4, 2) := by decide +kernel
theorem dX4_add_6 : decode cX4_add 6 = .ok (.aload_n 0, 1) := by decide +kernel
theorem dX4_add_7 : decode cX4_add 7 = .ok (.getfield 9, 3) := by decide +kernel
theorem dX4_add_10 : decode cX4_add 10 = .ok (.iload 4, 2) := by decide +kernel
theorem dX4_add_12 : decode cX4_add 12 = .ok (.iload_n 1, 1) := by decide +kernel
theorem dX4_add_13 : decode cX4_add 13 = .ok (.iastore, 1) := by decide +kernel
theorem dX4_add_14 : decode cX4_add 14 = .ok (.aload_n 0, 1) := by decide +kernel
theorem dX4_add_15 : decode cX4_add 15 = .ok (.getfield 15, 3) := by decide +kernel
theorem dX4_add_18 : decode cX4_add 18 = .ok (.iload 4, 2) := by decide +kernel
theorem dX4_add_20 : decode cX4_add 20 = .ok (.iload_n 2, 1) := by decide +kernel
theorem dX4_add_21 : decode cX4_add 21 = .ok (.iastore, 1) := by decide +kernel
theorem dX4_add_22 : decode cX4_add 22 = .ok (.aload_n 0, 1) := by decide +kernel
theorem dX4_add_23 : decode cX4_add 23 = .ok (.getfield 18, 3) := by decide +kernel
theorem dX4_add_26 : decode cX4_add 26 = .ok (.iload 4, 2) := by decide +kernel
theorem dX4_add_28 : decode cX4_add 28 = .ok (.iload_n 3, 1) := by decide +kernel
theorem dX4_add_29 : decode cX4_add 29 = .ok (.iastore, 1) := by decide +kernel
theorem dX4_add_30 : decode cX4_add 30 = .ok (.aload_n 0, 1) := by decide +kernel
theorem dX4_add_31 : decode cX4_add 31 = .ok (.getfield 21, 3) := by decide +kernel
theorem dX4_add_34 : decode cX4_add 34 = .ok (.iload 4, 2) := by decide +kernel
theorem dX4_add_36 : decode cX4_add 36 = .ok (.iconst (-1), 1) := by decide +kernel
theorem dX4_add_37 : decode cX4_add 37 = .ok (.iastore, 1) := by decide +kernel
theorem dX4_add_38 : decode cX4_add 38 = .ok (.aload_n 0, 1) := by decide +kernel
theorem dX4_add_39 : decode cX4_add 39 = .ok (.dup, 1) := by decide +kernel
theorem dX4_add_40 : decode cX4_add 40 = .ok (.getfield 24, 3) := by decide +kernel
theorem dX4_add_43 : decode cX4_add 43 = .ok (.iconst 1, 1) := by decide +kernel
theorem dX4_add_44 : decode cX4_add 44 = .ok (.iadd, 1) := by decide +kernel
theorem dX4_add_45 : decode cX4_add 45 = .ok (.putfield 24, 3) := by decide +kernel
theorem dX4_add_48 : decode cX4_add 48 = .ok (.aload_n 0, 1) := by decide +kernel
theorem dX4_add_49 : decode cX4_add 49 = .ok (.dup, 1) := by decide +kernel
theorem dX4_add_50 : decode cX4_add 50 = .ok (.getfield 28, 3) := by decide +kernel
theorem dX4_add_53 : decode cX4_add 53 = .ok (.iconst 1, 1) := by decide +kernel
theorem dX4_add_54 : decode cX4_add 54 = .ok (.iadd, 1) := by decide +kernel
theorem dX4_add_55 : decode cX4_add 55 = .ok (.putfield 28, 3) := by decide +kernel
theorem dX4_add_58 : decode cX4_add 58 = .ok (.iload 4, 2) := by decide +kernel
theorem dX4_add_60 : decode cX4_add 60 = .ok (.ireturn, 1) := by decide +kernel
theorem dX4_end_0 : decode cX4_end 0 = .ok (.aload_n 0, 1) := by decide +kernel
theorem dX4_end_1 : decode cX4_end 1 = .ok (.getfield 21, 3) := by decide +kernel
theorem dX4_end_4 : decode cX4_end 4 = .ok (.iload_n 1, 1) := by decide +kernel
theorem dX4_end_5 : decode cX4_end 5 = .ok (.iload_n 2, 1) := by decide +kernel
theorem dX4_end_6 : decode cX4_end 6 = .ok (.iastore, 1) := by decide +kernel
theorem dX4_end_7 : decode cX4_end 7 = .ok (.aload_n 0, 1) := by decide +kernel
theorem dX4_end_8 : decode cX4_end 8 = .ok (.dup, 1) := by decide +kernel
theorem dX4_end_9 : decode cX4_end 9 = .ok (.getfield 28, 3) := by decide +kernel
theorem dX4_end_12 : decode cX4_end 12 = .ok (.iconst 1, 1) := by decide +kernel
theorem dX4_end_13 : decode cX4_end 13 = .ok (.isub, 1) := by decide +kernel
theorem dX4_end_14 : decode cX4_end 14 = .ok (.putfield 28, 3) := by decide +kernel
theorem dX4_end_17 : decode cX4_end 17 = .ok (.return_, 1) := by decide +kernel
theorem dX4_begunCount_0 : decode cX4_begunCount 0 = .ok (.aload_n 0, 1) := by decide +kernel
theorem dX4_begunCount_1 : decode cX4_begunCount 1 = .ok (.getfield 24, 3) := by decide +kernel
theorem dX4_begunCount_4 : decode cX4_begunCount 4 = .ok (.ireturn, 1) := by decide +kernel
theorem dX4_runningCount_0 : decode cX4_runningCount 0 = .ok (.aload_n 0, 1) := by decide +kernel
theorem dX4_runningCount_1 : decode cX4_runningCount 1 = .ok (.getfield 28, 3) := by decide +kernel
theorem dX4_runningCount_4 : decode cX4_runningCount 4 = .ok (.ireturn, 1) := by decide +kernel
theorem dX4_serviceOf_0 : decode cX4_serviceOf 0 = .ok (.aload_n 0, 1) := by decide +kernel
theorem dX4_serviceOf_1 : decode cX4_serviceOf 1 = .ok (.getfield 9, 3) := by decide +kernel
theorem dX4_serviceOf_4 : decode cX4_serviceOf 4 = .ok (.iload_n 1, 1) := by decide +kernel
theorem dX4_serviceOf_5 : decode cX4_serviceOf 5 = .ok (.iaload, 1) := by decide +kernel
theorem dX4_serviceOf_6 : decode cX4_serviceOf 6 = .ok (.ireturn, 1) := by decide +kernel
theorem dX4_priceOf_0 : decode cX4_priceOf 0 = .ok (.aload_n 0, 1) := by decide +kernel
theorem dX4_priceOf_1 : decode cX4_priceOf 1 = .ok (.getfield 15, 3) := by decide +kernel
theorem dX4_priceOf_4 : decode cX4_priceOf 4 = .ok (.iload_n 1, 1) := by decide +kernel
theorem dX4_priceOf_5 : decode cX4_priceOf 5 = .ok (.iaload, 1) := by decide +kernel
theorem dX4_priceOf_6 : decode cX4_priceOf 6 = .ok (.ireturn, 1) := by decide +kernel
theorem dX4_begunAt_0 : decode cX4_begunAt 0 = .ok (.aload_n 0, 1) := by decide +kernel
theorem dX4_begunAt_1 : decode cX4_begunAt 1 = .ok (.getfield 18, 3) := by decide +kernel
theorem dX4_begunAt_4 : decode cX4_begunAt 4 = .ok (.iload_n 1, 1) := by decide +kernel
theorem dX4_begunAt_5 : decode cX4_begunAt 5 = .ok (.iaload, 1) := by decide +kernel
theorem dX4_begunAt_6 : decode cX4_begunAt 6 = .ok (.ireturn, 1) := by decide +kernel
theorem dX4_stoppedAt_0 : decode cX4_stoppedAt 0 = .ok (.aload_n 0, 1) := by decide +kernel
theorem dX4_stoppedAt_1 : decode cX4_stoppedAt 1 = .ok (.getfield 21, 3) := by decide +kernel
theorem dX4_stoppedAt_4 : decode cX4_stoppedAt 4 = .ok (.iload_n 1, 1) := by decide +kernel
theorem dX4_stoppedAt_5 : decode cX4_stoppedAt 5 = .ok (.iaload, 1) := by decide +kernel
theorem dX4_stoppedAt_6 : decode cX4_stoppedAt 6 = .ok (.ireturn, 1) := by decide +kernel
theorem dX4_newestDearest_0 : decode cX4_newestDearest 0 = .ok (.iconst (-1), 1) := by decide +kernel
theorem dX4_newestDearest_1 : decode cX4_newestDearest 1 = .ok (.istore_n 3, 1) := by decide +kernel
theorem dX4_newestDearest_2 : decode cX4_newestDearest 2 = .ok (.iconst 0, 1) := by decide +kernel
theorem dX4_newestDearest_3 : decode cX4_newestDearest 3 = .ok (.istore 4, 2) := by decide +kernel
theorem dX4_newestDearest_5 : decode cX4_newestDearest 5 = .ok (.iload 4, 2) := by decide +kernel
theorem dX4_newestDearest_7 : decode cX4_newestDearest 7 = .ok (.aload_n 0, 1) := by decide +kernel
theorem dX4_newestDearest_8 : decode cX4_newestDearest 8 = .ok (.getfield 24, 3) := by decide +kernel
theorem dX4_newestDearest_11 : decode cX4_newestDearest 11 = .ok (.if_icmp .ge 72, 3) := by decide +kernel
theorem dX4_newestDearest_14 : decode cX4_newestDearest 14 = .ok (.aload_n 0, 1) := by decide +kernel
theorem dX4_newestDearest_15 : decode cX4_newestDearest 15 = .ok (.getfield 9, 3) := by decide +kernel
theorem dX4_newestDearest_18 : decode cX4_newestDearest 18 = .ok (.iload 4, 2) := by decide +kernel
theorem dX4_newestDearest_20 : decode cX4_newestDearest 20 = .ok (.iaload, 1) := by decide +kernel
theorem dX4_newestDearest_21 : decode cX4_newestDearest 21 = .ok (.iload_n 1, 1) := by decide +kernel
theorem dX4_newestDearest_22 : decode cX4_newestDearest 22 = .ok (.if_icmp .ne 55, 3) := by decide +kernel
theorem dX4_newestDearest_25 : decode cX4_newestDearest 25 = .ok (.aload_n 0, 1) := by decide +kernel
theorem dX4_newestDearest_26 : decode cX4_newestDearest 26 = .ok (.getfield 21, 3) := by decide +kernel
theorem dX4_newestDearest_29 : decode cX4_newestDearest 29 = .ok (.iload 4, 2) := by decide +kernel
theorem dX4_newestDearest_31 : decode cX4_newestDearest 31 = .ok (.iaload, 1) := by decide +kernel
theorem dX4_newestDearest_32 : decode cX4_newestDearest 32 = .ok (.iconst (-1), 1) := by decide +kernel
theorem dX4_newestDearest_33 : decode cX4_newestDearest 33 = .ok (.if_icmp .ne 44, 3) := by decide +kernel
theorem dX4_newestDearest_36 : decode cX4_newestDearest 36 = .ok (.aload_n 0, 1) := by decide +kernel
theorem dX4_newestDearest_37 : decode cX4_newestDearest 37 = .ok (.getfield 18, 3) := by decide +kernel
theorem dX4_newestDearest_40 : decode cX4_newestDearest 40 = .ok (.iload 4, 2) := by decide +kernel
theorem dX4_newestDearest_42 : decode cX4_newestDearest 42 = .ok (.iaload, 1) := by decide +kernel
theorem dX4_newestDearest_43 : decode cX4_newestDearest 43 = .ok (.iload_n 2, 1) := by decide +kernel
theorem dX4_newestDearest_44 : decode cX4_newestDearest 44 = .ok (.bipush 24, 2) := by decide +kernel
theorem dX4_newestDearest_46 : decode cX4_newestDearest 46 = .ok (.isub, 1) := by decide +kernel
theorem dX4_newestDearest_47 : decode cX4_newestDearest 47 = .ok (.if_icmp .gt 6, 3) := by decide +kernel
theorem dX4_newestDearest_50 : decode cX4_newestDearest 50 = .ok (.goto 27, 3) := by decide +kernel
theorem dX4_newestDearest_53 : decode cX4_newestDearest 53 = .ok (.iload_n 3, 1) := by decide +kernel
theorem dX4_newestDearest_54 : decode cX4_newestDearest 54 = .ok (.iconst (-1), 1) := by decide +kernel
theorem dX4_newestDearest_55 : decode cX4_newestDearest 55 = .ok (.if_icmp .eq 19, 3) := by decide +kernel
theorem dX4_newestDearest_58 : decode cX4_newestDearest 58 = .ok (.aload_n 0, 1) := by decide +kernel
theorem dX4_newestDearest_59 : decode cX4_newestDearest 59 = .ok (.getfield 15, 3) := by decide +kernel
theorem dX4_newestDearest_62 : decode cX4_newestDearest 62 = .ok (.iload 4, 2) := by decide +kernel
theorem dX4_newestDearest_64 : decode cX4_newestDearest 64 = .ok (.iaload, 1) := by decide +kernel
theorem dX4_newestDearest_65 : decode cX4_newestDearest 65 = .ok (.aload_n 0, 1) := by decide +kernel
theorem dX4_newestDearest_66 : decode cX4_newestDearest 66 = .ok (.getfield 15, 3) := by decide +kernel
theorem dX4_newestDearest_69 : decode cX4_newestDearest 69 = .ok (.iload_n 3, 1) := by decide +kernel
theorem dX4_newestDearest_70 : decode cX4_newestDearest 70 = .ok (.iaload, 1) := by decide +kernel
theorem dX4_newestDearest_71 : decode cX4_newestDearest 71 = .ok (.if_icmp .le 6, 3) := by decide +kernel
theorem dX4_newestDearest_74 : decode cX4_newestDearest 74 = .ok (.iload 4, 2) := by decide +kernel
theorem dX4_newestDearest_76 : decode cX4_newestDearest 76 = .ok (.istore_n 3, 1) := by decide +kernel
theorem dX4_newestDearest_77 : decode cX4_newestDearest 77 = .ok (.iinc 4 1, 3) := by decide +kernel
theorem dX4_newestDearest_80 : decode cX4_newestDearest 80 = .ok (.goto (-75), 3) := by decide +kernel
theorem dX4_newestDearest_83 : decode cX4_newestDearest 83 = .ok (.iload_n 3, 1) := by decide +kernel
theorem dX4_newestDearest_84 : decode cX4_newestDearest 84 = .ok (.ireturn, 1) := by decide +kernel
theorem dX2_init_0 : decode cX2_init 0 = .ok (.aload_n 0, 1) := by decide +kernel
theorem dX2_init_1 : decode cX2_init 1 = .ok (.invokespecial 3, 3) := by decide +kernel
theorem dX2_init_4 : decode cX2_init 4 = .ok (.aload_n 0, 1) := by decide +kernel
theorem dX2_init_5 : decode cX2_init 5 = .ok (.bipush 100, 2) := by decide +kernel
theorem dX2_init_7 : decode cX2_init 7 = .ok (.newarray .int, 2) := by decide +kernel
theorem dX2_init_9 : decode cX2_init 9 = .ok (.putfield 9, 3) := by decide +kernel
theorem dX2_init_12 : decode cX2_init 12 = .ok (.aload_n 0, 1) := by decide +kernel
theorem dX2_init_13 : decode cX2_init 13 = .ok (.bipush 100, 2) := by decide +kernel
theorem dX2_init_15 : decode cX2_init 15 = .ok (.newarray .int, 2) := by decide +kernel
theorem dX2_init_17 : decode cX2_init 17 = .ok (.putfield 15, 3) := by decide +kernel
theorem dX2_init_20 : decode cX2_init 20 = .ok (.aload_n 0, 1) := by decide +kernel
theorem dX2_init_21 : decode cX2_init 21 = .ok (.bipush 100, 2) := by decide +kernel
theorem dX2_init_23 : decode cX2_init 23 = .ok (.newarray .int, 2) := by decide +kernel
theorem dX2_init_25 : decode cX2_init 25 = .ok (.putfield 18, 3) := by decide +kernel
theorem dX2_init_28 : decode cX2_init 28 = .ok (.aload_n 0, 1) := by decide +kernel
theorem dX2_init_29 : decode cX2_init 29 = .ok (.bipush 100, 2) := by decide +kernel
theorem dX2_init_31 : decode cX2_init 31 = .ok (.newarray .int, 2) := by decide +kernel
theorem dX2_init_33 : decode cX2_init 33 = .ok (.putfield 21, 3) := by decide +kernel
theorem dX2_init_36 : decode cX2_init 36 = .ok (.aload_n 0, 1) := by decide +kernel
theorem dX2_init_37 : decode cX2_init 37 = .ok (.bipush 100, 2) := by decide +kernel
theorem dX2_init_39 : decode cX2_init 39 = .ok (.newarray .boolean, 2) := by decide +kernel
theorem dX2_init_41 : decode cX2_init 41 = .ok (.putfield 24, 3) := by decide +kernel
theorem dX2_init_44 : decode cX2_init 44 = .ok (.aload_n 0, 1) := by decide +kernel
theorem dX2_init_45 : decode cX2_init 45 = .ok (.iconst 0, 1) := by decide +kernel
theorem dX2_init_46 : decode cX2_init 46 = .ok (.putfield 28, 3) := by decide +kernel
theorem dX2_init_49 : decode cX2_init 49 = .ok (.return_, 1) := by decide +kernel
theorem dX2_isKnown_0 : decode cX2_isKnown 0 = .ok (.iload_n 1, 1) := by decide +kernel
theorem dX2_isKnown_1 : decode cX2_isKnown 1 = .ok (.ifCond .lt 15, 3) := by decide +kernel
theorem dX2_isKnown_4 : decode cX2_isKnown 4 = .ok (.iload_n 1, 1) := by decide +kernel
theorem dX2_isKnown_5 : decode cX2_isKnown 5 = .ok (.aload_n 0, 1) := by decide +kernel
theorem dX2_isKnown_6 : decode cX2_isKnown 6 = .ok (.getfield 28, 3) := by decide +kernel
theorem dX2_isKnown_9 : decode cX2_isKnown 9 = .ok (.if_icmp .ge 7, 3) := by decide +kernel
theorem dX2_isKnown_12 : decode cX2_isKnown 12 = .ok (.iconst 1, 1) := by decide +kernel
theorem dX2_isKnown_13 : decode cX2_isKnown 13 = .ok (.goto 4, 3) := by decide +kernel
theorem dX2_isKnown_16 : decode cX2_isKnown 16 = .ok (.iconst 0, 1) := by decide +kernel
theorem dX2_isKnown_17 : decode cX2_isKnown 17 = .ok (.ireturn, 1) := by decide +kernel
theorem dX2_count_0 : decode cX2_count 0 = .ok (.aload_n 0, 1) := by decide +kernel
theorem dX2_count_1 : decode cX2_count 1 = .ok (.getfield 28, 3) := by decide +kernel
theorem dX2_count_4 : decode cX2_count 4 = .ok (.ireturn, 1) := by decide +kernel
theorem dX2_openCount_0 : decode cX2_openCount 0 = .ok (.iconst 0, 1) := by decide +kernel
theorem dX2_openCount_1 : decode cX2_openCount 1 = .ok (.istore_n 1, 1) := by decide +kernel
theorem dX2_openCount_2 : decode cX2_openCount 2 = .ok (.iconst 0, 1) := by decide +kernel
theorem dX2_openCount_3 : decode cX2_openCount 3 = .ok (.istore_n 2, 1) := by decide +kernel
theorem dX2_openCount_4 : decode cX2_openCount 4 = .ok (.iload_n 2, 1) := by decide +kernel
theorem dX2_openCount_5 : decode cX2_openCount 5 = .ok (.aload_n 0, 1) := by decide +kernel
theorem dX2_openCount_6 : decode cX2_openCount 6 = .ok (.getfield 28, 3) := by decide +kernel
theorem dX2_openCount_9 : decode cX2_openCount 9 = .ok (.if_icmp .ge 21, 3) := by decide +kernel
theorem dX2_openCount_12 : decode cX2_openCount 12 = .ok (.aload_n 0, 1) := by decide +kernel
theorem dX2_openCount_13 : decode cX2_openCount 13 = .ok (.getfield 24, 3) := by decide +kernel
theorem dX2_openCount_16 : decode cX2_openCount 16 = .ok (.iload_n 2, 1) := by decide +kernel
theorem dX2_openCount_17 : decode cX2_openCount 17 = .ok (.baload, 1) := by decide +kernel
theorem dX2_openCount_18 : decode cX2_openCount 18 = .ok (.ifCond .eq 6, 3) := by decide +kernel
theorem dX2_openCount_21 : decode cX2_openCount 21 = .ok (.iinc 1 1, 3) := by decide +kernel
theorem dX2_openCount_24 : decode cX2_openCount 24 = .ok (.iinc 2 1, 3) := by decide +kernel
theorem dX2_openCount_27 : decode cX2_openCount 27 = .ok (.goto (-23), 3) := by decide +kernel
theorem dX2_openCount_30 : decode cX2_openCount 30 = .ok (.iload_n 1, 1) := by decide +kernel
theorem dX2_openCount_31 : decode cX2_openCount 31 = .ok (.ireturn, 1) := by decide +kernel
theorem dX2_serviceOf_0 : decode cX2_serviceOf 0 = .ok (.aload_n 0, 1) := by decide +kernel
theorem dX2_serviceOf_1 : decode cX2_serviceOf 1 = .ok (.getfield 9, 3) := by decide +kernel
theorem dX2_serviceOf_4 : decode cX2_serviceOf 4 = .ok (.iload_n 1, 1) := by decide +kernel
theorem dX2_serviceOf_5 : decode cX2_serviceOf 5 = .ok (.iaload, 1) := by decide +kernel
theorem dX2_serviceOf_6 : decode cX2_serviceOf 6 = .ok (.ireturn, 1) := by decide +kernel
theorem dX2_causeOf_0 : decode cX2_causeOf 0 = .ok (.aload_n 0, 1) := by decide +kernel
theorem dX2_causeOf_1 : decode cX2_causeOf 1 = .ok (.getfield 15, 3) := by decide +kernel
theorem dX2_causeOf_4 : decode cX2_causeOf 4 = .ok (.iload_n 1, 1) := by decide +kernel
theorem dX2_causeOf_5 : decode cX2_causeOf 5 = .ok (.iaload, 1) := by decide +kernel
theorem dX2_causeOf_6 : decode cX2_causeOf 6 = .ok (.ireturn, 1) := by decide +kernel
theorem dX2_cameAt_0 : decode cX2_cameAt 0 = .ok (.aload_n 0, 1) := by decide +kernel
theorem dX2_cameAt_1 : decode cX2_cameAt 1 = .ok (.getfield 18, 3) := by decide +kernel
theorem dX2_cameAt_4 : decode cX2_cameAt 4 = .ok (.iload_n 1, 1) := by decide +kernel
theorem dX2_cameAt_5 : decode cX2_cameAt 5 = .ok (.iaload, 1) := by decide +kernel
theorem dX2_cameAt_6 : decode cX2_cameAt 6 = .ok (.ireturn, 1) := by decide +kernel
theorem dX2_lastAt_0 : decode cX2_lastAt 0 = .ok (.aload_n 0, 1) := by decide +kernel
theorem dX2_lastAt_1 : decode cX2_lastAt 1 = .ok (.getfield 21, 3) := by decide +kernel
theorem dX2_lastAt_4 : decode cX2_lastAt 4 = .ok (.iload_n 1, 1) := by decide +kernel
theorem dX2_lastAt_5 : decode cX2_lastAt 5 = .ok (.iaload, 1) := by decide +kernel
theorem dX2_lastAt_6 : decode cX2_lastAt 6 = .ok (.ireturn, 1) := by decide +kernel
theorem dX2_isOpen_0 : decode cX2_isOpen 0 = .ok (.aload_n 0, 1) := by decide +kernel
theorem dX2_isOpen_1 : decode cX2_isOpen 1 = .ok (.getfield 24, 3) := by decide +kernel
theorem dX2_isOpen_4 : decode cX2_isOpen 4 = .ok (.iload_n 1, 1) := by decide +kernel
theorem dX2_isOpen_5 : decode cX2_isOpen 5 = .ok (.baload, 1) := by decide +kernel
theorem dX2_isOpen_6 : decode cX2_isOpen 6 = .ok (.ireturn, 1) := by decide +kernel
theorem dX2_raise_0 : decode cX2_raise 0 = .ok (.aload_n 0, 1) := by decide +kernel
theorem dX2_raise_1 : decode cX2_raise 1 = .ok (.iload_n 1, 1) := by decide +kernel
theorem dX2_raise_2 : decode cX2_raise 2 = .ok (.iload_n 2, 1) := by decide +kernel
theorem dX2_raise_3 : decode cX2_raise 3 = .ok (.invokevirtual 32, 3) := by decide +kernel
theorem dX2_raise_6 : decode cX2_raise 6 = .ok (.istore 4, 2) := by decide +kernel
theorem dX2_raise_8 : decode cX2_raise 8 = .ok (.iload 4, 2) := by decide +kernel
theorem dX2_raise_10 : decode cX2_raise 10 = .ok (.iconst (-1), 1) := by decide +kernel
theorem dX2_raise_11 : decode cX2_raise 11 = .ok (.if_icmp .eq 14, 3) := by decide +kernel
theorem dX2_raise_14 : decode cX2_raise 14 = .ok (.aload_n 0, 1) := by decide +kernel
theorem dX2_raise_15 : decode cX2_raise 15 = .ok (.getfield 21, 3) := by decide +kernel
theorem dX2_raise_18 : decode cX2_raise 18 = .ok (.iload 4, 2) := by decide +kernel
theorem dX2_raise_20 : decode cX2_raise 20 = .ok (.iload_n 3, 1) := by decide +kernel
theorem dX2_raise_21 : decode cX2_raise 21 = .ok (.iastore, 1) := by decide +kernel
theorem dX2_raise_22 : decode cX2_raise 22 = .ok (.goto 19, 3) := by decide +kernel
theorem dX2_raise_25 : decode cX2_raise 25 = .ok (.aload_n 0, 1) := by decide +kernel
theorem dX2_raise_26 : decode cX2_raise 26 = .ok (.getfield 28, 3) := by decide +kernel
theorem dX2_raise_29 : decode cX2_raise 29 = .ok (.bipush 100, 2) := by decide +kernel
theorem dX2_raise_31 : decode cX2_raise 31 = .ok (.if_icmp .ge 10, 3) := by decide +kernel
theorem dX2_raise_34 : decode cX2_raise 34 = .ok (.aload_n 0, 1) := by decide +kernel
theorem dX2_raise_35 : decode cX2_raise 35 = .ok (.iload_n 1, 1) := by decide +kernel
theorem dX2_raise_36 : decode cX2_raise 36 = .ok (.iload_n 2, 1) := by decide +kernel
theorem dX2_raise_37 : decode cX2_raise 37 = .ok (.iload_n 3, 1) := by decide +kernel
theorem dX2_raise_38 : decode cX2_raise 38 = .ok (.invokevirtual 36, 3) := by decide +kernel
theorem dX2_raise_41 : decode cX2_raise 41 = .ok (.return_, 1) := by decide +kernel
theorem dX2_closeStale_0 : decode cX2_closeStale 0 = .ok (.iconst 0, 1) := by decide +kernel
theorem dX2_closeStale_1 : decode cX2_closeStale 1 = .ok (.istore_n 2, 1) := by decide +kernel
theorem dX2_closeStale_2 : decode cX2_closeStale 2 = .ok (.iload_n 2, 1) := by decide +kernel
theorem dX2_closeStale_3 : decode cX2_closeStale 3 = .ok (.aload_n 0, 1) := by decide +kernel
theorem dX2_closeStale_4 : decode cX2_closeStale 4 = .ok (.getfield 28, 3) := by decide +kernel
theorem dX2_closeStale_7 : decode cX2_closeStale 7 = .ok (.if_icmp .ge 29, 3) := by decide +kernel
theorem dX2_closeStale_10 : decode cX2_closeStale 10 = .ok (.iload_n 1, 1) := by decide +kernel
theorem dX2_closeStale_11 : decode cX2_closeStale 11 = .ok (.aload_n 0, 1) := by decide +kernel
theorem dX2_closeStale_12 : decode cX2_closeStale 12 = .ok (.getfield 21, 3) := by decide +kernel
theorem dX2_closeStale_15 : decode cX2_closeStale 15 = .ok (.iload_n 2, 1) := by decide +kernel
theorem dX2_closeStale_16 : decode cX2_closeStale 16 = .ok (.iaload, 1) := by decide +kernel
theorem dX2_closeStale_17 : decode cX2_closeStale 17 = .ok (.isub, 1) := by decide +kernel
theorem dX2_closeStale_18 : decode cX2_closeStale 18 = .ok (.bipush 6, 2) := by decide +kernel
theorem dX2_closeStale_20 : decode cX2_closeStale 20 = .ok (.if_icmp .lt 10, 3) := by decide +kernel
theorem dX2_closeStale_23 : decode cX2_closeStale 23 = .ok (.aload_n 0, 1) := by decide +kernel
theorem dX2_closeStale_24 : decode cX2_closeStale 24 = .ok (.getfield 24, 3) := by decide +kernel
theorem dX2_closeStale_27 : decode cX2_closeStale 27 = .ok (.iload_n 2, 1) := by decide +kernel
theorem dX2_closeStale_28 : decode cX2_closeStale 28 = .ok (.iconst 0, 1) := by decide +kernel
theorem dX2_closeStale_29 : decode cX2_closeStale 29 = .ok (.bastore, 1) := by decide +kernel
theorem dX2_closeStale_30 : decode cX2_closeStale 30 = .ok (.iinc 2 1, 3) := by decide +kernel
theorem dX2_closeStale_33 : decode cX2_closeStale 33 = .ok (.goto (-31), 3) := by decide +kernel
theorem dX2_closeStale_36 : decode cX2_closeStale 36 = .ok (.return_, 1) := by decide +kernel
theorem dX2_openFor_0 : decode cX2_openFor 0 = .ok (.iconst 0, 1) := by decide +kernel
theorem dX2_openFor_1 : decode cX2_openFor 1 = .ok (.istore_n 3, 1) := by decide +kernel
theorem dX2_openFor_2 : decode cX2_openFor 2 = .ok (.iload_n 3, 1) := by decide +kernel
theorem dX2_openFor_3 : decode cX2_openFor 3 = .ok (.aload_n 0, 1) := by decide +kernel
theorem dX2_openFor_4 : decode cX2_openFor 4 = .ok (.getfield 28, 3) := by decide +kernel
theorem dX2_openFor_7 : decode cX2_openFor 7 = .ok (.if_icmp .ge 40, 3) := by decide +kernel
theorem dX2_openFor_10 : decode cX2_openFor 10 = .ok (.aload_n 0, 1) := by decide +kernel
theorem dX2_openFor_11 : decode cX2_openFor 11 = .ok (.getfield 24, 3) := by decide +kernel
theorem dX2_openFor_14 : decode cX2_openFor 14 = .ok (.iload_n 3, 1) := by decide +kernel
theorem dX2_openFor_15 : decode cX2_openFor 15 = .ok (.baload, 1) := by decide +kernel
theorem dX2_openFor_16 : decode cX2_openFor 16 = .ok (.ifCond .eq 25, 3) := by decide +kernel
theorem dX2_openFor_19 : decode cX2_openFor 19 = .ok (.aload_n 0, 1) := by decide +kernel
theorem dX2_openFor_20 : decode cX2_openFor 20 = .ok (.getfield 9, 3) := by decide +kernel
theorem dX2_openFor_23 : decode cX2_openFor 23 = .ok (.iload_n 3, 1) := by decide +kernel
theorem dX2_openFor_24 : decode cX2_openFor 24 = .ok (.iaload, 1) := by decide +kernel
theorem dX2_openFor_25 : decode cX2_openFor 25 = .ok (.iload_n 1, 1) := by decide +kernel
theorem dX2_openFor_26 : decode cX2_openFor 26 = .ok (.if_icmp .ne 15, 3) := by decide +kernel
theorem dX2_openFor_29 : decode cX2_openFor 29 = .ok (.aload_n 0, 1) := by decide +kernel
theorem dX2_openFor_30 : decode cX2_openFor 30 = .ok (.getfield 15, 3) := by decide +kernel
theorem dX2_openFor_33 : decode cX2_openFor 33 = .ok (.iload_n 3, 1) := by decide +kernel
theorem dX2_openFor_34 : decode cX2_openFor 34 = .ok (.iaload, 1) := by decide +kernel
theorem dX2_openFor_35 : decode cX2_openFor 35 = .ok (.iload_n 2, 1) := by decide +kernel
theorem dX2_openFor_36 : decode cX2_openFor 36 = .ok (.if_icmp .ne 5, 3) := by decide +kernel
theorem dX2_openFor_39 : decode cX2_openFor 39 = .ok (.iload_n 3, 1) := by decide +kernel
theorem dX2_openFor_40 : decode cX2_openFor 40 = .ok (.ireturn, 1) := by decide +kernel
theorem dX2_openFor_41 : decode cX2_openFor 41 = .ok (.iinc 3 1, 3) := by decide +kernel
theorem dX2_openFor_44 : decode cX2_openFor 44 = .ok (.goto (-42), 3) := by decide +kernel
theorem dX2_openFor_47 : decode cX2_openFor 47 = .ok (.iconst (-1), 1) := by decide +kernel
theorem dX2_openFor_48 : decode cX2_openFor 48 = .ok (.ireturn, 1) := by decide +kernel
theorem dX2_add_0 : decode cX2_add 0 = .ok (.aload_n 0, 1) := by decide +kernel
theorem dX2_add_1 : decode cX2_add 1 = .ok (.getfield 9, 3) := by decide +kernel
theorem dX2_add_4 : decode cX2_add 4 = .ok (.aload_n 0, 1) := by decide +kernel
theorem dX2_add_5 : decode cX2_add 5 = .ok (.getfield 28, 3) := by decide +kernel
theorem dX2_add_8 : decode cX2_add 8 = .ok (.iload_n 1, 1) := by decide +kernel
theorem dX2_add_9 : decode cX2_add 9 = .ok (.iastore, 1) := by decide +kernel
theorem dX2_add_10 : decode cX2_add 10 = .ok (.aload_n 0, 1) := by decide +kernel
theorem dX2_add_11 : decode cX2_add 11 = .ok (.getfield 15, 3) := by decide +kernel
theorem dX2_add_14 : decode cX2_add 14 = .ok (.aload_n 0, 1) := by decide +kernel
theorem dX2_add_15 : decode cX2_add 15 = .ok (.getfield 28, 3) := by decide +kernel
theorem dX2_add_18 : decode cX2_add 18 = .ok (.iload_n 2, 1) := by decide +kernel
theorem dX2_add_19 : decode cX2_add 19 = .ok (.iastore, 1) := by decide +kernel
theorem dX2_add_20 : decode cX2_add 20 = .ok (.aload_n 0, 1) := by decide +kernel
theorem dX2_add_21 : decode cX2_add 21 = .ok (.getfield 18, 3) := by decide +kernel
theorem dX2_add_24 : decode cX2_add 24 = .ok (.aload_n 0, 1) := by decide +kernel
theorem dX2_add_25 : decode cX2_add 25 = .ok (.getfield 28, 3) := by decide +kernel
theorem dX2_add_28 : decode cX2_add 28 = .ok (.iload_n 3, 1) := by decide +kernel
theorem dX2_add_29 : decode cX2_add 29 = .ok (.iastore, 1) := by decide +kernel
theorem dX2_add_30 : decode cX2_add 30 = .ok (.aload_n 0, 1) := by decide +kernel
theorem dX2_add_31 : decode cX2_add 31 = .ok (.getfield 21, 3) := by decide +kernel
theorem dX2_add_34 : decode cX2_add 34 = .ok (.aload_n 0, 1) := by decide +kernel
theorem dX2_add_35 : decode cX2_add 35 = .ok (.getfield 28, 3) := by decide +kernel
theorem dX2_add_38 : decode cX2_add 38 = .ok (.iload_n 3, 1) := by decide +kernel
theorem dX2_add_39 : decode cX2_add 39 = .ok (.iastore, 1) := by decide +kernel
theorem dX2_add_40 : decode cX2_add 40 = .ok (.aload_n 0, 1) := by decide +kernel
theorem dX2_add_41 : decode cX2_add 41 = .ok (.getfield 24, 3) := by decide +kernel
theorem dX2_add_44 : decode cX2_add 44 = .ok (.aload_n 0, 1) := by decide +kernel
theorem dX2_add_45 : decode cX2_add 45 = .ok (.getfield 28, 3) := by decide +kernel
theorem dX2_add_48 : decode cX2_add 48 = .ok (.iconst 1, 1) := by decide +kernel
theorem dX2_add_49 : decode cX2_add 49 = .ok (.bastore, 1) := by decide +kernel
theorem dX2_add_50 : decode cX2_add 50 = .ok (.aload_n 0, 1) := by decide +kernel
theorem dX2_add_51 : decode cX2_add 51 = .ok (.dup, 1) := by decide +kernel
theorem dX2_add_52 : decode cX2_add 52 = .ok (.getfield 28, 3) := by decide +kernel
theorem dX2_add_55 : decode cX2_add 55 = .ok (.iconst 1, 1) := by decide +kernel
theorem dX2_add_56 : decode cX2_add 56 = .ok (.iadd, 1) := by decide +kernel
theorem dX2_add_57 : decode cX2_add 57 = .ok (.putfield 28, 3) := by decide +kernel
theorem dX2_add_60 : decode cX2_add 60 = .ok (.return_, 1) := by decide +kernel
theorem dX6_init_0 : decode cX6_init 0 = .ok (.aload_n 0, 1) := by decide +kernel
theorem dX6_init_1 : decode cX6_init 1 = .ok (.invokespecial 3, 3) := by decide +kernel
theorem dX6_init_4 : decode cX6_init 4 = .ok (.aload_n 0, 1) := by decide +kernel
theorem dX6_init_5 : decode cX6_init 5 = .ok (.bipush 24, 2) := by decide +kernel
theorem dX6_init_7 : decode cX6_init 7 = .ok (.newarray .int, 2) := by decide +kernel
theorem dX6_init_9 : decode cX6_init 9 = .ok (.putfield 9, 3) := by decide +kernel
theorem dX6_init_12 : decode cX6_init 12 = .ok (.iconst 0, 1) := by decide +kernel
theorem dX6_init_13 : decode cX6_init 13 = .ok (.istore_n 1, 1) := by decide +kernel
theorem dX6_init_14 : decode cX6_init 14 = .ok (.iload_n 1, 1) := by decide +kernel
theorem dX6_init_15 : decode cX6_init 15 = .ok (.bipush 6, 2) := by decide +kernel
theorem dX6_init_17 : decode cX6_init 17 = .ok (.if_icmp .ge 18, 3) := by decide +kernel
theorem dX6_init_20 : decode cX6_init 20 = .ok (.aload_n 0, 1) := by decide +kernel
theorem dX6_init_21 : decode cX6_init 21 = .ok (.getfield 9, 3) := by decide +kernel
theorem dX6_init_24 : decode cX6_init 24 = .ok (.iload_n 1, 1) := by decide +kernel
theorem dX6_init_25 : decode cX6_init 25 = .ok (.iconst 4, 1) := by decide +kernel
theorem dX6_init_26 : decode cX6_init 26 = .ok (.imul, 1) := by decide +kernel
theorem dX6_init_27 : decode cX6_init 27 = .ok (.iconst 1, 1) := by decide +kernel
theorem dX6_init_28 : decode cX6_init 28 = .ok (.iastore, 1) := by decide +kernel
theorem dX6_init_29 : decode cX6_init 29 = .ok (.iinc 1 1, 3) := by decide +kernel
theorem dX6_init_32 : decode cX6_init 32 = .ok (.goto (-18), 3) := by decide +kernel
theorem dX6_init_35 : decode cX6_init 35 = .ok (.return_, 1) := by decide +kernel
theorem dX6_giveTo_0 : decode cX6_giveTo 0 = .ok (.iconst 0, 1) := by decide +kernel
theorem dX6_giveTo_1 : decode cX6_giveTo 1 = .ok (.istore_n 3, 1) := by decide +kernel
theorem dX6_giveTo_2 : decode cX6_giveTo 2 = .ok (.iload_n 3, 1) := by decide +kernel
theorem dX6_giveTo_3 : decode cX6_giveTo 3 = .ok (.iconst 4, 1) := by decide +kernel
theorem dX6_giveTo_4 : decode cX6_giveTo 4 = .ok (.if_icmp .ge 29, 3) := by decide +kernel
theorem dX6_giveTo_7 : decode cX6_giveTo 7 = .ok (.aload_n 0, 1) := by decide +kernel
theorem dX6_giveTo_8 : decode cX6_giveTo 8 = .ok (.getfield 9, 3) := by decide +kernel
theorem dX6_giveTo_11 : decode cX6_giveTo 11 = .ok (.iload_n 1, 1) := by decide +kernel
theorem dX6_giveTo_12 : decode cX6_giveTo 12 = .ok (.iconst 4, 1) := by decide +kernel
theorem dX6_giveTo_13 : decode cX6_giveTo 13 = .ok (.imul, 1) := by decide +kernel
theorem dX6_giveTo_14 : decode cX6_giveTo 14 = .ok (.iload_n 3, 1) := by decide +kernel
theorem dX6_giveTo_15 : decode cX6_giveTo 15 = .ok (.iadd, 1) := by decide +kernel
theorem dX6_giveTo_16 : decode cX6_giveTo 16 = .ok (.iload_n 3, 1) := by decide +kernel
theorem dX6_giveTo_17 : decode cX6_giveTo 17 = .ok (.iload_n 2, 1) := by decide +kernel
theorem dX6_giveTo_18 : decode cX6_giveTo 18 = .ok (.if_icmp .ne 7, 3) := by decide +kernel
theorem dX6_giveTo_21 : decode cX6_giveTo 21 = .ok (.iconst 1, 1) := by decide +kernel
theorem dX6_giveTo_22 : decode cX6_giveTo 22 = .ok (.goto 4, 3) := by decide +kernel
theorem dX6_giveTo_25 : decode cX6_giveTo 25 = .ok (.iconst 0, 1) := by decide +kernel
theorem dX6_giveTo_26 : decode cX6_giveTo 26 = .ok (.iastore, 1) := by decide +kernel
theorem dX6_giveTo_27 : decode cX6_giveTo 27 = .ok (.iinc 3 1, 3) := by decide +kernel
theorem dX6_giveTo_30 : decode cX6_giveTo 30 = .ok (.goto (-28), 3) := by decide +kernel
theorem dX6_giveTo_33 : decode cX6_giveTo 33 = .ok (.return_, 1) := by decide +kernel
theorem dX6_split_0 : decode cX6_split 0 = .ok (.aload_n 0, 1) := by decide +kernel
theorem dX6_split_1 : decode cX6_split 1 = .ok (.getfield 9, 3) := by decide +kernel
theorem dX6_split_4 : decode cX6_split 4 = .ok (.iload_n 1, 1) := by decide +kernel
theorem dX6_split_5 : decode cX6_split 5 = .ok (.iconst 4, 1) := by decide +kernel
theorem dX6_split_6 : decode cX6_split 6 = .ok (.imul, 1) := by decide +kernel
theorem dX6_split_7 : decode cX6_split 7 = .ok (.iload_n 2, 1) := by decide +kernel
theorem dX6_split_8 : decode cX6_split 8 = .ok (.iastore, 1) := by decide +kernel
theorem dX6_split_9 : decode cX6_split 9 = .ok (.aload_n 0, 1) := by decide +kernel
theorem dX6_split_10 : decode cX6_split 10 = .ok (.getfield 9, 3) := by decide +kernel
theorem dX6_split_13 : decode cX6_split 13 = .ok (.iload_n 1, 1) := by decide +kernel
theorem dX6_split_14 : decode cX6_split 14 = .ok (.iconst 4, 1) := by decide +kernel
theorem dX6_split_15 : decode cX6_split 15 = .ok (.imul, 1) := by decide +kernel
theorem dX6_split_16 : decode cX6_split 16 = .ok (.iconst 1, 1) := by decide +kernel
theorem dX6_split_17 : decode cX6_split 17 = .ok (.iadd, 1) := by decide +kernel
theorem dX6_split_18 : decode cX6_split 18 = .ok (.iload_n 3, 1) := by decide +kernel
theorem dX6_split_19 : decode cX6_split 19 = .ok (.iastore, 1) := by decide +kernel
theorem dX6_split_20 : decode cX6_split 20 = .ok (.aload_n 0, 1) := by decide +kernel
theorem dX6_split_21 : decode cX6_split 21 = .ok (.getfield 9, 3) := by decide +kernel
theorem dX6_split_24 : decode cX6_split 24 = .ok (.iload_n 1, 1) := by decide +kernel
theorem dX6_split_25 : decode cX6_split 25 = .ok (.iconst 4, 1) := by decide +kernel
theorem dX6_split_26 : decode cX6_split 26 = .ok (.imul, 1) := by decide +kernel
theorem dX6_split_27 : decode cX6_split 27 = .ok (.iconst 2, 1) := by decide +kernel
theorem dX6_split_28 : decode cX6_split 28 = .ok (.iadd, 1) := by decide +kernel
theorem dX6_split_29 : decode cX6_split 29 = .ok (.iload 4, 2) := by decide +kernel
theorem dX6_split_31 : decode cX6_split 31 = .ok (.iastore, 1) := by decide +kernel
theorem dX6_split_32 : decode cX6_split 32 = .ok (.aload_n 0, 1) := by decide +kernel
theorem dX6_split_33 : decode cX6_split 33 = .ok (.getfield 9, 3) := by decide +kernel
theorem dX6_split_36 : decode cX6_split 36 = .ok (.iload_n 1, 1) := by decide +kernel
theorem dX6_split_37 : decode cX6_split 37 = .ok (.iconst 4, 1) := by decide +kernel
theorem dX6_split_38 : decode cX6_split 38 = .ok (.imul, 1) := by decide +kernel
theorem dX6_split_39 : decode cX6_split 39 = .ok (.iconst 3, 1) := by decide +kernel
theorem dX6_split_40 : decode cX6_split 40 = .ok (.iadd, 1) := by decide +kernel
theorem dX6_split_41 : decode cX6_split 41 = .ok (.iload 5, 2) := by decide +kernel
theorem dX6_split_43 : decode cX6_split 43 = .ok (.iastore, 1) := by decide +kernel
theorem dX6_split_44 : decode cX6_split 44 = .ok (.return_, 1) := by decide +kernel
theorem dX6_partOf_0 : decode cX6_partOf 0 = .ok (.aload_n 0, 1) := by decide +kernel
theorem dX6_partOf_1 : decode cX6_partOf 1 = .ok (.getfield 9, 3) := by decide +kernel
theorem dX6_partOf_4 : decode cX6_partOf 4 = .ok (.iload_n 1, 1) := by decide +kernel
theorem dX6_partOf_5 : decode cX6_partOf 5 = .ok (.iconst 4, 1) := by decide +kernel
theorem dX6_partOf_6 : decode cX6_partOf 6 = .ok (.imul, 1) := by decide +kernel
theorem dX6_partOf_7 : decode cX6_partOf 7 = .ok (.iload_n 2, 1) := by decide +kernel
theorem dX6_partOf_8 : decode cX6_partOf 8 = .ok (.iadd, 1) := by decide +kernel
theorem dX6_partOf_9 : decode cX6_partOf 9 = .ok (.iaload, 1) := by decide +kernel
theorem dX6_partOf_10 : decode cX6_partOf 10 = .ok (.istore 4, 2) := by decide +kernel
theorem dX6_partOf_12 : decode cX6_partOf 12 = .ok (.aload_n 0, 1) := by decide +kernel
theorem dX6_partOf_13 : decode cX6_partOf 13 = .ok (.iload_n 1, 1) := by decide +kernel
theorem dX6_partOf_14 : decode cX6_partOf 14 = .ok (.invokevirtual 15, 3) := by decide +kernel
theorem dX6_partOf_17 : decode cX6_partOf 17 = .ok (.istore 5, 2) := by decide +kernel
theorem dX6_partOf_19 : decode cX6_partOf 19 = .ok (.iload 4, 2) := by decide +kernel
theorem dX6_partOf_21 : decode cX6_partOf 21 = .ok (.ifCond .le 8, 3) := by decide +kernel
theorem dX6_partOf_24 : decode cX6_partOf 24 = .ok (.iload 5, 2) := by decide +kernel
theorem dX6_partOf_26 : decode cX6_partOf 26 = .ok (.ifCond .gt 5, 3) := by decide +kernel
theorem dX6_partOf_29 : decode cX6_partOf 29 = .ok (.iconst 0, 1) := by decide +kernel
theorem dX6_partOf_30 : decode cX6_partOf 30 = .ok (.ireturn, 1) := by decide +kernel
theorem dX6_partOf_31 : decode cX6_partOf 31 = .ok (.iload_n 3, 1) := by decide +kernel
theorem dX6_partOf_32 : decode cX6_partOf 32 = .ok (.iload 4, 2) := by decide +kernel
theorem dX6_partOf_34 : decode cX6_partOf 34 = .ok (.imul, 1) := by decide +kernel
theorem dX6_partOf_35 : decode cX6_partOf 35 = .ok (.iload 5, 2) := by decide +kernel
theorem dX6_partOf_37 : decode cX6_partOf 37 = .ok (.idiv, 1) := by decide +kernel
theorem dX6_partOf_38 : decode cX6_partOf 38 = .ok (.istore 6, 2) := by decide +kernel
theorem dX6_partOf_40 : decode cX6_partOf 40 = .ok (.iload_n 3, 1) := by decide +kernel
theorem dX6_partOf_41 : decode cX6_partOf 41 = .ok (.iload 4, 2) := by decide +kernel
theorem dX6_partOf_43 : decode cX6_partOf 43 = .ok (.imul, 1) := by decide +kernel
theorem dX6_partOf_44 : decode cX6_partOf 44 = .ok (.iload 5, 2) := by decide +kernel
theorem dX6_partOf_46 : decode cX6_partOf 46 = .ok (.irem, 1) := by decide +kernel
theorem dX6_partOf_47 : decode cX6_partOf 47 = .ok (.istore 7, 2) := by decide +kernel
theorem dX6_partOf_49 : decode cX6_partOf 49 = .ok (.iload_n 3, 1) := by decide +kernel
theorem dX6_partOf_50 : decode cX6_partOf 50 = .ok (.istore 8, 2) := by decide +kernel
theorem dX6_partOf_52 : decode cX6_partOf 52 = .ok (.iconst 0, 1) := by decide +kernel
theorem dX6_partOf_53 : decode cX6_partOf 53 = .ok (.istore 9, 2) := by decide +kernel
theorem dX6_partOf_55 : decode cX6_partOf 55 = .ok (.iconst 0, 1) := by decide +kernel
theorem dX6_partOf_56 : decode cX6_partOf 56 = .ok (.istore 10, 2) := by decide +kernel
theorem dX6_partOf_58 : decode cX6_partOf 58 = .ok (.iload 10, 2) := by decide +kernel
theorem dX6_partOf_60 : decode cX6_partOf 60 = .ok (.iconst 4, 1) := by decide +kernel
theorem dX6_partOf_61 : decode cX6_partOf 61 = .ok (.if_icmp .ge 64, 3) := by decide +kernel
theorem dX6_partOf_64 : decode cX6_partOf 64 = .ok (.iload_n 3, 1) := by decide +kernel
theorem dX6_partOf_65 : decode cX6_partOf 65 = .ok (.aload_n 0, 1) := by decide +kernel
theorem dX6_partOf_66 : decode cX6_partOf 66 = .ok (.getfield 9, 3) := by decide +kernel
theorem dX6_partOf_69 : decode cX6_partOf 69 = .ok (.iload_n 1, 1) := by decide +kernel
theorem dX6_partOf_70 : decode cX6_partOf 70 = .ok (.iconst 4, 1) := by decide +kernel
theorem dX6_partOf_71 : decode cX6_partOf 71 = .ok (.imul, 1) := by decide +kernel
theorem dX6_partOf_72 : decode cX6_partOf 72 = .ok (.iload 10, 2) := by decide +kernel
theorem dX6_partOf_74 : decode cX6_partOf 74 = .ok (.iadd, 1) := by decide +kernel
theorem dX6_partOf_75 : decode cX6_partOf 75 = .ok (.iaload, 1) := by decide +kernel
theorem dX6_partOf_76 : decode cX6_partOf 76 = .ok (.imul, 1) := by decide +kernel
theorem dX6_partOf_77 : decode cX6_partOf 77 = .ok (.istore 11, 2) := by decide +kernel
theorem dX6_partOf_79 : decode cX6_partOf 79 = .ok (.iload 11, 2) := by decide +kernel
theorem dX6_partOf_81 : decode cX6_partOf 81 = .ok (.iload 5, 2) := by decide +kernel
theorem dX6_partOf_83 : decode cX6_partOf 83 = .ok (.irem, 1) := by decide +kernel
theorem dX6_partOf_84 : decode cX6_partOf 84 = .ok (.istore 12, 2) := by decide +kernel
theorem dX6_partOf_86 : decode cX6_partOf 86 = .ok (.iload 8, 2) := by decide +kernel
theorem dX6_partOf_88 : decode cX6_partOf 88 = .ok (.iload 11, 2) := by decide +kernel
theorem dX6_partOf_90 : decode cX6_partOf 90 = .ok (.iload 5, 2) := by decide +kernel
theorem dX6_partOf_92 : decode cX6_partOf 92 = .ok (.idiv, 1) := by decide +kernel
theorem dX6_partOf_93 : decode cX6_partOf 93 = .ok (.isub, 1) := by decide +kernel
theorem dX6_partOf_94 : decode cX6_partOf 94 = .ok (.istore 8, 2) := by decide +kernel
theorem dX6_partOf_96 : decode cX6_partOf 96 = .ok (.iload 12, 2) := by decide +kernel
theorem dX6_partOf_98 : decode cX6_partOf 98 = .ok (.iload 7, 2) := by decide +kernel
theorem dX6_partOf_100 : decode cX6_partOf 100 = .ok (.if_icmp .gt 16, 3) := by decide +kernel
theorem dX6_partOf_103 : decode cX6_partOf 103 = .ok (.iload 12, 2) := by decide +kernel
theorem dX6_partOf_105 : decode cX6_partOf 105 = .ok (.iload 7, 2) := by decide +kernel
theorem dX6_partOf_107 : decode cX6_partOf 107 = .ok (.if_icmp .ne 12, 3) := by decide +kernel
theorem dX6_partOf_110 : decode cX6_partOf 110 = .ok (.iload 10, 2) := by decide +kernel
theorem dX6_partOf_112 : decode cX6_partOf 112 = .ok (.iload_n 2, 1) := by decide +kernel
theorem dX6_partOf_113 : decode cX6_partOf 113 = .ok (.if_icmp .ge 6, 3) := by decide +kernel
theorem dX6_partOf_116 : decode cX6_partOf 116 = .ok (.iinc 9 1, 3) := by decide +kernel
theorem dX6_partOf_119 : decode cX6_partOf 119 = .ok (.iinc 10 1, 3) := by decide +kernel
theorem dX6_partOf_122 : decode cX6_partOf 122 = .ok (.goto (-64), 3) := by decide +kernel
theorem dX6_partOf_125 : decode cX6_partOf 125 = .ok (.iload 9, 2) := by decide +kernel
theorem dX6_partOf_127 : decode cX6_partOf 127 = .ok (.iload 8, 2) := by decide +kernel
theorem dX6_partOf_129 : decode cX6_partOf 129 = .ok (.if_icmp .ge 10, 3) := by decide +kernel
theorem dX6_partOf_132 : decode cX6_partOf 132 = .ok (.iload 6, 2) := by decide +kernel
theorem dX6_partOf_134 : decode cX6_partOf 134 = .ok (.iconst 1, 1) := by decide +kernel
theorem dX6_partOf_135 : decode cX6_partOf 135 = .ok (.iadd, 1) := by decide +kernel
theorem dX6_partOf_136 : decode cX6_partOf 136 = .ok (.goto 5, 3) := by decide +kernel
theorem dX6_partOf_139 : decode cX6_partOf 139 = .ok (.iload 6, 2) := by decide +kernel
theorem dX6_partOf_141 : decode cX6_partOf 141 = .ok (.ireturn, 1) := by decide +kernel
theorem dX6_sumOf_0 : decode cX6_sumOf 0 = .ok (.iconst 0, 1) := by decide +kernel
theorem dX6_sumOf_1 : decode cX6_sumOf 1 = .ok (.istore_n 2, 1) := by decide +kernel
theorem dX6_sumOf_2 : decode cX6_sumOf 2 = .ok (.iconst 0, 1) := by decide +kernel
theorem dX6_sumOf_3 : decode cX6_sumOf 3 = .ok (.istore_n 3, 1) := by decide +kernel
theorem dX6_sumOf_4 : decode cX6_sumOf 4 = .ok (.iload_n 3, 1) := by decide +kernel
theorem dX6_sumOf_5 : decode cX6_sumOf 5 = .ok (.iconst 4, 1) := by decide +kernel
theorem dX6_sumOf_6 : decode cX6_sumOf 6 = .ok (.if_icmp .ge 22, 3) := by decide +kernel
theorem dX6_sumOf_9 : decode cX6_sumOf 9 = .ok (.iload_n 2, 1) := by decide +kernel
theorem dX6_sumOf_10 : decode cX6_sumOf 10 = .ok (.aload_n 0, 1) := by decide +kernel
theorem dX6_sumOf_11 : decode cX6_sumOf 11 = .ok (.getfield 9, 3) := by decide +kernel
theorem dX6_sumOf_14 : decode cX6_sumOf 14 = .ok (.iload_n 1, 1) := by decide +kernel
theorem dX6_sumOf_15 : decode cX6_sumOf 15 = .ok (.iconst 4, 1) := by decide +kernel
theorem dX6_sumOf_16 : decode cX6_sumOf 16 = .ok (.imul, 1) := by decide +kernel
theorem dX6_sumOf_17 : decode cX6_sumOf 17 = .ok (.iload_n 3, 1) := by decide +kernel
theorem dX6_sumOf_18 : decode cX6_sumOf 18 = .ok (.iadd, 1) := by decide +kernel
theorem dX6_sumOf_19 : decode cX6_sumOf 19 = .ok (.iaload, 1) := by decide +kernel
theorem dX6_sumOf_20 : decode cX6_sumOf 20 = .ok (.iadd, 1) := by decide +kernel
theorem dX6_sumOf_21 : decode cX6_sumOf 21 = .ok (.istore_n 2, 1) := by decide +kernel
theorem dX6_sumOf_22 : decode cX6_sumOf 22 = .ok (.iinc 3 1, 3) := by decide +kernel
theorem dX6_sumOf_25 : decode cX6_sumOf 25 = .ok (.goto (-21), 3) := by decide +kernel
theorem dX6_sumOf_28 : decode cX6_sumOf 28 = .ok (.iload_n 2, 1) := by decide +kernel
theorem dX6_sumOf_29 : decode cX6_sumOf 29 = .ok (.ireturn, 1) := by decide +kernel
