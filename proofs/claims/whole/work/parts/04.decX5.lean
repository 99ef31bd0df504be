theorem dX5_init_0 : decode cX5_init 0 = .ok (.aload_n 0, 1) := by decide +kernel
theorem dX5_init_1 : decode cX5_init 1 = .ok (.invokespecial 3, 3) := by decide +kernel
theorem dX5_init_4 : decode cX5_init 4 = .ok (.aload_n 0, 1) := by decide +kernel
theorem dX5_init_5 : decode cX5_init 5 = .ok (.aload_n 1, 1) := by decide +kernel
theorem dX5_init_6 : decode cX5_init 6 = .ok (.putfield 9, 3) := by decide +kernel
theorem dX5_init_9 : decode cX5_init 9 = .ok (.aload_n 0, 1) := by decide +kernel
theorem dX5_init_10 : decode cX5_init 10 = .ok (.bipush 7, 2) := by decide +kernel
theorem dX5_init_12 : decode cX5_init 12 = .ok (.newarray .int, 2) := by decide +kernel
theorem dX5_init_14 : decode cX5_init 14 = .ok (.putfield 15, 3) := by decide +kernel
theorem dX5_init_17 : decode cX5_init 17 = .ok (.aload_n 0, 1) := by decide +kernel
theorem dX5_init_18 : decode cX5_init 18 = .ok (.iconst 0, 1) := by decide +kernel
theorem dX5_init_19 : decode cX5_init 19 = .ok (.putfield 19, 3) := by decide +kernel
theorem dX5_init_22 : decode cX5_init 22 = .ok (.aload_n 0, 1) := by decide +kernel
theorem dX5_init_23 : decode cX5_init 23 = .ok (.iconst 0, 1) := by decide +kernel
theorem dX5_init_24 : decode cX5_init 24 = .ok (.putfield 23, 3) := by decide +kernel
theorem dX5_init_27 : decode cX5_init 27 = .ok (.return_, 1) := by decide +kernel
theorem dX5_find_0 : decode cX5_find 0 = .ok (.aload_n 0, 1) := by decide +kernel
theorem dX5_find_1 : decode cX5_find 1 = .ok (.iload_n 1, 1) := by decide +kernel
theorem dX5_find_2 : decode cX5_find 2 = .ok (.iload_n 2, 1) := by decide +kernel
theorem dX5_find_3 : decode cX5_find 3 = .ok (.invokevirtual 26, 3) := by decide +kernel
theorem dX5_find_6 : decode cX5_find 6 = .ok (.istore_n 3, 1) := by decide +kernel
theorem dX5_find_7 : decode cX5_find 7 = .ok (.iload_n 3, 1) := by decide +kernel
theorem dX5_find_8 : decode cX5_find 8 = .ok (.iconst 3, 1) := by decide +kernel
theorem dX5_find_9 : decode cX5_find 9 = .ok (.if_icmp .ge 5, 3) := by decide +kernel
theorem dX5_find_12 : decode cX5_find 12 = .ok (.iconst 0, 1) := by decide +kernel
theorem dX5_find_13 : decode cX5_find 13 = .ok (.ireturn, 1) := by decide +kernel
theorem dX5_find_14 : decode cX5_find 14 = .ok (.aload_n 0, 1) := by decide +kernel
theorem dX5_find_15 : decode cX5_find 15 = .ok (.aload_n 0, 1) := by decide +kernel
theorem dX5_find_16 : decode cX5_find 16 = .ok (.iload_n 3, 1) := by decide +kernel
theorem dX5_find_17 : decode cX5_find 17 = .ok (.invokevirtual 30, 3) := by decide +kernel
theorem dX5_find_20 : decode cX5_find 20 = .ok (.putfield 19, 3) := by decide +kernel
theorem dX5_find_23 : decode cX5_find 23 = .ok (.iconst 0, 1) := by decide +kernel
theorem dX5_find_24 : decode cX5_find 24 = .ok (.istore 4, 2) := by decide +kernel
theorem dX5_find_26 : decode cX5_find 26 = .ok (.iload 4, 2) := by decide +kernel
theorem dX5_find_28 : decode cX5_find 28 = .ok (.iload_n 3, 1) := by decide +kernel
theorem dX5_find_29 : decode cX5_find 29 = .ok (.if_icmp .ge 31, 3) := by decide +kernel
theorem dX5_find_32 : decode cX5_find 32 = .ok (.aload_n 0, 1) := by decide +kernel
theorem dX5_find_33 : decode cX5_find 33 = .ok (.getfield 15, 3) := by decide +kernel
theorem dX5_find_36 : decode cX5_find 36 = .ok (.iload 4, 2) := by decide +kernel
theorem dX5_find_38 : decode cX5_find 38 = .ok (.aload_n 0, 1) := by decide +kernel
theorem dX5_find_39 : decode cX5_find 39 = .ok (.getfield 15, 3) := by decide +kernel
theorem dX5_find_42 : decode cX5_find 42 = .ok (.iload 4, 2) := by decide +kernel
theorem dX5_find_44 : decode cX5_find 44 = .ok (.iaload, 1) := by decide +kernel
theorem dX5_find_45 : decode cX5_find 45 = .ok (.aload_n 0, 1) := by decide +kernel
theorem dX5_find_46 : decode cX5_find 46 = .ok (.getfield 19, 3) := by decide +kernel
theorem dX5_find_49 : decode cX5_find 49 = .ok (.isub, 1) := by decide +kernel
theorem dX5_find_50 : decode cX5_find 50 = .ok (.invokestatic 34, 3) := by decide +kernel
theorem dX5_find_53 : decode cX5_find 53 = .ok (.iastore, 1) := by decide +kernel
theorem dX5_find_54 : decode cX5_find 54 = .ok (.iinc 4 1, 3) := by decide +kernel
theorem dX5_find_57 : decode cX5_find 57 = .ok (.goto (-31), 3) := by decide +kernel
theorem dX5_find_60 : decode cX5_find 60 = .ok (.aload_n 0, 1) := by decide +kernel
theorem dX5_find_61 : decode cX5_find 61 = .ok (.aload_n 0, 1) := by decide +kernel
theorem dX5_find_62 : decode cX5_find 62 = .ok (.iload_n 3, 1) := by decide +kernel
theorem dX5_find_63 : decode cX5_find 63 = .ok (.invokevirtual 30, 3) := by decide +kernel
theorem dX5_find_66 : decode cX5_find 66 = .ok (.putfield 23, 3) := by decide +kernel
theorem dX5_find_69 : decode cX5_find 69 = .ok (.iconst 1, 1) := by decide +kernel
theorem dX5_find_70 : decode cX5_find 70 = .ok (.ireturn, 1) := by decide +kernel
theorem dX5_expected_0 : decode cX5_expected 0 = .ok (.aload_n 0, 1) := by decide +kernel
theorem dX5_expected_1 : decode cX5_expected 1 = .ok (.getfield 19, 3) := by decide +kernel
theorem dX5_expected_4 : decode cX5_expected 4 = .ok (.ireturn, 1) := by decide +kernel
theorem dX5_spread_0 : decode cX5_spread 0 = .ok (.aload_n 0, 1) := by decide +kernel
theorem dX5_spread_1 : decode cX5_spread 1 = .ok (.getfield 23, 3) := by decide +kernel
theorem dX5_spread_4 : decode cX5_spread 4 = .ok (.ireturn, 1) := by decide +kernel
theorem dX5_gather_0 : decode cX5_gather 0 = .ok (.iconst 0, 1) := by decide +kernel
theorem dX5_gather_1 : decode cX5_gather 1 = .ok (.istore_n 3, 1) := by decide +kernel
theorem dX5_gather_2 : decode cX5_gather 2 = .ok (.iconst 1, 1) := by decide +kernel
theorem dX5_gather_3 : decode cX5_gather 3 = .ok (.istore 4, 2) := by decide +kernel
theorem dX5_gather_5 : decode cX5_gather 5 = .ok (.iload 4, 2) := by decide +kernel
theorem dX5_gather_7 : decode cX5_gather 7 = .ok (.bipush 7, 2) := by decide +kernel
theorem dX5_gather_9 : decode cX5_gather 9 = .ok (.if_icmp .gt 42, 3) := by decide +kernel
theorem dX5_gather_12 : decode cX5_gather 12 = .ok (.iload_n 2, 1) := by decide +kernel
theorem dX5_gather_13 : decode cX5_gather 13 = .ok (.iload 4, 2) := by decide +kernel
theorem dX5_gather_15 : decode cX5_gather 15 = .ok (.bipush 24, 2) := by decide +kernel
theorem dX5_gather_17 : decode cX5_gather 17 = .ok (.imul, 1) := by decide +kernel
theorem dX5_gather_18 : decode cX5_gather 18 = .ok (.isub, 1) := by decide +kernel
theorem dX5_gather_19 : decode cX5_gather 19 = .ok (.istore 5, 2) := by decide +kernel
theorem dX5_gather_21 : decode cX5_gather 21 = .ok (.iload 5, 2) := by decide +kernel
theorem dX5_gather_23 : decode cX5_gather 23 = .ok (.ifCond .lt 22, 3) := by decide +kernel
theorem dX5_gather_26 : decode cX5_gather 26 = .ok (.aload_n 0, 1) := by decide +kernel
theorem dX5_gather_27 : decode cX5_gather 27 = .ok (.getfield 15, 3) := by decide +kernel
theorem dX5_gather_30 : decode cX5_gather 30 = .ok (.iload_n 3, 1) := by decide +kernel
theorem dX5_gather_31 : decode cX5_gather 31 = .ok (.aload_n 0, 1) := by decide +kernel
theorem dX5_gather_32 : decode cX5_gather 32 = .ok (.getfield 9, 3) := by decide +kernel
theorem dX5_gather_35 : decode cX5_gather 35 = .ok (.iload_n 1, 1) := by decide +kernel
theorem dX5_gather_36 : decode cX5_gather 36 = .ok (.iload 5, 2) := by decide +kernel
theorem dX5_gather_38 : decode cX5_gather 38 = .ok (.invokevirtual 39, 3) := by decide +kernel
theorem dX5_gather_41 : decode cX5_gather 41 = .ok (.iastore, 1) := by decide +kernel
theorem dX5_gather_42 : decode cX5_gather 42 = .ok (.iinc 3 1, 3) := by decide +kernel
theorem dX5_gather_45 : decode cX5_gather 45 = .ok (.iinc 4 1, 3) := by decide +kernel
theorem dX5_gather_48 : decode cX5_gather 48 = .ok (.goto (-43), 3) := by decide +kernel
theorem dX5_gather_51 : decode cX5_gather 51 = .ok (.iload_n 3, 1) := by decide +kernel
theorem dX5_gather_52 : decode cX5_gather 52 = .ok (.ireturn, 1) := by decide +kernel
theorem dX5_median_0 : decode cX5_median 0 = .ok (.aload_n 0, 1) := by decide +kernel
theorem dX5_median_1 : decode cX5_median 1 = .ok (.iload_n 1, 1) := by decide +kernel
theorem dX5_median_2 : decode cX5_median 2 = .ok (.invokevirtual 44, 3) := by decide +kernel
theorem dX5_median_5 : decode cX5_median 5 = .ok (.aload_n 0, 1) := by decide +kernel
theorem dX5_median_6 : decode cX5_median 6 = .ok (.getfield 15, 3) := by decide +kernel
theorem dX5_median_9 : decode cX5_median 9 = .ok (.iload_n 1, 1) := by decide +kernel
theorem dX5_median_10 : decode cX5_median 10 = .ok (.iconst 1, 1) := by decide +kernel
theorem dX5_median_11 : decode cX5_median 11 = .ok (.isub, 1) := by decide +kernel
theorem dX5_median_12 : decode cX5_median 12 = .ok (.iconst 2, 1) := by decide +kernel
theorem dX5_median_13 : decode cX5_median 13 = .ok (.idiv, 1) := by decide +kernel
theorem dX5_median_14 : decode cX5_median 14 = .ok (.iaload, 1) := by decide +kernel
theorem dX5_median_15 : decode cX5_median 15 = .ok (.ireturn, 1) := by decide +kernel
theorem dX5_sort_0 : decode cX5_sort 0 = .ok (.iconst 1, 1) := by decide +kernel
theorem dX5_sort_1 : decode cX5_sort 1 = .ok (.istore_n 2, 1) := by decide +kernel
theorem dX5_sort_2 : decode cX5_sort 2 = .ok (.iload_n 2, 1) := by decide +kernel
theorem dX5_sort_3 : decode cX5_sort 3 = .ok (.iload_n 1, 1) := by decide +kernel
theorem dX5_sort_4 : decode cX5_sort 4 = .ok (.if_icmp .ge 67, 3) := by decide +kernel
theorem dX5_sort_7 : decode cX5_sort 7 = .ok (.aload_n 0, 1) := by decide +kernel
theorem dX5_sort_8 : decode cX5_sort 8 = .ok (.getfield 15, 3) := by decide +kernel
theorem dX5_sort_11 : decode cX5_sort 11 = .ok (.iload_n 2, 1) := by decide +kernel
theorem dX5_sort_12 : decode cX5_sort 12 = .ok (.iaload, 1) := by decide +kernel
theorem dX5_sort_13 : decode cX5_sort 13 = .ok (.istore_n 3, 1) := by decide +kernel
theorem dX5_sort_14 : decode cX5_sort 14 = .ok (.iload_n 2, 1) := by decide +kernel
theorem dX5_sort_15 : decode cX5_sort 15 = .ok (.istore 4, 2) := by decide +kernel
theorem dX5_sort_17 : decode cX5_sort 17 = .ok (.iload 4, 2) := by decide +kernel
theorem dX5_sort_19 : decode cX5_sort 19 = .ok (.ifCond .le 38, 3) := by decide +kernel
theorem dX5_sort_22 : decode cX5_sort 22 = .ok (.aload_n 0, 1) := by decide +kernel
theorem dX5_sort_23 : decode cX5_sort 23 = .ok (.getfield 15, 3) := by decide +kernel
theorem dX5_sort_26 : decode cX5_sort 26 = .ok (.iload 4, 2) := by decide +kernel
theorem dX5_sort_28 : decode cX5_sort 28 = .ok (.iconst 1, 1) := by decide +kernel
theorem dX5_sort_29 : decode cX5_sort 29 = .ok (.isub, 1) := by decide +kernel
theorem dX5_sort_30 : decode cX5_sort 30 = .ok (.iaload, 1) := by decide +kernel
theorem dX5_sort_31 : decode cX5_sort 31 = .ok (.iload_n 3, 1) := by decide +kernel
theorem dX5_sort_32 : decode cX5_sort 32 = .ok (.if_icmp .le 25, 3) := by decide +kernel
theorem dX5_sort_35 : decode cX5_sort 35 = .ok (.aload_n 0, 1) := by decide +kernel
theorem dX5_sort_36 : decode cX5_sort 36 = .ok (.getfield 15, 3) := by decide +kernel
theorem dX5_sort_39 : decode cX5_sort 39 = .ok (.iload 4, 2) := by decide +kernel
theorem dX5_sort_41 : decode cX5_sort 41 = .ok (.aload_n 0, 1) := by decide +kernel
theorem dX5_sort_42 : decode cX5_sort 42 = .ok (.getfield 15, 3) := by decide +kernel
theorem dX5_sort_45 : decode cX5_sort 45 = .ok (.iload 4, 2) := by decide +kernel
theorem dX5_sort_47 : decode cX5_sort 47 = .ok (.iconst 1, 1) := by decide +kernel
theorem dX5_sort_48 : decode cX5_sort 48 = .ok (.isub, 1) := by decide +kernel
theorem dX5_sort_49 : decode cX5_sort 49 = .ok (.iaload, 1) := by decide +kernel
theorem dX5_sort_50 : decode cX5_sort 50 = .ok (.iastore, 1) := by decide +kernel
theorem dX5_sort_51 : decode cX5_sort 51 = .ok (.iinc 4 (-1), 3) := by decide +kernel
theorem dX5_sort_54 : decode cX5_sort 54 = .ok (.goto (-37), 3) := by decide +kernel
theorem dX5_sort_57 : decode cX5_sort 57 = .ok (.aload_n 0, 1) := by decide +kernel
theorem dX5_sort_58 : decode cX5_sort 58 = .ok (.getfield 15, 3) := by decide +kernel
theorem dX5_sort_61 : decode cX5_sort 61 = .ok (.iload 4, 2) := by decide +kernel
theorem dX5_sort_63 : decode cX5_sort 63 = .ok (.iload_n 3, 1) := by decide +kernel
theorem dX5_sort_64 : decode cX5_sort 64 = .ok (.iastore, 1) := by decide +kernel
theorem dX5_sort_65 : decode cX5_sort 65 = .ok (.iinc 2 1, 3) := by decide +kernel
theorem dX5_sort_68 : decode cX5_sort 68 = .ok (.goto (-66), 3) := by decide +kernel
theorem dX5_sort_71 : decode cX5_sort 71 = .ok (.return_, 1) := by decide +kernel
theorem dX7_init_0 : decode cX7_init 0 = .ok (.aload_n 0, 1) := by decide +kernel
theorem dX7_init_1 : decode cX7_init 1 = .ok (.invokespecial 3, 3) := by decide +kernel
theorem dX7_init_4 : decode cX7_init 4 = .ok (.aload_n 0, 1) := by decide +kernel
theorem dX7_init_5 : decode cX7_init 5 = .ok (.aload_n 1, 1) := by decide +kernel
theorem dX7_init_6 : decode cX7_init 6 = .ok (.putfield 9, 3) := by decide +kernel
theorem dX7_init_9 : decode cX7_init 9 = .ok (.aload_n 0, 1) := by decide +kernel
theorem dX7_init_10 : decode cX7_init 10 = .ok (.bipush 7, 2) := by decide +kernel
theorem dX7_init_12 : decode cX7_init 12 = .ok (.newarray .int, 2) := by decide +kernel
theorem dX7_init_14 : decode cX7_init 14 = .ok (.putfield 15, 3) := by decide +kernel
theorem dX7_init_17 : decode cX7_init 17 = .ok (.return_, 1) := by decide +kernel
theorem dX7_isCreeping_0 : decode cX7_isCreeping 0 = .ok (.iconst 0, 1) := by decide +kernel
theorem dX7_isCreeping_1 : decode cX7_isCreeping 1 = .ok (.istore_n 3, 1) := by decide +kernel
theorem dX7_isCreeping_2 : decode cX7_isCreeping 2 = .ok (.iload_n 3, 1) := by decide +kernel
theorem dX7_isCreeping_3 : decode cX7_isCreeping 3 = .ok (.bipush 7, 2) := by decide +kernel
theorem dX7_isCreeping_5 : decode cX7_isCreeping 5 = .ok (.if_icmp .ge 26, 3) := by decide +kernel
theorem dX7_isCreeping_8 : decode cX7_isCreeping 8 = .ok (.aload_n 0, 1) := by decide +kernel
theorem dX7_isCreeping_9 : decode cX7_isCreeping 9 = .ok (.getfield 15, 3) := by decide +kernel
theorem dX7_isCreeping_12 : decode cX7_isCreeping 12 = .ok (.iload_n 3, 1) := by decide +kernel
theorem dX7_isCreeping_13 : decode cX7_isCreeping 13 = .ok (.aload_n 0, 1) := by decide +kernel
theorem dX7_isCreeping_14 : decode cX7_isCreeping 14 = .ok (.getfield 9, 3) := by decide +kernel
theorem dX7_isCreeping_17 : decode cX7_isCreeping 17 = .ok (.iload_n 1, 1) := by decide +kernel
theorem dX7_isCreeping_18 : decode cX7_isCreeping 18 = .ok (.iload_n 2, 1) := by decide +kernel
theorem dX7_isCreeping_19 : decode cX7_isCreeping 19 = .ok (.iload_n 3, 1) := by decide +kernel
theorem dX7_isCreeping_20 : decode cX7_isCreeping 20 = .ok (.iadd, 1) := by decide +kernel
theorem dX7_isCreeping_21 : decode cX7_isCreeping 21 = .ok (.invokevirtual 19, 3) := by decide +kernel
theorem dX7_isCreeping_24 : decode cX7_isCreeping 24 = .ok (.iastore, 1) := by decide +kernel
theorem dX7_isCreeping_25 : decode cX7_isCreeping 25 = .ok (.iinc 3 1, 3) := by decide +kernel
theorem dX7_isCreeping_28 : decode cX7_isCreeping 28 = .ok (.goto (-26), 3) := by decide +kernel
theorem dX7_isCreeping_31 : decode cX7_isCreeping 31 = .ok (.aload_n 0, 1) := by decide +kernel
theorem dX7_isCreeping_32 : decode cX7_isCreeping 32 = .ok (.invokevirtual 25, 3) := by decide +kernel
theorem dX7_isCreeping_35 : decode cX7_isCreeping 35 = .ok (.bipush 15, 2) := by decide +kernel
theorem dX7_isCreeping_37 : decode cX7_isCreeping 37 = .ok (.if_icmp .lt 29, 3) := by decide +kernel
theorem dX7_isCreeping_40 : decode cX7_isCreeping 40 = .ok (.bipush 10, 2) := by decide +kernel
theorem dX7_isCreeping_42 : decode cX7_isCreeping 42 = .ok (.aload_n 0, 1) := by decide +kernel
theorem dX7_isCreeping_43 : decode cX7_isCreeping 43 = .ok (.getfield 15, 3) := by decide +kernel
theorem dX7_isCreeping_46 : decode cX7_isCreeping 46 = .ok (.bipush 6, 2) := by decide +kernel
theorem dX7_isCreeping_48 : decode cX7_isCreeping 48 = .ok (.iaload, 1) := by decide +kernel
theorem dX7_isCreeping_49 : decode cX7_isCreeping 49 = .ok (.imul, 1) := by decide +kernel
theorem dX7_isCreeping_50 : decode cX7_isCreeping 50 = .ok (.bipush 11, 2) := by decide +kernel
theorem dX7_isCreeping_52 : decode cX7_isCreeping 52 = .ok (.aload_n 0, 1) := by decide +kernel
theorem dX7_isCreeping_53 : decode cX7_isCreeping 53 = .ok (.getfield 15, 3) := by decide +kernel
theorem dX7_isCreeping_56 : decode cX7_isCreeping 56 = .ok (.iconst 0, 1) := by decide +kernel
theorem dX7_isCreeping_57 : decode cX7_isCreeping 57 = .ok (.iaload, 1) := by decide +kernel
theorem dX7_isCreeping_58 : decode cX7_isCreeping 58 = .ok (.imul, 1) := by decide +kernel
theorem dX7_isCreeping_59 : decode cX7_isCreeping 59 = .ok (.if_icmp .le 7, 3) := by decide +kernel
theorem dX7_isCreeping_62 : decode cX7_isCreeping 62 = .ok (.iconst 1, 1) := by decide +kernel
theorem dX7_isCreeping_63 : decode cX7_isCreeping 63 = .ok (.goto 4, 3) := by decide +kernel
theorem dX7_isCreeping_66 : decode cX7_isCreeping 66 = .ok (.iconst 0, 1) := by decide +kernel
theorem dX7_isCreeping_67 : decode cX7_isCreeping 67 = .ok (.ireturn, 1) := by decide +kernel
theorem dX7_rise_0 : decode cX7_rise 0 = .ok (.iconst 0, 1) := by decide +kernel
theorem dX7_rise_1 : decode cX7_rise 1 = .ok (.istore_n 1, 1) := by decide +kernel
theorem dX7_rise_2 : decode cX7_rise 2 = .ok (.iconst 1, 1) := by decide +kernel
theorem dX7_rise_3 : decode cX7_rise 3 = .ok (.istore_n 2, 1) := by decide +kernel
theorem dX7_rise_4 : decode cX7_rise 4 = .ok (.iload_n 2, 1) := by decide +kernel
theorem dX7_rise_5 : decode cX7_rise 5 = .ok (.bipush 7, 2) := by decide +kernel
theorem dX7_rise_7 : decode cX7_rise 7 = .ok (.if_icmp .ge 40, 3) := by decide +kernel
theorem dX7_rise_10 : decode cX7_rise 10 = .ok (.iconst 0, 1) := by decide +kernel
theorem dX7_rise_11 : decode cX7_rise 11 = .ok (.istore_n 3, 1) := by decide +kernel
theorem dX7_rise_12 : decode cX7_rise 12 = .ok (.iload_n 3, 1) := by decide +kernel
theorem dX7_rise_13 : decode cX7_rise 13 = .ok (.iload_n 2, 1) := by decide +kernel
theorem dX7_rise_14 : decode cX7_rise 14 = .ok (.if_icmp .ge 27, 3) := by decide +kernel
theorem dX7_rise_17 : decode cX7_rise 17 = .ok (.iload_n 1, 1) := by decide +kernel
theorem dX7_rise_18 : decode cX7_rise 18 = .ok (.aload_n 0, 1) := by decide +kernel
theorem dX7_rise_19 : decode cX7_rise 19 = .ok (.getfield 15, 3) := by decide +kernel
theorem dX7_rise_22 : decode cX7_rise 22 = .ok (.iload_n 2, 1) := by decide +kernel
theorem dX7_rise_23 : decode cX7_rise 23 = .ok (.iaload, 1) := by decide +kernel
theorem dX7_rise_24 : decode cX7_rise 24 = .ok (.aload_n 0, 1) := by decide +kernel
theorem dX7_rise_25 : decode cX7_rise 25 = .ok (.getfield 15, 3) := by decide +kernel
theorem dX7_rise_28 : decode cX7_rise 28 = .ok (.iload_n 3, 1) := by decide +kernel
theorem dX7_rise_29 : decode cX7_rise 29 = .ok (.iaload, 1) := by decide +kernel
theorem dX7_rise_30 : decode cX7_rise 30 = .ok (.invokestatic 29, 3) := by decide +kernel
theorem dX7_rise_33 : decode cX7_rise 33 = .ok (.iadd, 1) := by decide +kernel
theorem dX7_rise_34 : decode cX7_rise 34 = .ok (.istore_n 1, 1) := by decide +kernel
theorem dX7_rise_35 : decode cX7_rise 35 = .ok (.iinc 3 1, 3) := by decide +kernel
theorem dX7_rise_38 : decode cX7_rise 38 = .ok (.goto (-26), 3) := by decide +kernel
theorem dX7_rise_41 : decode cX7_rise 41 = .ok (.iinc 2 1, 3) := by decide +kernel
theorem dX7_rise_44 : decode cX7_rise 44 = .ok (.goto (-40), 3) := by decide +kernel
theorem dX7_rise_47 : decode cX7_rise 47 = .ok (.iload_n 1, 1) := by decide +kernel
theorem dX7_rise_48 : decode cX7_rise 48 = .ok (.ireturn, 1) := by decide +kernel
theorem dX0_init_0 : decode cX0_init 0 = .ok (.aload_n 0, 1) := by decide +kernel
theorem dX0_init_1 : decode cX0_init 1 = .ok (.invokespecial 3, 3) := by decide +kernel
theorem dX0_init_4 : decode cX0_init 4 = .ok (.aload_n 0, 1) := by decide +kernel
theorem dX0_init_5 : decode cX0_init 5 = .ok (.aload_n 1, 1) := by decide +kernel
theorem dX0_init_6 : decode cX0_init 6 = .ok (.putfield 9, 3) := by decide +kernel
theorem dX0_init_9 : decode cX0_init 9 = .ok (.aload_n 0, 1) := by decide +kernel
theorem dX0_init_10 : decode cX0_init 10 = .ok (.aload_n 2, 1) := by decide +kernel
theorem dX0_init_11 : decode cX0_init 11 = .ok (.putfield 15, 3) := by decide +kernel
theorem dX0_init_14 : decode cX0_init 14 = .ok (.return_, 1) := by decide +kernel
theorem dX0_at_0 : decode cX0_at 0 = .ok (.iconst 0, 1) := by decide +kernel
theorem dX0_at_1 : decode cX0_at 1 = .ok (.istore_n 3, 1) := by decide +kernel
theorem dX0_at_2 : decode cX0_at 2 = .ok (.iconst 0, 1) := by decide +kernel
theorem dX0_at_3 : decode cX0_at 3 = .ok (.istore 4, 2) := by decide +kernel
theorem dX0_at_5 : decode cX0_at 5 = .ok (.iload 4, 2) := by decide +kernel
theorem dX0_at_7 : decode cX0_at 7 = .ok (.bipush 6, 2) := by decide +kernel
theorem dX0_at_9 : decode cX0_at 9 = .ok (.if_icmp .ge 32, 3) := by decide +kernel
theorem dX0_at_12 : decode cX0_at 12 = .ok (.iload_n 3, 1) := by decide +kernel
theorem dX0_at_13 : decode cX0_at 13 = .ok (.aload_n 0, 1) := by decide +kernel
theorem dX0_at_14 : decode cX0_at 14 = .ok (.getfield 15, 3) := by decide +kernel
theorem dX0_at_17 : decode cX0_at 17 = .ok (.iload 4, 2) := by decide +kernel
theorem dX0_at_19 : decode cX0_at 19 = .ok (.iload_n 1, 1) := by decide +kernel
theorem dX0_at_20 : decode cX0_at 20 = .ok (.aload_n 0, 1) := by decide +kernel
theorem dX0_at_21 : decode cX0_at 21 = .ok (.getfield 9, 3) := by decide +kernel
theorem dX0_at_24 : decode cX0_at 24 = .ok (.iload 4, 2) := by decide +kernel
theorem dX0_at_26 : decode cX0_at 26 = .ok (.iload_n 2, 1) := by decide +kernel
theorem dX0_at_27 : decode cX0_at 27 = .ok (.invokevirtual 19, 3) := by decide +kernel
theorem dX0_at_30 : decode cX0_at 30 = .ok (.invokevirtual 25, 3) := by decide +kernel
theorem dX0_at_33 : decode cX0_at 33 = .ok (.iadd, 1) := by decide +kernel
theorem dX0_at_34 : decode cX0_at 34 = .ok (.istore_n 3, 1) := by decide +kernel
theorem dX0_at_35 : decode cX0_at 35 = .ok (.iinc 4 1, 3) := by decide +kernel
theorem dX0_at_38 : decode cX0_at 38 = .ok (.goto (-33), 3) := by decide +kernel
theorem dX0_at_41 : decode cX0_at 41 = .ok (.iload_n 3, 1) := by decide +kernel
theorem dX0_at_42 : decode cX0_at 42 = .ok (.ireturn, 1) := by decide +kernel
theorem dX0_over_0 : decode cX0_over 0 = .ok (.iconst 0, 1) := by decide +kernel
theorem dX0_over_1 : decode cX0_over 1 = .ok (.istore 4, 2) := by decide +kernel
theorem dX0_over_3 : decode cX0_over 3 = .ok (.iload_n 2, 1) := by decide +kernel
theorem dX0_over_4 : decode cX0_over 4 = .ok (.istore 5, 2) := by decide +kernel
theorem dX0_over_6 : decode cX0_over 6 = .ok (.iload 5, 2) := by decide +kernel
theorem dX0_over_8 : decode cX0_over 8 = .ok (.iload_n 3, 1) := by decide +kernel
theorem dX0_over_9 : decode cX0_over 9 = .ok (.if_icmp .ge 21, 3) := by decide +kernel
theorem dX0_over_12 : decode cX0_over 12 = .ok (.iload 4, 2) := by decide +kernel
theorem dX0_over_14 : decode cX0_over 14 = .ok (.aload_n 0, 1) := by decide +kernel
theorem dX0_over_15 : decode cX0_over 15 = .ok (.iload_n 1, 1) := by decide +kernel
theorem dX0_over_16 : decode cX0_over 16 = .ok (.iload 5, 2) := by decide +kernel
theorem dX0_over_18 : decode cX0_over 18 = .ok (.invokevirtual 31, 3) := by decide +kernel
theorem dX0_over_21 : decode cX0_over 21 = .ok (.iadd, 1) := by decide +kernel
theorem dX0_over_22 : decode cX0_over 22 = .ok (.istore 4, 2) := by decide +kernel
theorem dX0_over_24 : decode cX0_over 24 = .ok (.iinc 5 1, 3) := by decide +kernel
theorem dX0_over_27 : decode cX0_over 27 = .ok (.goto (-21), 3) := by decide +kernel
theorem dX0_over_30 : decode cX0_over 30 = .ok (.iload 4, 2) := by decide +kernel
theorem dX0_over_32 : decode cX0_over 32 = .ok (.ireturn, 1) := by decide +kernel
theorem dX0_forecastLow_0 : decode cX0_forecastLow 0 = .ok (.iconst 0, 1) := by decide +kernel
theorem dX0_forecastLow_1 : decode cX0_forecastLow 1 = .ok (.istore_n 2, 1) := by decide +kernel
theorem dX0_forecastLow_2 : decode cX0_forecastLow 2 = .ok (.iconst 0, 1) := by decide +kernel
theorem dX0_forecastLow_3 : decode cX0_forecastLow 3 = .ok (.istore_n 3, 1) := by decide +kernel
theorem dX0_forecastLow_4 : decode cX0_forecastLow 4 = .ok (.iload_n 3, 1) := by decide +kernel
theorem dX0_forecastLow_5 : decode cX0_forecastLow 5 = .ok (.bipush 6, 2) := by decide +kernel
theorem dX0_forecastLow_7 : decode cX0_forecastLow 7 = .ok (.if_icmp .ge 29, 3) := by decide +kernel
theorem dX0_forecastLow_10 : decode cX0_forecastLow 10 = .ok (.iload_n 2, 1) := by decide +kernel
theorem dX0_forecastLow_11 : decode cX0_forecastLow 11 = .ok (.aload_n 0, 1) := by decide +kernel
theorem dX0_forecastLow_12 : decode cX0_forecastLow 12 = .ok (.getfield 15, 3) := by decide +kernel
theorem dX0_forecastLow_15 : decode cX0_forecastLow 15 = .ok (.iload_n 3, 1) := by decide +kernel
theorem dX0_forecastLow_16 : decode cX0_forecastLow 16 = .ok (.iload_n 1, 1) := by decide +kernel
theorem dX0_forecastLow_17 : decode cX0_forecastLow 17 = .ok (.aload_n 0, 1) := by decide +kernel
theorem dX0_forecastLow_18 : decode cX0_forecastLow 18 = .ok (.getfield 9, 3) := by decide +kernel
theorem dX0_forecastLow_21 : decode cX0_forecastLow 21 = .ok (.iload_n 3, 1) := by decide +kernel
theorem dX0_forecastLow_22 : decode cX0_forecastLow 22 = .ok (.invokevirtual 34, 3) := by decide +kernel
theorem dX0_forecastLow_25 : decode cX0_forecastLow 25 = .ok (.invokevirtual 25, 3) := by decide +kernel
theorem dX0_forecastLow_28 : decode cX0_forecastLow 28 = .ok (.iadd, 1) := by decide +kernel
theorem dX0_forecastLow_29 : decode cX0_forecastLow 29 = .ok (.istore_n 2, 1) := by decide +kernel
theorem dX0_forecastLow_30 : decode cX0_forecastLow 30 = .ok (.iinc 3 1, 3) := by decide +kernel
theorem dX0_forecastLow_33 : decode cX0_forecastLow 33 = .ok (.goto (-29), 3) := by decide +kernel
theorem dX0_forecastLow_36 : decode cX0_forecastLow 36 = .ok (.iload_n 2, 1) := by decide +kernel
theorem dX0_forecastLow_37 : decode cX0_forecastLow 37 = .ok (.ireturn, 1) := by decide +kernel
theorem dX0_forecastHigh_0 : decode cX0_forecastHigh 0 = .ok (.iconst 0, 1) := by decide +kernel
theorem dX0_forecastHigh_1 : decode cX0_forecastHigh 1 = .ok (.istore_n 2, 1) := by decide +kernel
theorem dX0_forecastHigh_2 : decode cX0_forecastHigh 2 = .ok (.iconst 0, 1) := by decide +kernel
theorem dX0_forecastHigh_3 : decode cX0_forecastHigh 3 = .ok (.istore_n 3, 1) := by decide +kernel
theorem dX0_forecastHigh_4 : decode cX0_forecastHigh 4 = .ok (.iload_n 3, 1) := by decide +kernel
theorem dX0_forecastHigh_5 : decode cX0_forecastHigh 5 = .ok (.bipush 6, 2) := by decide +kernel
theorem dX0_forecastHigh_7 : decode cX0_forecastHigh 7 = .ok (.if_icmp .ge 29, 3) := by decide +kernel
theorem dX0_forecastHigh_10 : decode cX0_forecastHigh 10 = .ok (.iload_n 2, 1) := by decide +kernel
theorem dX0_forecastHigh_11 : decode cX0_forecastHigh 11 = .ok (.aload_n 0, 1) := by decide +kernel
theorem dX0_forecastHigh_12 : decode cX0_forecastHigh 12 = .ok (.getfield 15, 3) := by decide +kernel
theorem dX0_forecastHigh_15 : decode cX0_forecastHigh 15 = .ok (.iload_n 3, 1) := by decide +kernel
theorem dX0_forecastHigh_16 : decode cX0_forecastHigh 16 = .ok (.iload_n 1, 1) := by decide +kernel
theorem dX0_forecastHigh_17 : decode cX0_forecastHigh 17 = .ok (.aload_n 0, 1) := by decide +kernel
theorem dX0_forecastHigh_18 : decode cX0_forecastHigh 18 = .ok (.getfield 9, 3) := by decide +kernel
theorem dX0_forecastHigh_21 : decode cX0_forecastHigh 21 = .ok (.iload_n 3, 1) := by decide +kernel
theorem dX0_forecastHigh_22 : decode cX0_forecastHigh 22 = .ok (.invokevirtual 38, 3) := by decide +kernel
theorem dX0_forecastHigh_25 : decode cX0_forecastHigh 25 = .ok (.invokevirtual 25, 3) := by decide +kernel
theorem dX0_forecastHigh_28 : decode cX0_forecastHigh 28 = .ok (.iadd, 1) := by decide +kernel
theorem dX0_forecastHigh_29 : decode cX0_forecastHigh 29 = .ok (.istore_n 2, 1) := by decide +kernel
theorem dX0_forecastHigh_30 : decode cX0_forecastHigh 30 = .ok (.iinc 3 1, 3) := by decide +kernel
theorem dX0_forecastHigh_33 : decode cX0_forecastHigh 33 = .ok (.goto (-29), 3) := by decide +kernel
theorem dX0_forecastHigh_36 : decode cX0_forecastHigh 36 = .ok (.iload_n 2, 1) := by decide +kernel
theorem dX0_forecastHigh_37 : decode cX0_forecastHigh 37 = .ok (.ireturn, 1) := by decide +kernel
theorem dX1_init_0 : decode cX1_init 0 = .ok (.aload_n 0, 1) := by decide +kernel
theorem dX1_init_1 : decode cX1_init 1 = .ok (.invokespecial 3, 3) := by decide +kernel
theorem dX1_init_4 : decode cX1_init 4 = .ok (.aload_n 0, 1) := by decide +kernel
theorem dX1_init_5 : decode cX1_init 5 = .ok (.aload_n 1, 1) := by decide +kernel
theorem dX1_init_6 : decode cX1_init 6 = .ok (.putfield 9, 3) := by decide +kernel
theorem dX1_init_9 : decode cX1_init 9 = .ok (.aload_n 0, 1) := by decide +kernel
theorem dX1_init_10 : decode cX1_init 10 = .ok (.aload_n 2, 1) := by decide +kernel
theorem dX1_init_11 : decode cX1_init 11 = .ok (.putfield 15, 3) := by decide +kernel
theorem dX1_init_14 : decode cX1_init 14 = .ok (.aload_n 0, 1) := by decide +kernel
theorem dX1_init_15 : decode cX1_init 15 = .ok (.iconst 4, 1) := by decide +kernel
theorem dX1_init_16 : decode cX1_init 16 = .ok (.newarray .int, 2) := by decide +kernel
theorem dX1_init_18 : decode cX1_init 18 = .ok (.putfield 19, 3) := by decide +kernel
theorem dX1_init_21 : decode cX1_init 21 = .ok (.aload_n 0, 1) := by decide +kernel
theorem dX1_init_22 : decode cX1_init 22 = .ok (.iconst 4, 1) := by decide +kernel
theorem dX1_init_23 : decode cX1_init 23 = .ok (.newarray .int, 2) := by decide +kernel
theorem dX1_init_25 : decode cX1_init 25 = .ok (.putfield 23, 3) := by decide +kernel
theorem dX1_init_28 : decode cX1_init 28 = .ok (.aload_n 0, 1) := by decide +kernel
theorem dX1_init_29 : decode cX1_init 29 = .ok (.iconst 4, 1) := by decide +kernel
theorem dX1_init_30 : decode cX1_init 30 = .ok (.newarray .int, 2) := by decide +kernel
theorem dX1_init_32 : decode cX1_init 32 = .ok (.putfield 26, 3) := by decide +kernel
theorem dX1_init_35 : decode cX1_init 35 = .ok (.return_, 1) := by decide +kernel
theorem dX1_set_0 : decode cX1_set 0 = .ok (.aload_n 0, 1) := by decide +kernel
theorem dX1_set_1 : decode cX1_set 1 = .ok (.getfield 19, 3) := by decide +kernel
theorem dX1_set_4 : decode cX1_set 4 = .ok (.iload_n 1, 1) := by decide +kernel
theorem dX1_set_5 : decode cX1_set 5 = .ok (.iload_n 2, 1) := by decide +kernel
theorem dX1_set_6 : decode cX1_set 6 = .ok (.iastore, 1) := by decide +kernel
theorem dX1_set_7 : decode cX1_set 7 = .ok (.aload_n 0, 1) := by decide +kernel
theorem dX1_set_8 : decode cX1_set 8 = .ok (.getfield 23, 3) := by decide +kernel
theorem dX1_set_11 : decode cX1_set 11 = .ok (.iload_n 1, 1) := by decide +kernel
theorem dX1_set_12 : decode cX1_set 12 = .ok (.iload_n 3, 1) := by decide +kernel
theorem dX1_set_13 : decode cX1_set 13 = .ok (.iastore, 1) := by decide +kernel
theorem dX1_set_14 : decode cX1_set 14 = .ok (.aload_n 0, 1) := by decide +kernel
theorem dX1_set_15 : decode cX1_set 15 = .ok (.getfield 26, 3) := by decide +kernel
theorem dX1_set_18 : decode cX1_set 18 = .ok (.iload_n 1, 1) := by decide +kernel
theorem dX1_set_19 : decode cX1_set 19 = .ok (.iload 4, 2) := by decide +kernel
theorem dX1_set_21 : decode cX1_set 21 = .ok (.iastore, 1) := by decide +kernel
theorem dX1_set_22 : decode cX1_set 22 = .ok (.return_, 1) := by decide +kernel
theorem dX1_sumOf_0 : decode cX1_sumOf 0 = .ok (.aload_n 0, 1) := by decide +kernel
theorem dX1_sumOf_1 : decode cX1_sumOf 1 = .ok (.getfield 19, 3) := by decide +kernel
theorem dX1_sumOf_4 : decode cX1_sumOf 4 = .ok (.iload_n 1, 1) := by decide +kernel
theorem dX1_sumOf_5 : decode cX1_sumOf 5 = .ok (.iaload, 1) := by decide +kernel
theorem dX1_sumOf_6 : decode cX1_sumOf 6 = .ok (.ireturn, 1) := by decide +kernel
theorem dX1_spent_0 : decode cX1_spent 0 = .ok (.aload_n 0, 1) := by decide +kernel
theorem dX1_spent_1 : decode cX1_spent 1 = .ok (.getfield 15, 3) := by decide +kernel
theorem dX1_spent_4 : decode cX1_spent 4 = .ok (.iload_n 1, 1) := by decide +kernel
theorem dX1_spent_5 : decode cX1_spent 5 = .ok (.aload_n 0, 1) := by decide +kernel
theorem dX1_spent_6 : decode cX1_spent 6 = .ok (.getfield 23, 3) := by decide +kernel
theorem dX1_spent_9 : decode cX1_spent 9 = .ok (.iload_n 1, 1) := by decide +kernel
theorem dX1_spent_10 : decode cX1_spent 10 = .ok (.iaload, 1) := by decide +kernel
theorem dX1_spent_11 : decode cX1_spent 11 = .ok (.aload_n 0, 1) := by decide +kernel
theorem dX1_spent_12 : decode cX1_spent 12 = .ok (.getfield 26, 3) := by decide +kernel
theorem dX1_spent_15 : decode cX1_spent 15 = .ok (.iload_n 1, 1) := by decide +kernel
theorem dX1_spent_16 : decode cX1_spent 16 = .ok (.iaload, 1) := by decide +kernel
theorem dX1_spent_17 : decode cX1_spent 17 = .ok (.aload_n 0, 1) := by decide +kernel
theorem dX1_spent_18 : decode cX1_spent 18 = .ok (.getfield 9, 3) := by decide +kernel
theorem dX1_spent_21 : decode cX1_spent 21 = .ok (.invokevirtual 29, 3) := by decide +kernel
theorem dX1_spent_24 : decode cX1_spent 24 = .ok (.iconst 1, 1) := by decide +kernel
theorem dX1_spent_25 : decode cX1_spent 25 = .ok (.iadd, 1) := by decide +kernel
theorem dX1_spent_26 : decode cX1_spent 26 = .ok (.invokestatic 35, 3) := by decide +kernel
theorem dX1_spent_29 : decode cX1_spent 29 = .ok (.invokevirtual 41, 3) := by decide +kernel
theorem dX1_spent_32 : decode cX1_spent 32 = .ok (.ireturn, 1) := by decide +kernel
theorem dX1_spentUpAt_0 : decode cX1_spentUpAt 0 = .ok (.iconst 0, 1) := by decide +kernel
theorem dX1_spentUpAt_1 : decode cX1_spentUpAt 1 = .ok (.istore_n 3, 1) := by decide +kernel
theorem dX1_spentUpAt_2 : decode cX1_spentUpAt 2 = .ok (.aload_n 0, 1) := by decide +kernel
theorem dX1_spentUpAt_3 : decode cX1_spentUpAt 3 = .ok (.getfield 23, 3) := by decide +kernel
theorem dX1_spentUpAt_6 : decode cX1_spentUpAt 6 = .ok (.iload_n 1, 1) := by decide +kernel
theorem dX1_spentUpAt_7 : decode cX1_spentUpAt 7 = .ok (.iaload, 1) := by decide +kernel
theorem dX1_spentUpAt_8 : decode cX1_spentUpAt 8 = .ok (.istore 4, 2) := by decide +kernel
theorem dX1_spentUpAt_10 : decode cX1_spentUpAt 10 = .ok (.iload 4, 2) := by decide +kernel
theorem dX1_spentUpAt_12 : decode cX1_spentUpAt 12 = .ok (.aload_n 0, 1) := by decide +kernel
theorem dX1_spentUpAt_13 : decode cX1_spentUpAt 13 = .ok (.getfield 26, 3) := by decide +kernel
theorem dX1_spentUpAt_16 : decode cX1_spentUpAt 16 = .ok (.iload_n 1, 1) := by decide +kernel
theorem dX1_spentUpAt_17 : decode cX1_spentUpAt 17 = .ok (.iaload, 1) := by decide +kernel
theorem dX1_spentUpAt_18 : decode cX1_spentUpAt 18 = .ok (.if_icmp .ge 51, 3) := by decide +kernel
theorem dX1_spentUpAt_21 : decode cX1_spentUpAt 21 = .ok (.iload_n 3, 1) := by decide +kernel
theorem dX1_spentUpAt_22 : decode cX1_spentUpAt 22 = .ok (.iload 4, 2) := by decide +kernel
theorem dX1_spentUpAt_24 : decode cX1_spentUpAt 24 = .ok (.aload_n 0, 1) := by decide +kernel
theorem dX1_spentUpAt_25 : decode cX1_spentUpAt 25 = .ok (.getfield 9, 3) := by decide +kernel
theorem dX1_spentUpAt_28 : decode cX1_spentUpAt 28 = .ok (.invokevirtual 29, 3) := by decide +kernel
theorem dX1_spentUpAt_31 : decode cX1_spentUpAt 31 = .ok (.if_icmp .gt 16, 3) := by decide +kernel
theorem dX1_spentUpAt_34 : decode cX1_spentUpAt 34 = .ok (.aload_n 0, 1) := by decide +kernel
theorem dX1_spentUpAt_35 : decode cX1_spentUpAt 35 = .ok (.getfield 15, 3) := by decide +kernel
theorem dX1_spentUpAt_38 : decode cX1_spentUpAt 38 = .ok (.iload_n 1, 1) := by decide +kernel
theorem dX1_spentUpAt_39 : decode cX1_spentUpAt 39 = .ok (.iload 4, 2) := by decide +kernel
theorem dX1_spentUpAt_41 : decode cX1_spentUpAt 41 = .ok (.invokevirtual 47, 3) := by decide +kernel
theorem dX1_spentUpAt_44 : decode cX1_spentUpAt 44 = .ok (.goto 4, 3) := by decide +kernel
theorem dX1_spentUpAt_47 : decode cX1_spentUpAt 47 = .ok (.iload_n 2, 1) := by decide +kernel
theorem dX1_spentUpAt_48 : decode cX1_spentUpAt 48 = .ok (.iadd, 1) := by decide +kernel
theorem dX1_spentUpAt_49 : decode cX1_spentUpAt 49 = .ok (.istore_n 3, 1) := by decide +kernel
theorem dX1_spentUpAt_50 : decode cX1_spentUpAt 50 = .ok (.iload_n 3, 1) := by decide +kernel
theorem dX1_spentUpAt_51 : decode cX1_spentUpAt 51 = .ok (.aload_n 0, 1) := by decide +kernel
theorem dX1_spentUpAt_52 : decode cX1_spentUpAt 52 = .ok (.getfield 19, 3) := by decide +kernel
theorem dX1_spentUpAt_55 : decode cX1_spentUpAt 55 = .ok (.iload_n 1, 1) := by decide +kernel
theorem dX1_spentUpAt_56 : decode cX1_spentUpAt 56 = .ok (.iaload, 1) := by decide +kernel
theorem dX1_spentUpAt_57 : decode cX1_spentUpAt 57 = .ok (.if_icmp .le 6, 3) := by decide +kernel
theorem dX1_spentUpAt_60 : decode cX1_spentUpAt 60 = .ok (.iload 4, 2) := by decide +kernel
theorem dX1_spentUpAt_62 : decode cX1_spentUpAt 62 = .ok (.ireturn, 1) := by decide +kernel
theorem dX1_spentUpAt_63 : decode cX1_spentUpAt 63 = .ok (.iinc 4 1, 3) := by decide +kernel
theorem dX1_spentUpAt_66 : decode cX1_spentUpAt 66 = .ok (.goto (-56), 3) := by decide +kernel
theorem dX1_spentUpAt_69 : decode cX1_spentUpAt 69 = .ok (.iconst (-1), 1) := by decide +kernel
theorem dX1_spentUpAt_70 : decode cX1_spentUpAt 70 = .ok (.ireturn, 1) := by decide +kernel
theorem dX1_atEnd_0 : decode cX1_atEnd 0 = .ok (.aload_n 0, 1) := by decide +kernel
theorem dX1_atEnd_1 : decode cX1_atEnd 1 = .ok (.getfield 23, 3) := by decide +kernel
theorem dX1_atEnd_4 : decode cX1_atEnd 4 = .ok (.iload_n 1, 1) := by decide +kernel
theorem dX1_atEnd_5 : decode cX1_atEnd 5 = .ok (.iaload, 1) := by decide +kernel
theorem dX1_atEnd_6 : decode cX1_atEnd 6 = .ok (.aload_n 0, 1) := by decide +kernel
theorem dX1_atEnd_7 : decode cX1_atEnd 7 = .ok (.getfield 9, 3) := by decide +kernel
theorem dX1_atEnd_10 : decode cX1_atEnd 10 = .ok (.invokevirtual 29, 3) := by decide +kernel
theorem dX1_atEnd_13 : decode cX1_atEnd 13 = .ok (.iconst 1, 1) := by decide +kernel
theorem dX1_atEnd_14 : decode cX1_atEnd 14 = .ok (.iadd, 1) := by decide +kernel
theorem dX1_atEnd_15 : decode cX1_atEnd 15 = .ok (.invokestatic 50, 3) := by decide +kernel
theorem dX1_atEnd_18 : decode cX1_atEnd 18 = .ok (.istore_n 3, 1) := by decide +kernel
theorem dX1_atEnd_19 : decode cX1_atEnd 19 = .ok (.iconst 0, 1) := by decide +kernel
theorem dX1_atEnd_20 : decode cX1_atEnd 20 = .ok (.aload_n 0, 1) := by decide +kernel
theorem dX1_atEnd_21 : decode cX1_atEnd 21 = .ok (.getfield 26, 3) := by decide +kernel
theorem dX1_atEnd_24 : decode cX1_atEnd 24 = .ok (.iload_n 1, 1) := by decide +kernel
theorem dX1_atEnd_25 : decode cX1_atEnd 25 = .ok (.iaload, 1) := by decide +kernel
theorem dX1_atEnd_26 : decode cX1_atEnd 26 = .ok (.iload_n 3, 1) := by decide +kernel
theorem dX1_atEnd_27 : decode cX1_atEnd 27 = .ok (.isub, 1) := by decide +kernel
theorem dX1_atEnd_28 : decode cX1_atEnd 28 = .ok (.invokestatic 50, 3) := by decide +kernel
theorem dX1_atEnd_31 : decode cX1_atEnd 31 = .ok (.istore 4, 2) := by decide +kernel
theorem dX1_atEnd_33 : decode cX1_atEnd 33 = .ok (.aload_n 0, 1) := by decide +kernel
theorem dX1_atEnd_34 : decode cX1_atEnd 34 = .ok (.iload_n 1, 1) := by decide +kernel
theorem dX1_atEnd_35 : decode cX1_atEnd 35 = .ok (.invokevirtual 53, 3) := by decide +kernel
theorem dX1_atEnd_38 : decode cX1_atEnd 38 = .ok (.iload 4, 2) := by decide +kernel
theorem dX1_atEnd_40 : decode cX1_atEnd 40 = .ok (.iload_n 2, 1) := by decide +kernel
theorem dX1_atEnd_41 : decode cX1_atEnd 41 = .ok (.imul, 1) := by decide +kernel
theorem dX1_atEnd_42 : decode cX1_atEnd 42 = .ok (.iadd, 1) := by decide +kernel
theorem dX1_atEnd_43 : decode cX1_atEnd 43 = .ok (.ireturn, 1) := by decide +kernel
theorem dJ6_compare_7cf53_0 : decode cJ6_compare_7cf53 0 = .ok (.iload_n 0, 1) := by decide +kernel
theorem dJ6_compare_7cf53_1 : decode cJ6_compare_7cf53 1 = .ok (.iload_n 1, 1) := by decide +kernel
theorem dJ6_compare_7cf53_2 : decode cJ6_compare_7cf53 2 = .ok (.if_icmp .ge 7, 3) := by decide +kernel
theorem dJ6_compare_7cf53_5 : decode cJ6_compare_7cf53 5 = .ok (.iconst (-1), 1) := by decide +kernel
theorem dJ6_compare_7cf53_6 : decode cJ6_compare_7cf53 6 = .ok (.goto 13, 3) := by decide +kernel
theorem dJ6_compare_7cf53_9 : decode cJ6_compare_7cf53 9 = .ok (.iload_n 0, 1) := by decide +kernel
theorem dJ6_compare_7cf53_10 : decode cJ6_compare_7cf53 10 = .ok (.iload_n 1, 1) := by decide +kernel
theorem dJ6_compare_7cf53_11 : decode cJ6_compare_7cf53 11 = .ok (.if_icmp .ne 7, 3) := by decide +kernel
theorem dJ6_compare_7cf53_14 : decode cJ6_compare_7cf53 14 = .ok (.iconst 0, 1) := by decide +kernel
theorem dJ6_compare_7cf53_15 : decode cJ6_compare_7cf53 15 = .ok (.goto 4, 3) := by decide +kernel
theorem dJ6_compare_7cf53_18 : decode cJ6_compare_7cf53 18 = .ok (.iconst 1, 1) := by decide +kernel
theorem dJ6_compare_7cf53_19 : decode cJ6_compare_7cf53 19 = .ok (.ireturn, 1) := by decide +kernel
