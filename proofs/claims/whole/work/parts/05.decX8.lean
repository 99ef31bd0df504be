theorem dX8_init_0 : decode cX8_init 0 = .ok (.aload_n 0, 1) := by decide +kernel
theorem dX8_init_1 : decode cX8_init 1 = .ok (.invokespecial 1, 3) := by decide +kernel
theorem dX8_init_4 : decode cX8_init 4 = .ok (.aload_n 0, 1) := by decide +kernel
theorem dX8_init_5 : decode cX8_init 5 = .ok (.new 7, 3) := by decide +kernel
theorem dX8_init_8 : decode cX8_init 8 = .ok (.dup, 1) := by decide +kernel
theorem dX8_init_9 : decode cX8_init 9 = .ok (.invokespecial 9, 3) := by decide +kernel
theorem dX8_init_12 : decode cX8_init 12 = .ok (.putfield 10, 3) := by decide +kernel
theorem dX8_init_15 : decode cX8_init 15 = .ok (.aload_n 0, 1) := by decide +kernel
theorem dX8_init_16 : decode cX8_init 16 = .ok (.new 16, 3) := by decide +kernel
theorem dX8_init_19 : decode cX8_init 19 = .ok (.dup, 1) := by decide +kernel
theorem dX8_init_20 : decode cX8_init 20 = .ok (.invokespecial 18, 3) := by decide +kernel
theorem dX8_init_23 : decode cX8_init 23 = .ok (.putfield 19, 3) := by decide +kernel
theorem dX8_init_26 : decode cX8_init 26 = .ok (.aload_n 0, 1) := by decide +kernel
theorem dX8_init_27 : decode cX8_init 27 = .ok (.new 23, 3) := by decide +kernel
theorem dX8_init_30 : decode cX8_init 30 = .ok (.dup, 1) := by decide +kernel
theorem dX8_init_31 : decode cX8_init 31 = .ok (.aload_n 0, 1) := by decide +kernel
theorem dX8_init_32 : decode cX8_init 32 = .ok (.getfield 10, 3) := by decide +kernel
theorem dX8_init_35 : decode cX8_init 35 = .ok (.invokespecial 25, 3) := by decide +kernel
theorem dX8_init_38 : decode cX8_init 38 = .ok (.putfield 28, 3) := by decide +kernel
theorem dX8_init_41 : decode cX8_init 41 = .ok (.aload_n 0, 1) := by decide +kernel
theorem dX8_init_42 : decode cX8_init 42 = .ok (.new 32, 3) := by decide +kernel
theorem dX8_init_45 : decode cX8_init 45 = .ok (.dup, 1) := by decide +kernel
theorem dX8_init_46 : decode cX8_init 46 = .ok (.aload_n 0, 1) := by decide +kernel
theorem dX8_init_47 : decode cX8_init 47 = .ok (.getfield 10, 3) := by decide +kernel
theorem dX8_init_50 : decode cX8_init 50 = .ok (.invokespecial 34, 3) := by decide +kernel
theorem dX8_init_53 : decode cX8_init 53 = .ok (.putfield 35, 3) := by decide +kernel
theorem dX8_init_56 : decode cX8_init 56 = .ok (.aload_n 0, 1) := by decide +kernel
theorem dX8_init_57 : decode cX8_init 57 = .ok (.new 39, 3) := by decide +kernel
theorem dX8_init_60 : decode cX8_init 60 = .ok (.dup, 1) := by decide +kernel
theorem dX8_init_61 : decode cX8_init 61 = .ok (.invokespecial 41, 3) := by decide +kernel
theorem dX8_init_64 : decode cX8_init 64 = .ok (.putfield 42, 3) := by decide +kernel
theorem dX8_init_67 : decode cX8_init 67 = .ok (.aload_n 0, 1) := by decide +kernel
theorem dX8_init_68 : decode cX8_init 68 = .ok (.new 46, 3) := by decide +kernel
theorem dX8_init_71 : decode cX8_init 71 = .ok (.dup, 1) := by decide +kernel
theorem dX8_init_72 : decode cX8_init 72 = .ok (.invokespecial 48, 3) := by decide +kernel
theorem dX8_init_75 : decode cX8_init 75 = .ok (.putfield 49, 3) := by decide +kernel
theorem dX8_init_78 : decode cX8_init 78 = .ok (.aload_n 0, 1) := by decide +kernel
theorem dX8_init_79 : decode cX8_init 79 = .ok (.new 53, 3) := by decide +kernel
theorem dX8_init_82 : decode cX8_init 82 = .ok (.dup, 1) := by decide +kernel
theorem dX8_init_83 : decode cX8_init 83 = .ok (.aload_n 0, 1) := by decide +kernel
theorem dX8_init_84 : decode cX8_init 84 = .ok (.getfield 10, 3) := by decide +kernel
theorem dX8_init_87 : decode cX8_init 87 = .ok (.aload_n 0, 1) := by decide +kernel
theorem dX8_init_88 : decode cX8_init 88 = .ok (.getfield 49, 3) := by decide +kernel
theorem dX8_init_91 : decode cX8_init 91 = .ok (.invokespecial 55, 3) := by decide +kernel
theorem dX8_init_94 : decode cX8_init 94 = .ok (.putfield 58, 3) := by decide +kernel
theorem dX8_init_97 : decode cX8_init 97 = .ok (.aload_n 0, 1) := by decide +kernel
theorem dX8_init_98 : decode cX8_init 98 = .ok (.new 62, 3) := by decide +kernel
theorem dX8_init_101 : decode cX8_init 101 = .ok (.dup, 1) := by decide +kernel
theorem dX8_init_102 : decode cX8_init 102 = .ok (.aload_n 0, 1) := by decide +kernel
theorem dX8_init_103 : decode cX8_init 103 = .ok (.getfield 10, 3) := by decide +kernel
theorem dX8_init_106 : decode cX8_init 106 = .ok (.aload_n 0, 1) := by decide +kernel
theorem dX8_init_107 : decode cX8_init 107 = .ok (.getfield 58, 3) := by decide +kernel
theorem dX8_init_110 : decode cX8_init 110 = .ok (.invokespecial 64, 3) := by decide +kernel
theorem dX8_init_113 : decode cX8_init 113 = .ok (.putfield 67, 3) := by decide +kernel
theorem dX8_init_116 : decode cX8_init 116 = .ok (.aload_n 0, 1) := by decide +kernel
theorem dX8_init_117 : decode cX8_init 117 = .ok (.bipush 10, 2) := by decide +kernel
theorem dX8_init_119 : decode cX8_init 119 = .ok (.putfield 71, 3) := by decide +kernel
theorem dX8_init_122 : decode cX8_init 122 = .ok (.return_, 1) := by decide +kernel
theorem dX8_owner_0 : decode cX8_owner 0 = .ok (.iload_n 1, 1) := by decide +kernel
theorem dX8_owner_1 : decode cX8_owner 1 = .ok (.invokestatic 75, 3) := by decide +kernel
theorem dX8_owner_4 : decode cX8_owner 4 = .ok (.ifCond .eq 10, 3) := by decide +kernel
theorem dX8_owner_7 : decode cX8_owner 7 = .ok (.iload_n 2, 1) := by decide +kernel
theorem dX8_owner_8 : decode cX8_owner 8 = .ok (.invokestatic 79, 3) := by decide +kernel
theorem dX8_owner_11 : decode cX8_owner 11 = .ok (.ifCond .ne 5, 3) := by decide +kernel
theorem dX8_owner_14 : decode cX8_owner 14 = .ok (.iconst 0, 1) := by decide +kernel
theorem dX8_owner_15 : decode cX8_owner 15 = .ok (.ireturn, 1) := by decide +kernel
theorem dX8_owner_16 : decode cX8_owner 16 = .ok (.aload_n 0, 1) := by decide +kernel
theorem dX8_owner_17 : decode cX8_owner 17 = .ok (.getfield 49, 3) := by decide +kernel
theorem dX8_owner_20 : decode cX8_owner 20 = .ok (.iload_n 1, 1) := by decide +kernel
theorem dX8_owner_21 : decode cX8_owner 21 = .ok (.iload_n 2, 1) := by decide +kernel
theorem dX8_owner_22 : decode cX8_owner 22 = .ok (.invokevirtual 82, 3) := by decide +kernel
theorem dX8_owner_25 : decode cX8_owner 25 = .ok (.iconst 1, 1) := by decide +kernel
theorem dX8_owner_26 : decode cX8_owner 26 = .ok (.ireturn, 1) := by decide +kernel
theorem dX8_share_0 : decode cX8_share 0 = .ok (.iload_n 1, 1) := by decide +kernel
theorem dX8_share_1 : decode cX8_share 1 = .ok (.invokestatic 75, 3) := by decide +kernel
theorem dX8_share_4 : decode cX8_share 4 = .ok (.ifCond .eq 33, 3) := by decide +kernel
theorem dX8_share_7 : decode cX8_share 7 = .ok (.iload_n 2, 1) := by decide +kernel
theorem dX8_share_8 : decode cX8_share 8 = .ok (.invokestatic 86, 3) := by decide +kernel
theorem dX8_share_11 : decode cX8_share 11 = .ok (.ifCond .eq 26, 3) := by decide +kernel
theorem dX8_share_14 : decode cX8_share 14 = .ok (.iload_n 3, 1) := by decide +kernel
theorem dX8_share_15 : decode cX8_share 15 = .ok (.invokestatic 86, 3) := by decide +kernel
theorem dX8_share_18 : decode cX8_share 18 = .ok (.ifCond .eq 19, 3) := by decide +kernel
theorem dX8_share_21 : decode cX8_share 21 = .ok (.iload 4, 2) := by decide +kernel
theorem dX8_share_23 : decode cX8_share 23 = .ok (.invokestatic 86, 3) := by decide +kernel
theorem dX8_share_26 : decode cX8_share 26 = .ok (.ifCond .eq 11, 3) := by decide +kernel
theorem dX8_share_29 : decode cX8_share 29 = .ok (.iload 5, 2) := by decide +kernel
theorem dX8_share_31 : decode cX8_share 31 = .ok (.invokestatic 86, 3) := by decide +kernel
theorem dX8_share_34 : decode cX8_share 34 = .ok (.ifCond .ne 5, 3) := by decide +kernel
theorem dX8_share_37 : decode cX8_share 37 = .ok (.iconst 0, 1) := by decide +kernel
theorem dX8_share_38 : decode cX8_share 38 = .ok (.ireturn, 1) := by decide +kernel
theorem dX8_share_39 : decode cX8_share 39 = .ok (.iload_n 2, 1) := by decide +kernel
theorem dX8_share_40 : decode cX8_share 40 = .ok (.iload_n 3, 1) := by decide +kernel
theorem dX8_share_41 : decode cX8_share 41 = .ok (.iadd, 1) := by decide +kernel
theorem dX8_share_42 : decode cX8_share 42 = .ok (.iload 4, 2) := by decide +kernel
theorem dX8_share_44 : decode cX8_share 44 = .ok (.iadd, 1) := by decide +kernel
theorem dX8_share_45 : decode cX8_share 45 = .ok (.iload 5, 2) := by decide +kernel
theorem dX8_share_47 : decode cX8_share 47 = .ok (.iadd, 1) := by decide +kernel
theorem dX8_share_48 : decode cX8_share 48 = .ok (.ifCond .ne 5, 3) := by decide +kernel
theorem dX8_share_51 : decode cX8_share 51 = .ok (.iconst 0, 1) := by decide +kernel
theorem dX8_share_52 : decode cX8_share 52 = .ok (.ireturn, 1) := by decide +kernel
theorem dX8_share_53 : decode cX8_share 53 = .ok (.aload_n 0, 1) := by decide +kernel
theorem dX8_share_54 : decode cX8_share 54 = .ok (.getfield 49, 3) := by decide +kernel
theorem dX8_share_57 : decode cX8_share 57 = .ok (.iload_n 1, 1) := by decide +kernel
theorem dX8_share_58 : decode cX8_share 58 = .ok (.iload_n 2, 1) := by decide +kernel
theorem dX8_share_59 : decode cX8_share 59 = .ok (.iload_n 3, 1) := by decide +kernel
theorem dX8_share_60 : decode cX8_share 60 = .ok (.iload 4, 2) := by decide +kernel
theorem dX8_share_62 : decode cX8_share 62 = .ok (.iload 5, 2) := by decide +kernel
theorem dX8_share_64 : decode cX8_share 64 = .ok (.invokevirtual 89, 3) := by decide +kernel
theorem dX8_share_67 : decode cX8_share 67 = .ok (.iconst 1, 1) := by decide +kernel
theorem dX8_share_68 : decode cX8_share 68 = .ok (.ireturn, 1) := by decide +kernel
theorem dX8_begin_0 : decode cX8_begin 0 = .ok (.iload_n 1, 1) := by decide +kernel
theorem dX8_begin_1 : decode cX8_begin 1 = .ok (.invokestatic 75, 3) := by decide +kernel
theorem dX8_begin_4 : decode cX8_begin 4 = .ok (.ifCond .eq 25, 3) := by decide +kernel
theorem dX8_begin_7 : decode cX8_begin 7 = .ok (.iload_n 2, 1) := by decide +kernel
theorem dX8_begin_8 : decode cX8_begin 8 = .ok (.iconst 1, 1) := by decide +kernel
theorem dX8_begin_9 : decode cX8_begin 9 = .ok (.if_icmp .lt 20, 3) := by decide +kernel
theorem dX8_begin_12 : decode cX8_begin 12 = .ok (.iload_n 2, 1) := by decide +kernel
theorem dX8_begin_13 : decode cX8_begin 13 = .ok (.sipush 999, 3) := by decide +kernel
theorem dX8_begin_16 : decode cX8_begin 16 = .ok (.if_icmp .gt 13, 3) := by decide +kernel
theorem dX8_begin_19 : decode cX8_begin 19 = .ok (.aload_n 0, 1) := by decide +kernel
theorem dX8_begin_20 : decode cX8_begin 20 = .ok (.getfield 19, 3) := by decide +kernel
theorem dX8_begin_23 : decode cX8_begin 23 = .ok (.invokevirtual 93, 3) := by decide +kernel
theorem dX8_begin_26 : decode cX8_begin 26 = .ok (.ifCond .eq 5, 3) := by decide +kernel
theorem dX8_begin_29 : decode cX8_begin 29 = .ok (.iconst (-1), 1) := by decide +kernel
theorem dX8_begin_30 : decode cX8_begin 30 = .ok (.ireturn, 1) := by decide +kernel
theorem dX8_begin_31 : decode cX8_begin 31 = .ok (.aload_n 0, 1) := by decide +kernel
theorem dX8_begin_32 : decode cX8_begin 32 = .ok (.getfield 10, 3) := by decide +kernel
theorem dX8_begin_35 : decode cX8_begin 35 = .ok (.iload_n 1, 1) := by decide +kernel
theorem dX8_begin_36 : decode cX8_begin 36 = .ok (.iload_n 2, 1) := by decide +kernel
theorem dX8_begin_37 : decode cX8_begin 37 = .ok (.invokevirtual 97, 3) := by decide +kernel
theorem dX8_begin_40 : decode cX8_begin 40 = .ok (.aload_n 0, 1) := by decide +kernel
theorem dX8_begin_41 : decode cX8_begin 41 = .ok (.getfield 19, 3) := by decide +kernel
theorem dX8_begin_44 : decode cX8_begin 44 = .ok (.iload_n 1, 1) := by decide +kernel
theorem dX8_begin_45 : decode cX8_begin 45 = .ok (.iload_n 2, 1) := by decide +kernel
theorem dX8_begin_46 : decode cX8_begin 46 = .ok (.aload_n 0, 1) := by decide +kernel
theorem dX8_begin_47 : decode cX8_begin 47 = .ok (.getfield 10, 3) := by decide +kernel
theorem dX8_begin_50 : decode cX8_begin 50 = .ok (.invokevirtual 100, 3) := by decide +kernel
theorem dX8_begin_53 : decode cX8_begin 53 = .ok (.invokevirtual 104, 3) := by decide +kernel
theorem dX8_begin_56 : decode cX8_begin 56 = .ok (.ireturn, 1) := by decide +kernel
theorem dX8_stop_0 : decode cX8_stop 0 = .ok (.aload_n 0, 1) := by decide +kernel
theorem dX8_stop_1 : decode cX8_stop 1 = .ok (.getfield 19, 3) := by decide +kernel
theorem dX8_stop_4 : decode cX8_stop 4 = .ok (.iload_n 1, 1) := by decide +kernel
theorem dX8_stop_5 : decode cX8_stop 5 = .ok (.invokevirtual 108, 3) := by decide +kernel
theorem dX8_stop_8 : decode cX8_stop 8 = .ok (.ifCond .ne 5, 3) := by decide +kernel
theorem dX8_stop_11 : decode cX8_stop 11 = .ok (.iconst 0, 1) := by decide +kernel
theorem dX8_stop_12 : decode cX8_stop 12 = .ok (.ireturn, 1) := by decide +kernel
theorem dX8_stop_13 : decode cX8_stop 13 = .ok (.aload_n 0, 1) := by decide +kernel
theorem dX8_stop_14 : decode cX8_stop 14 = .ok (.getfield 10, 3) := by decide +kernel
theorem dX8_stop_17 : decode cX8_stop 17 = .ok (.aload_n 0, 1) := by decide +kernel
theorem dX8_stop_18 : decode cX8_stop 18 = .ok (.getfield 19, 3) := by decide +kernel
theorem dX8_stop_21 : decode cX8_stop 21 = .ok (.iload_n 1, 1) := by decide +kernel
theorem dX8_stop_22 : decode cX8_stop 22 = .ok (.invokevirtual 111, 3) := by decide +kernel
theorem dX8_stop_25 : decode cX8_stop 25 = .ok (.aload_n 0, 1) := by decide +kernel
theorem dX8_stop_26 : decode cX8_stop 26 = .ok (.getfield 19, 3) := by decide +kernel
theorem dX8_stop_29 : decode cX8_stop 29 = .ok (.iload_n 1, 1) := by decide +kernel
theorem dX8_stop_30 : decode cX8_stop 30 = .ok (.invokevirtual 115, 3) := by decide +kernel
theorem dX8_stop_33 : decode cX8_stop 33 = .ok (.ineg, 1) := by decide +kernel
theorem dX8_stop_34 : decode cX8_stop 34 = .ok (.invokevirtual 97, 3) := by decide +kernel
theorem dX8_stop_37 : decode cX8_stop 37 = .ok (.aload_n 0, 1) := by decide +kernel
theorem dX8_stop_38 : decode cX8_stop 38 = .ok (.getfield 19, 3) := by decide +kernel
theorem dX8_stop_41 : decode cX8_stop 41 = .ok (.iload_n 1, 1) := by decide +kernel
theorem dX8_stop_42 : decode cX8_stop 42 = .ok (.aload_n 0, 1) := by decide +kernel
theorem dX8_stop_43 : decode cX8_stop 43 = .ok (.getfield 10, 3) := by decide +kernel
theorem dX8_stop_46 : decode cX8_stop 46 = .ok (.invokevirtual 100, 3) := by decide +kernel
theorem dX8_stop_49 : decode cX8_stop 49 = .ok (.invokevirtual 118, 3) := by decide +kernel
theorem dX8_stop_52 : decode cX8_stop 52 = .ok (.iconst 1, 1) := by decide +kernel
theorem dX8_stop_53 : decode cX8_stop 53 = .ok (.ireturn, 1) := by decide +kernel
theorem dX8_use_0 : decode cX8_use 0 = .ok (.iload_n 1, 1) := by decide +kernel
theorem dX8_use_1 : decode cX8_use 1 = .ok (.invokestatic 75, 3) := by decide +kernel
theorem dX8_use_4 : decode cX8_use 4 = .ok (.ifCond .eq 14, 3) := by decide +kernel
theorem dX8_use_7 : decode cX8_use 7 = .ok (.iload_n 2, 1) := by decide +kernel
theorem dX8_use_8 : decode cX8_use 8 = .ok (.ifCond .lt 10, 3) := by decide +kernel
theorem dX8_use_11 : decode cX8_use 11 = .ok (.iload_n 2, 1) := by decide +kernel
theorem dX8_use_12 : decode cX8_use 12 = .ok (.sipush 9999, 3) := by decide +kernel
theorem dX8_use_15 : decode cX8_use 15 = .ok (.if_icmp .le 5, 3) := by decide +kernel
theorem dX8_use_18 : decode cX8_use 18 = .ok (.iconst 0, 1) := by decide +kernel
theorem dX8_use_19 : decode cX8_use 19 = .ok (.ireturn, 1) := by decide +kernel
theorem dX8_use_20 : decode cX8_use 20 = .ok (.aload_n 0, 1) := by decide +kernel
theorem dX8_use_21 : decode cX8_use 21 = .ok (.getfield 10, 3) := by decide +kernel
theorem dX8_use_24 : decode cX8_use 24 = .ok (.iload_n 1, 1) := by decide +kernel
theorem dX8_use_25 : decode cX8_use 25 = .ok (.invokevirtual 121, 3) := by decide +kernel
theorem dX8_use_28 : decode cX8_use 28 = .ok (.iload_n 2, 1) := by decide +kernel
theorem dX8_use_29 : decode cX8_use 29 = .ok (.iadd, 1) := by decide +kernel
theorem dX8_use_30 : decode cX8_use 30 = .ok (.ldc 124, 2) := by decide +kernel
theorem dX8_use_32 : decode cX8_use 32 = .ok (.if_icmp .le 5, 3) := by decide +kernel
theorem dX8_use_35 : decode cX8_use 35 = .ok (.iconst 0, 1) := by decide +kernel
theorem dX8_use_36 : decode cX8_use 36 = .ok (.ireturn, 1) := by decide +kernel
theorem dX8_use_37 : decode cX8_use 37 = .ok (.aload_n 0, 1) := by decide +kernel
theorem dX8_use_38 : decode cX8_use 38 = .ok (.getfield 10, 3) := by decide +kernel
theorem dX8_use_41 : decode cX8_use 41 = .ok (.iload_n 1, 1) := by decide +kernel
theorem dX8_use_42 : decode cX8_use 42 = .ok (.iload_n 2, 1) := by decide +kernel
theorem dX8_use_43 : decode cX8_use 43 = .ok (.invokevirtual 125, 3) := by decide +kernel
theorem dX8_use_46 : decode cX8_use 46 = .ok (.iconst 1, 1) := by decide +kernel
theorem dX8_use_47 : decode cX8_use 47 = .ok (.ireturn, 1) := by decide +kernel
theorem dX8_floor_0 : decode cX8_floor 0 = .ok (.iload_n 1, 1) := by decide +kernel
theorem dX8_floor_1 : decode cX8_floor 1 = .ok (.ifCond .lt 10, 3) := by decide +kernel
theorem dX8_floor_4 : decode cX8_floor 4 = .ok (.iload_n 1, 1) := by decide +kernel
theorem dX8_floor_5 : decode cX8_floor 5 = .ok (.sipush 9999, 3) := by decide +kernel
theorem dX8_floor_8 : decode cX8_floor 8 = .ok (.if_icmp .le 5, 3) := by decide +kernel
theorem dX8_floor_11 : decode cX8_floor 11 = .ok (.iconst 0, 1) := by decide +kernel
theorem dX8_floor_12 : decode cX8_floor 12 = .ok (.ireturn, 1) := by decide +kernel
theorem dX8_floor_13 : decode cX8_floor 13 = .ok (.aload_n 0, 1) := by decide +kernel
theorem dX8_floor_14 : decode cX8_floor 14 = .ok (.iload_n 1, 1) := by decide +kernel
theorem dX8_floor_15 : decode cX8_floor 15 = .ok (.putfield 71, 3) := by decide +kernel
theorem dX8_floor_18 : decode cX8_floor 18 = .ok (.iconst 1, 1) := by decide +kernel
theorem dX8_floor_19 : decode cX8_floor 19 = .ok (.ireturn, 1) := by decide +kernel
theorem dX8_hours_0 : decode cX8_hours 0 = .ok (.iload_n 1, 1) := by decide +kernel
theorem dX8_hours_1 : decode cX8_hours 1 = .ok (.iconst 1, 1) := by decide +kernel
theorem dX8_hours_2 : decode cX8_hours 2 = .ok (.if_icmp .lt 24, 3) := by decide +kernel
theorem dX8_hours_5 : decode cX8_hours 5 = .ok (.iload_n 1, 1) := by decide +kernel
theorem dX8_hours_6 : decode cX8_hours 6 = .ok (.bipush 48, 2) := by decide +kernel
theorem dX8_hours_8 : decode cX8_hours 8 = .ok (.if_icmp .gt 18, 3) := by decide +kernel
theorem dX8_hours_11 : decode cX8_hours 11 = .ok (.aload_n 0, 1) := by decide +kernel
theorem dX8_hours_12 : decode cX8_hours 12 = .ok (.getfield 10, 3) := by decide +kernel
theorem dX8_hours_15 : decode cX8_hours 15 = .ok (.invokevirtual 100, 3) := by decide +kernel
theorem dX8_hours_18 : decode cX8_hours 18 = .ok (.iload_n 1, 1) := by decide +kernel
theorem dX8_hours_19 : decode cX8_hours 19 = .ok (.iadd, 1) := by decide +kernel
theorem dX8_hours_20 : decode cX8_hours 20 = .ok (.sipush 2000, 3) := by decide +kernel
theorem dX8_hours_23 : decode cX8_hours 23 = .ok (.if_icmp .lt 5, 3) := by decide +kernel
theorem dX8_hours_26 : decode cX8_hours 26 = .ok (.iconst (-1), 1) := by decide +kernel
theorem dX8_hours_27 : decode cX8_hours 27 = .ok (.ireturn, 1) := by decide +kernel
theorem dX8_hours_28 : decode cX8_hours 28 = .ok (.iconst 0, 1) := by decide +kernel
theorem dX8_hours_29 : decode cX8_hours 29 = .ok (.istore_n 2, 1) := by decide +kernel
theorem dX8_hours_30 : decode cX8_hours 30 = .ok (.iload_n 2, 1) := by decide +kernel
theorem dX8_hours_31 : decode cX8_hours 31 = .ok (.iload_n 1, 1) := by decide +kernel
theorem dX8_hours_32 : decode cX8_hours 32 = .ok (.if_icmp .ge 13, 3) := by decide +kernel
theorem dX8_hours_35 : decode cX8_hours 35 = .ok (.aload_n 0, 1) := by decide +kernel
theorem dX8_hours_36 : decode cX8_hours 36 = .ok (.invokevirtual 128, 3) := by decide +kernel
theorem dX8_hours_39 : decode cX8_hours 39 = .ok (.iinc 2 1, 3) := by decide +kernel
theorem dX8_hours_42 : decode cX8_hours 42 = .ok (.goto (-12), 3) := by decide +kernel
theorem dX8_hours_45 : decode cX8_hours 45 = .ok (.aload_n 0, 1) := by decide +kernel
theorem dX8_hours_46 : decode cX8_hours 46 = .ok (.getfield 10, 3) := by decide +kernel
theorem dX8_hours_49 : decode cX8_hours 49 = .ok (.invokevirtual 100, 3) := by decide +kernel
theorem dX8_hours_52 : decode cX8_hours 52 = .ok (.ireturn, 1) := by decide +kernel
theorem dX8_look_0 : decode cX8_look 0 = .ok (.iload_n 1, 1) := by decide +kernel
theorem dX8_look_1 : decode cX8_look 1 = .ok (.tableswitch 84 0 5 #[39, 47, 55, 63, 71, 79], 39) := by decide +kernel
theorem dX8_look_40 : decode cX8_look 40 = .ok (.aload_n 0, 1) := by decide +kernel
theorem dX8_look_41 : decode cX8_look 41 = .ok (.getfield 10, 3) := by decide +kernel
theorem dX8_look_44 : decode cX8_look 44 = .ok (.invokevirtual 100, 3) := by decide +kernel
theorem dX8_look_47 : decode cX8_look 47 = .ok (.ireturn, 1) := by decide +kernel
theorem dX8_look_48 : decode cX8_look 48 = .ok (.aload_n 0, 1) := by decide +kernel
theorem dX8_look_49 : decode cX8_look 49 = .ok (.getfield 19, 3) := by decide +kernel
theorem dX8_look_52 : decode cX8_look 52 = .ok (.invokevirtual 131, 3) := by decide +kernel
theorem dX8_look_55 : decode cX8_look 55 = .ok (.ireturn, 1) := by decide +kernel
theorem dX8_look_56 : decode cX8_look 56 = .ok (.aload_n 0, 1) := by decide +kernel
theorem dX8_look_57 : decode cX8_look 57 = .ok (.getfield 19, 3) := by decide +kernel
theorem dX8_look_60 : decode cX8_look 60 = .ok (.invokevirtual 134, 3) := by decide +kernel
theorem dX8_look_63 : decode cX8_look 63 = .ok (.ireturn, 1) := by decide +kernel
theorem dX8_look_64 : decode cX8_look 64 = .ok (.aload_n 0, 1) := by decide +kernel
theorem dX8_look_65 : decode cX8_look 65 = .ok (.getfield 42, 3) := by decide +kernel
theorem dX8_look_68 : decode cX8_look 68 = .ok (.invokevirtual 137, 3) := by decide +kernel
theorem dX8_look_71 : decode cX8_look 71 = .ok (.ireturn, 1) := by decide +kernel
theorem dX8_look_72 : decode cX8_look 72 = .ok (.aload_n 0, 1) := by decide +kernel
theorem dX8_look_73 : decode cX8_look 73 = .ok (.getfield 42, 3) := by decide +kernel
theorem dX8_look_76 : decode cX8_look 76 = .ok (.invokevirtual 140, 3) := by decide +kernel
theorem dX8_look_79 : decode cX8_look 79 = .ok (.ireturn, 1) := by decide +kernel
theorem dX8_look_80 : decode cX8_look 80 = .ok (.aload_n 0, 1) := by decide +kernel
theorem dX8_look_81 : decode cX8_look 81 = .ok (.getfield 71, 3) := by decide +kernel
theorem dX8_look_84 : decode cX8_look 84 = .ok (.ireturn, 1) := by decide +kernel
theorem dX8_look_85 : decode cX8_look 85 = .ok (.iconst (-1), 1) := by decide +kernel
theorem dX8_look_86 : decode cX8_look 86 = .ok (.ireturn, 1) := by decide +kernel
theorem dX8_machine_0 : decode cX8_machine 0 = .ok (.aload_n 0, 1) := by decide +kernel
theorem dX8_machine_1 : decode cX8_machine 1 = .ok (.getfield 19, 3) := by decide +kernel
theorem dX8_machine_4 : decode cX8_machine 4 = .ok (.iload_n 1, 1) := by decide +kernel
theorem dX8_machine_5 : decode cX8_machine 5 = .ok (.invokevirtual 143, 3) := by decide +kernel
theorem dX8_machine_8 : decode cX8_machine 8 = .ok (.ifCond .ne 5, 3) := by decide +kernel
theorem dX8_machine_11 : decode cX8_machine 11 = .ok (.iconst (-1), 1) := by decide +kernel
theorem dX8_machine_12 : decode cX8_machine 12 = .ok (.ireturn, 1) := by decide +kernel
theorem dX8_machine_13 : decode cX8_machine 13 = .ok (.iload_n 2, 1) := by decide +kernel
theorem dX8_machine_14 : decode cX8_machine 14 = .ok (.tableswitch 66 0 3 #[30, 39, 48, 57], 30) := by decide +kernel
theorem dX8_machine_44 : decode cX8_machine 44 = .ok (.aload_n 0, 1) := by decide +kernel
theorem dX8_machine_45 : decode cX8_machine 45 = .ok (.getfield 19, 3) := by decide +kernel
theorem dX8_machine_48 : decode cX8_machine 48 = .ok (.iload_n 1, 1) := by decide +kernel
theorem dX8_machine_49 : decode cX8_machine 49 = .ok (.invokevirtual 111, 3) := by decide +kernel
theorem dX8_machine_52 : decode cX8_machine 52 = .ok (.ireturn, 1) := by decide +kernel
theorem dX8_machine_53 : decode cX8_machine 53 = .ok (.aload_n 0, 1) := by decide +kernel
theorem dX8_machine_54 : decode cX8_machine 54 = .ok (.getfield 19, 3) := by decide +kernel
theorem dX8_machine_57 : decode cX8_machine 57 = .ok (.iload_n 1, 1) := by decide +kernel
theorem dX8_machine_58 : decode cX8_machine 58 = .ok (.invokevirtual 115, 3) := by decide +kernel
theorem dX8_machine_61 : decode cX8_machine 61 = .ok (.ireturn, 1) := by decide +kernel
theorem dX8_machine_62 : decode cX8_machine 62 = .ok (.aload_n 0, 1) := by decide +kernel
theorem dX8_machine_63 : decode cX8_machine 63 = .ok (.getfield 19, 3) := by decide +kernel
theorem dX8_machine_66 : decode cX8_machine 66 = .ok (.iload_n 1, 1) := by decide +kernel
theorem dX8_machine_67 : decode cX8_machine 67 = .ok (.invokevirtual 146, 3) := by decide +kernel
theorem dX8_machine_70 : decode cX8_machine 70 = .ok (.ireturn, 1) := by decide +kernel
theorem dX8_machine_71 : decode cX8_machine 71 = .ok (.aload_n 0, 1) := by decide +kernel
theorem dX8_machine_72 : decode cX8_machine 72 = .ok (.getfield 19, 3) := by decide +kernel
theorem dX8_machine_75 : decode cX8_machine 75 = .ok (.iload_n 1, 1) := by decide +kernel
theorem dX8_machine_76 : decode cX8_machine 76 = .ok (.invokevirtual 149, 3) := by decide +kernel
theorem dX8_machine_79 : decode cX8_machine 79 = .ok (.ireturn, 1) := by decide +kernel
theorem dX8_machine_80 : decode cX8_machine 80 = .ok (.iconst (-1), 1) := by decide +kernel
theorem dX8_machine_81 : decode cX8_machine 81 = .ok (.ireturn, 1) := by decide +kernel
theorem dX8_cost_0 : decode cX8_cost 0 = .ok (.iload_n 1, 1) := by decide +kernel
theorem dX8_cost_1 : decode cX8_cost 1 = .ok (.invokestatic 75, 3) := by decide +kernel
theorem dX8_cost_4 : decode cX8_cost 4 = .ok (.ifCond .eq 11, 3) := by decide +kernel
theorem dX8_cost_7 : decode cX8_cost 7 = .ok (.aload_n 0, 1) := by decide +kernel
theorem dX8_cost_8 : decode cX8_cost 8 = .ok (.iload_n 2, 1) := by decide +kernel
theorem dX8_cost_9 : decode cX8_cost 9 = .ok (.invokevirtual 152, 3) := by decide +kernel
theorem dX8_cost_12 : decode cX8_cost 12 = .ok (.ifCond .ne 5, 3) := by decide +kernel
theorem dX8_cost_15 : decode cX8_cost 15 = .ok (.iconst (-1), 1) := by decide +kernel
theorem dX8_cost_16 : decode cX8_cost 16 = .ok (.ireturn, 1) := by decide +kernel
theorem dX8_cost_17 : decode cX8_cost 17 = .ok (.aload_n 0, 1) := by decide +kernel
theorem dX8_cost_18 : decode cX8_cost 18 = .ok (.getfield 10, 3) := by decide +kernel
theorem dX8_cost_21 : decode cX8_cost 21 = .ok (.iload_n 1, 1) := by decide +kernel
theorem dX8_cost_22 : decode cX8_cost 22 = .ok (.iload_n 2, 1) := by decide +kernel
theorem dX8_cost_23 : decode cX8_cost 23 = .ok (.invokevirtual 155, 3) := by decide +kernel
theorem dX8_cost_26 : decode cX8_cost 26 = .ok (.ireturn, 1) := by decide +kernel
theorem dX8_season_0 : decode cX8_season 0 = .ok (.iload_n 1, 1) := by decide +kernel
theorem dX8_season_1 : decode cX8_season 1 = .ok (.invokestatic 75, 3) := by decide +kernel
theorem dX8_season_4 : decode cX8_season 4 = .ok (.ifCond .eq 11, 3) := by decide +kernel
theorem dX8_season_7 : decode cX8_season 7 = .ok (.aload_n 0, 1) := by decide +kernel
theorem dX8_season_8 : decode cX8_season 8 = .ok (.iload_n 2, 1) := by decide +kernel
theorem dX8_season_9 : decode cX8_season 9 = .ok (.invokevirtual 152, 3) := by decide +kernel
theorem dX8_season_12 : decode cX8_season 12 = .ok (.ifCond .ne 5, 3) := by decide +kernel
theorem dX8_season_15 : decode cX8_season 15 = .ok (.iconst (-1), 1) := by decide +kernel
theorem dX8_season_16 : decode cX8_season 16 = .ok (.ireturn, 1) := by decide +kernel
theorem dX8_season_17 : decode cX8_season 17 = .ok (.iload_n 3, 1) := by decide +kernel
theorem dX8_season_18 : decode cX8_season 18 = .ok (.iconst 2, 1) := by decide +kernel
theorem dX8_season_19 : decode cX8_season 19 = .ok (.if_icmp .ne 18, 3) := by decide +kernel
theorem dX8_season_22 : decode cX8_season 22 = .ok (.aload_n 0, 1) := by decide +kernel
theorem dX8_season_23 : decode cX8_season 23 = .ok (.iload_n 1, 1) := by decide +kernel
theorem dX8_season_24 : decode cX8_season 24 = .ok (.iload_n 2, 1) := by decide +kernel
theorem dX8_season_25 : decode cX8_season 25 = .ok (.invokevirtual 159, 3) := by decide +kernel
theorem dX8_season_28 : decode cX8_season 28 = .ok (.ifCond .eq 7, 3) := by decide +kernel
theorem dX8_season_31 : decode cX8_season 31 = .ok (.iconst 1, 1) := by decide +kernel
theorem dX8_season_32 : decode cX8_season 32 = .ok (.goto 4, 3) := by decide +kernel
theorem dX8_season_35 : decode cX8_season 35 = .ok (.iconst 0, 1) := by decide +kernel
theorem dX8_season_36 : decode cX8_season 36 = .ok (.ireturn, 1) := by decide +kernel
theorem dX8_season_37 : decode cX8_season 37 = .ok (.iload_n 3, 1) := by decide +kernel
theorem dX8_season_38 : decode cX8_season 38 = .ok (.ifCond .lt 20, 3) := by decide +kernel
theorem dX8_season_41 : decode cX8_season 41 = .ok (.iload_n 3, 1) := by decide +kernel
theorem dX8_season_42 : decode cX8_season 42 = .ok (.iconst 2, 1) := by decide +kernel
theorem dX8_season_43 : decode cX8_season 43 = .ok (.if_icmp .gt 15, 3) := by decide +kernel
theorem dX8_season_46 : decode cX8_season 46 = .ok (.aload_n 0, 1) := by decide +kernel
theorem dX8_season_47 : decode cX8_season 47 = .ok (.getfield 28, 3) := by decide +kernel
theorem dX8_season_50 : decode cX8_season 50 = .ok (.iload_n 1, 1) := by decide +kernel
theorem dX8_season_51 : decode cX8_season 51 = .ok (.iload_n 2, 1) := by decide +kernel
theorem dX8_season_52 : decode cX8_season 52 = .ok (.invokevirtual 163, 3) := by decide +kernel
theorem dX8_season_55 : decode cX8_season 55 = .ok (.ifCond .ne 5, 3) := by decide +kernel
theorem dX8_season_58 : decode cX8_season 58 = .ok (.iconst (-1), 1) := by decide +kernel
theorem dX8_season_59 : decode cX8_season 59 = .ok (.ireturn, 1) := by decide +kernel
theorem dX8_season_60 : decode cX8_season 60 = .ok (.iload_n 3, 1) := by decide +kernel
theorem dX8_season_61 : decode cX8_season 61 = .ok (.ifCond .ne 13, 3) := by decide +kernel
theorem dX8_season_64 : decode cX8_season 64 = .ok (.aload_n 0, 1) := by decide +kernel
theorem dX8_season_65 : decode cX8_season 65 = .ok (.getfield 28, 3) := by decide +kernel
theorem dX8_season_68 : decode cX8_season 68 = .ok (.invokevirtual 166, 3) := by decide +kernel
theorem dX8_season_71 : decode cX8_season 71 = .ok (.goto 10, 3) := by decide +kernel
theorem dX8_season_74 : decode cX8_season 74 = .ok (.aload_n 0, 1) := by decide +kernel
theorem dX8_season_75 : decode cX8_season 75 = .ok (.getfield 28, 3) := by decide +kernel
theorem dX8_season_78 : decode cX8_season 78 = .ok (.invokevirtual 169, 3) := by decide +kernel
theorem dX8_season_81 : decode cX8_season 81 = .ok (.ireturn, 1) := by decide +kernel
theorem dX8_creeps_0 : decode cX8_creeps 0 = .ok (.aload_n 0, 1) := by decide +kernel
theorem dX8_creeps_1 : decode cX8_creeps 1 = .ok (.getfield 10, 3) := by decide +kernel
theorem dX8_creeps_4 : decode cX8_creeps 4 = .ok (.invokevirtual 100, 3) := by decide +kernel
theorem dX8_creeps_7 : decode cX8_creeps 7 = .ok (.bipush 24, 2) := by decide +kernel
theorem dX8_creeps_9 : decode cX8_creeps 9 = .ok (.idiv, 1) := by decide +kernel
theorem dX8_creeps_10 : decode cX8_creeps 10 = .ok (.istore_n 2, 1) := by decide +kernel
theorem dX8_creeps_11 : decode cX8_creeps 11 = .ok (.iload_n 1, 1) := by decide +kernel
theorem dX8_creeps_12 : decode cX8_creeps 12 = .ok (.invokestatic 75, 3) := by decide +kernel
theorem dX8_creeps_15 : decode cX8_creeps 15 = .ok (.ifCond .eq 9, 3) := by decide +kernel
theorem dX8_creeps_18 : decode cX8_creeps 18 = .ok (.iload_n 2, 1) := by decide +kernel
theorem dX8_creeps_19 : decode cX8_creeps 19 = .ok (.bipush 7, 2) := by decide +kernel
theorem dX8_creeps_21 : decode cX8_creeps 21 = .ok (.if_icmp .ge 5, 3) := by decide +kernel
theorem dX8_creeps_24 : decode cX8_creeps 24 = .ok (.iconst (-1), 1) := by decide +kernel
theorem dX8_creeps_25 : decode cX8_creeps 25 = .ok (.ireturn, 1) := by decide +kernel
theorem dX8_creeps_26 : decode cX8_creeps 26 = .ok (.aload_n 0, 1) := by decide +kernel
theorem dX8_creeps_27 : decode cX8_creeps 27 = .ok (.getfield 35, 3) := by decide +kernel
theorem dX8_creeps_30 : decode cX8_creeps 30 = .ok (.iload_n 1, 1) := by decide +kernel
theorem dX8_creeps_31 : decode cX8_creeps 31 = .ok (.iload_n 2, 1) := by decide +kernel
theorem dX8_creeps_32 : decode cX8_creeps 32 = .ok (.bipush 7, 2) := by decide +kernel
theorem dX8_creeps_34 : decode cX8_creeps 34 = .ok (.isub, 1) := by decide +kernel
theorem dX8_creeps_35 : decode cX8_creeps 35 = .ok (.invokevirtual 172, 3) := by decide +kernel
theorem dX8_creeps_38 : decode cX8_creeps 38 = .ok (.ifCond .eq 7, 3) := by decide +kernel
theorem dX8_creeps_41 : decode cX8_creeps 41 = .ok (.iconst 1, 1) := by decide +kernel
theorem dX8_creeps_42 : decode cX8_creeps 42 = .ok (.goto 4, 3) := by decide +kernel
theorem dX8_creeps_45 : decode cX8_creeps 45 = .ok (.iconst 0, 1) := by decide +kernel
theorem dX8_creeps_46 : decode cX8_creeps 46 = .ok (.ireturn, 1) := by decide +kernel
theorem dX8_cry_0 : decode cX8_cry 0 = .ok (.aload_n 0, 1) := by decide +kernel
theorem dX8_cry_1 : decode cX8_cry 1 = .ok (.getfield 42, 3) := by decide +kernel
theorem dX8_cry_4 : decode cX8_cry 4 = .ok (.iload_n 1, 1) := by decide +kernel
theorem dX8_cry_5 : decode cX8_cry 5 = .ok (.invokevirtual 175, 3) := by decide +kernel
theorem dX8_cry_8 : decode cX8_cry 8 = .ok (.ifCond .ne 5, 3) := by decide +kernel
theorem dX8_cry_11 : decode cX8_cry 11 = .ok (.iconst (-1), 1) := by decide +kernel
theorem dX8_cry_12 : decode cX8_cry 12 = .ok (.ireturn, 1) := by decide +kernel
theorem dX8_cry_13 : decode cX8_cry 13 = .ok (.iload_n 2, 1) := by decide +kernel
theorem dX8_cry_14 : decode cX8_cry 14 = .ok (.tableswitch 87 0 4 #[34, 43, 52, 61, 70], 34) := by decide +kernel
theorem dX8_cry_48 : decode cX8_cry 48 = .ok (.aload_n 0, 1) := by decide +kernel
theorem dX8_cry_49 : decode cX8_cry 49 = .ok (.getfield 42, 3) := by decide +kernel
theorem dX8_cry_52 : decode cX8_cry 52 = .ok (.iload_n 1, 1) := by decide +kernel
theorem dX8_cry_53 : decode cX8_cry 53 = .ok (.invokevirtual 176, 3) := by decide +kernel
theorem dX8_cry_56 : decode cX8_cry 56 = .ok (.ireturn, 1) := by decide +kernel
theorem dX8_cry_57 : decode cX8_cry 57 = .ok (.aload_n 0, 1) := by decide +kernel
theorem dX8_cry_58 : decode cX8_cry 58 = .ok (.getfield 42, 3) := by decide +kernel
theorem dX8_cry_61 : decode cX8_cry 61 = .ok (.iload_n 1, 1) := by decide +kernel
theorem dX8_cry_62 : decode cX8_cry 62 = .ok (.invokevirtual 177, 3) := by decide +kernel
theorem dX8_cry_65 : decode cX8_cry 65 = .ok (.ireturn, 1) := by decide +kernel
theorem dX8_cry_66 : decode cX8_cry 66 = .ok (.aload_n 0, 1) := by decide +kernel
theorem dX8_cry_67 : decode cX8_cry 67 = .ok (.getfield 42, 3) := by decide +kernel
theorem dX8_cry_70 : decode cX8_cry 70 = .ok (.iload_n 1, 1) := by decide +kernel
theorem dX8_cry_71 : decode cX8_cry 71 = .ok (.invokevirtual 180, 3) := by decide +kernel
theorem dX8_cry_74 : decode cX8_cry 74 = .ok (.ireturn, 1) := by decide +kernel
theorem dX8_cry_75 : decode cX8_cry 75 = .ok (.aload_n 0, 1) := by decide +kernel
theorem dX8_cry_76 : decode cX8_cry 76 = .ok (.getfield 42, 3) := by decide +kernel
theorem dX8_cry_79 : decode cX8_cry 79 = .ok (.iload_n 1, 1) := by decide +kernel
theorem dX8_cry_80 : decode cX8_cry 80 = .ok (.invokevirtual 183, 3) := by decide +kernel
theorem dX8_cry_83 : decode cX8_cry 83 = .ok (.ireturn, 1) := by decide +kernel
theorem dX8_cry_84 : decode cX8_cry 84 = .ok (.aload_n 0, 1) := by decide +kernel
theorem dX8_cry_85 : decode cX8_cry 85 = .ok (.getfield 42, 3) := by decide +kernel
theorem dX8_cry_88 : decode cX8_cry 88 = .ok (.iload_n 1, 1) := by decide +kernel
theorem dX8_cry_89 : decode cX8_cry 89 = .ok (.invokevirtual 186, 3) := by decide +kernel
theorem dX8_cry_92 : decode cX8_cry 92 = .ok (.ifCond .eq 7, 3) := by decide +kernel
theorem dX8_cry_95 : decode cX8_cry 95 = .ok (.iconst 1, 1) := by decide +kernel
theorem dX8_cry_96 : decode cX8_cry 96 = .ok (.goto 4, 3) := by decide +kernel
theorem dX8_cry_99 : decode cX8_cry 99 = .ok (.iconst 0, 1) := by decide +kernel
theorem dX8_cry_100 : decode cX8_cry 100 = .ok (.ireturn, 1) := by decide +kernel
theorem dX8_cry_101 : decode cX8_cry 101 = .ok (.iconst (-1), 1) := by decide +kernel
theorem dX8_cry_102 : decode cX8_cry 102 = .ok (.ireturn, 1) := by decide +kernel
theorem dX8_laid_0 : decode cX8_laid 0 = .ok (.iload_n 1, 1) := by decide +kernel
theorem dX8_laid_1 : decode cX8_laid 1 = .ok (.invokestatic 79, 3) := by decide +kernel
theorem dX8_laid_4 : decode cX8_laid 4 = .ok (.ifCond .eq 25, 3) := by decide +kernel
theorem dX8_laid_7 : decode cX8_laid 7 = .ok (.iload_n 2, 1) := by decide +kernel
theorem dX8_laid_8 : decode cX8_laid 8 = .ok (.ifCond .lt 21, 3) := by decide +kernel
theorem dX8_laid_11 : decode cX8_laid 11 = .ok (.iload_n 2, 1) := by decide +kernel
theorem dX8_laid_12 : decode cX8_laid 12 = .ok (.iload_n 3, 1) := by decide +kernel
theorem dX8_laid_13 : decode cX8_laid 13 = .ok (.if_icmp .gt 16, 3) := by decide +kernel
theorem dX8_laid_16 : decode cX8_laid 16 = .ok (.iload_n 3, 1) := by decide +kernel
theorem dX8_laid_17 : decode cX8_laid 17 = .ok (.aload_n 0, 1) := by decide +kernel
theorem dX8_laid_18 : decode cX8_laid 18 = .ok (.getfield 10, 3) := by decide +kernel
theorem dX8_laid_21 : decode cX8_laid 21 = .ok (.invokevirtual 100, 3) := by decide +kernel
theorem dX8_laid_24 : decode cX8_laid 24 = .ok (.iconst 1, 1) := by decide +kernel
theorem dX8_laid_25 : decode cX8_laid 25 = .ok (.iadd, 1) := by decide +kernel
theorem dX8_laid_26 : decode cX8_laid 26 = .ok (.if_icmp .le 5, 3) := by decide +kernel
theorem dX8_laid_29 : decode cX8_laid 29 = .ok (.iconst (-1), 1) := by decide +kernel
theorem dX8_laid_30 : decode cX8_laid 30 = .ok (.ireturn, 1) := by decide +kernel
theorem dX8_laid_31 : decode cX8_laid 31 = .ok (.aload_n 0, 1) := by decide +kernel
theorem dX8_laid_32 : decode cX8_laid 32 = .ok (.getfield 58, 3) := by decide +kernel
theorem dX8_laid_35 : decode cX8_laid 35 = .ok (.iload_n 1, 1) := by decide +kernel
theorem dX8_laid_36 : decode cX8_laid 36 = .ok (.iload_n 2, 1) := by decide +kernel
theorem dX8_laid_37 : decode cX8_laid 37 = .ok (.iload_n 3, 1) := by decide +kernel
theorem dX8_laid_38 : decode cX8_laid 38 = .ok (.invokevirtual 189, 3) := by decide +kernel
theorem dX8_laid_41 : decode cX8_laid 41 = .ok (.ireturn, 1) := by decide +kernel
theorem dX8_budget_0 : decode cX8_budget 0 = .ok (.iload_n 1, 1) := by decide +kernel
theorem dX8_budget_1 : decode cX8_budget 1 = .ok (.invokestatic 79, 3) := by decide +kernel
theorem dX8_budget_4 : decode cX8_budget 4 = .ok (.ifCond .eq 13, 3) := by decide +kernel
theorem dX8_budget_7 : decode cX8_budget 7 = .ok (.iload_n 2, 1) := by decide +kernel
theorem dX8_budget_8 : decode cX8_budget 8 = .ok (.ifCond .lt 9, 3) := by decide +kernel
theorem dX8_budget_11 : decode cX8_budget 11 = .ok (.iload_n 2, 1) := by decide +kernel
theorem dX8_budget_12 : decode cX8_budget 12 = .ok (.ldc 192, 2) := by decide +kernel
theorem dX8_budget_14 : decode cX8_budget 14 = .ok (.if_icmp .le 5, 3) := by decide +kernel
theorem dX8_budget_17 : decode cX8_budget 17 = .ok (.iconst 0, 1) := by decide +kernel
theorem dX8_budget_18 : decode cX8_budget 18 = .ok (.ireturn, 1) := by decide +kernel
theorem dX8_budget_19 : decode cX8_budget 19 = .ok (.iload_n 3, 1) := by decide +kernel
theorem dX8_budget_20 : decode cX8_budget 20 = .ok (.ifCond .lt 17, 3) := by decide +kernel
theorem dX8_budget_23 : decode cX8_budget 23 = .ok (.iload_n 3, 1) := by decide +kernel
theorem dX8_budget_24 : decode cX8_budget 24 = .ok (.iload 4, 2) := by decide +kernel
theorem dX8_budget_26 : decode cX8_budget 26 = .ok (.if_icmp .ge 11, 3) := by decide +kernel
theorem dX8_budget_29 : decode cX8_budget 29 = .ok (.iload 4, 2) := by decide +kernel
theorem dX8_budget_31 : decode cX8_budget 31 = .ok (.sipush 2000, 3) := by decide +kernel
theorem dX8_budget_34 : decode cX8_budget 34 = .ok (.if_icmp .le 5, 3) := by decide +kernel
theorem dX8_budget_37 : decode cX8_budget 37 = .ok (.iconst 0, 1) := by decide +kernel
theorem dX8_budget_38 : decode cX8_budget 38 = .ok (.ireturn, 1) := by decide +kernel
theorem dX8_budget_39 : decode cX8_budget 39 = .ok (.aload_n 0, 1) := by decide +kernel
theorem dX8_budget_40 : decode cX8_budget 40 = .ok (.getfield 67, 3) := by decide +kernel
theorem dX8_budget_43 : decode cX8_budget 43 = .ok (.iload_n 1, 1) := by decide +kernel
theorem dX8_budget_44 : decode cX8_budget 44 = .ok (.iload_n 2, 1) := by decide +kernel
theorem dX8_budget_45 : decode cX8_budget 45 = .ok (.iload_n 3, 1) := by decide +kernel
theorem dX8_budget_46 : decode cX8_budget 46 = .ok (.iload 4, 2) := by decide +kernel
theorem dX8_budget_48 : decode cX8_budget 48 = .ok (.invokevirtual 193, 3) := by decide +kernel
theorem dX8_budget_51 : decode cX8_budget 51 = .ok (.iconst 1, 1) := by decide +kernel
theorem dX8_budget_52 : decode cX8_budget 52 = .ok (.ireturn, 1) := by decide +kernel
theorem dX8_budgeted_0 : decode cX8_budgeted 0 = .ok (.iload_n 1, 1) := by decide +kernel
theorem dX8_budgeted_1 : decode cX8_budgeted 1 = .ok (.invokestatic 79, 3) := by decide +kernel
theorem dX8_budgeted_4 : decode cX8_budgeted 4 = .ok (.ifCond .ne 5, 3) := by decide +kernel
theorem dX8_budgeted_7 : decode cX8_budgeted 7 = .ok (.iconst (-1), 1) := by decide +kernel
theorem dX8_budgeted_8 : decode cX8_budgeted 8 = .ok (.ireturn, 1) := by decide +kernel
theorem dX8_budgeted_9 : decode cX8_budgeted 9 = .ok (.iload_n 2, 1) := by decide +kernel
theorem dX8_budgeted_10 : decode cX8_budgeted 10 = .ok (.tableswitch 124 0 5 #[38, 47, 56, 73, 90, 107], 38) := by decide +kernel
theorem dX8_budgeted_48 : decode cX8_budgeted 48 = .ok (.aload_n 0, 1) := by decide +kernel
theorem dX8_budgeted_49 : decode cX8_budgeted 49 = .ok (.getfield 67, 3) := by decide +kernel
theorem dX8_budgeted_52 : decode cX8_budgeted 52 = .ok (.iload_n 1, 1) := by decide +kernel
theorem dX8_budgeted_53 : decode cX8_budgeted 53 = .ok (.invokevirtual 197, 3) := by decide +kernel
theorem dX8_budgeted_56 : decode cX8_budgeted 56 = .ok (.ireturn, 1) := by decide +kernel
theorem dX8_budgeted_57 : decode cX8_budgeted 57 = .ok (.aload_n 0, 1) := by decide +kernel
theorem dX8_budgeted_58 : decode cX8_budgeted 58 = .ok (.getfield 67, 3) := by decide +kernel
theorem dX8_budgeted_61 : decode cX8_budgeted 61 = .ok (.iload_n 1, 1) := by decide +kernel
theorem dX8_budgeted_62 : decode cX8_budgeted 62 = .ok (.invokevirtual 200, 3) := by decide +kernel
theorem dX8_budgeted_65 : decode cX8_budgeted 65 = .ok (.ireturn, 1) := by decide +kernel
theorem dX8_budgeted_66 : decode cX8_budgeted 66 = .ok (.aload_n 0, 1) := by decide +kernel
theorem dX8_budgeted_67 : decode cX8_budgeted 67 = .ok (.getfield 67, 3) := by decide +kernel
theorem dX8_budgeted_70 : decode cX8_budgeted 70 = .ok (.iload_n 1, 1) := by decide +kernel
theorem dX8_budgeted_71 : decode cX8_budgeted 71 = .ok (.aload_n 0, 1) := by decide +kernel
theorem dX8_budgeted_72 : decode cX8_budgeted 72 = .ok (.getfield 58, 3) := by decide +kernel
theorem dX8_budgeted_75 : decode cX8_budgeted 75 = .ok (.iload_n 1, 1) := by decide +kernel
theorem dX8_budgeted_76 : decode cX8_budgeted 76 = .ok (.invokevirtual 203, 3) := by decide +kernel
theorem dX8_budgeted_79 : decode cX8_budgeted 79 = .ok (.invokevirtual 206, 3) := by decide +kernel
theorem dX8_budgeted_82 : decode cX8_budgeted 82 = .ok (.ireturn, 1) := by decide +kernel
theorem dX8_budgeted_83 : decode cX8_budgeted 83 = .ok (.aload_n 0, 1) := by decide +kernel
theorem dX8_budgeted_84 : decode cX8_budgeted 84 = .ok (.getfield 67, 3) := by decide +kernel
theorem dX8_budgeted_87 : decode cX8_budgeted 87 = .ok (.iload_n 1, 1) := by decide +kernel
theorem dX8_budgeted_88 : decode cX8_budgeted 88 = .ok (.aload_n 0, 1) := by decide +kernel
theorem dX8_budgeted_89 : decode cX8_budgeted 89 = .ok (.getfield 58, 3) := by decide +kernel
theorem dX8_budgeted_92 : decode cX8_budgeted 92 = .ok (.iload_n 1, 1) := by decide +kernel
theorem dX8_budgeted_93 : decode cX8_budgeted 93 = .ok (.invokevirtual 209, 3) := by decide +kernel
theorem dX8_budgeted_96 : decode cX8_budgeted 96 = .ok (.invokevirtual 206, 3) := by decide +kernel
theorem dX8_budgeted_99 : decode cX8_budgeted 99 = .ok (.ireturn, 1) := by decide +kernel
theorem dX8_budgeted_100 : decode cX8_budgeted 100 = .ok (.aload_n 0, 1) := by decide +kernel
theorem dX8_budgeted_101 : decode cX8_budgeted 101 = .ok (.getfield 67, 3) := by decide +kernel
theorem dX8_budgeted_104 : decode cX8_budgeted 104 = .ok (.iload_n 1, 1) := by decide +kernel
theorem dX8_budgeted_105 : decode cX8_budgeted 105 = .ok (.aload_n 0, 1) := by decide +kernel
theorem dX8_budgeted_106 : decode cX8_budgeted 106 = .ok (.getfield 58, 3) := by decide +kernel
theorem dX8_budgeted_109 : decode cX8_budgeted 109 = .ok (.iload_n 1, 1) := by decide +kernel
theorem dX8_budgeted_110 : decode cX8_budgeted 110 = .ok (.invokevirtual 203, 3) := by decide +kernel
theorem dX8_budgeted_113 : decode cX8_budgeted 113 = .ok (.invokevirtual 212, 3) := by decide +kernel
theorem dX8_budgeted_116 : decode cX8_budgeted 116 = .ok (.ireturn, 1) := by decide +kernel
theorem dX8_budgeted_117 : decode cX8_budgeted 117 = .ok (.aload_n 0, 1) := by decide +kernel
theorem dX8_budgeted_118 : decode cX8_budgeted 118 = .ok (.getfield 67, 3) := by decide +kernel
theorem dX8_budgeted_121 : decode cX8_budgeted 121 = .ok (.iload_n 1, 1) := by decide +kernel
theorem dX8_budgeted_122 : decode cX8_budgeted 122 = .ok (.aload_n 0, 1) := by decide +kernel
theorem dX8_budgeted_123 : decode cX8_budgeted 123 = .ok (.getfield 58, 3) := by decide +kernel
theorem dX8_budgeted_126 : decode cX8_budgeted 126 = .ok (.iload_n 1, 1) := by decide +kernel
theorem dX8_budgeted_127 : decode cX8_budgeted 127 = .ok (.invokevirtual 209, 3) := by decide +kernel
theorem dX8_budgeted_130 : decode cX8_budgeted 130 = .ok (.invokevirtual 212, 3) := by decide +kernel
theorem dX8_budgeted_133 : decode cX8_budgeted 133 = .ok (.ireturn, 1) := by decide +kernel
theorem dX8_budgeted_134 : decode cX8_budgeted 134 = .ok (.iconst (-1), 1) := by decide +kernel
theorem dX8_budgeted_135 : decode cX8_budgeted 135 = .ok (.ireturn, 1) := by decide +kernel
theorem dX8_isService_0 : decode cX8_isService 0 = .ok (.iload_n 0, 1) := by decide +kernel
theorem dX8_isService_1 : decode cX8_isService 1 = .ok (.ifCond .lt 13, 3) := by decide +kernel
theorem dX8_isService_4 : decode cX8_isService 4 = .ok (.iload_n 0, 1) := by decide +kernel
theorem dX8_isService_5 : decode cX8_isService 5 = .ok (.bipush 6, 2) := by decide +kernel
theorem dX8_isService_7 : decode cX8_isService 7 = .ok (.if_icmp .ge 7, 3) := by decide +kernel
theorem dX8_isService_10 : decode cX8_isService 10 = .ok (.iconst 1, 1) := by decide +kernel
theorem dX8_isService_11 : decode cX8_isService 11 = .ok (.goto 4, 3) := by decide +kernel
theorem dX8_isService_14 : decode cX8_isService 14 = .ok (.iconst 0, 1) := by decide +kernel
theorem dX8_isService_15 : decode cX8_isService 15 = .ok (.ireturn, 1) := by decide +kernel
theorem dX8_isOwner_0 : decode cX8_isOwner 0 = .ok (.iload_n 0, 1) := by decide +kernel
theorem dX8_isOwner_1 : decode cX8_isOwner 1 = .ok (.ifCond .lt 12, 3) := by decide +kernel
theorem dX8_isOwner_4 : decode cX8_isOwner 4 = .ok (.iload_n 0, 1) := by decide +kernel
theorem dX8_isOwner_5 : decode cX8_isOwner 5 = .ok (.iconst 4, 1) := by decide +kernel
theorem dX8_isOwner_6 : decode cX8_isOwner 6 = .ok (.if_icmp .ge 7, 3) := by decide +kernel
theorem dX8_isOwner_9 : decode cX8_isOwner 9 = .ok (.iconst 1, 1) := by decide +kernel
theorem dX8_isOwner_10 : decode cX8_isOwner 10 = .ok (.goto 4, 3) := by decide +kernel
theorem dX8_isOwner_13 : decode cX8_isOwner 13 = .ok (.iconst 0, 1) := by decide +kernel
theorem dX8_isOwner_14 : decode cX8_isOwner 14 = .ok (.ireturn, 1) := by decide +kernel
theorem dX8_isShare_0 : decode cX8_isShare 0 = .ok (.iload_n 0, 1) := by decide +kernel
theorem dX8_isShare_1 : decode cX8_isShare 1 = .ok (.ifCond .lt 13, 3) := by decide +kernel
theorem dX8_isShare_4 : decode cX8_isShare 4 = .ok (.iload_n 0, 1) := by decide +kernel
theorem dX8_isShare_5 : decode cX8_isShare 5 = .ok (.bipush 9, 2) := by decide +kernel
theorem dX8_isShare_7 : decode cX8_isShare 7 = .ok (.if_icmp .gt 7, 3) := by decide +kernel
theorem dX8_isShare_10 : decode cX8_isShare 10 = .ok (.iconst 1, 1) := by decide +kernel
theorem dX8_isShare_11 : decode cX8_isShare 11 = .ok (.goto 4, 3) := by decide +kernel
theorem dX8_isShare_14 : decode cX8_isShare 14 = .ok (.iconst 0, 1) := by decide +kernel
theorem dX8_isShare_15 : decode cX8_isShare 15 = .ok (.ireturn, 1) := by decide +kernel
theorem dX8_isTold_0 : decode cX8_isTold 0 = .ok (.iload_n 1, 1) := by decide +kernel
theorem dX8_isTold_1 : decode cX8_isTold 1 = .ok (.ifCond .lt 18, 3) := by decide +kernel
theorem dX8_isTold_4 : decode cX8_isTold 4 = .ok (.iload_n 1, 1) := by decide +kernel
theorem dX8_isTold_5 : decode cX8_isTold 5 = .ok (.aload_n 0, 1) := by decide +kernel
theorem dX8_isTold_6 : decode cX8_isTold 6 = .ok (.getfield 10, 3) := by decide +kernel
theorem dX8_isTold_9 : decode cX8_isTold 9 = .ok (.invokevirtual 100, 3) := by decide +kernel
theorem dX8_isTold_12 : decode cX8_isTold 12 = .ok (.if_icmp .gt 7, 3) := by decide +kernel
theorem dX8_isTold_15 : decode cX8_isTold 15 = .ok (.iconst 1, 1) := by decide +kernel
theorem dX8_isTold_16 : decode cX8_isTold 16 = .ok (.goto 4, 3) := by decide +kernel
theorem dX8_isTold_19 : decode cX8_isTold 19 = .ok (.iconst 0, 1) := by decide +kernel
theorem dX8_isTold_20 : decode cX8_isTold 20 = .ok (.ireturn, 1) := by decide +kernel
theorem dX8_isJump_0 : decode cX8_isJump 0 = .ok (.aload_n 0, 1) := by decide +kernel
theorem dX8_isJump_1 : decode cX8_isJump 1 = .ok (.getfield 28, 3) := by decide +kernel
theorem dX8_isJump_4 : decode cX8_isJump 4 = .ok (.iload_n 1, 1) := by decide +kernel
theorem dX8_isJump_5 : decode cX8_isJump 5 = .ok (.iload_n 2, 1) := by decide +kernel
theorem dX8_isJump_6 : decode cX8_isJump 6 = .ok (.invokevirtual 163, 3) := by decide +kernel
theorem dX8_isJump_9 : decode cX8_isJump 9 = .ok (.ifCond .ne 5, 3) := by decide +kernel
theorem dX8_isJump_12 : decode cX8_isJump 12 = .ok (.iconst 0, 1) := by decide +kernel
theorem dX8_isJump_13 : decode cX8_isJump 13 = .ok (.ireturn, 1) := by decide +kernel
theorem dX8_isJump_14 : decode cX8_isJump 14 = .ok (.aload_n 0, 1) := by decide +kernel
theorem dX8_isJump_15 : decode cX8_isJump 15 = .ok (.getfield 28, 3) := by decide +kernel
theorem dX8_isJump_18 : decode cX8_isJump 18 = .ok (.invokevirtual 166, 3) := by decide +kernel
theorem dX8_isJump_21 : decode cX8_isJump 21 = .ok (.iconst 3, 1) := by decide +kernel
theorem dX8_isJump_22 : decode cX8_isJump 22 = .ok (.aload_n 0, 1) := by decide +kernel
theorem dX8_isJump_23 : decode cX8_isJump 23 = .ok (.getfield 28, 3) := by decide +kernel
theorem dX8_isJump_26 : decode cX8_isJump 26 = .ok (.invokevirtual 169, 3) := by decide +kernel
theorem dX8_isJump_29 : decode cX8_isJump 29 = .ok (.imul, 1) := by decide +kernel
theorem dX8_isJump_30 : decode cX8_isJump 30 = .ok (.iadd, 1) := by decide +kernel
theorem dX8_isJump_31 : decode cX8_isJump 31 = .ok (.aload_n 0, 1) := by decide +kernel
theorem dX8_isJump_32 : decode cX8_isJump 32 = .ok (.getfield 71, 3) := by decide +kernel
theorem dX8_isJump_35 : decode cX8_isJump 35 = .ok (.iadd, 1) := by decide +kernel
theorem dX8_isJump_36 : decode cX8_isJump 36 = .ok (.istore_n 3, 1) := by decide +kernel
theorem dX8_isJump_37 : decode cX8_isJump 37 = .ok (.aload_n 0, 1) := by decide +kernel
theorem dX8_isJump_38 : decode cX8_isJump 38 = .ok (.getfield 10, 3) := by decide +kernel
theorem dX8_isJump_41 : decode cX8_isJump 41 = .ok (.iload_n 1, 1) := by decide +kernel
theorem dX8_isJump_42 : decode cX8_isJump 42 = .ok (.iload_n 2, 1) := by decide +kernel
theorem dX8_isJump_43 : decode cX8_isJump 43 = .ok (.invokevirtual 155, 3) := by decide +kernel
theorem dX8_isJump_46 : decode cX8_isJump 46 = .ok (.iload_n 3, 1) := by decide +kernel
theorem dX8_isJump_47 : decode cX8_isJump 47 = .ok (.if_icmp .le 7, 3) := by decide +kernel
theorem dX8_isJump_50 : decode cX8_isJump 50 = .ok (.iconst 1, 1) := by decide +kernel
theorem dX8_isJump_51 : decode cX8_isJump 51 = .ok (.goto 4, 3) := by decide +kernel
theorem dX8_isJump_54 : decode cX8_isJump 54 = .ok (.iconst 0, 1) := by decide +kernel
theorem dX8_isJump_55 : decode cX8_isJump 55 = .ok (.ireturn, 1) := by decide +kernel
theorem dX8_endHour_0 : decode cX8_endHour 0 = .ok (.aload_n 0, 1) := by decide +kernel
theorem dX8_endHour_1 : decode cX8_endHour 1 = .ok (.getfield 10, 3) := by decide +kernel
theorem dX8_endHour_4 : decode cX8_endHour 4 = .ok (.invokevirtual 100, 3) := by decide +kernel
theorem dX8_endHour_7 : decode cX8_endHour 7 = .ok (.istore_n 1, 1) := by decide +kernel
theorem dX8_endHour_8 : decode cX8_endHour 8 = .ok (.iconst 0, 1) := by decide +kernel
theorem dX8_endHour_9 : decode cX8_endHour 9 = .ok (.istore_n 2, 1) := by decide +kernel
theorem dX8_endHour_10 : decode cX8_endHour 10 = .ok (.iload_n 2, 1) := by decide +kernel
theorem dX8_endHour_11 : decode cX8_endHour 11 = .ok (.bipush 6, 2) := by decide +kernel
theorem dX8_endHour_13 : decode cX8_endHour 13 = .ok (.if_icmp .ge 36, 3) := by decide +kernel
theorem dX8_endHour_16 : decode cX8_endHour 16 = .ok (.aload_n 0, 1) := by decide +kernel
theorem dX8_endHour_17 : decode cX8_endHour 17 = .ok (.iload_n 2, 1) := by decide +kernel
theorem dX8_endHour_18 : decode cX8_endHour 18 = .ok (.iload_n 1, 1) := by decide +kernel
theorem dX8_endHour_19 : decode cX8_endHour 19 = .ok (.invokevirtual 159, 3) := by decide +kernel
theorem dX8_endHour_22 : decode cX8_endHour 22 = .ok (.ifCond .eq 21, 3) := by decide +kernel
theorem dX8_endHour_25 : decode cX8_endHour 25 = .ok (.aload_n 0, 1) := by decide +kernel
theorem dX8_endHour_26 : decode cX8_endHour 26 = .ok (.getfield 42, 3) := by decide +kernel
theorem dX8_endHour_29 : decode cX8_endHour 29 = .ok (.iload_n 2, 1) := by decide +kernel
theorem dX8_endHour_30 : decode cX8_endHour 30 = .ok (.aload_n 0, 1) := by decide +kernel
theorem dX8_endHour_31 : decode cX8_endHour 31 = .ok (.getfield 19, 3) := by decide +kernel
theorem dX8_endHour_34 : decode cX8_endHour 34 = .ok (.iload_n 2, 1) := by decide +kernel
theorem dX8_endHour_35 : decode cX8_endHour 35 = .ok (.iload_n 1, 1) := by decide +kernel
theorem dX8_endHour_36 : decode cX8_endHour 36 = .ok (.invokevirtual 215, 3) := by decide +kernel
theorem dX8_endHour_39 : decode cX8_endHour 39 = .ok (.iload_n 1, 1) := by decide +kernel
theorem dX8_endHour_40 : decode cX8_endHour 40 = .ok (.invokevirtual 218, 3) := by decide +kernel
theorem dX8_endHour_43 : decode cX8_endHour 43 = .ok (.iinc 2 1, 3) := by decide +kernel
theorem dX8_endHour_46 : decode cX8_endHour 46 = .ok (.goto (-36), 3) := by decide +kernel
theorem dX8_endHour_49 : decode cX8_endHour 49 = .ok (.aload_n 0, 1) := by decide +kernel
theorem dX8_endHour_50 : decode cX8_endHour 50 = .ok (.getfield 42, 3) := by decide +kernel
theorem dX8_endHour_53 : decode cX8_endHour 53 = .ok (.iload_n 1, 1) := by decide +kernel
theorem dX8_endHour_54 : decode cX8_endHour 54 = .ok (.invokevirtual 222, 3) := by decide +kernel
theorem dX8_endHour_57 : decode cX8_endHour 57 = .ok (.aload_n 0, 1) := by decide +kernel
theorem dX8_endHour_58 : decode cX8_endHour 58 = .ok (.getfield 10, 3) := by decide +kernel
theorem dX8_endHour_61 : decode cX8_endHour 61 = .ok (.invokevirtual 226, 3) := by decide +kernel
theorem dX8_endHour_64 : decode cX8_endHour 64 = .ok (.return_, 1) := by decide +kernel
