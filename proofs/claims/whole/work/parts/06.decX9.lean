theorem dX9_init_0 : decode cX9_init 0 = .ok (.aload_n 0, 1) := by decide +kernel
theorem dX9_init_1 : decode cX9_init 1 = .ok (.invokespecial 1, 3) := by decide +kernel
theorem dX9_init_4 : decode cX9_init 4 = .ok (.aload_n 0, 1) := by decide +kernel
theorem dX9_init_5 : decode cX9_init 5 = .ok (.bipush 10, 2) := by decide +kernel
theorem dX9_init_7 : decode cX9_init 7 = .ok (.putfield 7, 3) := by decide +kernel
theorem dX9_init_10 : decode cX9_init 10 = .ok (.aload_n 0, 1) := by decide +kernel
theorem dX9_init_11 : decode cX9_init 11 = .ok (.bipush 24, 2) := by decide +kernel
theorem dX9_init_13 : decode cX9_init 13 = .ok (.newarray .int, 2) := by decide +kernel
theorem dX9_init_15 : decode cX9_init 15 = .ok (.putfield 13, 3) := by decide +kernel
theorem dX9_init_18 : decode cX9_init 18 = .ok (.aload_n 0, 1) := by decide +kernel
theorem dX9_init_19 : decode cX9_init 19 = .ok (.sipush 12000, 3) := by decide +kernel
theorem dX9_init_22 : decode cX9_init 22 = .ok (.newarray .int, 2) := by decide +kernel
theorem dX9_init_24 : decode cX9_init 24 = .ok (.putfield 17, 3) := by decide +kernel
theorem dX9_init_27 : decode cX9_init 27 = .ok (.aload_n 0, 1) := by decide +kernel
theorem dX9_init_28 : decode cX9_init 28 = .ok (.bipush 6, 2) := by decide +kernel
theorem dX9_init_30 : decode cX9_init 30 = .ok (.newarray .boolean, 2) := by decide +kernel
theorem dX9_init_32 : decode cX9_init 32 = .ok (.putfield 20, 3) := by decide +kernel
theorem dX9_init_35 : decode cX9_init 35 = .ok (.aload_n 0, 1) := by decide +kernel
theorem dX9_init_36 : decode cX9_init 36 = .ok (.bipush 6, 2) := by decide +kernel
theorem dX9_init_38 : decode cX9_init 38 = .ok (.newarray .int, 2) := by decide +kernel
theorem dX9_init_40 : decode cX9_init 40 = .ok (.putfield 24, 3) := by decide +kernel
theorem dX9_init_43 : decode cX9_init 43 = .ok (.aload_n 0, 1) := by decide +kernel
theorem dX9_init_44 : decode cX9_init 44 = .ok (.bipush 40, 2) := by decide +kernel
theorem dX9_init_46 : decode cX9_init 46 = .ok (.newarray .int, 2) := by decide +kernel
theorem dX9_init_48 : decode cX9_init 48 = .ok (.putfield 27, 3) := by decide +kernel
theorem dX9_init_51 : decode cX9_init 51 = .ok (.aload_n 0, 1) := by decide +kernel
theorem dX9_init_52 : decode cX9_init 52 = .ok (.bipush 40, 2) := by decide +kernel
theorem dX9_init_54 : decode cX9_init 54 = .ok (.newarray .int, 2) := by decide +kernel
theorem dX9_init_56 : decode cX9_init 56 = .ok (.putfield 30, 3) := by decide +kernel
theorem dX9_init_59 : decode cX9_init 59 = .ok (.aload_n 0, 1) := by decide +kernel
theorem dX9_init_60 : decode cX9_init 60 = .ok (.bipush 40, 2) := by decide +kernel
theorem dX9_init_62 : decode cX9_init 62 = .ok (.newarray .int, 2) := by decide +kernel
theorem dX9_init_64 : decode cX9_init 64 = .ok (.putfield 33, 3) := by decide +kernel
theorem dX9_init_67 : decode cX9_init 67 = .ok (.aload_n 0, 1) := by decide +kernel
theorem dX9_init_68 : decode cX9_init 68 = .ok (.bipush 40, 2) := by decide +kernel
theorem dX9_init_70 : decode cX9_init 70 = .ok (.newarray .int, 2) := by decide +kernel
theorem dX9_init_72 : decode cX9_init 72 = .ok (.putfield 36, 3) := by decide +kernel
theorem dX9_init_75 : decode cX9_init 75 = .ok (.aload_n 0, 1) := by decide +kernel
theorem dX9_init_76 : decode cX9_init 76 = .ok (.bipush 7, 2) := by decide +kernel
theorem dX9_init_78 : decode cX9_init 78 = .ok (.newarray .int, 2) := by decide +kernel
theorem dX9_init_80 : decode cX9_init 80 = .ok (.putfield 39, 3) := by decide +kernel
theorem dX9_init_83 : decode cX9_init 83 = .ok (.aload_n 0, 1) := by decide +kernel
theorem dX9_init_84 : decode cX9_init 84 = .ok (.bipush 7, 2) := by decide +kernel
theorem dX9_init_86 : decode cX9_init 86 = .ok (.newarray .int, 2) := by decide +kernel
theorem dX9_init_88 : decode cX9_init 88 = .ok (.putfield 42, 3) := by decide +kernel
theorem dX9_init_91 : decode cX9_init 91 = .ok (.aload_n 0, 1) := by decide +kernel
theorem dX9_init_92 : decode cX9_init 92 = .ok (.bipush 100, 2) := by decide +kernel
theorem dX9_init_94 : decode cX9_init 94 = .ok (.newarray .int, 2) := by decide +kernel
theorem dX9_init_96 : decode cX9_init 96 = .ok (.putfield 45, 3) := by decide +kernel
theorem dX9_init_99 : decode cX9_init 99 = .ok (.aload_n 0, 1) := by decide +kernel
theorem dX9_init_100 : decode cX9_init 100 = .ok (.bipush 100, 2) := by decide +kernel
theorem dX9_init_102 : decode cX9_init 102 = .ok (.newarray .int, 2) := by decide +kernel
theorem dX9_init_104 : decode cX9_init 104 = .ok (.putfield 48, 3) := by decide +kernel
theorem dX9_init_107 : decode cX9_init 107 = .ok (.aload_n 0, 1) := by decide +kernel
theorem dX9_init_108 : decode cX9_init 108 = .ok (.bipush 100, 2) := by decide +kernel
theorem dX9_init_110 : decode cX9_init 110 = .ok (.newarray .int, 2) := by decide +kernel
theorem dX9_init_112 : decode cX9_init 112 = .ok (.putfield 51, 3) := by decide +kernel
theorem dX9_init_115 : decode cX9_init 115 = .ok (.aload_n 0, 1) := by decide +kernel
theorem dX9_init_116 : decode cX9_init 116 = .ok (.bipush 100, 2) := by decide +kernel
theorem dX9_init_118 : decode cX9_init 118 = .ok (.newarray .int, 2) := by decide +kernel
theorem dX9_init_120 : decode cX9_init 120 = .ok (.putfield 54, 3) := by decide +kernel
theorem dX9_init_123 : decode cX9_init 123 = .ok (.aload_n 0, 1) := by decide +kernel
theorem dX9_init_124 : decode cX9_init 124 = .ok (.bipush 100, 2) := by decide +kernel
theorem dX9_init_126 : decode cX9_init 126 = .ok (.newarray .boolean, 2) := by decide +kernel
theorem dX9_init_128 : decode cX9_init 128 = .ok (.putfield 57, 3) := by decide +kernel
theorem dX9_init_131 : decode cX9_init 131 = .ok (.aload_n 0, 1) := by decide +kernel
theorem dX9_init_132 : decode cX9_init 132 = .ok (.iconst 4, 1) := by decide +kernel
theorem dX9_init_133 : decode cX9_init 133 = .ok (.newarray .int, 2) := by decide +kernel
theorem dX9_init_135 : decode cX9_init 135 = .ok (.putfield 60, 3) := by decide +kernel
theorem dX9_init_138 : decode cX9_init 138 = .ok (.aload_n 0, 1) := by decide +kernel
theorem dX9_init_139 : decode cX9_init 139 = .ok (.iconst 4, 1) := by decide +kernel
theorem dX9_init_140 : decode cX9_init 140 = .ok (.newarray .int, 2) := by decide +kernel
theorem dX9_init_142 : decode cX9_init 142 = .ok (.putfield 63, 3) := by decide +kernel
theorem dX9_init_145 : decode cX9_init 145 = .ok (.aload_n 0, 1) := by decide +kernel
theorem dX9_init_146 : decode cX9_init 146 = .ok (.iconst 4, 1) := by decide +kernel
theorem dX9_init_147 : decode cX9_init 147 = .ok (.newarray .int, 2) := by decide +kernel
theorem dX9_init_149 : decode cX9_init 149 = .ok (.putfield 66, 3) := by decide +kernel
theorem dX9_init_152 : decode cX9_init 152 = .ok (.return_, 1) := by decide +kernel
theorem dX9_isIn_0 : decode cX9_isIn 0 = .ok (.iload_n 0, 1) := by decide +kernel
theorem dX9_isIn_1 : decode cX9_isIn 1 = .ok (.iload_n 1, 1) := by decide +kernel
theorem dX9_isIn_2 : decode cX9_isIn 2 = .ok (.if_icmp .lt 12, 3) := by decide +kernel
theorem dX9_isIn_5 : decode cX9_isIn 5 = .ok (.iload_n 0, 1) := by decide +kernel
theorem dX9_isIn_6 : decode cX9_isIn 6 = .ok (.iload_n 2, 1) := by decide +kernel
theorem dX9_isIn_7 : decode cX9_isIn 7 = .ok (.if_icmp .gt 7, 3) := by decide +kernel
theorem dX9_isIn_10 : decode cX9_isIn 10 = .ok (.iconst 1, 1) := by decide +kernel
theorem dX9_isIn_11 : decode cX9_isIn 11 = .ok (.goto 4, 3) := by decide +kernel
theorem dX9_isIn_14 : decode cX9_isIn 14 = .ok (.iconst 0, 1) := by decide +kernel
theorem dX9_isIn_15 : decode cX9_isIn 15 = .ok (.ireturn, 1) := by decide +kernel
theorem dX9_isService_0 : decode cX9_isService 0 = .ok (.iload_n 0, 1) := by decide +kernel
theorem dX9_isService_1 : decode cX9_isService 1 = .ok (.iconst 0, 1) := by decide +kernel
theorem dX9_isService_2 : decode cX9_isService 2 = .ok (.iconst 5, 1) := by decide +kernel
theorem dX9_isService_3 : decode cX9_isService 3 = .ok (.invokestatic 69, 3) := by decide +kernel
theorem dX9_isService_6 : decode cX9_isService 6 = .ok (.ireturn, 1) := by decide +kernel
theorem dX9_isOwner_0 : decode cX9_isOwner 0 = .ok (.iload_n 0, 1) := by decide +kernel
theorem dX9_isOwner_1 : decode cX9_isOwner 1 = .ok (.iconst 0, 1) := by decide +kernel
theorem dX9_isOwner_2 : decode cX9_isOwner 2 = .ok (.iconst 3, 1) := by decide +kernel
theorem dX9_isOwner_3 : decode cX9_isOwner 3 = .ok (.invokestatic 69, 3) := by decide +kernel
theorem dX9_isOwner_6 : decode cX9_isOwner 6 = .ok (.ireturn, 1) := by decide +kernel
theorem dX9_owner_0 : decode cX9_owner 0 = .ok (.iload_n 1, 1) := by decide +kernel
theorem dX9_owner_1 : decode cX9_owner 1 = .ok (.invokestatic 73, 3) := by decide +kernel
theorem dX9_owner_4 : decode cX9_owner 4 = .ok (.ifCond .eq 10, 3) := by decide +kernel
theorem dX9_owner_7 : decode cX9_owner 7 = .ok (.iload_n 2, 1) := by decide +kernel
theorem dX9_owner_8 : decode cX9_owner 8 = .ok (.invokestatic 77, 3) := by decide +kernel
theorem dX9_owner_11 : decode cX9_owner 11 = .ok (.ifCond .ne 5, 3) := by decide +kernel
theorem dX9_owner_14 : decode cX9_owner 14 = .ok (.iconst 0, 1) := by decide +kernel
theorem dX9_owner_15 : decode cX9_owner 15 = .ok (.ireturn, 1) := by decide +kernel
theorem dX9_owner_16 : decode cX9_owner 16 = .ok (.aload_n 0, 1) := by decide +kernel
theorem dX9_owner_17 : decode cX9_owner 17 = .ok (.getfield 24, 3) := by decide +kernel
theorem dX9_owner_20 : decode cX9_owner 20 = .ok (.iload_n 1, 1) := by decide +kernel
theorem dX9_owner_21 : decode cX9_owner 21 = .ok (.iload_n 2, 1) := by decide +kernel
theorem dX9_owner_22 : decode cX9_owner 22 = .ok (.iastore, 1) := by decide +kernel
theorem dX9_owner_23 : decode cX9_owner 23 = .ok (.aload_n 0, 1) := by decide +kernel
theorem dX9_owner_24 : decode cX9_owner 24 = .ok (.getfield 20, 3) := by decide +kernel
theorem dX9_owner_27 : decode cX9_owner 27 = .ok (.iload_n 1, 1) := by decide +kernel
theorem dX9_owner_28 : decode cX9_owner 28 = .ok (.iconst 0, 1) := by decide +kernel
theorem dX9_owner_29 : decode cX9_owner 29 = .ok (.bastore, 1) := by decide +kernel
theorem dX9_owner_30 : decode cX9_owner 30 = .ok (.iconst 1, 1) := by decide +kernel
theorem dX9_owner_31 : decode cX9_owner 31 = .ok (.ireturn, 1) := by decide +kernel
theorem dX9_share_0 : decode cX9_share 0 = .ok (.iload_n 1, 1) := by decide +kernel
theorem dX9_share_1 : decode cX9_share 1 = .ok (.invokestatic 73, 3) := by decide +kernel
theorem dX9_share_4 : decode cX9_share 4 = .ok (.ifCond .eq 57, 3) := by decide +kernel
theorem dX9_share_7 : decode cX9_share 7 = .ok (.iload_n 2, 1) := by decide +kernel
theorem dX9_share_8 : decode cX9_share 8 = .ok (.iconst 0, 1) := by decide +kernel
theorem dX9_share_9 : decode cX9_share 9 = .ok (.bipush 9, 2) := by decide +kernel
theorem dX9_share_11 : decode cX9_share 11 = .ok (.invokestatic 69, 3) := by decide +kernel
theorem dX9_share_14 : decode cX9_share 14 = .ok (.ifCond .eq 47, 3) := by decide +kernel
theorem dX9_share_17 : decode cX9_share 17 = .ok (.iload_n 3, 1) := by decide +kernel
theorem dX9_share_18 : decode cX9_share 18 = .ok (.iconst 0, 1) := by decide +kernel
theorem dX9_share_19 : decode cX9_share 19 = .ok (.bipush 9, 2) := by decide +kernel
theorem dX9_share_21 : decode cX9_share 21 = .ok (.invokestatic 69, 3) := by decide +kernel
theorem dX9_share_24 : decode cX9_share 24 = .ok (.ifCond .eq 37, 3) := by decide +kernel
theorem dX9_share_27 : decode cX9_share 27 = .ok (.iload 4, 2) := by decide +kernel
theorem dX9_share_29 : decode cX9_share 29 = .ok (.iconst 0, 1) := by decide +kernel
theorem dX9_share_30 : decode cX9_share 30 = .ok (.bipush 9, 2) := by decide +kernel
theorem dX9_share_32 : decode cX9_share 32 = .ok (.invokestatic 69, 3) := by decide +kernel
theorem dX9_share_35 : decode cX9_share 35 = .ok (.ifCond .eq 26, 3) := by decide +kernel
theorem dX9_share_38 : decode cX9_share 38 = .ok (.iload 5, 2) := by decide +kernel
theorem dX9_share_40 : decode cX9_share 40 = .ok (.iconst 0, 1) := by decide +kernel
theorem dX9_share_41 : decode cX9_share 41 = .ok (.bipush 9, 2) := by decide +kernel
theorem dX9_share_43 : decode cX9_share 43 = .ok (.invokestatic 69, 3) := by decide +kernel
theorem dX9_share_46 : decode cX9_share 46 = .ok (.ifCond .eq 15, 3) := by decide +kernel
theorem dX9_share_49 : decode cX9_share 49 = .ok (.iload_n 2, 1) := by decide +kernel
theorem dX9_share_50 : decode cX9_share 50 = .ok (.iload_n 3, 1) := by decide +kernel
theorem dX9_share_51 : decode cX9_share 51 = .ok (.iadd, 1) := by decide +kernel
theorem dX9_share_52 : decode cX9_share 52 = .ok (.iload 4, 2) := by decide +kernel
theorem dX9_share_54 : decode cX9_share 54 = .ok (.iadd, 1) := by decide +kernel
theorem dX9_share_55 : decode cX9_share 55 = .ok (.iload 5, 2) := by decide +kernel
theorem dX9_share_57 : decode cX9_share 57 = .ok (.iadd, 1) := by decide +kernel
theorem dX9_share_58 : decode cX9_share 58 = .ok (.ifCond .ne 5, 3) := by decide +kernel
theorem dX9_share_61 : decode cX9_share 61 = .ok (.iconst 0, 1) := by decide +kernel
theorem dX9_share_62 : decode cX9_share 62 = .ok (.ireturn, 1) := by decide +kernel
theorem dX9_share_63 : decode cX9_share 63 = .ok (.aload_n 0, 1) := by decide +kernel
theorem dX9_share_64 : decode cX9_share 64 = .ok (.getfield 20, 3) := by decide +kernel
theorem dX9_share_67 : decode cX9_share 67 = .ok (.iload_n 1, 1) := by decide +kernel
theorem dX9_share_68 : decode cX9_share 68 = .ok (.iconst 1, 1) := by decide +kernel
theorem dX9_share_69 : decode cX9_share 69 = .ok (.bastore, 1) := by decide +kernel
theorem dX9_share_70 : decode cX9_share 70 = .ok (.aload_n 0, 1) := by decide +kernel
theorem dX9_share_71 : decode cX9_share 71 = .ok (.getfield 13, 3) := by decide +kernel
theorem dX9_share_74 : decode cX9_share 74 = .ok (.iconst 4, 1) := by decide +kernel
theorem dX9_share_75 : decode cX9_share 75 = .ok (.iload_n 1, 1) := by decide +kernel
theorem dX9_share_76 : decode cX9_share 76 = .ok (.imul, 1) := by decide +kernel
theorem dX9_share_77 : decode cX9_share 77 = .ok (.iload_n 2, 1) := by decide +kernel
theorem dX9_share_78 : decode cX9_share 78 = .ok (.iastore, 1) := by decide +kernel
theorem dX9_share_79 : decode cX9_share 79 = .ok (.aload_n 0, 1) := by decide +kernel
theorem dX9_share_80 : decode cX9_share 80 = .ok (.getfield 13, 3) := by decide +kernel
theorem dX9_share_83 : decode cX9_share 83 = .ok (.iconst 4, 1) := by decide +kernel
theorem dX9_share_84 : decode cX9_share 84 = .ok (.iload_n 1, 1) := by decide +kernel
theorem dX9_share_85 : decode cX9_share 85 = .ok (.imul, 1) := by decide +kernel
theorem dX9_share_86 : decode cX9_share 86 = .ok (.iconst 1, 1) := by decide +kernel
theorem dX9_share_87 : decode cX9_share 87 = .ok (.iadd, 1) := by decide +kernel
theorem dX9_share_88 : decode cX9_share 88 = .ok (.iload_n 3, 1) := by decide +kernel
theorem dX9_share_89 : decode cX9_share 89 = .ok (.iastore, 1) := by decide +kernel
theorem dX9_share_90 : decode cX9_share 90 = .ok (.aload_n 0, 1) := by decide +kernel
theorem dX9_share_91 : decode cX9_share 91 = .ok (.getfield 13, 3) := by decide +kernel
theorem dX9_share_94 : decode cX9_share 94 = .ok (.iconst 4, 1) := by decide +kernel
theorem dX9_share_95 : decode cX9_share 95 = .ok (.iload_n 1, 1) := by decide +kernel
theorem dX9_share_96 : decode cX9_share 96 = .ok (.imul, 1) := by decide +kernel
theorem dX9_share_97 : decode cX9_share 97 = .ok (.iconst 2, 1) := by decide +kernel
theorem dX9_share_98 : decode cX9_share 98 = .ok (.iadd, 1) := by decide +kernel
theorem dX9_share_99 : decode cX9_share 99 = .ok (.iload 4, 2) := by decide +kernel
theorem dX9_share_101 : decode cX9_share 101 = .ok (.iastore, 1) := by decide +kernel
theorem dX9_share_102 : decode cX9_share 102 = .ok (.aload_n 0, 1) := by decide +kernel
theorem dX9_share_103 : decode cX9_share 103 = .ok (.getfield 13, 3) := by decide +kernel
theorem dX9_share_106 : decode cX9_share 106 = .ok (.iconst 4, 1) := by decide +kernel
theorem dX9_share_107 : decode cX9_share 107 = .ok (.iload_n 1, 1) := by decide +kernel
theorem dX9_share_108 : decode cX9_share 108 = .ok (.imul, 1) := by decide +kernel
theorem dX9_share_109 : decode cX9_share 109 = .ok (.iconst 3, 1) := by decide +kernel
theorem dX9_share_110 : decode cX9_share 110 = .ok (.iadd, 1) := by decide +kernel
theorem dX9_share_111 : decode cX9_share 111 = .ok (.iload 5, 2) := by decide +kernel
theorem dX9_share_113 : decode cX9_share 113 = .ok (.iastore, 1) := by decide +kernel
theorem dX9_share_114 : decode cX9_share 114 = .ok (.iconst 1, 1) := by decide +kernel
theorem dX9_share_115 : decode cX9_share 115 = .ok (.ireturn, 1) := by decide +kernel
theorem dX9_begin_0 : decode cX9_begin 0 = .ok (.iload_n 1, 1) := by decide +kernel
theorem dX9_begin_1 : decode cX9_begin 1 = .ok (.invokestatic 73, 3) := by decide +kernel
theorem dX9_begin_4 : decode cX9_begin 4 = .ok (.ifCond .eq 23, 3) := by decide +kernel
theorem dX9_begin_7 : decode cX9_begin 7 = .ok (.iload_n 2, 1) := by decide +kernel
theorem dX9_begin_8 : decode cX9_begin 8 = .ok (.iconst 1, 1) := by decide +kernel
theorem dX9_begin_9 : decode cX9_begin 9 = .ok (.sipush 999, 3) := by decide +kernel
theorem dX9_begin_12 : decode cX9_begin 12 = .ok (.invokestatic 69, 3) := by decide +kernel
theorem dX9_begin_15 : decode cX9_begin 15 = .ok (.ifCond .eq 12, 3) := by decide +kernel
theorem dX9_begin_18 : decode cX9_begin 18 = .ok (.aload_n 0, 1) := by decide +kernel
theorem dX9_begin_19 : decode cX9_begin 19 = .ok (.getfield 80, 3) := by decide +kernel
theorem dX9_begin_22 : decode cX9_begin 22 = .ok (.bipush 40, 2) := by decide +kernel
theorem dX9_begin_24 : decode cX9_begin 24 = .ok (.if_icmp .ne 5, 3) := by decide +kernel
theorem dX9_begin_27 : decode cX9_begin 27 = .ok (.iconst (-1), 1) := by decide +kernel
theorem dX9_begin_28 : decode cX9_begin 28 = .ok (.ireturn, 1) := by decide +kernel
theorem dX9_begin_29 : decode cX9_begin 29 = .ok (.aload_n 0, 1) := by decide +kernel
theorem dX9_begin_30 : decode cX9_begin 30 = .ok (.getfield 27, 3) := by decide +kernel
theorem dX9_begin_33 : decode cX9_begin 33 = .ok (.aload_n 0, 1) := by decide +kernel
theorem dX9_begin_34 : decode cX9_begin 34 = .ok (.getfield 80, 3) := by decide +kernel
theorem dX9_begin_37 : decode cX9_begin 37 = .ok (.iload_n 1, 1) := by decide +kernel
theorem dX9_begin_38 : decode cX9_begin 38 = .ok (.iastore, 1) := by decide +kernel
theorem dX9_begin_39 : decode cX9_begin 39 = .ok (.aload_n 0, 1) := by decide +kernel
theorem dX9_begin_40 : decode cX9_begin 40 = .ok (.getfield 30, 3) := by decide +kernel
theorem dX9_begin_43 : decode cX9_begin 43 = .ok (.aload_n 0, 1) := by decide +kernel
theorem dX9_begin_44 : decode cX9_begin 44 = .ok (.getfield 80, 3) := by decide +kernel
theorem dX9_begin_47 : decode cX9_begin 47 = .ok (.iload_n 2, 1) := by decide +kernel
theorem dX9_begin_48 : decode cX9_begin 48 = .ok (.iastore, 1) := by decide +kernel
theorem dX9_begin_49 : decode cX9_begin 49 = .ok (.aload_n 0, 1) := by decide +kernel
theorem dX9_begin_50 : decode cX9_begin 50 = .ok (.getfield 33, 3) := by decide +kernel
theorem dX9_begin_53 : decode cX9_begin 53 = .ok (.aload_n 0, 1) := by decide +kernel
theorem dX9_begin_54 : decode cX9_begin 54 = .ok (.getfield 80, 3) := by decide +kernel
theorem dX9_begin_57 : decode cX9_begin 57 = .ok (.aload_n 0, 1) := by decide +kernel
theorem dX9_begin_58 : decode cX9_begin 58 = .ok (.getfield 83, 3) := by decide +kernel
theorem dX9_begin_61 : decode cX9_begin 61 = .ok (.iastore, 1) := by decide +kernel
theorem dX9_begin_62 : decode cX9_begin 62 = .ok (.aload_n 0, 1) := by decide +kernel
theorem dX9_begin_63 : decode cX9_begin 63 = .ok (.getfield 36, 3) := by decide +kernel
theorem dX9_begin_66 : decode cX9_begin 66 = .ok (.aload_n 0, 1) := by decide +kernel
theorem dX9_begin_67 : decode cX9_begin 67 = .ok (.getfield 80, 3) := by decide +kernel
theorem dX9_begin_70 : decode cX9_begin 70 = .ok (.iconst (-1), 1) := by decide +kernel
theorem dX9_begin_71 : decode cX9_begin 71 = .ok (.iastore, 1) := by decide +kernel
theorem dX9_begin_72 : decode cX9_begin 72 = .ok (.aload_n 0, 1) := by decide +kernel
theorem dX9_begin_73 : decode cX9_begin 73 = .ok (.dup, 1) := by decide +kernel
theorem dX9_begin_74 : decode cX9_begin 74 = .ok (.getfield 80, 3) := by decide +kernel
theorem dX9_begin_77 : decode cX9_begin 77 = .ok (.iconst 1, 1) := by decide +kernel
theorem dX9_begin_78 : decode cX9_begin 78 = .ok (.iadd, 1) := by decide +kernel
theorem dX9_begin_79 : decode cX9_begin 79 = .ok (.putfield 80, 3) := by decide +kernel
theorem dX9_begin_82 : decode cX9_begin 82 = .ok (.aload_n 0, 1) := by decide +kernel
theorem dX9_begin_83 : decode cX9_begin 83 = .ok (.getfield 80, 3) := by decide +kernel
theorem dX9_begin_86 : decode cX9_begin 86 = .ok (.iconst 1, 1) := by decide +kernel
theorem dX9_begin_87 : decode cX9_begin 87 = .ok (.isub, 1) := by decide +kernel
theorem dX9_begin_88 : decode cX9_begin 88 = .ok (.ireturn, 1) := by decide +kernel
theorem dX9_isMachine_0 : decode cX9_isMachine 0 = .ok (.iload_n 1, 1) := by decide +kernel
theorem dX9_isMachine_1 : decode cX9_isMachine 1 = .ok (.iconst 0, 1) := by decide +kernel
theorem dX9_isMachine_2 : decode cX9_isMachine 2 = .ok (.aload_n 0, 1) := by decide +kernel
theorem dX9_isMachine_3 : decode cX9_isMachine 3 = .ok (.getfield 80, 3) := by decide +kernel
theorem dX9_isMachine_6 : decode cX9_isMachine 6 = .ok (.iconst 1, 1) := by decide +kernel
theorem dX9_isMachine_7 : decode cX9_isMachine 7 = .ok (.isub, 1) := by decide +kernel
theorem dX9_isMachine_8 : decode cX9_isMachine 8 = .ok (.invokestatic 69, 3) := by decide +kernel
theorem dX9_isMachine_11 : decode cX9_isMachine 11 = .ok (.ireturn, 1) := by decide +kernel
theorem dX9_stop_0 : decode cX9_stop 0 = .ok (.aload_n 0, 1) := by decide +kernel
theorem dX9_stop_1 : decode cX9_stop 1 = .ok (.iload_n 1, 1) := by decide +kernel
theorem dX9_stop_2 : decode cX9_stop 2 = .ok (.invokevirtual 86, 3) := by decide +kernel
theorem dX9_stop_5 : decode cX9_stop 5 = .ok (.ifCond .eq 13, 3) := by decide +kernel
theorem dX9_stop_8 : decode cX9_stop 8 = .ok (.aload_n 0, 1) := by decide +kernel
theorem dX9_stop_9 : decode cX9_stop 9 = .ok (.getfield 36, 3) := by decide +kernel
theorem dX9_stop_12 : decode cX9_stop 12 = .ok (.iload_n 1, 1) := by decide +kernel
theorem dX9_stop_13 : decode cX9_stop 13 = .ok (.iaload, 1) := by decide +kernel
theorem dX9_stop_14 : decode cX9_stop 14 = .ok (.iconst (-1), 1) := by decide +kernel
theorem dX9_stop_15 : decode cX9_stop 15 = .ok (.if_icmp .eq 5, 3) := by decide +kernel
theorem dX9_stop_18 : decode cX9_stop 18 = .ok (.iconst 0, 1) := by decide +kernel
theorem dX9_stop_19 : decode cX9_stop 19 = .ok (.ireturn, 1) := by decide +kernel
theorem dX9_stop_20 : decode cX9_stop 20 = .ok (.aload_n 0, 1) := by decide +kernel
theorem dX9_stop_21 : decode cX9_stop 21 = .ok (.getfield 36, 3) := by decide +kernel
theorem dX9_stop_24 : decode cX9_stop 24 = .ok (.iload_n 1, 1) := by decide +kernel
theorem dX9_stop_25 : decode cX9_stop 25 = .ok (.aload_n 0, 1) := by decide +kernel
theorem dX9_stop_26 : decode cX9_stop 26 = .ok (.getfield 83, 3) := by decide +kernel
theorem dX9_stop_29 : decode cX9_stop 29 = .ok (.iastore, 1) := by decide +kernel
theorem dX9_stop_30 : decode cX9_stop 30 = .ok (.iconst 1, 1) := by decide +kernel
theorem dX9_stop_31 : decode cX9_stop 31 = .ok (.ireturn, 1) := by decide +kernel
theorem dX9_use_0 : decode cX9_use 0 = .ok (.iload_n 1, 1) := by decide +kernel
theorem dX9_use_1 : decode cX9_use 1 = .ok (.invokestatic 73, 3) := by decide +kernel
theorem dX9_use_4 : decode cX9_use 4 = .ok (.ifCond .eq 36, 3) := by decide +kernel
theorem dX9_use_7 : decode cX9_use 7 = .ok (.iload_n 2, 1) := by decide +kernel
theorem dX9_use_8 : decode cX9_use 8 = .ok (.iconst 0, 1) := by decide +kernel
theorem dX9_use_9 : decode cX9_use 9 = .ok (.sipush 9999, 3) := by decide +kernel
theorem dX9_use_12 : decode cX9_use 12 = .ok (.invokestatic 69, 3) := by decide +kernel
theorem dX9_use_15 : decode cX9_use 15 = .ok (.ifCond .eq 25, 3) := by decide +kernel
theorem dX9_use_18 : decode cX9_use 18 = .ok (.aload_n 0, 1) := by decide +kernel
theorem dX9_use_19 : decode cX9_use 19 = .ok (.getfield 17, 3) := by decide +kernel
theorem dX9_use_22 : decode cX9_use 22 = .ok (.sipush 2000, 3) := by decide +kernel
theorem dX9_use_25 : decode cX9_use 25 = .ok (.iload_n 1, 1) := by decide +kernel
theorem dX9_use_26 : decode cX9_use 26 = .ok (.imul, 1) := by decide +kernel
theorem dX9_use_27 : decode cX9_use 27 = .ok (.aload_n 0, 1) := by decide +kernel
theorem dX9_use_28 : decode cX9_use 28 = .ok (.getfield 83, 3) := by decide +kernel
theorem dX9_use_31 : decode cX9_use 31 = .ok (.iadd, 1) := by decide +kernel
theorem dX9_use_32 : decode cX9_use 32 = .ok (.iaload, 1) := by decide +kernel
theorem dX9_use_33 : decode cX9_use 33 = .ok (.iload_n 2, 1) := by decide +kernel
theorem dX9_use_34 : decode cX9_use 34 = .ok (.iadd, 1) := by decide +kernel
theorem dX9_use_35 : decode cX9_use 35 = .ok (.ldc 89, 2) := by decide +kernel
theorem dX9_use_37 : decode cX9_use 37 = .ok (.if_icmp .le 5, 3) := by decide +kernel
theorem dX9_use_40 : decode cX9_use 40 = .ok (.iconst 0, 1) := by decide +kernel
theorem dX9_use_41 : decode cX9_use 41 = .ok (.ireturn, 1) := by decide +kernel
theorem dX9_use_42 : decode cX9_use 42 = .ok (.aload_n 0, 1) := by decide +kernel
theorem dX9_use_43 : decode cX9_use 43 = .ok (.getfield 17, 3) := by decide +kernel
theorem dX9_use_46 : decode cX9_use 46 = .ok (.sipush 2000, 3) := by decide +kernel
theorem dX9_use_49 : decode cX9_use 49 = .ok (.iload_n 1, 1) := by decide +kernel
theorem dX9_use_50 : decode cX9_use 50 = .ok (.imul, 1) := by decide +kernel
theorem dX9_use_51 : decode cX9_use 51 = .ok (.aload_n 0, 1) := by decide +kernel
theorem dX9_use_52 : decode cX9_use 52 = .ok (.getfield 83, 3) := by decide +kernel
theorem dX9_use_55 : decode cX9_use 55 = .ok (.iadd, 1) := by decide +kernel
theorem dX9_use_56 : decode cX9_use 56 = .ok (.dup2, 1) := by decide +kernel
theorem dX9_use_57 : decode cX9_use 57 = .ok (.iaload, 1) := by decide +kernel
theorem dX9_use_58 : decode cX9_use 58 = .ok (.iload_n 2, 1) := by decide +kernel
theorem dX9_use_59 : decode cX9_use 59 = .ok (.iadd, 1) := by decide +kernel
theorem dX9_use_60 : decode cX9_use 60 = .ok (.iastore, 1) := by decide +kernel
theorem dX9_use_61 : decode cX9_use 61 = .ok (.iconst 1, 1) := by decide +kernel
theorem dX9_use_62 : decode cX9_use 62 = .ok (.ireturn, 1) := by decide +kernel
theorem dX9_floor_0 : decode cX9_floor 0 = .ok (.iload_n 1, 1) := by decide +kernel
theorem dX9_floor_1 : decode cX9_floor 1 = .ok (.iconst 0, 1) := by decide +kernel
theorem dX9_floor_2 : decode cX9_floor 2 = .ok (.sipush 9999, 3) := by decide +kernel
theorem dX9_floor_5 : decode cX9_floor 5 = .ok (.invokestatic 69, 3) := by decide +kernel
theorem dX9_floor_8 : decode cX9_floor 8 = .ok (.ifCond .ne 5, 3) := by decide +kernel
theorem dX9_floor_11 : decode cX9_floor 11 = .ok (.iconst 0, 1) := by decide +kernel
theorem dX9_floor_12 : decode cX9_floor 12 = .ok (.ireturn, 1) := by decide +kernel
theorem dX9_floor_13 : decode cX9_floor 13 = .ok (.aload_n 0, 1) := by decide +kernel
theorem dX9_floor_14 : decode cX9_floor 14 = .ok (.iload_n 1, 1) := by decide +kernel
theorem dX9_floor_15 : decode cX9_floor 15 = .ok (.putfield 7, 3) := by decide +kernel
theorem dX9_floor_18 : decode cX9_floor 18 = .ok (.iconst 1, 1) := by decide +kernel
theorem dX9_floor_19 : decode cX9_floor 19 = .ok (.ireturn, 1) := by decide +kernel
theorem dX9_runs_0 : decode cX9_runs 0 = .ok (.aload_n 0, 1) := by decide +kernel
theorem dX9_runs_1 : decode cX9_runs 1 = .ok (.getfield 33, 3) := by decide +kernel
theorem dX9_runs_4 : decode cX9_runs 4 = .ok (.iload_n 1, 1) := by decide +kernel
theorem dX9_runs_5 : decode cX9_runs 5 = .ok (.iaload, 1) := by decide +kernel
theorem dX9_runs_6 : decode cX9_runs 6 = .ok (.iload_n 2, 1) := by decide +kernel
theorem dX9_runs_7 : decode cX9_runs 7 = .ok (.if_icmp .gt 27, 3) := by decide +kernel
theorem dX9_runs_10 : decode cX9_runs 10 = .ok (.aload_n 0, 1) := by decide +kernel
theorem dX9_runs_11 : decode cX9_runs 11 = .ok (.getfield 36, 3) := by decide +kernel
theorem dX9_runs_14 : decode cX9_runs 14 = .ok (.iload_n 1, 1) := by decide +kernel
theorem dX9_runs_15 : decode cX9_runs 15 = .ok (.iaload, 1) := by decide +kernel
theorem dX9_runs_16 : decode cX9_runs 16 = .ok (.iconst (-1), 1) := by decide +kernel
theorem dX9_runs_17 : decode cX9_runs 17 = .ok (.if_icmp .eq 13, 3) := by decide +kernel
theorem dX9_runs_20 : decode cX9_runs 20 = .ok (.aload_n 0, 1) := by decide +kernel
theorem dX9_runs_21 : decode cX9_runs 21 = .ok (.getfield 36, 3) := by decide +kernel
theorem dX9_runs_24 : decode cX9_runs 24 = .ok (.iload_n 1, 1) := by decide +kernel
theorem dX9_runs_25 : decode cX9_runs 25 = .ok (.iaload, 1) := by decide +kernel
theorem dX9_runs_26 : decode cX9_runs 26 = .ok (.iload_n 2, 1) := by decide +kernel
theorem dX9_runs_27 : decode cX9_runs 27 = .ok (.if_icmp .le 7, 3) := by decide +kernel
theorem dX9_runs_30 : decode cX9_runs 30 = .ok (.iconst 1, 1) := by decide +kernel
theorem dX9_runs_31 : decode cX9_runs 31 = .ok (.goto 4, 3) := by decide +kernel
theorem dX9_runs_34 : decode cX9_runs 34 = .ok (.iconst 0, 1) := by decide +kernel
theorem dX9_runs_35 : decode cX9_runs 35 = .ok (.ireturn, 1) := by decide +kernel
theorem dX9_costOf_0 : decode cX9_costOf 0 = .ok (.aload_n 0, 1) := by decide +kernel
theorem dX9_costOf_1 : decode cX9_costOf 1 = .ok (.getfield 17, 3) := by decide +kernel
theorem dX9_costOf_4 : decode cX9_costOf 4 = .ok (.sipush 2000, 3) := by decide +kernel
theorem dX9_costOf_7 : decode cX9_costOf 7 = .ok (.iload_n 1, 1) := by decide +kernel
theorem dX9_costOf_8 : decode cX9_costOf 8 = .ok (.imul, 1) := by decide +kernel
theorem dX9_costOf_9 : decode cX9_costOf 9 = .ok (.iload_n 2, 1) := by decide +kernel
theorem dX9_costOf_10 : decode cX9_costOf 10 = .ok (.iadd, 1) := by decide +kernel
theorem dX9_costOf_11 : decode cX9_costOf 11 = .ok (.iaload, 1) := by decide +kernel
theorem dX9_costOf_12 : decode cX9_costOf 12 = .ok (.istore_n 3, 1) := by decide +kernel
theorem dX9_costOf_13 : decode cX9_costOf 13 = .ok (.iconst 0, 1) := by decide +kernel
theorem dX9_costOf_14 : decode cX9_costOf 14 = .ok (.istore 4, 2) := by decide +kernel
theorem dX9_costOf_16 : decode cX9_costOf 16 = .ok (.iload 4, 2) := by decide +kernel
theorem dX9_costOf_18 : decode cX9_costOf 18 = .ok (.aload_n 0, 1) := by decide +kernel
theorem dX9_costOf_19 : decode cX9_costOf 19 = .ok (.getfield 80, 3) := by decide +kernel
theorem dX9_costOf_22 : decode cX9_costOf 22 = .ok (.if_icmp .ge 44, 3) := by decide +kernel
theorem dX9_costOf_25 : decode cX9_costOf 25 = .ok (.iload_n 3, 1) := by decide +kernel
theorem dX9_costOf_26 : decode cX9_costOf 26 = .ok (.aload_n 0, 1) := by decide +kernel
theorem dX9_costOf_27 : decode cX9_costOf 27 = .ok (.getfield 27, 3) := by decide +kernel
theorem dX9_costOf_30 : decode cX9_costOf 30 = .ok (.iload 4, 2) := by decide +kernel
theorem dX9_costOf_32 : decode cX9_costOf 32 = .ok (.iaload, 1) := by decide +kernel
theorem dX9_costOf_33 : decode cX9_costOf 33 = .ok (.iload_n 1, 1) := by decide +kernel
theorem dX9_costOf_34 : decode cX9_costOf 34 = .ok (.if_icmp .ne 23, 3) := by decide +kernel
theorem dX9_costOf_37 : decode cX9_costOf 37 = .ok (.aload_n 0, 1) := by decide +kernel
theorem dX9_costOf_38 : decode cX9_costOf 38 = .ok (.iload 4, 2) := by decide +kernel
theorem dX9_costOf_40 : decode cX9_costOf 40 = .ok (.iload_n 2, 1) := by decide +kernel
theorem dX9_costOf_41 : decode cX9_costOf 41 = .ok (.invokevirtual 90, 3) := by decide +kernel
theorem dX9_costOf_44 : decode cX9_costOf 44 = .ok (.ifCond .eq 13, 3) := by decide +kernel
theorem dX9_costOf_47 : decode cX9_costOf 47 = .ok (.aload_n 0, 1) := by decide +kernel
theorem dX9_costOf_48 : decode cX9_costOf 48 = .ok (.getfield 30, 3) := by decide +kernel
theorem dX9_costOf_51 : decode cX9_costOf 51 = .ok (.iload 4, 2) := by decide +kernel
theorem dX9_costOf_53 : decode cX9_costOf 53 = .ok (.iaload, 1) := by decide +kernel
theorem dX9_costOf_54 : decode cX9_costOf 54 = .ok (.goto 4, 3) := by decide +kernel
theorem dX9_costOf_57 : decode cX9_costOf 57 = .ok (.iconst 0, 1) := by decide +kernel
theorem dX9_costOf_58 : decode cX9_costOf 58 = .ok (.iadd, 1) := by decide +kernel
theorem dX9_costOf_59 : decode cX9_costOf 59 = .ok (.istore_n 3, 1) := by decide +kernel
theorem dX9_costOf_60 : decode cX9_costOf 60 = .ok (.iinc 4 1, 3) := by decide +kernel
theorem dX9_costOf_63 : decode cX9_costOf 63 = .ok (.goto (-47), 3) := by decide +kernel
theorem dX9_costOf_66 : decode cX9_costOf 66 = .ok (.iload_n 3, 1) := by decide +kernel
theorem dX9_costOf_67 : decode cX9_costOf 67 = .ok (.ireturn, 1) := by decide +kernel
theorem dX9_isHour_0 : decode cX9_isHour 0 = .ok (.iload_n 1, 1) := by decide +kernel
theorem dX9_isHour_1 : decode cX9_isHour 1 = .ok (.iconst 0, 1) := by decide +kernel
theorem dX9_isHour_2 : decode cX9_isHour 2 = .ok (.aload_n 0, 1) := by decide +kernel
theorem dX9_isHour_3 : decode cX9_isHour 3 = .ok (.getfield 83, 3) := by decide +kernel
theorem dX9_isHour_6 : decode cX9_isHour 6 = .ok (.invokestatic 69, 3) := by decide +kernel
theorem dX9_isHour_9 : decode cX9_isHour 9 = .ok (.ireturn, 1) := by decide +kernel
theorem dX9_cost_0 : decode cX9_cost 0 = .ok (.iload_n 1, 1) := by decide +kernel
theorem dX9_cost_1 : decode cX9_cost 1 = .ok (.invokestatic 73, 3) := by decide +kernel
theorem dX9_cost_4 : decode cX9_cost 4 = .ok (.ifCond .eq 20, 3) := by decide +kernel
theorem dX9_cost_7 : decode cX9_cost 7 = .ok (.aload_n 0, 1) := by decide +kernel
theorem dX9_cost_8 : decode cX9_cost 8 = .ok (.iload_n 2, 1) := by decide +kernel
theorem dX9_cost_9 : decode cX9_cost 9 = .ok (.invokevirtual 94, 3) := by decide +kernel
theorem dX9_cost_12 : decode cX9_cost 12 = .ok (.ifCond .eq 12, 3) := by decide +kernel
theorem dX9_cost_15 : decode cX9_cost 15 = .ok (.aload_n 0, 1) := by decide +kernel
theorem dX9_cost_16 : decode cX9_cost 16 = .ok (.iload_n 1, 1) := by decide +kernel
theorem dX9_cost_17 : decode cX9_cost 17 = .ok (.iload_n 2, 1) := by decide +kernel
theorem dX9_cost_18 : decode cX9_cost 18 = .ok (.invokevirtual 97, 3) := by decide +kernel
theorem dX9_cost_21 : decode cX9_cost 21 = .ok (.goto 4, 3) := by decide +kernel
theorem dX9_cost_24 : decode cX9_cost 24 = .ok (.iconst (-1), 1) := by decide +kernel
theorem dX9_cost_25 : decode cX9_cost 25 = .ok (.ireturn, 1) := by decide +kernel
theorem dX9_median_0 : decode cX9_median 0 = .ok (.iconst 1, 1) := by decide +kernel
theorem dX9_median_1 : decode cX9_median 1 = .ok (.istore_n 2, 1) := by decide +kernel
theorem dX9_median_2 : decode cX9_median 2 = .ok (.iload_n 2, 1) := by decide +kernel
theorem dX9_median_3 : decode cX9_median 3 = .ok (.iload_n 1, 1) := by decide +kernel
theorem dX9_median_4 : decode cX9_median 4 = .ok (.if_icmp .ge 67, 3) := by decide +kernel
theorem dX9_median_7 : decode cX9_median 7 = .ok (.aload_n 0, 1) := by decide +kernel
theorem dX9_median_8 : decode cX9_median 8 = .ok (.getfield 39, 3) := by decide +kernel
theorem dX9_median_11 : decode cX9_median 11 = .ok (.iload_n 2, 1) := by decide +kernel
theorem dX9_median_12 : decode cX9_median 12 = .ok (.iaload, 1) := by decide +kernel
theorem dX9_median_13 : decode cX9_median 13 = .ok (.istore_n 3, 1) := by decide +kernel
theorem dX9_median_14 : decode cX9_median 14 = .ok (.iload_n 2, 1) := by decide +kernel
theorem dX9_median_15 : decode cX9_median 15 = .ok (.istore 4, 2) := by decide +kernel
theorem dX9_median_17 : decode cX9_median 17 = .ok (.iload 4, 2) := by decide +kernel
theorem dX9_median_19 : decode cX9_median 19 = .ok (.ifCond .le 38, 3) := by decide +kernel
theorem dX9_median_22 : decode cX9_median 22 = .ok (.aload_n 0, 1) := by decide +kernel
theorem dX9_median_23 : decode cX9_median 23 = .ok (.getfield 39, 3) := by decide +kernel
theorem dX9_median_26 : decode cX9_median 26 = .ok (.iload 4, 2) := by decide +kernel
theorem dX9_median_28 : decode cX9_median 28 = .ok (.iconst 1, 1) := by decide +kernel
theorem dX9_median_29 : decode cX9_median 29 = .ok (.isub, 1) := by decide +kernel
theorem dX9_median_30 : decode cX9_median 30 = .ok (.iaload, 1) := by decide +kernel
theorem dX9_median_31 : decode cX9_median 31 = .ok (.iload_n 3, 1) := by decide +kernel
theorem dX9_median_32 : decode cX9_median 32 = .ok (.if_icmp .le 25, 3) := by decide +kernel
theorem dX9_median_35 : decode cX9_median 35 = .ok (.aload_n 0, 1) := by decide +kernel
theorem dX9_median_36 : decode cX9_median 36 = .ok (.getfield 39, 3) := by decide +kernel
theorem dX9_median_39 : decode cX9_median 39 = .ok (.iload 4, 2) := by decide +kernel
theorem dX9_median_41 : decode cX9_median 41 = .ok (.aload_n 0, 1) := by decide +kernel
theorem dX9_median_42 : decode cX9_median 42 = .ok (.getfield 39, 3) := by decide +kernel
theorem dX9_median_45 : decode cX9_median 45 = .ok (.iload 4, 2) := by decide +kernel
theorem dX9_median_47 : decode cX9_median 47 = .ok (.iconst 1, 1) := by decide +kernel
theorem dX9_median_48 : decode cX9_median 48 = .ok (.isub, 1) := by decide +kernel
theorem dX9_median_49 : decode cX9_median 49 = .ok (.iaload, 1) := by decide +kernel
theorem dX9_median_50 : decode cX9_median 50 = .ok (.iastore, 1) := by decide +kernel
theorem dX9_median_51 : decode cX9_median 51 = .ok (.iinc 4 (-1), 3) := by decide +kernel
theorem dX9_median_54 : decode cX9_median 54 = .ok (.goto (-37), 3) := by decide +kernel
theorem dX9_median_57 : decode cX9_median 57 = .ok (.aload_n 0, 1) := by decide +kernel
theorem dX9_median_58 : decode cX9_median 58 = .ok (.getfield 39, 3) := by decide +kernel
theorem dX9_median_61 : decode cX9_median 61 = .ok (.iload 4, 2) := by decide +kernel
theorem dX9_median_63 : decode cX9_median 63 = .ok (.iload_n 3, 1) := by decide +kernel
theorem dX9_median_64 : decode cX9_median 64 = .ok (.iastore, 1) := by decide +kernel
theorem dX9_median_65 : decode cX9_median 65 = .ok (.iinc 2 1, 3) := by decide +kernel
theorem dX9_median_68 : decode cX9_median 68 = .ok (.goto (-66), 3) := by decide +kernel
theorem dX9_median_71 : decode cX9_median 71 = .ok (.aload_n 0, 1) := by decide +kernel
theorem dX9_median_72 : decode cX9_median 72 = .ok (.getfield 39, 3) := by decide +kernel
theorem dX9_median_75 : decode cX9_median 75 = .ok (.iload_n 1, 1) := by decide +kernel
theorem dX9_median_76 : decode cX9_median 76 = .ok (.iconst 1, 1) := by decide +kernel
theorem dX9_median_77 : decode cX9_median 77 = .ok (.isub, 1) := by decide +kernel
theorem dX9_median_78 : decode cX9_median 78 = .ok (.iconst 2, 1) := by decide +kernel
theorem dX9_median_79 : decode cX9_median 79 = .ok (.idiv, 1) := by decide +kernel
theorem dX9_median_80 : decode cX9_median 80 = .ok (.iaload, 1) := by decide +kernel
theorem dX9_median_81 : decode cX9_median 81 = .ok (.ireturn, 1) := by decide +kernel
theorem dX9_hasSeason_0 : decode cX9_hasSeason 0 = .ok (.iconst 0, 1) := by decide +kernel
theorem dX9_hasSeason_1 : decode cX9_hasSeason 1 = .ok (.istore_n 3, 1) := by decide +kernel
theorem dX9_hasSeason_2 : decode cX9_hasSeason 2 = .ok (.iconst 1, 1) := by decide +kernel
theorem dX9_hasSeason_3 : decode cX9_hasSeason 3 = .ok (.istore 4, 2) := by decide +kernel
theorem dX9_hasSeason_5 : decode cX9_hasSeason 5 = .ok (.iload 4, 2) := by decide +kernel
theorem dX9_hasSeason_7 : decode cX9_hasSeason 7 = .ok (.bipush 8, 2) := by decide +kernel
theorem dX9_hasSeason_9 : decode cX9_hasSeason 9 = .ok (.if_icmp .ge 55, 3) := by decide +kernel
theorem dX9_hasSeason_12 : decode cX9_hasSeason 12 = .ok (.iload_n 2, 1) := by decide +kernel
theorem dX9_hasSeason_13 : decode cX9_hasSeason 13 = .ok (.bipush 24, 2) := by decide +kernel
theorem dX9_hasSeason_15 : decode cX9_hasSeason 15 = .ok (.iload 4, 2) := by decide +kernel
theorem dX9_hasSeason_17 : decode cX9_hasSeason 17 = .ok (.imul, 1) := by decide +kernel
theorem dX9_hasSeason_18 : decode cX9_hasSeason 18 = .ok (.isub, 1) := by decide +kernel
theorem dX9_hasSeason_19 : decode cX9_hasSeason 19 = .ok (.ifCond .ge 6, 3) := by decide +kernel
theorem dX9_hasSeason_22 : decode cX9_hasSeason 22 = .ok (.goto 36, 3) := by decide +kernel
theorem dX9_hasSeason_25 : decode cX9_hasSeason 25 = .ok (.aload_n 0, 1) := by decide +kernel
theorem dX9_hasSeason_26 : decode cX9_hasSeason 26 = .ok (.getfield 42, 3) := by decide +kernel
theorem dX9_hasSeason_29 : decode cX9_hasSeason 29 = .ok (.iload_n 3, 1) := by decide +kernel
theorem dX9_hasSeason_30 : decode cX9_hasSeason 30 = .ok (.aload_n 0, 1) := by decide +kernel
theorem dX9_hasSeason_31 : decode cX9_hasSeason 31 = .ok (.iload_n 1, 1) := by decide +kernel
theorem dX9_hasSeason_32 : decode cX9_hasSeason 32 = .ok (.iload_n 2, 1) := by decide +kernel
theorem dX9_hasSeason_33 : decode cX9_hasSeason 33 = .ok (.bipush 24, 2) := by decide +kernel
theorem dX9_hasSeason_35 : decode cX9_hasSeason 35 = .ok (.iload 4, 2) := by decide +kernel
theorem dX9_hasSeason_37 : decode cX9_hasSeason 37 = .ok (.imul, 1) := by decide +kernel
theorem dX9_hasSeason_38 : decode cX9_hasSeason 38 = .ok (.isub, 1) := by decide +kernel
theorem dX9_hasSeason_39 : decode cX9_hasSeason 39 = .ok (.invokevirtual 97, 3) := by decide +kernel
theorem dX9_hasSeason_42 : decode cX9_hasSeason 42 = .ok (.iastore, 1) := by decide +kernel
theorem dX9_hasSeason_43 : decode cX9_hasSeason 43 = .ok (.aload_n 0, 1) := by decide +kernel
theorem dX9_hasSeason_44 : decode cX9_hasSeason 44 = .ok (.getfield 39, 3) := by decide +kernel
theorem dX9_hasSeason_47 : decode cX9_hasSeason 47 = .ok (.iload_n 3, 1) := by decide +kernel
theorem dX9_hasSeason_48 : decode cX9_hasSeason 48 = .ok (.aload_n 0, 1) := by decide +kernel
theorem dX9_hasSeason_49 : decode cX9_hasSeason 49 = .ok (.getfield 42, 3) := by decide +kernel
theorem dX9_hasSeason_52 : decode cX9_hasSeason 52 = .ok (.iload_n 3, 1) := by decide +kernel
theorem dX9_hasSeason_53 : decode cX9_hasSeason 53 = .ok (.iaload, 1) := by decide +kernel
theorem dX9_hasSeason_54 : decode cX9_hasSeason 54 = .ok (.iastore, 1) := by decide +kernel
theorem dX9_hasSeason_55 : decode cX9_hasSeason 55 = .ok (.iinc 3 1, 3) := by decide +kernel
theorem dX9_hasSeason_58 : decode cX9_hasSeason 58 = .ok (.iinc 4 1, 3) := by decide +kernel
theorem dX9_hasSeason_61 : decode cX9_hasSeason 61 = .ok (.goto (-56), 3) := by decide +kernel
theorem dX9_hasSeason_64 : decode cX9_hasSeason 64 = .ok (.iload_n 3, 1) := by decide +kernel
theorem dX9_hasSeason_65 : decode cX9_hasSeason 65 = .ok (.iconst 3, 1) := by decide +kernel
theorem dX9_hasSeason_66 : decode cX9_hasSeason 66 = .ok (.if_icmp .ge 5, 3) := by decide +kernel
theorem dX9_hasSeason_69 : decode cX9_hasSeason 69 = .ok (.iconst 0, 1) := by decide +kernel
theorem dX9_hasSeason_70 : decode cX9_hasSeason 70 = .ok (.ireturn, 1) := by decide +kernel
theorem dX9_hasSeason_71 : decode cX9_hasSeason 71 = .ok (.aload_n 0, 1) := by decide +kernel
theorem dX9_hasSeason_72 : decode cX9_hasSeason 72 = .ok (.aload_n 0, 1) := by decide +kernel
theorem dX9_hasSeason_73 : decode cX9_hasSeason 73 = .ok (.iload_n 3, 1) := by decide +kernel
theorem dX9_hasSeason_74 : decode cX9_hasSeason 74 = .ok (.invokevirtual 101, 3) := by decide +kernel
theorem dX9_hasSeason_77 : decode cX9_hasSeason 77 = .ok (.putfield 105, 3) := by decide +kernel
theorem dX9_hasSeason_80 : decode cX9_hasSeason 80 = .ok (.iconst 0, 1) := by decide +kernel
theorem dX9_hasSeason_81 : decode cX9_hasSeason 81 = .ok (.istore 4, 2) := by decide +kernel
theorem dX9_hasSeason_83 : decode cX9_hasSeason 83 = .ok (.iload 4, 2) := by decide +kernel
theorem dX9_hasSeason_85 : decode cX9_hasSeason 85 = .ok (.iload_n 3, 1) := by decide +kernel
theorem dX9_hasSeason_86 : decode cX9_hasSeason 86 = .ok (.if_icmp .ge 57, 3) := by decide +kernel
theorem dX9_hasSeason_89 : decode cX9_hasSeason 89 = .ok (.aload_n 0, 1) := by decide +kernel
theorem dX9_hasSeason_90 : decode cX9_hasSeason 90 = .ok (.getfield 39, 3) := by decide +kernel
theorem dX9_hasSeason_93 : decode cX9_hasSeason 93 = .ok (.iload 4, 2) := by decide +kernel
theorem dX9_hasSeason_95 : decode cX9_hasSeason 95 = .ok (.aload_n 0, 1) := by decide +kernel
theorem dX9_hasSeason_96 : decode cX9_hasSeason 96 = .ok (.getfield 42, 3) := by decide +kernel
theorem dX9_hasSeason_99 : decode cX9_hasSeason 99 = .ok (.iload 4, 2) := by decide +kernel
theorem dX9_hasSeason_101 : decode cX9_hasSeason 101 = .ok (.iaload, 1) := by decide +kernel
theorem dX9_hasSeason_102 : decode cX9_hasSeason 102 = .ok (.aload_n 0, 1) := by decide +kernel
theorem dX9_hasSeason_103 : decode cX9_hasSeason 103 = .ok (.getfield 105, 3) := by decide +kernel
theorem dX9_hasSeason_106 : decode cX9_hasSeason 106 = .ok (.if_icmp .le 18, 3) := by decide +kernel
theorem dX9_hasSeason_109 : decode cX9_hasSeason 109 = .ok (.aload_n 0, 1) := by decide +kernel
theorem dX9_hasSeason_110 : decode cX9_hasSeason 110 = .ok (.getfield 42, 3) := by decide +kernel
theorem dX9_hasSeason_113 : decode cX9_hasSeason 113 = .ok (.iload 4, 2) := by decide +kernel
theorem dX9_hasSeason_115 : decode cX9_hasSeason 115 = .ok (.iaload, 1) := by decide +kernel
theorem dX9_hasSeason_116 : decode cX9_hasSeason 116 = .ok (.aload_n 0, 1) := by decide +kernel
theorem dX9_hasSeason_117 : decode cX9_hasSeason 117 = .ok (.getfield 105, 3) := by decide +kernel
theorem dX9_hasSeason_120 : decode cX9_hasSeason 120 = .ok (.isub, 1) := by decide +kernel
theorem dX9_hasSeason_121 : decode cX9_hasSeason 121 = .ok (.goto 15, 3) := by decide +kernel
theorem dX9_hasSeason_124 : decode cX9_hasSeason 124 = .ok (.aload_n 0, 1) := by decide +kernel
theorem dX9_hasSeason_125 : decode cX9_hasSeason 125 = .ok (.getfield 105, 3) := by decide +kernel
theorem dX9_hasSeason_128 : decode cX9_hasSeason 128 = .ok (.aload_n 0, 1) := by decide +kernel
theorem dX9_hasSeason_129 : decode cX9_hasSeason 129 = .ok (.getfield 42, 3) := by decide +kernel
theorem dX9_hasSeason_132 : decode cX9_hasSeason 132 = .ok (.iload 4, 2) := by decide +kernel
theorem dX9_hasSeason_134 : decode cX9_hasSeason 134 = .ok (.iaload, 1) := by decide +kernel
theorem dX9_hasSeason_135 : decode cX9_hasSeason 135 = .ok (.isub, 1) := by decide +kernel
theorem dX9_hasSeason_136 : decode cX9_hasSeason 136 = .ok (.iastore, 1) := by decide +kernel
theorem dX9_hasSeason_137 : decode cX9_hasSeason 137 = .ok (.iinc 4 1, 3) := by decide +kernel
theorem dX9_hasSeason_140 : decode cX9_hasSeason 140 = .ok (.goto (-57), 3) := by decide +kernel
theorem dX9_hasSeason_143 : decode cX9_hasSeason 143 = .ok (.aload_n 0, 1) := by decide +kernel
theorem dX9_hasSeason_144 : decode cX9_hasSeason 144 = .ok (.aload_n 0, 1) := by decide +kernel
theorem dX9_hasSeason_145 : decode cX9_hasSeason 145 = .ok (.iload_n 3, 1) := by decide +kernel
theorem dX9_hasSeason_146 : decode cX9_hasSeason 146 = .ok (.invokevirtual 101, 3) := by decide +kernel
theorem dX9_hasSeason_149 : decode cX9_hasSeason 149 = .ok (.putfield 108, 3) := by decide +kernel
theorem dX9_hasSeason_152 : decode cX9_hasSeason 152 = .ok (.iconst 1, 1) := by decide +kernel
theorem dX9_hasSeason_153 : decode cX9_hasSeason 153 = .ok (.ireturn, 1) := by decide +kernel
theorem dX9_jumps_0 : decode cX9_jumps 0 = .ok (.aload_n 0, 1) := by decide +kernel
theorem dX9_jumps_1 : decode cX9_jumps 1 = .ok (.iload_n 1, 1) := by decide +kernel
theorem dX9_jumps_2 : decode cX9_jumps 2 = .ok (.iload_n 2, 1) := by decide +kernel
theorem dX9_jumps_3 : decode cX9_jumps 3 = .ok (.invokevirtual 111, 3) := by decide +kernel
theorem dX9_jumps_6 : decode cX9_jumps 6 = .ok (.ifCond .eq 32, 3) := by decide +kernel
theorem dX9_jumps_9 : decode cX9_jumps 9 = .ok (.aload_n 0, 1) := by decide +kernel
theorem dX9_jumps_10 : decode cX9_jumps 10 = .ok (.iload_n 1, 1) := by decide +kernel
theorem dX9_jumps_11 : decode cX9_jumps 11 = .ok (.iload_n 2, 1) := by decide +kernel
theorem dX9_jumps_12 : decode cX9_jumps 12 = .ok (.invokevirtual 97, 3) := by decide +kernel
theorem dX9_jumps_15 : decode cX9_jumps 15 = .ok (.aload_n 0, 1) := by decide +kernel
theorem dX9_jumps_16 : decode cX9_jumps 16 = .ok (.getfield 105, 3) := by decide +kernel
theorem dX9_jumps_19 : decode cX9_jumps 19 = .ok (.iconst 3, 1) := by decide +kernel
theorem dX9_jumps_20 : decode cX9_jumps 20 = .ok (.aload_n 0, 1) := by decide +kernel
theorem dX9_jumps_21 : decode cX9_jumps 21 = .ok (.getfield 108, 3) := by decide +kernel
theorem dX9_jumps_24 : decode cX9_jumps 24 = .ok (.imul, 1) := by decide +kernel
theorem dX9_jumps_25 : decode cX9_jumps 25 = .ok (.iadd, 1) := by decide +kernel
theorem dX9_jumps_26 : decode cX9_jumps 26 = .ok (.aload_n 0, 1) := by decide +kernel
theorem dX9_jumps_27 : decode cX9_jumps 27 = .ok (.getfield 7, 3) := by decide +kernel
theorem dX9_jumps_30 : decode cX9_jumps 30 = .ok (.iadd, 1) := by decide +kernel
theorem dX9_jumps_31 : decode cX9_jumps 31 = .ok (.if_icmp .le 7, 3) := by decide +kernel
theorem dX9_jumps_34 : decode cX9_jumps 34 = .ok (.iconst 1, 1) := by decide +kernel
theorem dX9_jumps_35 : decode cX9_jumps 35 = .ok (.goto 4, 3) := by decide +kernel
theorem dX9_jumps_38 : decode cX9_jumps 38 = .ok (.iconst 0, 1) := by decide +kernel
theorem dX9_jumps_39 : decode cX9_jumps 39 = .ok (.ireturn, 1) := by decide +kernel
theorem dX9_season_0 : decode cX9_season 0 = .ok (.iload_n 1, 1) := by decide +kernel
theorem dX9_season_1 : decode cX9_season 1 = .ok (.invokestatic 73, 3) := by decide +kernel
theorem dX9_season_4 : decode cX9_season 4 = .ok (.ifCond .eq 20, 3) := by decide +kernel
theorem dX9_season_7 : decode cX9_season 7 = .ok (.aload_n 0, 1) := by decide +kernel
theorem dX9_season_8 : decode cX9_season 8 = .ok (.iload_n 2, 1) := by decide +kernel
theorem dX9_season_9 : decode cX9_season 9 = .ok (.invokevirtual 94, 3) := by decide +kernel
theorem dX9_season_12 : decode cX9_season 12 = .ok (.ifCond .eq 12, 3) := by decide +kernel
theorem dX9_season_15 : decode cX9_season 15 = .ok (.iload_n 3, 1) := by decide +kernel
theorem dX9_season_16 : decode cX9_season 16 = .ok (.iconst 0, 1) := by decide +kernel
theorem dX9_season_17 : decode cX9_season 17 = .ok (.iconst 2, 1) := by decide +kernel
theorem dX9_season_18 : decode cX9_season 18 = .ok (.invokestatic 69, 3) := by decide +kernel
theorem dX9_season_21 : decode cX9_season 21 = .ok (.ifCond .ne 5, 3) := by decide +kernel
theorem dX9_season_24 : decode cX9_season 24 = .ok (.iconst (-1), 1) := by decide +kernel
theorem dX9_season_25 : decode cX9_season 25 = .ok (.ireturn, 1) := by decide +kernel
theorem dX9_season_26 : decode cX9_season 26 = .ok (.iload_n 3, 1) := by decide +kernel
theorem dX9_season_27 : decode cX9_season 27 = .ok (.iconst 2, 1) := by decide +kernel
theorem dX9_season_28 : decode cX9_season 28 = .ok (.if_icmp .ne 18, 3) := by decide +kernel
theorem dX9_season_31 : decode cX9_season 31 = .ok (.aload_n 0, 1) := by decide +kernel
theorem dX9_season_32 : decode cX9_season 32 = .ok (.iload_n 1, 1) := by decide +kernel
theorem dX9_season_33 : decode cX9_season 33 = .ok (.iload_n 2, 1) := by decide +kernel
theorem dX9_season_34 : decode cX9_season 34 = .ok (.invokevirtual 114, 3) := by decide +kernel
theorem dX9_season_37 : decode cX9_season 37 = .ok (.ifCond .eq 7, 3) := by decide +kernel
theorem dX9_season_40 : decode cX9_season 40 = .ok (.iconst 1, 1) := by decide +kernel
theorem dX9_season_41 : decode cX9_season 41 = .ok (.goto 4, 3) := by decide +kernel
theorem dX9_season_44 : decode cX9_season 44 = .ok (.iconst 0, 1) := by decide +kernel
theorem dX9_season_45 : decode cX9_season 45 = .ok (.ireturn, 1) := by decide +kernel
theorem dX9_season_46 : decode cX9_season 46 = .ok (.aload_n 0, 1) := by decide +kernel
theorem dX9_season_47 : decode cX9_season 47 = .ok (.iload_n 1, 1) := by decide +kernel
theorem dX9_season_48 : decode cX9_season 48 = .ok (.iload_n 2, 1) := by decide +kernel
theorem dX9_season_49 : decode cX9_season 49 = .ok (.invokevirtual 111, 3) := by decide +kernel
theorem dX9_season_52 : decode cX9_season 52 = .ok (.ifCond .ne 7, 3) := by decide +kernel
theorem dX9_season_55 : decode cX9_season 55 = .ok (.iconst (-1), 1) := by decide +kernel
theorem dX9_season_56 : decode cX9_season 56 = .ok (.goto 18, 3) := by decide +kernel
theorem dX9_season_59 : decode cX9_season 59 = .ok (.iload_n 3, 1) := by decide +kernel
theorem dX9_season_60 : decode cX9_season 60 = .ok (.ifCond .ne 10, 3) := by decide +kernel
theorem dX9_season_63 : decode cX9_season 63 = .ok (.aload_n 0, 1) := by decide +kernel
theorem dX9_season_64 : decode cX9_season 64 = .ok (.getfield 105, 3) := by decide +kernel
theorem dX9_season_67 : decode cX9_season 67 = .ok (.goto 7, 3) := by decide +kernel
theorem dX9_season_70 : decode cX9_season 70 = .ok (.aload_n 0, 1) := by decide +kernel
theorem dX9_season_71 : decode cX9_season 71 = .ok (.getfield 108, 3) := by decide +kernel
theorem dX9_season_74 : decode cX9_season 74 = .ok (.ireturn, 1) := by decide +kernel
theorem dX9_dayCost_0 : decode cX9_dayCost 0 = .ok (.iconst 0, 1) := by decide +kernel
theorem dX9_dayCost_1 : decode cX9_dayCost 1 = .ok (.istore_n 3, 1) := by decide +kernel
theorem dX9_dayCost_2 : decode cX9_dayCost 2 = .ok (.bipush 24, 2) := by decide +kernel
theorem dX9_dayCost_4 : decode cX9_dayCost 4 = .ok (.iload_n 2, 1) := by decide +kernel
theorem dX9_dayCost_5 : decode cX9_dayCost 5 = .ok (.imul, 1) := by decide +kernel
theorem dX9_dayCost_6 : decode cX9_dayCost 6 = .ok (.istore 4, 2) := by decide +kernel
theorem dX9_dayCost_8 : decode cX9_dayCost 8 = .ok (.iload 4, 2) := by decide +kernel
theorem dX9_dayCost_10 : decode cX9_dayCost 10 = .ok (.bipush 24, 2) := by decide +kernel
theorem dX9_dayCost_12 : decode cX9_dayCost 12 = .ok (.iload_n 2, 1) := by decide +kernel
theorem dX9_dayCost_13 : decode cX9_dayCost 13 = .ok (.imul, 1) := by decide +kernel
theorem dX9_dayCost_14 : decode cX9_dayCost 14 = .ok (.bipush 24, 2) := by decide +kernel
theorem dX9_dayCost_16 : decode cX9_dayCost 16 = .ok (.iadd, 1) := by decide +kernel
theorem dX9_dayCost_17 : decode cX9_dayCost 17 = .ok (.if_icmp .ge 19, 3) := by decide +kernel
theorem dX9_dayCost_20 : decode cX9_dayCost 20 = .ok (.iload_n 3, 1) := by decide +kernel
theorem dX9_dayCost_21 : decode cX9_dayCost 21 = .ok (.aload_n 0, 1) := by decide +kernel
theorem dX9_dayCost_22 : decode cX9_dayCost 22 = .ok (.iload_n 1, 1) := by decide +kernel
theorem dX9_dayCost_23 : decode cX9_dayCost 23 = .ok (.iload 4, 2) := by decide +kernel
theorem dX9_dayCost_25 : decode cX9_dayCost 25 = .ok (.invokevirtual 97, 3) := by decide +kernel
theorem dX9_dayCost_28 : decode cX9_dayCost 28 = .ok (.iadd, 1) := by decide +kernel
theorem dX9_dayCost_29 : decode cX9_dayCost 29 = .ok (.istore_n 3, 1) := by decide +kernel
theorem dX9_dayCost_30 : decode cX9_dayCost 30 = .ok (.iinc 4 1, 3) := by decide +kernel
theorem dX9_dayCost_33 : decode cX9_dayCost 33 = .ok (.goto (-25), 3) := by decide +kernel
theorem dX9_dayCost_36 : decode cX9_dayCost 36 = .ok (.iload_n 3, 1) := by decide +kernel
theorem dX9_dayCost_37 : decode cX9_dayCost 37 = .ok (.ireturn, 1) := by decide +kernel
theorem dX9_creeps_0 : decode cX9_creeps 0 = .ok (.aload_n 0, 1) := by decide +kernel
theorem dX9_creeps_1 : decode cX9_creeps 1 = .ok (.getfield 83, 3) := by decide +kernel
theorem dX9_creeps_4 : decode cX9_creeps 4 = .ok (.bipush 24, 2) := by decide +kernel
theorem dX9_creeps_6 : decode cX9_creeps 6 = .ok (.idiv, 1) := by decide +kernel
theorem dX9_creeps_7 : decode cX9_creeps 7 = .ok (.istore_n 2, 1) := by decide +kernel
theorem dX9_creeps_8 : decode cX9_creeps 8 = .ok (.iload_n 1, 1) := by decide +kernel
theorem dX9_creeps_9 : decode cX9_creeps 9 = .ok (.invokestatic 73, 3) := by decide +kernel
theorem dX9_creeps_12 : decode cX9_creeps 12 = .ok (.ifCond .eq 9, 3) := by decide +kernel
theorem dX9_creeps_15 : decode cX9_creeps 15 = .ok (.iload_n 2, 1) := by decide +kernel
theorem dX9_creeps_16 : decode cX9_creeps 16 = .ok (.bipush 7, 2) := by decide +kernel
theorem dX9_creeps_18 : decode cX9_creeps 18 = .ok (.if_icmp .ge 5, 3) := by decide +kernel
theorem dX9_creeps_21 : decode cX9_creeps 21 = .ok (.iconst (-1), 1) := by decide +kernel
theorem dX9_creeps_22 : decode cX9_creeps 22 = .ok (.ireturn, 1) := by decide +kernel
theorem dX9_creeps_23 : decode cX9_creeps 23 = .ok (.iconst 0, 1) := by decide +kernel
theorem dX9_creeps_24 : decode cX9_creeps 24 = .ok (.istore_n 3, 1) := by decide +kernel
theorem dX9_creeps_25 : decode cX9_creeps 25 = .ok (.iload_n 3, 1) := by decide +kernel
theorem dX9_creeps_26 : decode cX9_creeps 26 = .ok (.bipush 7, 2) := by decide +kernel
theorem dX9_creeps_28 : decode cX9_creeps 28 = .ok (.if_icmp .ge 26, 3) := by decide +kernel
theorem dX9_creeps_31 : decode cX9_creeps 31 = .ok (.aload_n 0, 1) := by decide +kernel
theorem dX9_creeps_32 : decode cX9_creeps 32 = .ok (.getfield 39, 3) := by decide +kernel
theorem dX9_creeps_35 : decode cX9_creeps 35 = .ok (.iload_n 3, 1) := by decide +kernel
theorem dX9_creeps_36 : decode cX9_creeps 36 = .ok (.aload_n 0, 1) := by decide +kernel
theorem dX9_creeps_37 : decode cX9_creeps 37 = .ok (.iload_n 1, 1) := by decide +kernel
theorem dX9_creeps_38 : decode cX9_creeps 38 = .ok (.iload_n 2, 1) := by decide +kernel
theorem dX9_creeps_39 : decode cX9_creeps 39 = .ok (.bipush 7, 2) := by decide +kernel
theorem dX9_creeps_41 : decode cX9_creeps 41 = .ok (.isub, 1) := by decide +kernel
theorem dX9_creeps_42 : decode cX9_creeps 42 = .ok (.iload_n 3, 1) := by decide +kernel
theorem dX9_creeps_43 : decode cX9_creeps 43 = .ok (.iadd, 1) := by decide +kernel
theorem dX9_creeps_44 : decode cX9_creeps 44 = .ok (.invokevirtual 117, 3) := by decide +kernel
theorem dX9_creeps_47 : decode cX9_creeps 47 = .ok (.iastore, 1) := by decide +kernel
theorem dX9_creeps_48 : decode cX9_creeps 48 = .ok (.iinc 3 1, 3) := by decide +kernel
theorem dX9_creeps_51 : decode cX9_creeps 51 = .ok (.goto (-26), 3) := by decide +kernel
theorem dX9_creeps_54 : decode cX9_creeps 54 = .ok (.iconst 0, 1) := by decide +kernel
theorem dX9_creeps_55 : decode cX9_creeps 55 = .ok (.istore_n 3, 1) := by decide +kernel
theorem dX9_creeps_56 : decode cX9_creeps 56 = .ok (.iconst 0, 1) := by decide +kernel
theorem dX9_creeps_57 : decode cX9_creeps 57 = .ok (.istore 4, 2) := by decide +kernel
theorem dX9_creeps_59 : decode cX9_creeps 59 = .ok (.iload 4, 2) := by decide +kernel
theorem dX9_creeps_61 : decode cX9_creeps 61 = .ok (.bipush 7, 2) := by decide +kernel
theorem dX9_creeps_63 : decode cX9_creeps 63 = .ok (.if_icmp .ge 74, 3) := by decide +kernel
theorem dX9_creeps_66 : decode cX9_creeps 66 = .ok (.iload 4, 2) := by decide +kernel
theorem dX9_creeps_68 : decode cX9_creeps 68 = .ok (.iconst 1, 1) := by decide +kernel
theorem dX9_creeps_69 : decode cX9_creeps 69 = .ok (.iadd, 1) := by decide +kernel
theorem dX9_creeps_70 : decode cX9_creeps 70 = .ok (.istore 5, 2) := by decide +kernel
theorem dX9_creeps_72 : decode cX9_creeps 72 = .ok (.iload 5, 2) := by decide +kernel
theorem dX9_creeps_74 : decode cX9_creeps 74 = .ok (.bipush 7, 2) := by decide +kernel
theorem dX9_creeps_76 : decode cX9_creeps 76 = .ok (.if_icmp .ge 55, 3) := by decide +kernel
theorem dX9_creeps_79 : decode cX9_creeps 79 = .ok (.iload_n 3, 1) := by decide +kernel
theorem dX9_creeps_80 : decode cX9_creeps 80 = .ok (.aload_n 0, 1) := by decide +kernel
theorem dX9_creeps_81 : decode cX9_creeps 81 = .ok (.getfield 39, 3) := by decide +kernel
theorem dX9_creeps_84 : decode cX9_creeps 84 = .ok (.iload 5, 2) := by decide +kernel
theorem dX9_creeps_86 : decode cX9_creeps 86 = .ok (.iaload, 1) := by decide +kernel
theorem dX9_creeps_87 : decode cX9_creeps 87 = .ok (.aload_n 0, 1) := by decide +kernel
theorem dX9_creeps_88 : decode cX9_creeps 88 = .ok (.getfield 39, 3) := by decide +kernel
theorem dX9_creeps_91 : decode cX9_creeps 91 = .ok (.iload 4, 2) := by decide +kernel
theorem dX9_creeps_93 : decode cX9_creeps 93 = .ok (.iaload, 1) := by decide +kernel
theorem dX9_creeps_94 : decode cX9_creeps 94 = .ok (.if_icmp .le 7, 3) := by decide +kernel
theorem dX9_creeps_97 : decode cX9_creeps 97 = .ok (.iconst 1, 1) := by decide +kernel
theorem dX9_creeps_98 : decode cX9_creeps 98 = .ok (.goto 25, 3) := by decide +kernel
theorem dX9_creeps_101 : decode cX9_creeps 101 = .ok (.aload_n 0, 1) := by decide +kernel
theorem dX9_creeps_102 : decode cX9_creeps 102 = .ok (.getfield 39, 3) := by decide +kernel
theorem dX9_creeps_105 : decode cX9_creeps 105 = .ok (.iload 5, 2) := by decide +kernel
theorem dX9_creeps_107 : decode cX9_creeps 107 = .ok (.iaload, 1) := by decide +kernel
theorem dX9_creeps_108 : decode cX9_creeps 108 = .ok (.aload_n 0, 1) := by decide +kernel
theorem dX9_creeps_109 : decode cX9_creeps 109 = .ok (.getfield 39, 3) := by decide +kernel
theorem dX9_creeps_112 : decode cX9_creeps 112 = .ok (.iload 4, 2) := by decide +kernel
theorem dX9_creeps_114 : decode cX9_creeps 114 = .ok (.iaload, 1) := by decide +kernel
theorem dX9_creeps_115 : decode cX9_creeps 115 = .ok (.if_icmp .ge 7, 3) := by decide +kernel
theorem dX9_creeps_118 : decode cX9_creeps 118 = .ok (.iconst (-1), 1) := by decide +kernel
theorem dX9_creeps_119 : decode cX9_creeps 119 = .ok (.goto 4, 3) := by decide +kernel
theorem dX9_creeps_122 : decode cX9_creeps 122 = .ok (.iconst 0, 1) := by decide +kernel
theorem dX9_creeps_123 : decode cX9_creeps 123 = .ok (.iadd, 1) := by decide +kernel
theorem dX9_creeps_124 : decode cX9_creeps 124 = .ok (.istore_n 3, 1) := by decide +kernel
theorem dX9_creeps_125 : decode cX9_creeps 125 = .ok (.iinc 5 1, 3) := by decide +kernel
theorem dX9_creeps_128 : decode cX9_creeps 128 = .ok (.goto (-56), 3) := by decide +kernel
theorem dX9_creeps_131 : decode cX9_creeps 131 = .ok (.iinc 4 1, 3) := by decide +kernel
theorem dX9_creeps_134 : decode cX9_creeps 134 = .ok (.goto (-75), 3) := by decide +kernel
theorem dX9_creeps_137 : decode cX9_creeps 137 = .ok (.iload_n 3, 1) := by decide +kernel
theorem dX9_creeps_138 : decode cX9_creeps 138 = .ok (.bipush 15, 2) := by decide +kernel
theorem dX9_creeps_140 : decode cX9_creeps 140 = .ok (.if_icmp .lt 34, 3) := by decide +kernel
theorem dX9_creeps_143 : decode cX9_creeps 143 = .ok (.ldc2_w 120, 3) := by decide +kernel
theorem dX9_creeps_146 : decode cX9_creeps 146 = .ok (.aload_n 0, 1) := by decide +kernel
theorem dX9_creeps_147 : decode cX9_creeps 147 = .ok (.getfield 39, 3) := by decide +kernel
theorem dX9_creeps_150 : decode cX9_creeps 150 = .ok (.bipush 6, 2) := by decide +kernel
theorem dX9_creeps_152 : decode cX9_creeps 152 = .ok (.iaload, 1) := by decide +kernel
theorem dX9_creeps_153 : decode cX9_creeps 153 = .ok (.i2l, 1) := by decide +kernel
theorem dX9_creeps_154 : decode cX9_creeps 154 = .ok (.lmul, 1) := by decide +kernel
theorem dX9_creeps_155 : decode cX9_creeps 155 = .ok (.ldc2_w 122, 3) := by decide +kernel
theorem dX9_creeps_158 : decode cX9_creeps 158 = .ok (.aload_n 0, 1) := by decide +kernel
theorem dX9_creeps_159 : decode cX9_creeps 159 = .ok (.getfield 39, 3) := by decide +kernel
theorem dX9_creeps_162 : decode cX9_creeps 162 = .ok (.iconst 0, 1) := by decide +kernel
theorem dX9_creeps_163 : decode cX9_creeps 163 = .ok (.iaload, 1) := by decide +kernel
theorem dX9_creeps_164 : decode cX9_creeps 164 = .ok (.i2l, 1) := by decide +kernel
theorem dX9_creeps_165 : decode cX9_creeps 165 = .ok (.lmul, 1) := by decide +kernel
theorem dX9_creeps_166 : decode cX9_creeps 166 = .ok (.lcmp, 1) := by decide +kernel
theorem dX9_creeps_167 : decode cX9_creeps 167 = .ok (.ifCond .le 7, 3) := by decide +kernel
theorem dX9_creeps_170 : decode cX9_creeps 170 = .ok (.iconst 1, 1) := by decide +kernel
theorem dX9_creeps_171 : decode cX9_creeps 171 = .ok (.goto 4, 3) := by decide +kernel
theorem dX9_creeps_174 : decode cX9_creeps 174 = .ok (.iconst 0, 1) := by decide +kernel
theorem dX9_creeps_175 : decode cX9_creeps 175 = .ok (.ireturn, 1) := by decide +kernel
theorem dX9_causeOf_0 : decode cX9_causeOf 0 = .ok (.iconst (-1), 1) := by decide +kernel
theorem dX9_causeOf_1 : decode cX9_causeOf 1 = .ok (.istore_n 3, 1) := by decide +kernel
theorem dX9_causeOf_2 : decode cX9_causeOf 2 = .ok (.iconst 0, 1) := by decide +kernel
theorem dX9_causeOf_3 : decode cX9_causeOf 3 = .ok (.istore 4, 2) := by decide +kernel
theorem dX9_causeOf_5 : decode cX9_causeOf 5 = .ok (.iload 4, 2) := by decide +kernel
theorem dX9_causeOf_7 : decode cX9_causeOf 7 = .ok (.aload_n 0, 1) := by decide +kernel
theorem dX9_causeOf_8 : decode cX9_causeOf 8 = .ok (.getfield 80, 3) := by decide +kernel
theorem dX9_causeOf_11 : decode cX9_causeOf 11 = .ok (.if_icmp .ge 71, 3) := by decide +kernel
theorem dX9_causeOf_14 : decode cX9_causeOf 14 = .ok (.aload_n 0, 1) := by decide +kernel
theorem dX9_causeOf_15 : decode cX9_causeOf 15 = .ok (.getfield 27, 3) := by decide +kernel
theorem dX9_causeOf_18 : decode cX9_causeOf 18 = .ok (.iload 4, 2) := by decide +kernel
theorem dX9_causeOf_20 : decode cX9_causeOf 20 = .ok (.iaload, 1) := by decide +kernel
theorem dX9_causeOf_21 : decode cX9_causeOf 21 = .ok (.iload_n 1, 1) := by decide +kernel
theorem dX9_causeOf_22 : decode cX9_causeOf 22 = .ok (.if_icmp .ne 54, 3) := by decide +kernel
theorem dX9_causeOf_25 : decode cX9_causeOf 25 = .ok (.aload_n 0, 1) := by decide +kernel
theorem dX9_causeOf_26 : decode cX9_causeOf 26 = .ok (.iload 4, 2) := by decide +kernel
theorem dX9_causeOf_28 : decode cX9_causeOf 28 = .ok (.iload_n 2, 1) := by decide +kernel
theorem dX9_causeOf_29 : decode cX9_causeOf 29 = .ok (.invokevirtual 90, 3) := by decide +kernel
theorem dX9_causeOf_32 : decode cX9_causeOf 32 = .ok (.ifCond .eq 44, 3) := by decide +kernel
theorem dX9_causeOf_35 : decode cX9_causeOf 35 = .ok (.aload_n 0, 1) := by decide +kernel
theorem dX9_causeOf_36 : decode cX9_causeOf 36 = .ok (.getfield 33, 3) := by decide +kernel
theorem dX9_causeOf_39 : decode cX9_causeOf 39 = .ok (.iload 4, 2) := by decide +kernel
theorem dX9_causeOf_41 : decode cX9_causeOf 41 = .ok (.iaload, 1) := by decide +kernel
theorem dX9_causeOf_42 : decode cX9_causeOf 42 = .ok (.iload_n 2, 1) := by decide +kernel
theorem dX9_causeOf_43 : decode cX9_causeOf 43 = .ok (.bipush 23, 2) := by decide +kernel
theorem dX9_causeOf_45 : decode cX9_causeOf 45 = .ok (.isub, 1) := by decide +kernel
theorem dX9_causeOf_46 : decode cX9_causeOf 46 = .ok (.if_icmp .ge 6, 3) := by decide +kernel
theorem dX9_causeOf_49 : decode cX9_causeOf 49 = .ok (.goto 27, 3) := by decide +kernel
theorem dX9_causeOf_52 : decode cX9_causeOf 52 = .ok (.iload_n 3, 1) := by decide +kernel
theorem dX9_causeOf_53 : decode cX9_causeOf 53 = .ok (.iconst (-1), 1) := by decide +kernel
theorem dX9_causeOf_54 : decode cX9_causeOf 54 = .ok (.if_icmp .eq 19, 3) := by decide +kernel
theorem dX9_causeOf_57 : decode cX9_causeOf 57 = .ok (.aload_n 0, 1) := by decide +kernel
theorem dX9_causeOf_58 : decode cX9_causeOf 58 = .ok (.getfield 30, 3) := by decide +kernel
theorem dX9_causeOf_61 : decode cX9_causeOf 61 = .ok (.iload 4, 2) := by decide +kernel
theorem dX9_causeOf_63 : decode cX9_causeOf 63 = .ok (.iaload, 1) := by decide +kernel
theorem dX9_causeOf_64 : decode cX9_causeOf 64 = .ok (.aload_n 0, 1) := by decide +kernel
theorem dX9_causeOf_65 : decode cX9_causeOf 65 = .ok (.getfield 30, 3) := by decide +kernel
theorem dX9_causeOf_68 : decode cX9_causeOf 68 = .ok (.iload_n 3, 1) := by decide +kernel
theorem dX9_causeOf_69 : decode cX9_causeOf 69 = .ok (.iaload, 1) := by decide +kernel
theorem dX9_causeOf_70 : decode cX9_causeOf 70 = .ok (.if_icmp .le 6, 3) := by decide +kernel
theorem dX9_causeOf_73 : decode cX9_causeOf 73 = .ok (.iload 4, 2) := by decide +kernel
theorem dX9_causeOf_75 : decode cX9_causeOf 75 = .ok (.istore_n 3, 1) := by decide +kernel
theorem dX9_causeOf_76 : decode cX9_causeOf 76 = .ok (.iinc 4 1, 3) := by decide +kernel
theorem dX9_causeOf_79 : decode cX9_causeOf 79 = .ok (.goto (-74), 3) := by decide +kernel
theorem dX9_causeOf_82 : decode cX9_causeOf 82 = .ok (.iload_n 3, 1) := by decide +kernel
theorem dX9_causeOf_83 : decode cX9_causeOf 83 = .ok (.ireturn, 1) := by decide +kernel
theorem dX9_looks_0 : decode cX9_looks 0 = .ok (.aload_n 0, 1) := by decide +kernel
theorem dX9_looks_1 : decode cX9_looks 1 = .ok (.iload_n 1, 1) := by decide +kernel
theorem dX9_looks_2 : decode cX9_looks 2 = .ok (.iload_n 2, 1) := by decide +kernel
theorem dX9_looks_3 : decode cX9_looks 3 = .ok (.invokevirtual 114, 3) := by decide +kernel
theorem dX9_looks_6 : decode cX9_looks 6 = .ok (.ifCond .eq 15, 3) := by decide +kernel
theorem dX9_looks_9 : decode cX9_looks 9 = .ok (.aload_n 0, 1) := by decide +kernel
theorem dX9_looks_10 : decode cX9_looks 10 = .ok (.iload_n 1, 1) := by decide +kernel
theorem dX9_looks_11 : decode cX9_looks 11 = .ok (.aload_n 0, 1) := by decide +kernel
theorem dX9_looks_12 : decode cX9_looks 12 = .ok (.iload_n 1, 1) := by decide +kernel
theorem dX9_looks_13 : decode cX9_looks 13 = .ok (.iload_n 2, 1) := by decide +kernel
theorem dX9_looks_14 : decode cX9_looks 14 = .ok (.invokevirtual 124, 3) := by decide +kernel
theorem dX9_looks_17 : decode cX9_looks 17 = .ok (.iload_n 2, 1) := by decide +kernel
theorem dX9_looks_18 : decode cX9_looks 18 = .ok (.invokevirtual 127, 3) := by decide +kernel
theorem dX9_looks_21 : decode cX9_looks 21 = .ok (.iconst 0, 1) := by decide +kernel
theorem dX9_looks_22 : decode cX9_looks 22 = .ok (.istore_n 3, 1) := by decide +kernel
theorem dX9_looks_23 : decode cX9_looks 23 = .ok (.iload_n 3, 1) := by decide +kernel
theorem dX9_looks_24 : decode cX9_looks 24 = .ok (.aload_n 0, 1) := by decide +kernel
theorem dX9_looks_25 : decode cX9_looks 25 = .ok (.getfield 131, 3) := by decide +kernel
theorem dX9_looks_28 : decode cX9_looks 28 = .ok (.if_icmp .ge 39, 3) := by decide +kernel
theorem dX9_looks_31 : decode cX9_looks 31 = .ok (.aload_n 0, 1) := by decide +kernel
theorem dX9_looks_32 : decode cX9_looks 32 = .ok (.getfield 45, 3) := by decide +kernel
theorem dX9_looks_35 : decode cX9_looks 35 = .ok (.iload_n 3, 1) := by decide +kernel
theorem dX9_looks_36 : decode cX9_looks 36 = .ok (.iaload, 1) := by decide +kernel
theorem dX9_looks_37 : decode cX9_looks 37 = .ok (.iload_n 1, 1) := by decide +kernel
theorem dX9_looks_38 : decode cX9_looks 38 = .ok (.if_icmp .ne 23, 3) := by decide +kernel
theorem dX9_looks_41 : decode cX9_looks 41 = .ok (.iload_n 2, 1) := by decide +kernel
theorem dX9_looks_42 : decode cX9_looks 42 = .ok (.aload_n 0, 1) := by decide +kernel
theorem dX9_looks_43 : decode cX9_looks 43 = .ok (.getfield 54, 3) := by decide +kernel
theorem dX9_looks_46 : decode cX9_looks 46 = .ok (.iload_n 3, 1) := by decide +kernel
theorem dX9_looks_47 : decode cX9_looks 47 = .ok (.iaload, 1) := by decide +kernel
theorem dX9_looks_48 : decode cX9_looks 48 = .ok (.bipush 6, 2) := by decide +kernel
theorem dX9_looks_50 : decode cX9_looks 50 = .ok (.iadd, 1) := by decide +kernel
theorem dX9_looks_51 : decode cX9_looks 51 = .ok (.if_icmp .lt 10, 3) := by decide +kernel
theorem dX9_looks_54 : decode cX9_looks 54 = .ok (.aload_n 0, 1) := by decide +kernel
theorem dX9_looks_55 : decode cX9_looks 55 = .ok (.getfield 57, 3) := by decide +kernel
theorem dX9_looks_58 : decode cX9_looks 58 = .ok (.iload_n 3, 1) := by decide +kernel
theorem dX9_looks_59 : decode cX9_looks 59 = .ok (.iconst 0, 1) := by decide +kernel
theorem dX9_looks_60 : decode cX9_looks 60 = .ok (.bastore, 1) := by decide +kernel
theorem dX9_looks_61 : decode cX9_looks 61 = .ok (.iinc 3 1, 3) := by decide +kernel
theorem dX9_looks_64 : decode cX9_looks 64 = .ok (.goto (-41), 3) := by decide +kernel
theorem dX9_looks_67 : decode cX9_looks 67 = .ok (.return_, 1) := by decide +kernel
theorem dX9_cries_0 : decode cX9_cries 0 = .ok (.iconst 0, 1) := by decide +kernel
theorem dX9_cries_1 : decode cX9_cries 1 = .ok (.istore 4, 2) := by decide +kernel
theorem dX9_cries_3 : decode cX9_cries 3 = .ok (.iconst 0, 1) := by decide +kernel
theorem dX9_cries_4 : decode cX9_cries 4 = .ok (.istore 5, 2) := by decide +kernel
theorem dX9_cries_6 : decode cX9_cries 6 = .ok (.iload 5, 2) := by decide +kernel
theorem dX9_cries_8 : decode cX9_cries 8 = .ok (.aload_n 0, 1) := by decide +kernel
theorem dX9_cries_9 : decode cX9_cries 9 = .ok (.getfield 131, 3) := by decide +kernel
theorem dX9_cries_12 : decode cX9_cries 12 = .ok (.if_icmp .ge 55, 3) := by decide +kernel
theorem dX9_cries_15 : decode cX9_cries 15 = .ok (.aload_n 0, 1) := by decide +kernel
theorem dX9_cries_16 : decode cX9_cries 16 = .ok (.getfield 57, 3) := by decide +kernel
theorem dX9_cries_19 : decode cX9_cries 19 = .ok (.iload 5, 2) := by decide +kernel
theorem dX9_cries_21 : decode cX9_cries 21 = .ok (.baload, 1) := by decide +kernel
theorem dX9_cries_22 : decode cX9_cries 22 = .ok (.ifCond .eq 39, 3) := by decide +kernel
theorem dX9_cries_25 : decode cX9_cries 25 = .ok (.aload_n 0, 1) := by decide +kernel
theorem dX9_cries_26 : decode cX9_cries 26 = .ok (.getfield 45, 3) := by decide +kernel
theorem dX9_cries_29 : decode cX9_cries 29 = .ok (.iload 5, 2) := by decide +kernel
theorem dX9_cries_31 : decode cX9_cries 31 = .ok (.iaload, 1) := by decide +kernel
theorem dX9_cries_32 : decode cX9_cries 32 = .ok (.iload_n 1, 1) := by decide +kernel
theorem dX9_cries_33 : decode cX9_cries 33 = .ok (.if_icmp .ne 28, 3) := by decide +kernel
theorem dX9_cries_36 : decode cX9_cries 36 = .ok (.aload_n 0, 1) := by decide +kernel
theorem dX9_cries_37 : decode cX9_cries 37 = .ok (.getfield 48, 3) := by decide +kernel
theorem dX9_cries_40 : decode cX9_cries 40 = .ok (.iload 5, 2) := by decide +kernel
theorem dX9_cries_42 : decode cX9_cries 42 = .ok (.iaload, 1) := by decide +kernel
theorem dX9_cries_43 : decode cX9_cries 43 = .ok (.iload_n 2, 1) := by decide +kernel
theorem dX9_cries_44 : decode cX9_cries 44 = .ok (.if_icmp .eq 6, 3) := by decide +kernel
theorem dX9_cries_47 : decode cX9_cries 47 = .ok (.goto 14, 3) := by decide +kernel
theorem dX9_cries_50 : decode cX9_cries 50 = .ok (.aload_n 0, 1) := by decide +kernel
theorem dX9_cries_51 : decode cX9_cries 51 = .ok (.getfield 54, 3) := by decide +kernel
theorem dX9_cries_54 : decode cX9_cries 54 = .ok (.iload 5, 2) := by decide +kernel
theorem dX9_cries_56 : decode cX9_cries 56 = .ok (.iload_n 3, 1) := by decide +kernel
theorem dX9_cries_57 : decode cX9_cries 57 = .ok (.iastore, 1) := by decide +kernel
theorem dX9_cries_58 : decode cX9_cries 58 = .ok (.iconst 1, 1) := by decide +kernel
theorem dX9_cries_59 : decode cX9_cries 59 = .ok (.istore 4, 2) := by decide +kernel
theorem dX9_cries_61 : decode cX9_cries 61 = .ok (.iinc 5 1, 3) := by decide +kernel
theorem dX9_cries_64 : decode cX9_cries 64 = .ok (.goto (-58), 3) := by decide +kernel
theorem dX9_cries_67 : decode cX9_cries 67 = .ok (.iload 4, 2) := by decide +kernel
theorem dX9_cries_69 : decode cX9_cries 69 = .ok (.ifCond .ne 12, 3) := by decide +kernel
theorem dX9_cries_72 : decode cX9_cries 72 = .ok (.aload_n 0, 1) := by decide +kernel
theorem dX9_cries_73 : decode cX9_cries 73 = .ok (.getfield 131, 3) := by decide +kernel
theorem dX9_cries_76 : decode cX9_cries 76 = .ok (.bipush 100, 2) := by decide +kernel
theorem dX9_cries_78 : decode cX9_cries 78 = .ok (.if_icmp .ne 4, 3) := by decide +kernel
theorem dX9_cries_81 : decode cX9_cries 81 = .ok (.return_, 1) := by decide +kernel
theorem dX9_cries_82 : decode cX9_cries 82 = .ok (.aload_n 0, 1) := by decide +kernel
theorem dX9_cries_83 : decode cX9_cries 83 = .ok (.getfield 45, 3) := by decide +kernel
theorem dX9_cries_86 : decode cX9_cries 86 = .ok (.aload_n 0, 1) := by decide +kernel
theorem dX9_cries_87 : decode cX9_cries 87 = .ok (.getfield 131, 3) := by decide +kernel
theorem dX9_cries_90 : decode cX9_cries 90 = .ok (.iload_n 1, 1) := by decide +kernel
theorem dX9_cries_91 : decode cX9_cries 91 = .ok (.iastore, 1) := by decide +kernel
theorem dX9_cries_92 : decode cX9_cries 92 = .ok (.aload_n 0, 1) := by decide +kernel
theorem dX9_cries_93 : decode cX9_cries 93 = .ok (.getfield 48, 3) := by decide +kernel
theorem dX9_cries_96 : decode cX9_cries 96 = .ok (.aload_n 0, 1) := by decide +kernel
theorem dX9_cries_97 : decode cX9_cries 97 = .ok (.getfield 131, 3) := by decide +kernel
theorem dX9_cries_100 : decode cX9_cries 100 = .ok (.iload_n 2, 1) := by decide +kernel
theorem dX9_cries_101 : decode cX9_cries 101 = .ok (.iastore, 1) := by decide +kernel
theorem dX9_cries_102 : decode cX9_cries 102 = .ok (.aload_n 0, 1) := by decide +kernel
theorem dX9_cries_103 : decode cX9_cries 103 = .ok (.getfield 51, 3) := by decide +kernel
theorem dX9_cries_106 : decode cX9_cries 106 = .ok (.aload_n 0, 1) := by decide +kernel
theorem dX9_cries_107 : decode cX9_cries 107 = .ok (.getfield 131, 3) := by decide +kernel
theorem dX9_cries_110 : decode cX9_cries 110 = .ok (.iload_n 3, 1) := by decide +kernel
theorem dX9_cries_111 : decode cX9_cries 111 = .ok (.iastore, 1) := by decide +kernel
theorem dX9_cries_112 : decode cX9_cries 112 = .ok (.aload_n 0, 1) := by decide +kernel
theorem dX9_cries_113 : decode cX9_cries 113 = .ok (.getfield 54, 3) := by decide +kernel
theorem dX9_cries_116 : decode cX9_cries 116 = .ok (.aload_n 0, 1) := by decide +kernel
theorem dX9_cries_117 : decode cX9_cries 117 = .ok (.getfield 131, 3) := by decide +kernel
theorem dX9_cries_120 : decode cX9_cries 120 = .ok (.iload_n 3, 1) := by decide +kernel
theorem dX9_cries_121 : decode cX9_cries 121 = .ok (.iastore, 1) := by decide +kernel
theorem dX9_cries_122 : decode cX9_cries 122 = .ok (.aload_n 0, 1) := by decide +kernel
theorem dX9_cries_123 : decode cX9_cries 123 = .ok (.getfield 57, 3) := by decide +kernel
theorem dX9_cries_126 : decode cX9_cries 126 = .ok (.aload_n 0, 1) := by decide +kernel
theorem dX9_cries_127 : decode cX9_cries 127 = .ok (.getfield 131, 3) := by decide +kernel
theorem dX9_cries_130 : decode cX9_cries 130 = .ok (.iconst 1, 1) := by decide +kernel
theorem dX9_cries_131 : decode cX9_cries 131 = .ok (.bastore, 1) := by decide +kernel
theorem dX9_cries_132 : decode cX9_cries 132 = .ok (.aload_n 0, 1) := by decide +kernel
theorem dX9_cries_133 : decode cX9_cries 133 = .ok (.dup, 1) := by decide +kernel
theorem dX9_cries_134 : decode cX9_cries 134 = .ok (.getfield 131, 3) := by decide +kernel
theorem dX9_cries_137 : decode cX9_cries 137 = .ok (.iconst 1, 1) := by decide +kernel
theorem dX9_cries_138 : decode cX9_cries 138 = .ok (.iadd, 1) := by decide +kernel
theorem dX9_cries_139 : decode cX9_cries 139 = .ok (.putfield 131, 3) := by decide +kernel
theorem dX9_cries_142 : decode cX9_cries 142 = .ok (.return_, 1) := by decide +kernel
theorem dX9_hours_0 : decode cX9_hours 0 = .ok (.iload_n 1, 1) := by decide +kernel
theorem dX9_hours_1 : decode cX9_hours 1 = .ok (.iconst 1, 1) := by decide +kernel
theorem dX9_hours_2 : decode cX9_hours 2 = .ok (.bipush 48, 2) := by decide +kernel
theorem dX9_hours_4 : decode cX9_hours 4 = .ok (.invokestatic 69, 3) := by decide +kernel
theorem dX9_hours_7 : decode cX9_hours 7 = .ok (.ifCond .eq 15, 3) := by decide +kernel
theorem dX9_hours_10 : decode cX9_hours 10 = .ok (.aload_n 0, 1) := by decide +kernel
theorem dX9_hours_11 : decode cX9_hours 11 = .ok (.getfield 83, 3) := by decide +kernel
theorem dX9_hours_14 : decode cX9_hours 14 = .ok (.sipush 1999, 3) := by decide +kernel
theorem dX9_hours_17 : decode cX9_hours 17 = .ok (.iload_n 1, 1) := by decide +kernel
theorem dX9_hours_18 : decode cX9_hours 18 = .ok (.isub, 1) := by decide +kernel
theorem dX9_hours_19 : decode cX9_hours 19 = .ok (.if_icmp .le 5, 3) := by decide +kernel
theorem dX9_hours_22 : decode cX9_hours 22 = .ok (.iconst (-1), 1) := by decide +kernel
theorem dX9_hours_23 : decode cX9_hours 23 = .ok (.ireturn, 1) := by decide +kernel
theorem dX9_hours_24 : decode cX9_hours 24 = .ok (.iconst 0, 1) := by decide +kernel
theorem dX9_hours_25 : decode cX9_hours 25 = .ok (.istore_n 2, 1) := by decide +kernel
theorem dX9_hours_26 : decode cX9_hours 26 = .ok (.iload_n 2, 1) := by decide +kernel
theorem dX9_hours_27 : decode cX9_hours 27 = .ok (.iload_n 1, 1) := by decide +kernel
theorem dX9_hours_28 : decode cX9_hours 28 = .ok (.if_icmp .ge 42, 3) := by decide +kernel
theorem dX9_hours_31 : decode cX9_hours 31 = .ok (.iconst 0, 1) := by decide +kernel
theorem dX9_hours_32 : decode cX9_hours 32 = .ok (.istore_n 3, 1) := by decide +kernel
theorem dX9_hours_33 : decode cX9_hours 33 = .ok (.iload_n 3, 1) := by decide +kernel
theorem dX9_hours_34 : decode cX9_hours 34 = .ok (.bipush 6, 2) := by decide +kernel
theorem dX9_hours_36 : decode cX9_hours 36 = .ok (.if_icmp .ge 18, 3) := by decide +kernel
theorem dX9_hours_39 : decode cX9_hours 39 = .ok (.aload_n 0, 1) := by decide +kernel
theorem dX9_hours_40 : decode cX9_hours 40 = .ok (.iload_n 3, 1) := by decide +kernel
theorem dX9_hours_41 : decode cX9_hours 41 = .ok (.aload_n 0, 1) := by decide +kernel
theorem dX9_hours_42 : decode cX9_hours 42 = .ok (.getfield 83, 3) := by decide +kernel
theorem dX9_hours_45 : decode cX9_hours 45 = .ok (.invokevirtual 133, 3) := by decide +kernel
theorem dX9_hours_48 : decode cX9_hours 48 = .ok (.iinc 3 1, 3) := by decide +kernel
theorem dX9_hours_51 : decode cX9_hours 51 = .ok (.goto (-18), 3) := by decide +kernel
theorem dX9_hours_54 : decode cX9_hours 54 = .ok (.aload_n 0, 1) := by decide +kernel
theorem dX9_hours_55 : decode cX9_hours 55 = .ok (.dup, 1) := by decide +kernel
theorem dX9_hours_56 : decode cX9_hours 56 = .ok (.getfield 83, 3) := by decide +kernel
theorem dX9_hours_59 : decode cX9_hours 59 = .ok (.iconst 1, 1) := by decide +kernel
theorem dX9_hours_60 : decode cX9_hours 60 = .ok (.iadd, 1) := by decide +kernel
theorem dX9_hours_61 : decode cX9_hours 61 = .ok (.putfield 83, 3) := by decide +kernel
theorem dX9_hours_64 : decode cX9_hours 64 = .ok (.iinc 2 1, 3) := by decide +kernel
theorem dX9_hours_67 : decode cX9_hours 67 = .ok (.goto (-41), 3) := by decide +kernel
theorem dX9_hours_70 : decode cX9_hours 70 = .ok (.aload_n 0, 1) := by decide +kernel
theorem dX9_hours_71 : decode cX9_hours 71 = .ok (.getfield 83, 3) := by decide +kernel
theorem dX9_hours_74 : decode cX9_hours 74 = .ok (.ireturn, 1) := by decide +kernel
theorem dX9_look_0 : decode cX9_look 0 = .ok (.iconst 0, 1) := by decide +kernel
theorem dX9_look_1 : decode cX9_look 1 = .ok (.istore_n 2, 1) := by decide +kernel
theorem dX9_look_2 : decode cX9_look 2 = .ok (.iload_n 1, 1) := by decide +kernel
theorem dX9_look_3 : decode cX9_look 3 = .ok (.tableswitch 128 0 5 #[37, 42, 47, 83, 88, 123], 37) := by decide +kernel
theorem dX9_look_40 : decode cX9_look 40 = .ok (.aload_n 0, 1) := by decide +kernel
theorem dX9_look_41 : decode cX9_look 41 = .ok (.getfield 83, 3) := by decide +kernel
theorem dX9_look_44 : decode cX9_look 44 = .ok (.ireturn, 1) := by decide +kernel
theorem dX9_look_45 : decode cX9_look 45 = .ok (.aload_n 0, 1) := by decide +kernel
theorem dX9_look_46 : decode cX9_look 46 = .ok (.getfield 80, 3) := by decide +kernel
theorem dX9_look_49 : decode cX9_look 49 = .ok (.ireturn, 1) := by decide +kernel
theorem dX9_look_50 : decode cX9_look 50 = .ok (.iconst 0, 1) := by decide +kernel
theorem dX9_look_51 : decode cX9_look 51 = .ok (.istore_n 3, 1) := by decide +kernel
theorem dX9_look_52 : decode cX9_look 52 = .ok (.iload_n 3, 1) := by decide +kernel
theorem dX9_look_53 : decode cX9_look 53 = .ok (.aload_n 0, 1) := by decide +kernel
theorem dX9_look_54 : decode cX9_look 54 = .ok (.getfield 80, 3) := by decide +kernel
theorem dX9_look_57 : decode cX9_look 57 = .ok (.if_icmp .ge 27, 3) := by decide +kernel
theorem dX9_look_60 : decode cX9_look 60 = .ok (.iload_n 2, 1) := by decide +kernel
theorem dX9_look_61 : decode cX9_look 61 = .ok (.aload_n 0, 1) := by decide +kernel
theorem dX9_look_62 : decode cX9_look 62 = .ok (.getfield 36, 3) := by decide +kernel
theorem dX9_look_65 : decode cX9_look 65 = .ok (.iload_n 3, 1) := by decide +kernel
theorem dX9_look_66 : decode cX9_look 66 = .ok (.iaload, 1) := by decide +kernel
theorem dX9_look_67 : decode cX9_look 67 = .ok (.iconst (-1), 1) := by decide +kernel
theorem dX9_look_68 : decode cX9_look 68 = .ok (.if_icmp .ne 7, 3) := by decide +kernel
theorem dX9_look_71 : decode cX9_look 71 = .ok (.iconst 1, 1) := by decide +kernel
theorem dX9_look_72 : decode cX9_look 72 = .ok (.goto 4, 3) := by decide +kernel
theorem dX9_look_75 : decode cX9_look 75 = .ok (.iconst 0, 1) := by decide +kernel
theorem dX9_look_76 : decode cX9_look 76 = .ok (.iadd, 1) := by decide +kernel
theorem dX9_look_77 : decode cX9_look 77 = .ok (.istore_n 2, 1) := by decide +kernel
theorem dX9_look_78 : decode cX9_look 78 = .ok (.iinc 3 1, 3) := by decide +kernel
theorem dX9_look_81 : decode cX9_look 81 = .ok (.goto (-29), 3) := by decide +kernel
theorem dX9_look_84 : decode cX9_look 84 = .ok (.iload_n 2, 1) := by decide +kernel
theorem dX9_look_85 : decode cX9_look 85 = .ok (.ireturn, 1) := by decide +kernel
theorem dX9_look_86 : decode cX9_look 86 = .ok (.aload_n 0, 1) := by decide +kernel
theorem dX9_look_87 : decode cX9_look 87 = .ok (.getfield 131, 3) := by decide +kernel
theorem dX9_look_90 : decode cX9_look 90 = .ok (.ireturn, 1) := by decide +kernel
theorem dX9_look_91 : decode cX9_look 91 = .ok (.iconst 0, 1) := by decide +kernel
theorem dX9_look_92 : decode cX9_look 92 = .ok (.istore_n 3, 1) := by decide +kernel
theorem dX9_look_93 : decode cX9_look 93 = .ok (.iload_n 3, 1) := by decide +kernel
theorem dX9_look_94 : decode cX9_look 94 = .ok (.aload_n 0, 1) := by decide +kernel
theorem dX9_look_95 : decode cX9_look 95 = .ok (.getfield 131, 3) := by decide +kernel
theorem dX9_look_98 : decode cX9_look 98 = .ok (.if_icmp .ge 26, 3) := by decide +kernel
theorem dX9_look_101 : decode cX9_look 101 = .ok (.iload_n 2, 1) := by decide +kernel
theorem dX9_look_102 : decode cX9_look 102 = .ok (.aload_n 0, 1) := by decide +kernel
theorem dX9_look_103 : decode cX9_look 103 = .ok (.getfield 57, 3) := by decide +kernel
theorem dX9_look_106 : decode cX9_look 106 = .ok (.iload_n 3, 1) := by decide +kernel
theorem dX9_look_107 : decode cX9_look 107 = .ok (.baload, 1) := by decide +kernel
theorem dX9_look_108 : decode cX9_look 108 = .ok (.ifCond .eq 7, 3) := by decide +kernel
theorem dX9_look_111 : decode cX9_look 111 = .ok (.iconst 1, 1) := by decide +kernel
theorem dX9_look_112 : decode cX9_look 112 = .ok (.goto 4, 3) := by decide +kernel
theorem dX9_look_115 : decode cX9_look 115 = .ok (.iconst 0, 1) := by decide +kernel
theorem dX9_look_116 : decode cX9_look 116 = .ok (.iadd, 1) := by decide +kernel
theorem dX9_look_117 : decode cX9_look 117 = .ok (.istore_n 2, 1) := by decide +kernel
theorem dX9_look_118 : decode cX9_look 118 = .ok (.iinc 3 1, 3) := by decide +kernel
theorem dX9_look_121 : decode cX9_look 121 = .ok (.goto (-28), 3) := by decide +kernel
theorem dX9_look_124 : decode cX9_look 124 = .ok (.iload_n 2, 1) := by decide +kernel
theorem dX9_look_125 : decode cX9_look 125 = .ok (.ireturn, 1) := by decide +kernel
theorem dX9_look_126 : decode cX9_look 126 = .ok (.aload_n 0, 1) := by decide +kernel
theorem dX9_look_127 : decode cX9_look 127 = .ok (.getfield 7, 3) := by decide +kernel
theorem dX9_look_130 : decode cX9_look 130 = .ok (.ireturn, 1) := by decide +kernel
theorem dX9_look_131 : decode cX9_look 131 = .ok (.iconst (-1), 1) := by decide +kernel
theorem dX9_look_132 : decode cX9_look 132 = .ok (.ireturn, 1) := by decide +kernel
theorem dX9_machine_0 : decode cX9_machine 0 = .ok (.aload_n 0, 1) := by decide +kernel
theorem dX9_machine_1 : decode cX9_machine 1 = .ok (.iload_n 1, 1) := by decide +kernel
theorem dX9_machine_2 : decode cX9_machine 2 = .ok (.invokevirtual 86, 3) := by decide +kernel
theorem dX9_machine_5 : decode cX9_machine 5 = .ok (.ifCond .ne 5, 3) := by decide +kernel
theorem dX9_machine_8 : decode cX9_machine 8 = .ok (.iconst (-1), 1) := by decide +kernel
theorem dX9_machine_9 : decode cX9_machine 9 = .ok (.ireturn, 1) := by decide +kernel
theorem dX9_machine_10 : decode cX9_machine 10 = .ok (.iload_n 2, 1) := by decide +kernel
theorem dX9_machine_11 : decode cX9_machine 11 = .ok (.ifCond .ne 12, 3) := by decide +kernel
theorem dX9_machine_14 : decode cX9_machine 14 = .ok (.aload_n 0, 1) := by decide +kernel
theorem dX9_machine_15 : decode cX9_machine 15 = .ok (.getfield 27, 3) := by decide +kernel
theorem dX9_machine_18 : decode cX9_machine 18 = .ok (.iload_n 1, 1) := by decide +kernel
theorem dX9_machine_19 : decode cX9_machine 19 = .ok (.iaload, 1) := by decide +kernel
theorem dX9_machine_20 : decode cX9_machine 20 = .ok (.goto 46, 3) := by decide +kernel
theorem dX9_machine_23 : decode cX9_machine 23 = .ok (.iload_n 2, 1) := by decide +kernel
theorem dX9_machine_24 : decode cX9_machine 24 = .ok (.iconst 1, 1) := by decide +kernel
theorem dX9_machine_25 : decode cX9_machine 25 = .ok (.if_icmp .ne 12, 3) := by decide +kernel
theorem dX9_machine_28 : decode cX9_machine 28 = .ok (.aload_n 0, 1) := by decide +kernel
theorem dX9_machine_29 : decode cX9_machine 29 = .ok (.getfield 30, 3) := by decide +kernel
theorem dX9_machine_32 : decode cX9_machine 32 = .ok (.iload_n 1, 1) := by decide +kernel
theorem dX9_machine_33 : decode cX9_machine 33 = .ok (.iaload, 1) := by decide +kernel
theorem dX9_machine_34 : decode cX9_machine 34 = .ok (.goto 32, 3) := by decide +kernel
theorem dX9_machine_37 : decode cX9_machine 37 = .ok (.iload_n 2, 1) := by decide +kernel
theorem dX9_machine_38 : decode cX9_machine 38 = .ok (.iconst 2, 1) := by decide +kernel
theorem dX9_machine_39 : decode cX9_machine 39 = .ok (.if_icmp .ne 12, 3) := by decide +kernel
theorem dX9_machine_42 : decode cX9_machine 42 = .ok (.aload_n 0, 1) := by decide +kernel
theorem dX9_machine_43 : decode cX9_machine 43 = .ok (.getfield 33, 3) := by decide +kernel
theorem dX9_machine_46 : decode cX9_machine 46 = .ok (.iload_n 1, 1) := by decide +kernel
theorem dX9_machine_47 : decode cX9_machine 47 = .ok (.iaload, 1) := by decide +kernel
theorem dX9_machine_48 : decode cX9_machine 48 = .ok (.goto 18, 3) := by decide +kernel
theorem dX9_machine_51 : decode cX9_machine 51 = .ok (.iload_n 2, 1) := by decide +kernel
theorem dX9_machine_52 : decode cX9_machine 52 = .ok (.iconst 3, 1) := by decide +kernel
theorem dX9_machine_53 : decode cX9_machine 53 = .ok (.if_icmp .ne 12, 3) := by decide +kernel
theorem dX9_machine_56 : decode cX9_machine 56 = .ok (.aload_n 0, 1) := by decide +kernel
theorem dX9_machine_57 : decode cX9_machine 57 = .ok (.getfield 36, 3) := by decide +kernel
theorem dX9_machine_60 : decode cX9_machine 60 = .ok (.iload_n 1, 1) := by decide +kernel
theorem dX9_machine_61 : decode cX9_machine 61 = .ok (.iaload, 1) := by decide +kernel
theorem dX9_machine_62 : decode cX9_machine 62 = .ok (.goto 4, 3) := by decide +kernel
theorem dX9_machine_65 : decode cX9_machine 65 = .ok (.iconst (-1), 1) := by decide +kernel
theorem dX9_machine_66 : decode cX9_machine 66 = .ok (.ireturn, 1) := by decide +kernel
theorem dX9_cry_0 : decode cX9_cry 0 = .ok (.iload_n 1, 1) := by decide +kernel
theorem dX9_cry_1 : decode cX9_cry 1 = .ok (.iconst 0, 1) := by decide +kernel
theorem dX9_cry_2 : decode cX9_cry 2 = .ok (.aload_n 0, 1) := by decide +kernel
theorem dX9_cry_3 : decode cX9_cry 3 = .ok (.getfield 131, 3) := by decide +kernel
theorem dX9_cry_6 : decode cX9_cry 6 = .ok (.iconst 1, 1) := by decide +kernel
theorem dX9_cry_7 : decode cX9_cry 7 = .ok (.isub, 1) := by decide +kernel
theorem dX9_cry_8 : decode cX9_cry 8 = .ok (.invokestatic 69, 3) := by decide +kernel
theorem dX9_cry_11 : decode cX9_cry 11 = .ok (.ifCond .ne 5, 3) := by decide +kernel
theorem dX9_cry_14 : decode cX9_cry 14 = .ok (.iconst (-1), 1) := by decide +kernel
theorem dX9_cry_15 : decode cX9_cry 15 = .ok (.ireturn, 1) := by decide +kernel
theorem dX9_cry_16 : decode cX9_cry 16 = .ok (.iload_n 2, 1) := by decide +kernel
theorem dX9_cry_17 : decode cX9_cry 17 = .ok (.tableswitch 78 0 4 #[35, 42, 49, 56, 63], 35) := by decide +kernel
theorem dX9_cry_52 : decode cX9_cry 52 = .ok (.aload_n 0, 1) := by decide +kernel
theorem dX9_cry_53 : decode cX9_cry 53 = .ok (.getfield 45, 3) := by decide +kernel
theorem dX9_cry_56 : decode cX9_cry 56 = .ok (.iload_n 1, 1) := by decide +kernel
theorem dX9_cry_57 : decode cX9_cry 57 = .ok (.iaload, 1) := by decide +kernel
theorem dX9_cry_58 : decode cX9_cry 58 = .ok (.ireturn, 1) := by decide +kernel
theorem dX9_cry_59 : decode cX9_cry 59 = .ok (.aload_n 0, 1) := by decide +kernel
theorem dX9_cry_60 : decode cX9_cry 60 = .ok (.getfield 48, 3) := by decide +kernel
theorem dX9_cry_63 : decode cX9_cry 63 = .ok (.iload_n 1, 1) := by decide +kernel
theorem dX9_cry_64 : decode cX9_cry 64 = .ok (.iaload, 1) := by decide +kernel
theorem dX9_cry_65 : decode cX9_cry 65 = .ok (.ireturn, 1) := by decide +kernel
theorem dX9_cry_66 : decode cX9_cry 66 = .ok (.aload_n 0, 1) := by decide +kernel
theorem dX9_cry_67 : decode cX9_cry 67 = .ok (.getfield 51, 3) := by decide +kernel
theorem dX9_cry_70 : decode cX9_cry 70 = .ok (.iload_n 1, 1) := by decide +kernel
theorem dX9_cry_71 : decode cX9_cry 71 = .ok (.iaload, 1) := by decide +kernel
theorem dX9_cry_72 : decode cX9_cry 72 = .ok (.ireturn, 1) := by decide +kernel
theorem dX9_cry_73 : decode cX9_cry 73 = .ok (.aload_n 0, 1) := by decide +kernel
theorem dX9_cry_74 : decode cX9_cry 74 = .ok (.getfield 54, 3) := by decide +kernel
theorem dX9_cry_77 : decode cX9_cry 77 = .ok (.iload_n 1, 1) := by decide +kernel
theorem dX9_cry_78 : decode cX9_cry 78 = .ok (.iaload, 1) := by decide +kernel
theorem dX9_cry_79 : decode cX9_cry 79 = .ok (.ireturn, 1) := by decide +kernel
theorem dX9_cry_80 : decode cX9_cry 80 = .ok (.aload_n 0, 1) := by decide +kernel
theorem dX9_cry_81 : decode cX9_cry 81 = .ok (.getfield 57, 3) := by decide +kernel
theorem dX9_cry_84 : decode cX9_cry 84 = .ok (.iload_n 1, 1) := by decide +kernel
theorem dX9_cry_85 : decode cX9_cry 85 = .ok (.baload, 1) := by decide +kernel
theorem dX9_cry_86 : decode cX9_cry 86 = .ok (.ifCond .eq 7, 3) := by decide +kernel
theorem dX9_cry_89 : decode cX9_cry 89 = .ok (.iconst 1, 1) := by decide +kernel
theorem dX9_cry_90 : decode cX9_cry 90 = .ok (.goto 4, 3) := by decide +kernel
theorem dX9_cry_93 : decode cX9_cry 93 = .ok (.iconst 0, 1) := by decide +kernel
theorem dX9_cry_94 : decode cX9_cry 94 = .ok (.ireturn, 1) := by decide +kernel
theorem dX9_cry_95 : decode cX9_cry 95 = .ok (.iconst (-1), 1) := by decide +kernel
theorem dX9_cry_96 : decode cX9_cry 96 = .ok (.ireturn, 1) := by decide +kernel
theorem dX9_part_0 : decode cX9_part 0 = .ok (.aload_n 0, 1) := by decide +kernel
theorem dX9_part_1 : decode cX9_part 1 = .ok (.getfield 20, 3) := by decide +kernel
theorem dX9_part_4 : decode cX9_part 4 = .ok (.iload_n 1, 1) := by decide +kernel
theorem dX9_part_5 : decode cX9_part 5 = .ok (.baload, 1) := by decide +kernel
theorem dX9_part_6 : decode cX9_part 6 = .ok (.ifCond .ne 19, 3) := by decide +kernel
theorem dX9_part_9 : decode cX9_part 9 = .ok (.aload_n 0, 1) := by decide +kernel
theorem dX9_part_10 : decode cX9_part 10 = .ok (.getfield 24, 3) := by decide +kernel
theorem dX9_part_13 : decode cX9_part 13 = .ok (.iload_n 1, 1) := by decide +kernel
theorem dX9_part_14 : decode cX9_part 14 = .ok (.iaload, 1) := by decide +kernel
theorem dX9_part_15 : decode cX9_part 15 = .ok (.iload_n 3, 1) := by decide +kernel
theorem dX9_part_16 : decode cX9_part 16 = .ok (.if_icmp .ne 7, 3) := by decide +kernel
theorem dX9_part_19 : decode cX9_part 19 = .ok (.iload_n 2, 1) := by decide +kernel
theorem dX9_part_20 : decode cX9_part 20 = .ok (.goto 4, 3) := by decide +kernel
theorem dX9_part_23 : decode cX9_part 23 = .ok (.iconst 0, 1) := by decide +kernel
theorem dX9_part_24 : decode cX9_part 24 = .ok (.ireturn, 1) := by decide +kernel
theorem dX9_part_25 : decode cX9_part 25 = .ok (.iconst 0, 1) := by decide +kernel
theorem dX9_part_26 : decode cX9_part 26 = .ok (.istore 4, 2) := by decide +kernel
theorem dX9_part_28 : decode cX9_part 28 = .ok (.iconst 0, 1) := by decide +kernel
theorem dX9_part_29 : decode cX9_part 29 = .ok (.istore 5, 2) := by decide +kernel
theorem dX9_part_31 : decode cX9_part 31 = .ok (.iload 5, 2) := by decide +kernel
theorem dX9_part_33 : decode cX9_part 33 = .ok (.iconst 4, 1) := by decide +kernel
theorem dX9_part_34 : decode cX9_part 34 = .ok (.if_icmp .ge 25, 3) := by decide +kernel
theorem dX9_part_37 : decode cX9_part 37 = .ok (.iload 4, 2) := by decide +kernel
theorem dX9_part_39 : decode cX9_part 39 = .ok (.aload_n 0, 1) := by decide +kernel
theorem dX9_part_40 : decode cX9_part 40 = .ok (.getfield 13, 3) := by decide +kernel
theorem dX9_part_43 : decode cX9_part 43 = .ok (.iconst 4, 1) := by decide +kernel
theorem dX9_part_44 : decode cX9_part 44 = .ok (.iload_n 1, 1) := by decide +kernel
theorem dX9_part_45 : decode cX9_part 45 = .ok (.imul, 1) := by decide +kernel
theorem dX9_part_46 : decode cX9_part 46 = .ok (.iload 5, 2) := by decide +kernel
theorem dX9_part_48 : decode cX9_part 48 = .ok (.iadd, 1) := by decide +kernel
theorem dX9_part_49 : decode cX9_part 49 = .ok (.iaload, 1) := by decide +kernel
theorem dX9_part_50 : decode cX9_part 50 = .ok (.iadd, 1) := by decide +kernel
theorem dX9_part_51 : decode cX9_part 51 = .ok (.istore 4, 2) := by decide +kernel
theorem dX9_part_53 : decode cX9_part 53 = .ok (.iinc 5 1, 3) := by decide +kernel
theorem dX9_part_56 : decode cX9_part 56 = .ok (.goto (-25), 3) := by decide +kernel
theorem dX9_part_59 : decode cX9_part 59 = .ok (.iload_n 2, 1) := by decide +kernel
theorem dX9_part_60 : decode cX9_part 60 = .ok (.istore 5, 2) := by decide +kernel
theorem dX9_part_62 : decode cX9_part 62 = .ok (.iconst 0, 1) := by decide +kernel
theorem dX9_part_63 : decode cX9_part 63 = .ok (.istore 6, 2) := by decide +kernel
theorem dX9_part_65 : decode cX9_part 65 = .ok (.iload 6, 2) := by decide +kernel
theorem dX9_part_67 : decode cX9_part 67 = .ok (.iconst 4, 1) := by decide +kernel
theorem dX9_part_68 : decode cX9_part 68 = .ok (.if_icmp .ge 30, 3) := by decide +kernel
theorem dX9_part_71 : decode cX9_part 71 = .ok (.iload 5, 2) := by decide +kernel
theorem dX9_part_73 : decode cX9_part 73 = .ok (.iload_n 2, 1) := by decide +kernel
theorem dX9_part_74 : decode cX9_part 74 = .ok (.aload_n 0, 1) := by decide +kernel
theorem dX9_part_75 : decode cX9_part 75 = .ok (.getfield 13, 3) := by decide +kernel
theorem dX9_part_78 : decode cX9_part 78 = .ok (.iconst 4, 1) := by decide +kernel
theorem dX9_part_79 : decode cX9_part 79 = .ok (.iload_n 1, 1) := by decide +kernel
theorem dX9_part_80 : decode cX9_part 80 = .ok (.imul, 1) := by decide +kernel
theorem dX9_part_81 : decode cX9_part 81 = .ok (.iload 6, 2) := by decide +kernel
theorem dX9_part_83 : decode cX9_part 83 = .ok (.iadd, 1) := by decide +kernel
theorem dX9_part_84 : decode cX9_part 84 = .ok (.iaload, 1) := by decide +kernel
theorem dX9_part_85 : decode cX9_part 85 = .ok (.imul, 1) := by decide +kernel
theorem dX9_part_86 : decode cX9_part 86 = .ok (.iload 4, 2) := by decide +kernel
theorem dX9_part_88 : decode cX9_part 88 = .ok (.idiv, 1) := by decide +kernel
theorem dX9_part_89 : decode cX9_part 89 = .ok (.isub, 1) := by decide +kernel
theorem dX9_part_90 : decode cX9_part 90 = .ok (.istore 5, 2) := by decide +kernel
theorem dX9_part_92 : decode cX9_part 92 = .ok (.iinc 6 1, 3) := by decide +kernel
theorem dX9_part_95 : decode cX9_part 95 = .ok (.goto (-30), 3) := by decide +kernel
theorem dX9_part_98 : decode cX9_part 98 = .ok (.iload_n 2, 1) := by decide +kernel
theorem dX9_part_99 : decode cX9_part 99 = .ok (.aload_n 0, 1) := by decide +kernel
theorem dX9_part_100 : decode cX9_part 100 = .ok (.getfield 13, 3) := by decide +kernel
theorem dX9_part_103 : decode cX9_part 103 = .ok (.iconst 4, 1) := by decide +kernel
theorem dX9_part_104 : decode cX9_part 104 = .ok (.iload_n 1, 1) := by decide +kernel
theorem dX9_part_105 : decode cX9_part 105 = .ok (.imul, 1) := by decide +kernel
theorem dX9_part_106 : decode cX9_part 106 = .ok (.iload_n 3, 1) := by decide +kernel
theorem dX9_part_107 : decode cX9_part 107 = .ok (.iadd, 1) := by decide +kernel
theorem dX9_part_108 : decode cX9_part 108 = .ok (.iaload, 1) := by decide +kernel
theorem dX9_part_109 : decode cX9_part 109 = .ok (.imul, 1) := by decide +kernel
theorem dX9_part_110 : decode cX9_part 110 = .ok (.iload 4, 2) := by decide +kernel
theorem dX9_part_112 : decode cX9_part 112 = .ok (.irem, 1) := by decide +kernel
theorem dX9_part_113 : decode cX9_part 113 = .ok (.istore 6, 2) := by decide +kernel
theorem dX9_part_115 : decode cX9_part 115 = .ok (.iconst 0, 1) := by decide +kernel
theorem dX9_part_116 : decode cX9_part 116 = .ok (.istore 7, 2) := by decide +kernel
theorem dX9_part_118 : decode cX9_part 118 = .ok (.iconst 0, 1) := by decide +kernel
theorem dX9_part_119 : decode cX9_part 119 = .ok (.istore 8, 2) := by decide +kernel
theorem dX9_part_121 : decode cX9_part 121 = .ok (.iload 8, 2) := by decide +kernel
theorem dX9_part_123 : decode cX9_part 123 = .ok (.iconst 4, 1) := by decide +kernel
theorem dX9_part_124 : decode cX9_part 124 = .ok (.if_icmp .ge 57, 3) := by decide +kernel
theorem dX9_part_127 : decode cX9_part 127 = .ok (.iload_n 2, 1) := by decide +kernel
theorem dX9_part_128 : decode cX9_part 128 = .ok (.aload_n 0, 1) := by decide +kernel
theorem dX9_part_129 : decode cX9_part 129 = .ok (.getfield 13, 3) := by decide +kernel
theorem dX9_part_132 : decode cX9_part 132 = .ok (.iconst 4, 1) := by decide +kernel
theorem dX9_part_133 : decode cX9_part 133 = .ok (.iload_n 1, 1) := by decide +kernel
theorem dX9_part_134 : decode cX9_part 134 = .ok (.imul, 1) := by decide +kernel
theorem dX9_part_135 : decode cX9_part 135 = .ok (.iload 8, 2) := by decide +kernel
theorem dX9_part_137 : decode cX9_part 137 = .ok (.iadd, 1) := by decide +kernel
theorem dX9_part_138 : decode cX9_part 138 = .ok (.iaload, 1) := by decide +kernel
theorem dX9_part_139 : decode cX9_part 139 = .ok (.imul, 1) := by decide +kernel
theorem dX9_part_140 : decode cX9_part 140 = .ok (.iload 4, 2) := by decide +kernel
theorem dX9_part_142 : decode cX9_part 142 = .ok (.irem, 1) := by decide +kernel
theorem dX9_part_143 : decode cX9_part 143 = .ok (.istore 9, 2) := by decide +kernel
theorem dX9_part_145 : decode cX9_part 145 = .ok (.iload 7, 2) := by decide +kernel
theorem dX9_part_147 : decode cX9_part 147 = .ok (.iload 9, 2) := by decide +kernel
theorem dX9_part_149 : decode cX9_part 149 = .ok (.iload 6, 2) := by decide +kernel
theorem dX9_part_151 : decode cX9_part 151 = .ok (.if_icmp .gt 16, 3) := by decide +kernel
theorem dX9_part_154 : decode cX9_part 154 = .ok (.iload 9, 2) := by decide +kernel
theorem dX9_part_156 : decode cX9_part 156 = .ok (.iload 6, 2) := by decide +kernel
theorem dX9_part_158 : decode cX9_part 158 = .ok (.if_icmp .ne 13, 3) := by decide +kernel
theorem dX9_part_161 : decode cX9_part 161 = .ok (.iload 8, 2) := by decide +kernel
theorem dX9_part_163 : decode cX9_part 163 = .ok (.iload_n 3, 1) := by decide +kernel
theorem dX9_part_164 : decode cX9_part 164 = .ok (.if_icmp .ge 7, 3) := by decide +kernel
theorem dX9_part_167 : decode cX9_part 167 = .ok (.iconst 1, 1) := by decide +kernel
theorem dX9_part_168 : decode cX9_part 168 = .ok (.goto 4, 3) := by decide +kernel
theorem dX9_part_171 : decode cX9_part 171 = .ok (.iconst 0, 1) := by decide +kernel
theorem dX9_part_172 : decode cX9_part 172 = .ok (.iadd, 1) := by decide +kernel
theorem dX9_part_173 : decode cX9_part 173 = .ok (.istore 7, 2) := by decide +kernel
theorem dX9_part_175 : decode cX9_part 175 = .ok (.iinc 8 1, 3) := by decide +kernel
theorem dX9_part_178 : decode cX9_part 178 = .ok (.goto (-57), 3) := by decide +kernel
theorem dX9_part_181 : decode cX9_part 181 = .ok (.iload_n 2, 1) := by decide +kernel
theorem dX9_part_182 : decode cX9_part 182 = .ok (.aload_n 0, 1) := by decide +kernel
theorem dX9_part_183 : decode cX9_part 183 = .ok (.getfield 13, 3) := by decide +kernel
theorem dX9_part_186 : decode cX9_part 186 = .ok (.iconst 4, 1) := by decide +kernel
theorem dX9_part_187 : decode cX9_part 187 = .ok (.iload_n 1, 1) := by decide +kernel
theorem dX9_part_188 : decode cX9_part 188 = .ok (.imul, 1) := by decide +kernel
theorem dX9_part_189 : decode cX9_part 189 = .ok (.iload_n 3, 1) := by decide +kernel
theorem dX9_part_190 : decode cX9_part 190 = .ok (.iadd, 1) := by decide +kernel
theorem dX9_part_191 : decode cX9_part 191 = .ok (.iaload, 1) := by decide +kernel
theorem dX9_part_192 : decode cX9_part 192 = .ok (.imul, 1) := by decide +kernel
theorem dX9_part_193 : decode cX9_part 193 = .ok (.iload 4, 2) := by decide +kernel
theorem dX9_part_195 : decode cX9_part 195 = .ok (.idiv, 1) := by decide +kernel
theorem dX9_part_196 : decode cX9_part 196 = .ok (.iload 7, 2) := by decide +kernel
theorem dX9_part_198 : decode cX9_part 198 = .ok (.iload 5, 2) := by decide +kernel
theorem dX9_part_200 : decode cX9_part 200 = .ok (.if_icmp .ge 7, 3) := by decide +kernel
theorem dX9_part_203 : decode cX9_part 203 = .ok (.iconst 1, 1) := by decide +kernel
theorem dX9_part_204 : decode cX9_part 204 = .ok (.goto 4, 3) := by decide +kernel
theorem dX9_part_207 : decode cX9_part 207 = .ok (.iconst 0, 1) := by decide +kernel
theorem dX9_part_208 : decode cX9_part 208 = .ok (.iadd, 1) := by decide +kernel
theorem dX9_part_209 : decode cX9_part 209 = .ok (.ireturn, 1) := by decide +kernel
theorem dX9_laidIn_0 : decode cX9_laidIn 0 = .ok (.iconst 0, 1) := by decide +kernel
theorem dX9_laidIn_1 : decode cX9_laidIn 1 = .ok (.istore_n 3, 1) := by decide +kernel
theorem dX9_laidIn_2 : decode cX9_laidIn 2 = .ok (.iconst 0, 1) := by decide +kernel
theorem dX9_laidIn_3 : decode cX9_laidIn 3 = .ok (.istore 4, 2) := by decide +kernel
theorem dX9_laidIn_5 : decode cX9_laidIn 5 = .ok (.iload 4, 2) := by decide +kernel
theorem dX9_laidIn_7 : decode cX9_laidIn 7 = .ok (.bipush 6, 2) := by decide +kernel
theorem dX9_laidIn_9 : decode cX9_laidIn 9 = .ok (.if_icmp .ge 26, 3) := by decide +kernel
theorem dX9_laidIn_12 : decode cX9_laidIn 12 = .ok (.iload_n 3, 1) := by decide +kernel
theorem dX9_laidIn_13 : decode cX9_laidIn 13 = .ok (.aload_n 0, 1) := by decide +kernel
theorem dX9_laidIn_14 : decode cX9_laidIn 14 = .ok (.iload 4, 2) := by decide +kernel
theorem dX9_laidIn_16 : decode cX9_laidIn 16 = .ok (.aload_n 0, 1) := by decide +kernel
theorem dX9_laidIn_17 : decode cX9_laidIn 17 = .ok (.iload 4, 2) := by decide +kernel
theorem dX9_laidIn_19 : decode cX9_laidIn 19 = .ok (.iload_n 2, 1) := by decide +kernel
theorem dX9_laidIn_20 : decode cX9_laidIn 20 = .ok (.invokevirtual 97, 3) := by decide +kernel
theorem dX9_laidIn_23 : decode cX9_laidIn 23 = .ok (.iload_n 1, 1) := by decide +kernel
theorem dX9_laidIn_24 : decode cX9_laidIn 24 = .ok (.invokevirtual 137, 3) := by decide +kernel
theorem dX9_laidIn_27 : decode cX9_laidIn 27 = .ok (.iadd, 1) := by decide +kernel
theorem dX9_laidIn_28 : decode cX9_laidIn 28 = .ok (.istore_n 3, 1) := by decide +kernel
theorem dX9_laidIn_29 : decode cX9_laidIn 29 = .ok (.iinc 4 1, 3) := by decide +kernel
theorem dX9_laidIn_32 : decode cX9_laidIn 32 = .ok (.goto (-27), 3) := by decide +kernel
theorem dX9_laidIn_35 : decode cX9_laidIn 35 = .ok (.iload_n 3, 1) := by decide +kernel
theorem dX9_laidIn_36 : decode cX9_laidIn 36 = .ok (.ireturn, 1) := by decide +kernel
theorem dX9_laidOf_0 : decode cX9_laidOf 0 = .ok (.iconst 0, 1) := by decide +kernel
theorem dX9_laidOf_1 : decode cX9_laidOf 1 = .ok (.istore 4, 2) := by decide +kernel
theorem dX9_laidOf_3 : decode cX9_laidOf 3 = .ok (.iload_n 2, 1) := by decide +kernel
theorem dX9_laidOf_4 : decode cX9_laidOf 4 = .ok (.istore 5, 2) := by decide +kernel
theorem dX9_laidOf_6 : decode cX9_laidOf 6 = .ok (.iload 5, 2) := by decide +kernel
theorem dX9_laidOf_8 : decode cX9_laidOf 8 = .ok (.iload_n 3, 1) := by decide +kernel
theorem dX9_laidOf_9 : decode cX9_laidOf 9 = .ok (.if_icmp .ge 21, 3) := by decide +kernel
theorem dX9_laidOf_12 : decode cX9_laidOf 12 = .ok (.iload 4, 2) := by decide +kernel
theorem dX9_laidOf_14 : decode cX9_laidOf 14 = .ok (.aload_n 0, 1) := by decide +kernel
theorem dX9_laidOf_15 : decode cX9_laidOf 15 = .ok (.iload_n 1, 1) := by decide +kernel
theorem dX9_laidOf_16 : decode cX9_laidOf 16 = .ok (.iload 5, 2) := by decide +kernel
theorem dX9_laidOf_18 : decode cX9_laidOf 18 = .ok (.invokevirtual 141, 3) := by decide +kernel
theorem dX9_laidOf_21 : decode cX9_laidOf 21 = .ok (.iadd, 1) := by decide +kernel
theorem dX9_laidOf_22 : decode cX9_laidOf 22 = .ok (.istore 4, 2) := by decide +kernel
theorem dX9_laidOf_24 : decode cX9_laidOf 24 = .ok (.iinc 5 1, 3) := by decide +kernel
theorem dX9_laidOf_27 : decode cX9_laidOf 27 = .ok (.goto (-21), 3) := by decide +kernel
theorem dX9_laidOf_30 : decode cX9_laidOf 30 = .ok (.iload 4, 2) := by decide +kernel
theorem dX9_laidOf_32 : decode cX9_laidOf 32 = .ok (.ireturn, 1) := by decide +kernel
theorem dX9_laid_0 : decode cX9_laid 0 = .ok (.iload_n 1, 1) := by decide +kernel
theorem dX9_laid_1 : decode cX9_laid 1 = .ok (.invokestatic 77, 3) := by decide +kernel
theorem dX9_laid_4 : decode cX9_laid 4 = .ok (.ifCond .eq 22, 3) := by decide +kernel
theorem dX9_laid_7 : decode cX9_laid 7 = .ok (.iload_n 2, 1) := by decide +kernel
theorem dX9_laid_8 : decode cX9_laid 8 = .ok (.ifCond .lt 18, 3) := by decide +kernel
theorem dX9_laid_11 : decode cX9_laid 11 = .ok (.iload_n 2, 1) := by decide +kernel
theorem dX9_laid_12 : decode cX9_laid 12 = .ok (.iload_n 3, 1) := by decide +kernel
theorem dX9_laid_13 : decode cX9_laid 13 = .ok (.if_icmp .gt 13, 3) := by decide +kernel
theorem dX9_laid_16 : decode cX9_laid 16 = .ok (.iload_n 3, 1) := by decide +kernel
theorem dX9_laid_17 : decode cX9_laid 17 = .ok (.aload_n 0, 1) := by decide +kernel
theorem dX9_laid_18 : decode cX9_laid 18 = .ok (.getfield 83, 3) := by decide +kernel
theorem dX9_laid_21 : decode cX9_laid 21 = .ok (.iconst 1, 1) := by decide +kernel
theorem dX9_laid_22 : decode cX9_laid 22 = .ok (.iadd, 1) := by decide +kernel
theorem dX9_laid_23 : decode cX9_laid 23 = .ok (.if_icmp .le 7, 3) := by decide +kernel
theorem dX9_laid_26 : decode cX9_laid 26 = .ok (.iconst (-1), 1) := by decide +kernel
theorem dX9_laid_27 : decode cX9_laid 27 = .ok (.goto 10, 3) := by decide +kernel
theorem dX9_laid_30 : decode cX9_laid 30 = .ok (.aload_n 0, 1) := by decide +kernel
theorem dX9_laid_31 : decode cX9_laid 31 = .ok (.iload_n 1, 1) := by decide +kernel
theorem dX9_laid_32 : decode cX9_laid 32 = .ok (.iload_n 2, 1) := by decide +kernel
theorem dX9_laid_33 : decode cX9_laid 33 = .ok (.iload_n 3, 1) := by decide +kernel
theorem dX9_laid_34 : decode cX9_laid 34 = .ok (.invokevirtual 144, 3) := by decide +kernel
theorem dX9_laid_37 : decode cX9_laid 37 = .ok (.ireturn, 1) := by decide +kernel
theorem dX9_budget_0 : decode cX9_budget 0 = .ok (.iload_n 1, 1) := by decide +kernel
theorem dX9_budget_1 : decode cX9_budget 1 = .ok (.invokestatic 77, 3) := by decide +kernel
theorem dX9_budget_4 : decode cX9_budget 4 = .ok (.ifCond .eq 31, 3) := by decide +kernel
theorem dX9_budget_7 : decode cX9_budget 7 = .ok (.iload_n 2, 1) := by decide +kernel
theorem dX9_budget_8 : decode cX9_budget 8 = .ok (.iconst 0, 1) := by decide +kernel
theorem dX9_budget_9 : decode cX9_budget 9 = .ok (.ldc 147, 2) := by decide +kernel
theorem dX9_budget_11 : decode cX9_budget 11 = .ok (.invokestatic 69, 3) := by decide +kernel
theorem dX9_budget_14 : decode cX9_budget 14 = .ok (.ifCond .eq 21, 3) := by decide +kernel
theorem dX9_budget_17 : decode cX9_budget 17 = .ok (.iload_n 3, 1) := by decide +kernel
theorem dX9_budget_18 : decode cX9_budget 18 = .ok (.ifCond .lt 17, 3) := by decide +kernel
theorem dX9_budget_21 : decode cX9_budget 21 = .ok (.iload_n 3, 1) := by decide +kernel
theorem dX9_budget_22 : decode cX9_budget 22 = .ok (.iload 4, 2) := by decide +kernel
theorem dX9_budget_24 : decode cX9_budget 24 = .ok (.if_icmp .ge 11, 3) := by decide +kernel
theorem dX9_budget_27 : decode cX9_budget 27 = .ok (.iload 4, 2) := by decide +kernel
theorem dX9_budget_29 : decode cX9_budget 29 = .ok (.sipush 2000, 3) := by decide +kernel
theorem dX9_budget_32 : decode cX9_budget 32 = .ok (.if_icmp .le 5, 3) := by decide +kernel
theorem dX9_budget_35 : decode cX9_budget 35 = .ok (.iconst 0, 1) := by decide +kernel
theorem dX9_budget_36 : decode cX9_budget 36 = .ok (.ireturn, 1) := by decide +kernel
theorem dX9_budget_37 : decode cX9_budget 37 = .ok (.aload_n 0, 1) := by decide +kernel
theorem dX9_budget_38 : decode cX9_budget 38 = .ok (.getfield 60, 3) := by decide +kernel
theorem dX9_budget_41 : decode cX9_budget 41 = .ok (.iload_n 1, 1) := by decide +kernel
theorem dX9_budget_42 : decode cX9_budget 42 = .ok (.iload_n 2, 1) := by decide +kernel
theorem dX9_budget_43 : decode cX9_budget 43 = .ok (.iastore, 1) := by decide +kernel
theorem dX9_budget_44 : decode cX9_budget 44 = .ok (.aload_n 0, 1) := by decide +kernel
theorem dX9_budget_45 : decode cX9_budget 45 = .ok (.getfield 63, 3) := by decide +kernel
theorem dX9_budget_48 : decode cX9_budget 48 = .ok (.iload_n 1, 1) := by decide +kernel
theorem dX9_budget_49 : decode cX9_budget 49 = .ok (.iload_n 3, 1) := by decide +kernel
theorem dX9_budget_50 : decode cX9_budget 50 = .ok (.iastore, 1) := by decide +kernel
theorem dX9_budget_51 : decode cX9_budget 51 = .ok (.aload_n 0, 1) := by decide +kernel
theorem dX9_budget_52 : decode cX9_budget 52 = .ok (.getfield 66, 3) := by decide +kernel
theorem dX9_budget_55 : decode cX9_budget 55 = .ok (.iload_n 1, 1) := by decide +kernel
theorem dX9_budget_56 : decode cX9_budget 56 = .ok (.iload 4, 2) := by decide +kernel
theorem dX9_budget_58 : decode cX9_budget 58 = .ok (.iastore, 1) := by decide +kernel
theorem dX9_budget_59 : decode cX9_budget 59 = .ok (.iconst 1, 1) := by decide +kernel
theorem dX9_budget_60 : decode cX9_budget 60 = .ok (.ireturn, 1) := by decide +kernel
theorem dX9_foretold_0 : decode cX9_foretold 0 = .ok (.iconst 0, 1) := by decide +kernel
theorem dX9_foretold_1 : decode cX9_foretold 1 = .ok (.istore_n 3, 1) := by decide +kernel
theorem dX9_foretold_2 : decode cX9_foretold 2 = .ok (.iconst 0, 1) := by decide +kernel
theorem dX9_foretold_3 : decode cX9_foretold 3 = .ok (.istore 4, 2) := by decide +kernel
theorem dX9_foretold_5 : decode cX9_foretold 5 = .ok (.iload 4, 2) := by decide +kernel
theorem dX9_foretold_7 : decode cX9_foretold 7 = .ok (.bipush 6, 2) := by decide +kernel
theorem dX9_foretold_9 : decode cX9_foretold 9 = .ok (.if_icmp .ge 105, 3) := by decide +kernel
theorem dX9_foretold_12 : decode cX9_foretold 12 = .ok (.aload_n 0, 1) := by decide +kernel
theorem dX9_foretold_13 : decode cX9_foretold 13 = .ok (.iload 4, 2) := by decide +kernel
theorem dX9_foretold_15 : decode cX9_foretold 15 = .ok (.aload_n 0, 1) := by decide +kernel
theorem dX9_foretold_16 : decode cX9_foretold 16 = .ok (.getfield 83, 3) := by decide +kernel
theorem dX9_foretold_19 : decode cX9_foretold 19 = .ok (.invokevirtual 97, 3) := by decide +kernel
theorem dX9_foretold_22 : decode cX9_foretold 22 = .ok (.istore 5, 2) := by decide +kernel
theorem dX9_foretold_24 : decode cX9_foretold 24 = .ok (.aload_n 0, 1) := by decide +kernel
theorem dX9_foretold_25 : decode cX9_foretold 25 = .ok (.getfield 83, 3) := by decide +kernel
theorem dX9_foretold_28 : decode cX9_foretold 28 = .ok (.bipush 23, 2) := by decide +kernel
theorem dX9_foretold_30 : decode cX9_foretold 30 = .ok (.if_icmp .le 13, 3) := by decide +kernel
theorem dX9_foretold_33 : decode cX9_foretold 33 = .ok (.aload_n 0, 1) := by decide +kernel
theorem dX9_foretold_34 : decode cX9_foretold 34 = .ok (.getfield 83, 3) := by decide +kernel
theorem dX9_foretold_37 : decode cX9_foretold 37 = .ok (.bipush 23, 2) := by decide +kernel
theorem dX9_foretold_39 : decode cX9_foretold 39 = .ok (.isub, 1) := by decide +kernel
theorem dX9_foretold_40 : decode cX9_foretold 40 = .ok (.goto 4, 3) := by decide +kernel
theorem dX9_foretold_43 : decode cX9_foretold 43 = .ok (.iconst 0, 1) := by decide +kernel
theorem dX9_foretold_44 : decode cX9_foretold 44 = .ok (.istore 6, 2) := by decide +kernel
theorem dX9_foretold_46 : decode cX9_foretold 46 = .ok (.iload 6, 2) := by decide +kernel
theorem dX9_foretold_48 : decode cX9_foretold 48 = .ok (.aload_n 0, 1) := by decide +kernel
theorem dX9_foretold_49 : decode cX9_foretold 49 = .ok (.getfield 83, 3) := by decide +kernel
theorem dX9_foretold_52 : decode cX9_foretold 52 = .ok (.if_icmp .ge 44, 3) := by decide +kernel
theorem dX9_foretold_55 : decode cX9_foretold 55 = .ok (.aload_n 0, 1) := by decide +kernel
theorem dX9_foretold_56 : decode cX9_foretold 56 = .ok (.iload 4, 2) := by decide +kernel
theorem dX9_foretold_58 : decode cX9_foretold 58 = .ok (.iload 6, 2) := by decide +kernel
theorem dX9_foretold_60 : decode cX9_foretold 60 = .ok (.invokevirtual 97, 3) := by decide +kernel
theorem dX9_foretold_63 : decode cX9_foretold 63 = .ok (.istore 7, 2) := by decide +kernel
theorem dX9_foretold_65 : decode cX9_foretold 65 = .ok (.iload_n 2, 1) := by decide +kernel
theorem dX9_foretold_66 : decode cX9_foretold 66 = .ok (.ifCond .eq 13, 3) := by decide +kernel
theorem dX9_foretold_69 : decode cX9_foretold 69 = .ok (.iload 7, 2) := by decide +kernel
theorem dX9_foretold_71 : decode cX9_foretold 71 = .ok (.iload 5, 2) := by decide +kernel
theorem dX9_foretold_73 : decode cX9_foretold 73 = .ok (.if_icmp .le 17, 3) := by decide +kernel
theorem dX9_foretold_76 : decode cX9_foretold 76 = .ok (.goto 10, 3) := by decide +kernel
theorem dX9_foretold_79 : decode cX9_foretold 79 = .ok (.iload 7, 2) := by decide +kernel
theorem dX9_foretold_81 : decode cX9_foretold 81 = .ok (.iload 5, 2) := by decide +kernel
theorem dX9_foretold_83 : decode cX9_foretold 83 = .ok (.if_icmp .ge 7, 3) := by decide +kernel
theorem dX9_foretold_86 : decode cX9_foretold 86 = .ok (.iload 7, 2) := by decide +kernel
theorem dX9_foretold_88 : decode cX9_foretold 88 = .ok (.istore 5, 2) := by decide +kernel
theorem dX9_foretold_90 : decode cX9_foretold 90 = .ok (.iinc 6 1, 3) := by decide +kernel
theorem dX9_foretold_93 : decode cX9_foretold 93 = .ok (.goto (-47), 3) := by decide +kernel
theorem dX9_foretold_96 : decode cX9_foretold 96 = .ok (.iload_n 3, 1) := by decide +kernel
theorem dX9_foretold_97 : decode cX9_foretold 97 = .ok (.aload_n 0, 1) := by decide +kernel
theorem dX9_foretold_98 : decode cX9_foretold 98 = .ok (.iload 4, 2) := by decide +kernel
theorem dX9_foretold_100 : decode cX9_foretold 100 = .ok (.iload 5, 2) := by decide +kernel
theorem dX9_foretold_102 : decode cX9_foretold 102 = .ok (.iload_n 1, 1) := by decide +kernel
theorem dX9_foretold_103 : decode cX9_foretold 103 = .ok (.invokevirtual 137, 3) := by decide +kernel
theorem dX9_foretold_106 : decode cX9_foretold 106 = .ok (.iadd, 1) := by decide +kernel
theorem dX9_foretold_107 : decode cX9_foretold 107 = .ok (.istore_n 3, 1) := by decide +kernel
theorem dX9_foretold_108 : decode cX9_foretold 108 = .ok (.iinc 4 1, 3) := by decide +kernel
theorem dX9_foretold_111 : decode cX9_foretold 111 = .ok (.goto (-106), 3) := by decide +kernel
theorem dX9_foretold_114 : decode cX9_foretold 114 = .ok (.iload_n 3, 1) := by decide +kernel
theorem dX9_foretold_115 : decode cX9_foretold 115 = .ok (.ireturn, 1) := by decide +kernel
theorem dX9_goes_0 : decode cX9_goes 0 = .ok (.aload_n 0, 1) := by decide +kernel
theorem dX9_goes_1 : decode cX9_goes 1 = .ok (.iload_n 1, 1) := by decide +kernel
theorem dX9_goes_2 : decode cX9_goes 2 = .ok (.iload_n 2, 1) := by decide +kernel
theorem dX9_goes_3 : decode cX9_goes 3 = .ok (.invokevirtual 148, 3) := by decide +kernel
theorem dX9_goes_6 : decode cX9_goes 6 = .ok (.istore_n 3, 1) := by decide +kernel
theorem dX9_goes_7 : decode cX9_goes 7 = .ok (.iconst 0, 1) := by decide +kernel
theorem dX9_goes_8 : decode cX9_goes 8 = .ok (.istore 4, 2) := by decide +kernel
theorem dX9_goes_10 : decode cX9_goes 10 = .ok (.aload_n 0, 1) := by decide +kernel
theorem dX9_goes_11 : decode cX9_goes 11 = .ok (.iconst (-1), 1) := by decide +kernel
theorem dX9_goes_12 : decode cX9_goes 12 = .ok (.putfield 152, 3) := by decide +kernel
theorem dX9_goes_15 : decode cX9_goes 15 = .ok (.aload_n 0, 1) := by decide +kernel
theorem dX9_goes_16 : decode cX9_goes 16 = .ok (.getfield 63, 3) := by decide +kernel
theorem dX9_goes_19 : decode cX9_goes 19 = .ok (.iload_n 1, 1) := by decide +kernel
theorem dX9_goes_20 : decode cX9_goes 20 = .ok (.iaload, 1) := by decide +kernel
theorem dX9_goes_21 : decode cX9_goes 21 = .ok (.istore 5, 2) := by decide +kernel
theorem dX9_goes_23 : decode cX9_goes 23 = .ok (.iload 5, 2) := by decide +kernel
theorem dX9_goes_25 : decode cX9_goes 25 = .ok (.aload_n 0, 1) := by decide +kernel
theorem dX9_goes_26 : decode cX9_goes 26 = .ok (.getfield 66, 3) := by decide +kernel
theorem dX9_goes_29 : decode cX9_goes 29 = .ok (.iload_n 1, 1) := by decide +kernel
theorem dX9_goes_30 : decode cX9_goes 30 = .ok (.iaload, 1) := by decide +kernel
theorem dX9_goes_31 : decode cX9_goes 31 = .ok (.if_icmp .ge 59, 3) := by decide +kernel
theorem dX9_goes_34 : decode cX9_goes 34 = .ok (.iload 4, 2) := by decide +kernel
theorem dX9_goes_36 : decode cX9_goes 36 = .ok (.iload 5, 2) := by decide +kernel
theorem dX9_goes_38 : decode cX9_goes 38 = .ok (.aload_n 0, 1) := by decide +kernel
theorem dX9_goes_39 : decode cX9_goes 39 = .ok (.getfield 83, 3) := by decide +kernel
theorem dX9_goes_42 : decode cX9_goes 42 = .ok (.if_icmp .gt 13, 3) := by decide +kernel
theorem dX9_goes_45 : decode cX9_goes 45 = .ok (.aload_n 0, 1) := by decide +kernel
theorem dX9_goes_46 : decode cX9_goes 46 = .ok (.iload_n 1, 1) := by decide +kernel
theorem dX9_goes_47 : decode cX9_goes 47 = .ok (.iload 5, 2) := by decide +kernel
theorem dX9_goes_49 : decode cX9_goes 49 = .ok (.invokevirtual 141, 3) := by decide +kernel
theorem dX9_goes_52 : decode cX9_goes 52 = .ok (.goto 4, 3) := by decide +kernel
theorem dX9_goes_55 : decode cX9_goes 55 = .ok (.iload_n 3, 1) := by decide +kernel
theorem dX9_goes_56 : decode cX9_goes 56 = .ok (.iadd, 1) := by decide +kernel
theorem dX9_goes_57 : decode cX9_goes 57 = .ok (.istore 4, 2) := by decide +kernel
theorem dX9_goes_59 : decode cX9_goes 59 = .ok (.aload_n 0, 1) := by decide +kernel
theorem dX9_goes_60 : decode cX9_goes 60 = .ok (.getfield 152, 3) := by decide +kernel
theorem dX9_goes_63 : decode cX9_goes 63 = .ok (.iconst (-1), 1) := by decide +kernel
theorem dX9_goes_64 : decode cX9_goes 64 = .ok (.if_icmp .ne 20, 3) := by decide +kernel
theorem dX9_goes_67 : decode cX9_goes 67 = .ok (.iload 4, 2) := by decide +kernel
theorem dX9_goes_69 : decode cX9_goes 69 = .ok (.aload_n 0, 1) := by decide +kernel
theorem dX9_goes_70 : decode cX9_goes 70 = .ok (.getfield 60, 3) := by decide +kernel
theorem dX9_goes_73 : decode cX9_goes 73 = .ok (.iload_n 1, 1) := by decide +kernel
theorem dX9_goes_74 : decode cX9_goes 74 = .ok (.iaload, 1) := by decide +kernel
theorem dX9_goes_75 : decode cX9_goes 75 = .ok (.if_icmp .le 9, 3) := by decide +kernel
theorem dX9_goes_78 : decode cX9_goes 78 = .ok (.aload_n 0, 1) := by decide +kernel
theorem dX9_goes_79 : decode cX9_goes 79 = .ok (.iload 5, 2) := by decide +kernel
theorem dX9_goes_81 : decode cX9_goes 81 = .ok (.putfield 152, 3) := by decide +kernel
theorem dX9_goes_84 : decode cX9_goes 84 = .ok (.iinc 5 1, 3) := by decide +kernel
theorem dX9_goes_87 : decode cX9_goes 87 = .ok (.goto (-64), 3) := by decide +kernel
theorem dX9_goes_90 : decode cX9_goes 90 = .ok (.iload 4, 2) := by decide +kernel
theorem dX9_goes_92 : decode cX9_goes 92 = .ok (.ireturn, 1) := by decide +kernel
theorem dX9_budgeted_0 : decode cX9_budgeted 0 = .ok (.iload_n 1, 1) := by decide +kernel
theorem dX9_budgeted_1 : decode cX9_budgeted 1 = .ok (.invokestatic 77, 3) := by decide +kernel
theorem dX9_budgeted_4 : decode cX9_budgeted 4 = .ok (.ifCond .eq 12, 3) := by decide +kernel
theorem dX9_budgeted_7 : decode cX9_budgeted 7 = .ok (.iload_n 2, 1) := by decide +kernel
theorem dX9_budgeted_8 : decode cX9_budgeted 8 = .ok (.iconst 0, 1) := by decide +kernel
theorem dX9_budgeted_9 : decode cX9_budgeted 9 = .ok (.iconst 5, 1) := by decide +kernel
theorem dX9_budgeted_10 : decode cX9_budgeted 10 = .ok (.invokestatic 69, 3) := by decide +kernel
theorem dX9_budgeted_13 : decode cX9_budgeted 13 = .ok (.ifCond .ne 5, 3) := by decide +kernel
theorem dX9_budgeted_16 : decode cX9_budgeted 16 = .ok (.iconst (-1), 1) := by decide +kernel
theorem dX9_budgeted_17 : decode cX9_budgeted 17 = .ok (.ireturn, 1) := by decide +kernel
theorem dX9_budgeted_18 : decode cX9_budgeted 18 = .ok (.iload_n 2, 1) := by decide +kernel
theorem dX9_budgeted_19 : decode cX9_budgeted 19 = .ok (.ifCond .ne 10, 3) := by decide +kernel
theorem dX9_budgeted_22 : decode cX9_budgeted 22 = .ok (.aload_n 0, 1) := by decide +kernel
theorem dX9_budgeted_23 : decode cX9_budgeted 23 = .ok (.getfield 60, 3) := by decide +kernel
theorem dX9_budgeted_26 : decode cX9_budgeted 26 = .ok (.iload_n 1, 1) := by decide +kernel
theorem dX9_budgeted_27 : decode cX9_budgeted 27 = .ok (.iaload, 1) := by decide +kernel
theorem dX9_budgeted_28 : decode cX9_budgeted 28 = .ok (.ireturn, 1) := by decide +kernel
theorem dX9_budgeted_29 : decode cX9_budgeted 29 = .ok (.iload_n 2, 1) := by decide +kernel
theorem dX9_budgeted_30 : decode cX9_budgeted 30 = .ok (.iconst 1, 1) := by decide +kernel
theorem dX9_budgeted_31 : decode cX9_budgeted 31 = .ok (.if_icmp .ne 67, 3) := by decide +kernel
theorem dX9_budgeted_34 : decode cX9_budgeted 34 = .ok (.aload_n 0, 1) := by decide +kernel
theorem dX9_budgeted_35 : decode cX9_budgeted 35 = .ok (.iload_n 1, 1) := by decide +kernel
theorem dX9_budgeted_36 : decode cX9_budgeted 36 = .ok (.aload_n 0, 1) := by decide +kernel
theorem dX9_budgeted_37 : decode cX9_budgeted 37 = .ok (.getfield 63, 3) := by decide +kernel
theorem dX9_budgeted_40 : decode cX9_budgeted 40 = .ok (.iload_n 1, 1) := by decide +kernel
theorem dX9_budgeted_41 : decode cX9_budgeted 41 = .ok (.iaload, 1) := by decide +kernel
theorem dX9_budgeted_42 : decode cX9_budgeted 42 = .ok (.aload_n 0, 1) := by decide +kernel
theorem dX9_budgeted_43 : decode cX9_budgeted 43 = .ok (.getfield 83, 3) := by decide +kernel
theorem dX9_budgeted_46 : decode cX9_budgeted 46 = .ok (.if_icmp .gt 12, 3) := by decide +kernel
theorem dX9_budgeted_49 : decode cX9_budgeted 49 = .ok (.aload_n 0, 1) := by decide +kernel
theorem dX9_budgeted_50 : decode cX9_budgeted 50 = .ok (.getfield 63, 3) := by decide +kernel
theorem dX9_budgeted_53 : decode cX9_budgeted 53 = .ok (.iload_n 1, 1) := by decide +kernel
theorem dX9_budgeted_54 : decode cX9_budgeted 54 = .ok (.iaload, 1) := by decide +kernel
theorem dX9_budgeted_55 : decode cX9_budgeted 55 = .ok (.goto 9, 3) := by decide +kernel
theorem dX9_budgeted_58 : decode cX9_budgeted 58 = .ok (.aload_n 0, 1) := by decide +kernel
theorem dX9_budgeted_59 : decode cX9_budgeted 59 = .ok (.getfield 83, 3) := by decide +kernel
theorem dX9_budgeted_62 : decode cX9_budgeted 62 = .ok (.iconst 1, 1) := by decide +kernel
theorem dX9_budgeted_63 : decode cX9_budgeted 63 = .ok (.iadd, 1) := by decide +kernel
theorem dX9_budgeted_64 : decode cX9_budgeted 64 = .ok (.aload_n 0, 1) := by decide +kernel
theorem dX9_budgeted_65 : decode cX9_budgeted 65 = .ok (.getfield 66, 3) := by decide +kernel
theorem dX9_budgeted_68 : decode cX9_budgeted 68 = .ok (.iload_n 1, 1) := by decide +kernel
theorem dX9_budgeted_69 : decode cX9_budgeted 69 = .ok (.iaload, 1) := by decide +kernel
theorem dX9_budgeted_70 : decode cX9_budgeted 70 = .ok (.aload_n 0, 1) := by decide +kernel
theorem dX9_budgeted_71 : decode cX9_budgeted 71 = .ok (.getfield 83, 3) := by decide +kernel
theorem dX9_budgeted_74 : decode cX9_budgeted 74 = .ok (.iconst 1, 1) := by decide +kernel
theorem dX9_budgeted_75 : decode cX9_budgeted 75 = .ok (.iadd, 1) := by decide +kernel
theorem dX9_budgeted_76 : decode cX9_budgeted 76 = .ok (.if_icmp .ge 12, 3) := by decide +kernel
theorem dX9_budgeted_79 : decode cX9_budgeted 79 = .ok (.aload_n 0, 1) := by decide +kernel
theorem dX9_budgeted_80 : decode cX9_budgeted 80 = .ok (.getfield 66, 3) := by decide +kernel
theorem dX9_budgeted_83 : decode cX9_budgeted 83 = .ok (.iload_n 1, 1) := by decide +kernel
theorem dX9_budgeted_84 : decode cX9_budgeted 84 = .ok (.iaload, 1) := by decide +kernel
theorem dX9_budgeted_85 : decode cX9_budgeted 85 = .ok (.goto 9, 3) := by decide +kernel
theorem dX9_budgeted_88 : decode cX9_budgeted 88 = .ok (.aload_n 0, 1) := by decide +kernel
theorem dX9_budgeted_89 : decode cX9_budgeted 89 = .ok (.getfield 83, 3) := by decide +kernel
theorem dX9_budgeted_92 : decode cX9_budgeted 92 = .ok (.iconst 1, 1) := by decide +kernel
theorem dX9_budgeted_93 : decode cX9_budgeted 93 = .ok (.iadd, 1) := by decide +kernel
theorem dX9_budgeted_94 : decode cX9_budgeted 94 = .ok (.invokevirtual 144, 3) := by decide +kernel
theorem dX9_budgeted_97 : decode cX9_budgeted 97 = .ok (.ireturn, 1) := by decide +kernel
theorem dX9_budgeted_98 : decode cX9_budgeted 98 = .ok (.aload_n 0, 1) := by decide +kernel
theorem dX9_budgeted_99 : decode cX9_budgeted 99 = .ok (.iload_n 1, 1) := by decide +kernel
theorem dX9_budgeted_100 : decode cX9_budgeted 100 = .ok (.iload_n 2, 1) := by decide +kernel
theorem dX9_budgeted_101 : decode cX9_budgeted 101 = .ok (.iconst 2, 1) := by decide +kernel
theorem dX9_budgeted_102 : decode cX9_budgeted 102 = .ok (.irem, 1) := by decide +kernel
theorem dX9_budgeted_103 : decode cX9_budgeted 103 = .ok (.iconst 1, 1) := by decide +kernel
theorem dX9_budgeted_104 : decode cX9_budgeted 104 = .ok (.if_icmp .ne 7, 3) := by decide +kernel
theorem dX9_budgeted_107 : decode cX9_budgeted 107 = .ok (.iconst 1, 1) := by decide +kernel
theorem dX9_budgeted_108 : decode cX9_budgeted 108 = .ok (.goto 4, 3) := by decide +kernel
theorem dX9_budgeted_111 : decode cX9_budgeted 111 = .ok (.iconst 0, 1) := by decide +kernel
theorem dX9_budgeted_112 : decode cX9_budgeted 112 = .ok (.invokevirtual 155, 3) := by decide +kernel
theorem dX9_budgeted_115 : decode cX9_budgeted 115 = .ok (.istore_n 3, 1) := by decide +kernel
theorem dX9_budgeted_116 : decode cX9_budgeted 116 = .ok (.iload_n 2, 1) := by decide +kernel
theorem dX9_budgeted_117 : decode cX9_budgeted 117 = .ok (.iconst 4, 1) := by decide +kernel
theorem dX9_budgeted_118 : decode cX9_budgeted 118 = .ok (.if_icmp .ge 10, 3) := by decide +kernel
theorem dX9_budgeted_121 : decode cX9_budgeted 121 = .ok (.aload_n 0, 1) := by decide +kernel
theorem dX9_budgeted_122 : decode cX9_budgeted 122 = .ok (.getfield 152, 3) := by decide +kernel
theorem dX9_budgeted_125 : decode cX9_budgeted 125 = .ok (.goto 4, 3) := by decide +kernel
theorem dX9_budgeted_128 : decode cX9_budgeted 128 = .ok (.iload_n 3, 1) := by decide +kernel
theorem dX9_budgeted_129 : decode cX9_budgeted 129 = .ok (.ireturn, 1) := by decide +kernel
