theorem dX0_init_0 : decode cX0_init 0 = .ok (.aload_n 0, 1) := by decide +kernel
theorem dX0_init_1 : decode cX0_init 1 = .ok (.invokespecial 3, 3) := by decide +kernel
theorem dX0_init_4 : decode cX0_init 4 = .ok (.aload_n 0, 1) := by decide +kernel
theorem dX0_init_5 : decode cX0_init 5 = .ok (.iconst (-1), 1) := by decide +kernel
theorem dX0_init_6 : decode cX0_init 6 = .ok (.putfield 9, 3) := by decide +kernel
theorem dX0_init_9 : decode cX0_init 9 = .ok (.return_, 1) := by decide +kernel
theorem dX0_fill_0 : decode cX0_fill 0 = .ok (.aload_n 0, 1) := by decide +kernel
theorem dX0_fill_1 : decode cX0_fill 1 = .ok (.iload_n 1, 1) := by decide +kernel
theorem dX0_fill_2 : decode cX0_fill 2 = .ok (.putfield 15, 3) := by decide +kernel
theorem dX0_fill_5 : decode cX0_fill 5 = .ok (.aload_n 0, 1) := by decide +kernel
theorem dX0_fill_6 : decode cX0_fill 6 = .ok (.iconst 0, 1) := by decide +kernel
theorem dX0_fill_7 : decode cX0_fill 7 = .ok (.putfield 18, 3) := by decide +kernel
theorem dX0_fill_10 : decode cX0_fill 10 = .ok (.aload_n 0, 1) := by decide +kernel
theorem dX0_fill_11 : decode cX0_fill 11 = .ok (.iconst (-1), 1) := by decide +kernel
theorem dX0_fill_12 : decode cX0_fill 12 = .ok (.putfield 9, 3) := by decide +kernel
theorem dX0_fill_15 : decode cX0_fill 15 = .ok (.return_, 1) := by decide +kernel
theorem dX0_copyFrom_0 : decode cX0_copyFrom 0 = .ok (.aload_n 0, 1) := by decide +kernel
theorem dX0_copyFrom_1 : decode cX0_copyFrom 1 = .ok (.aload_n 1, 1) := by decide +kernel
theorem dX0_copyFrom_2 : decode cX0_copyFrom 2 = .ok (.getfield 15, 3) := by decide +kernel
theorem dX0_copyFrom_5 : decode cX0_copyFrom 5 = .ok (.putfield 15, 3) := by decide +kernel
theorem dX0_copyFrom_8 : decode cX0_copyFrom 8 = .ok (.aload_n 0, 1) := by decide +kernel
theorem dX0_copyFrom_9 : decode cX0_copyFrom 9 = .ok (.aload_n 1, 1) := by decide +kernel
theorem dX0_copyFrom_10 : decode cX0_copyFrom 10 = .ok (.getfield 18, 3) := by decide +kernel
theorem dX0_copyFrom_13 : decode cX0_copyFrom 13 = .ok (.putfield 18, 3) := by decide +kernel
theorem dX0_copyFrom_16 : decode cX0_copyFrom 16 = .ok (.aload_n 0, 1) := by decide +kernel
theorem dX0_copyFrom_17 : decode cX0_copyFrom 17 = .ok (.aload_n 1, 1) := by decide +kernel
theorem dX0_copyFrom_18 : decode cX0_copyFrom 18 = .ok (.getfield 9, 3) := by decide +kernel
theorem dX0_copyFrom_21 : decode cX0_copyFrom 21 = .ok (.putfield 9, 3) := by decide +kernel
theorem dX0_copyFrom_24 : decode cX0_copyFrom 24 = .ok (.return_, 1) := by decide +kernel
theorem dX0_hardness_0 : decode cX0_hardness 0 = .ok (.sipush 1000, 3) := by decide +kernel
theorem dX0_hardness_3 : decode cX0_hardness 3 = .ok (.aload_n 0, 1) := by decide +kernel
theorem dX0_hardness_4 : decode cX0_hardness 4 = .ok (.getfield 15, 3) := by decide +kernel
theorem dX0_hardness_7 : decode cX0_hardness 7 = .ok (.invokestatic 21, 3) := by decide +kernel
theorem dX0_hardness_10 : decode cX0_hardness 10 = .ok (.aload_n 0, 1) := by decide +kernel
theorem dX0_hardness_11 : decode cX0_hardness 11 = .ok (.getfield 18, 3) := by decide +kernel
theorem dX0_hardness_14 : decode cX0_hardness 14 = .ok (.bipush 10, 2) := by decide +kernel
theorem dX0_hardness_16 : decode cX0_hardness 16 = .ok (.invokestatic 25, 3) := by decide +kernel
theorem dX0_hardness_19 : decode cX0_hardness 19 = .ok (.iadd, 1) := by decide +kernel
theorem dX0_hardness_20 : decode cX0_hardness 20 = .ok (.ireturn, 1) := by decide +kernel
theorem dX1_init_0 : decode cX1_init 0 = .ok (.aload_n 0, 1) := by decide +kernel
theorem dX1_init_1 : decode cX1_init 1 = .ok (.invokespecial 3, 3) := by decide +kernel
theorem dX1_init_4 : decode cX1_init 4 = .ok (.aload_n 0, 1) := by decide +kernel
theorem dX1_init_5 : decode cX1_init 5 = .ok (.bipush 6, 2) := by decide +kernel
theorem dX1_init_7 : decode cX1_init 7 = .ok (.anewarray 9, 3) := by decide +kernel
theorem dX1_init_10 : decode cX1_init 10 = .ok (.putfield 11, 3) := by decide +kernel
theorem dX1_init_13 : decode cX1_init 13 = .ok (.aload_n 0, 1) := by decide +kernel
theorem dX1_init_14 : decode cX1_init 14 = .ok (.new 9, 3) := by decide +kernel
theorem dX1_init_17 : decode cX1_init 17 = .ok (.dup, 1) := by decide +kernel
theorem dX1_init_18 : decode cX1_init 18 = .ok (.invokespecial 17, 3) := by decide +kernel
theorem dX1_init_21 : decode cX1_init 21 = .ok (.putfield 18, 3) := by decide +kernel
theorem dX1_init_24 : decode cX1_init 24 = .ok (.iconst 0, 1) := by decide +kernel
theorem dX1_init_25 : decode cX1_init 25 = .ok (.istore_n 1, 1) := by decide +kernel
theorem dX1_init_26 : decode cX1_init 26 = .ok (.iload_n 1, 1) := by decide +kernel
theorem dX1_init_27 : decode cX1_init 27 = .ok (.bipush 6, 2) := by decide +kernel
theorem dX1_init_29 : decode cX1_init 29 = .ok (.if_icmp .ge 22, 3) := by decide +kernel
theorem dX1_init_32 : decode cX1_init 32 = .ok (.aload_n 0, 1) := by decide +kernel
theorem dX1_init_33 : decode cX1_init 33 = .ok (.getfield 11, 3) := by decide +kernel
theorem dX1_init_36 : decode cX1_init 36 = .ok (.iload_n 1, 1) := by decide +kernel
theorem dX1_init_37 : decode cX1_init 37 = .ok (.new 9, 3) := by decide +kernel
theorem dX1_init_40 : decode cX1_init 40 = .ok (.dup, 1) := by decide +kernel
theorem dX1_init_41 : decode cX1_init 41 = .ok (.invokespecial 17, 3) := by decide +kernel
theorem dX1_init_44 : decode cX1_init 44 = .ok (.aastore, 1) := by decide +kernel
theorem dX1_init_45 : decode cX1_init 45 = .ok (.iinc 1 1, 3) := by decide +kernel
theorem dX1_init_48 : decode cX1_init 48 = .ok (.goto (-22), 3) := by decide +kernel
theorem dX1_init_51 : decode cX1_init 51 = .ok (.return_, 1) := by decide +kernel
theorem dX1_save_0 : decode cX1_save 0 = .ok (.aload_n 0, 1) := by decide +kernel
theorem dX1_save_1 : decode cX1_save 1 = .ok (.getfield 22, 3) := by decide +kernel
theorem dX1_save_4 : decode cX1_save 4 = .ok (.bipush 6, 2) := by decide +kernel
theorem dX1_save_6 : decode cX1_save 6 = .ok (.if_icmp .lt 7, 3) := by decide +kernel
theorem dX1_save_9 : decode cX1_save 9 = .ok (.aload_n 0, 1) := by decide +kernel
theorem dX1_save_10 : decode cX1_save 10 = .ok (.invokevirtual 26, 3) := by decide +kernel
theorem dX1_save_13 : decode cX1_save 13 = .ok (.aload_n 0, 1) := by decide +kernel
theorem dX1_save_14 : decode cX1_save 14 = .ok (.getfield 11, 3) := by decide +kernel
theorem dX1_save_17 : decode cX1_save 17 = .ok (.aload_n 0, 1) := by decide +kernel
theorem dX1_save_18 : decode cX1_save 18 = .ok (.getfield 22, 3) := by decide +kernel
theorem dX1_save_21 : decode cX1_save 21 = .ok (.aaload, 1) := by decide +kernel
theorem dX1_save_22 : decode cX1_save 22 = .ok (.aload_n 1, 1) := by decide +kernel
theorem dX1_save_23 : decode cX1_save 23 = .ok (.invokevirtual 29, 3) := by decide +kernel
theorem dX1_save_26 : decode cX1_save 26 = .ok (.aload_n 0, 1) := by decide +kernel
theorem dX1_save_27 : decode cX1_save 27 = .ok (.dup, 1) := by decide +kernel
theorem dX1_save_28 : decode cX1_save 28 = .ok (.getfield 22, 3) := by decide +kernel
theorem dX1_save_31 : decode cX1_save 31 = .ok (.iconst 1, 1) := by decide +kernel
theorem dX1_save_32 : decode cX1_save 32 = .ok (.iadd, 1) := by decide +kernel
theorem dX1_save_33 : decode cX1_save 33 = .ok (.putfield 22, 3) := by decide +kernel
theorem dX1_save_36 : decode cX1_save 36 = .ok (.return_, 1) := by decide +kernel
theorem dX1_dropOldest_0 : decode cX1_dropOldest 0 = .ok (.aload_n 0, 1) := by decide +kernel
theorem dX1_dropOldest_1 : decode cX1_dropOldest 1 = .ok (.getfield 11, 3) := by decide +kernel
theorem dX1_dropOldest_4 : decode cX1_dropOldest 4 = .ok (.iconst 0, 1) := by decide +kernel
theorem dX1_dropOldest_5 : decode cX1_dropOldest 5 = .ok (.aaload, 1) := by decide +kernel
theorem dX1_dropOldest_6 : decode cX1_dropOldest 6 = .ok (.astore_n 1, 1) := by decide +kernel
theorem dX1_dropOldest_7 : decode cX1_dropOldest 7 = .ok (.iconst 1, 1) := by decide +kernel
theorem dX1_dropOldest_8 : decode cX1_dropOldest 8 = .ok (.istore_n 2, 1) := by decide +kernel
theorem dX1_dropOldest_9 : decode cX1_dropOldest 9 = .ok (.iload_n 2, 1) := by decide +kernel
theorem dX1_dropOldest_10 : decode cX1_dropOldest 10 = .ok (.bipush 6, 2) := by decide +kernel
theorem dX1_dropOldest_12 : decode cX1_dropOldest 12 = .ok (.if_icmp .ge 23, 3) := by decide +kernel
theorem dX1_dropOldest_15 : decode cX1_dropOldest 15 = .ok (.aload_n 0, 1) := by decide +kernel
theorem dX1_dropOldest_16 : decode cX1_dropOldest 16 = .ok (.getfield 11, 3) := by decide +kernel
theorem dX1_dropOldest_19 : decode cX1_dropOldest 19 = .ok (.iload_n 2, 1) := by decide +kernel
theorem dX1_dropOldest_20 : decode cX1_dropOldest 20 = .ok (.iconst 1, 1) := by decide +kernel
theorem dX1_dropOldest_21 : decode cX1_dropOldest 21 = .ok (.isub, 1) := by decide +kernel
theorem dX1_dropOldest_22 : decode cX1_dropOldest 22 = .ok (.aload_n 0, 1) := by decide +kernel
theorem dX1_dropOldest_23 : decode cX1_dropOldest 23 = .ok (.getfield 11, 3) := by decide +kernel
theorem dX1_dropOldest_26 : decode cX1_dropOldest 26 = .ok (.iload_n 2, 1) := by decide +kernel
theorem dX1_dropOldest_27 : decode cX1_dropOldest 27 = .ok (.aaload, 1) := by decide +kernel
theorem dX1_dropOldest_28 : decode cX1_dropOldest 28 = .ok (.aastore, 1) := by decide +kernel
theorem dX1_dropOldest_29 : decode cX1_dropOldest 29 = .ok (.iinc 2 1, 3) := by decide +kernel
theorem dX1_dropOldest_32 : decode cX1_dropOldest 32 = .ok (.goto (-23), 3) := by decide +kernel
theorem dX1_dropOldest_35 : decode cX1_dropOldest 35 = .ok (.aload_n 0, 1) := by decide +kernel
theorem dX1_dropOldest_36 : decode cX1_dropOldest 36 = .ok (.getfield 11, 3) := by decide +kernel
theorem dX1_dropOldest_39 : decode cX1_dropOldest 39 = .ok (.iconst 5, 1) := by decide +kernel
theorem dX1_dropOldest_40 : decode cX1_dropOldest 40 = .ok (.aload_n 1, 1) := by decide +kernel
theorem dX1_dropOldest_41 : decode cX1_dropOldest 41 = .ok (.aastore, 1) := by decide +kernel
theorem dX1_dropOldest_42 : decode cX1_dropOldest 42 = .ok (.aload_n 0, 1) := by decide +kernel
theorem dX1_dropOldest_43 : decode cX1_dropOldest 43 = .ok (.iconst 5, 1) := by decide +kernel
theorem dX1_dropOldest_44 : decode cX1_dropOldest 44 = .ok (.putfield 22, 3) := by decide +kernel
theorem dX1_dropOldest_47 : decode cX1_dropOldest 47 = .ok (.return_, 1) := by decide +kernel
theorem dX1_goBack_0 : decode cX1_goBack 0 = .ok (.aload_n 0, 1) := by decide +kernel
theorem dX1_goBack_1 : decode cX1_goBack 1 = .ok (.getfield 22, 3) := by decide +kernel
theorem dX1_goBack_4 : decode cX1_goBack 4 = .ok (.ifCond .le 26, 3) := by decide +kernel
theorem dX1_goBack_7 : decode cX1_goBack 7 = .ok (.aload_n 0, 1) := by decide +kernel
theorem dX1_goBack_8 : decode cX1_goBack 8 = .ok (.dup, 1) := by decide +kernel
theorem dX1_goBack_9 : decode cX1_goBack 9 = .ok (.getfield 22, 3) := by decide +kernel
theorem dX1_goBack_12 : decode cX1_goBack 12 = .ok (.iconst 1, 1) := by decide +kernel
theorem dX1_goBack_13 : decode cX1_goBack 13 = .ok (.isub, 1) := by decide +kernel
theorem dX1_goBack_14 : decode cX1_goBack 14 = .ok (.putfield 22, 3) := by decide +kernel
theorem dX1_goBack_17 : decode cX1_goBack 17 = .ok (.aload_n 1, 1) := by decide +kernel
theorem dX1_goBack_18 : decode cX1_goBack 18 = .ok (.aload_n 0, 1) := by decide +kernel
theorem dX1_goBack_19 : decode cX1_goBack 19 = .ok (.getfield 11, 3) := by decide +kernel
theorem dX1_goBack_22 : decode cX1_goBack 22 = .ok (.aload_n 0, 1) := by decide +kernel
theorem dX1_goBack_23 : decode cX1_goBack 23 = .ok (.getfield 22, 3) := by decide +kernel
theorem dX1_goBack_26 : decode cX1_goBack 26 = .ok (.aaload, 1) := by decide +kernel
theorem dX1_goBack_27 : decode cX1_goBack 27 = .ok (.invokevirtual 29, 3) := by decide +kernel
theorem dX1_goBack_30 : decode cX1_goBack 30 = .ok (.return_, 1) := by decide +kernel
theorem dX2_init_0 : decode cX2_init 0 = .ok (.aload_n 0, 1) := by decide +kernel
theorem dX2_init_1 : decode cX2_init 1 = .ok (.invokespecial 3, 3) := by decide +kernel
theorem dX2_init_4 : decode cX2_init 4 = .ok (.aload_n 0, 1) := by decide +kernel
theorem dX2_init_5 : decode cX2_init 5 = .ok (.bipush 6, 2) := by decide +kernel
theorem dX2_init_7 : decode cX2_init 7 = .ok (.anewarray 9, 3) := by decide +kernel
theorem dX2_init_10 : decode cX2_init 10 = .ok (.putfield 11, 3) := by decide +kernel
theorem dX2_init_13 : decode cX2_init 13 = .ok (.aload_n 0, 1) := by decide +kernel
theorem dX2_init_14 : decode cX2_init 14 = .ok (.bipush 8, 2) := by decide +kernel
theorem dX2_init_16 : decode cX2_init 16 = .ok (.anewarray 17, 3) := by decide +kernel
theorem dX2_init_19 : decode cX2_init 19 = .ok (.putfield 19, 3) := by decide +kernel
theorem dX2_init_22 : decode cX2_init 22 = .ok (.aload_n 0, 1) := by decide +kernel
theorem dX2_init_23 : decode cX2_init 23 = .ok (.iconst 3, 1) := by decide +kernel
theorem dX2_init_24 : decode cX2_init 24 = .ok (.anewarray 23, 3) := by decide +kernel
theorem dX2_init_27 : decode cX2_init 27 = .ok (.putfield 25, 3) := by decide +kernel
theorem dX2_init_30 : decode cX2_init 30 = .ok (.aload_n 0, 1) := by decide +kernel
theorem dX2_init_31 : decode cX2_init 31 = .ok (.getstatic 29, 3) := by decide +kernel
theorem dX2_init_34 : decode cX2_init 34 = .ok (.invokevirtual 33, 3) := by decide +kernel
theorem dX2_init_37 : decode cX2_init 37 = .ok (.checkcast 34, 3) := by decide +kernel
theorem dX2_init_40 : decode cX2_init 40 = .ok (.putfield 38, 3) := by decide +kernel
theorem dX2_init_43 : decode cX2_init 43 = .ok (.aload_n 0, 1) := by decide +kernel
theorem dX2_init_44 : decode cX2_init 44 = .ok (.getstatic 41, 3) := by decide +kernel
theorem dX2_init_47 : decode cX2_init 47 = .ok (.invokevirtual 33, 3) := by decide +kernel
theorem dX2_init_50 : decode cX2_init 50 = .ok (.checkcast 34, 3) := by decide +kernel
theorem dX2_init_53 : decode cX2_init 53 = .ok (.putfield 44, 3) := by decide +kernel
theorem dX2_init_56 : decode cX2_init 56 = .ok (.aload_n 0, 1) := by decide +kernel
theorem dX2_init_57 : decode cX2_init 57 = .ok (.iconst (-1), 1) := by decide +kernel
theorem dX2_init_58 : decode cX2_init 58 = .ok (.putfield 47, 3) := by decide +kernel
theorem dX2_init_61 : decode cX2_init 61 = .ok (.aload_n 0, 1) := by decide +kernel
theorem dX2_init_62 : decode cX2_init 62 = .ok (.iconst (-1), 1) := by decide +kernel
theorem dX2_init_63 : decode cX2_init 63 = .ok (.putfield 51, 3) := by decide +kernel
theorem dX2_init_66 : decode cX2_init 66 = .ok (.iconst 0, 1) := by decide +kernel
theorem dX2_init_67 : decode cX2_init 67 = .ok (.istore_n 1, 1) := by decide +kernel
theorem dX2_init_68 : decode cX2_init 68 = .ok (.iload_n 1, 1) := by decide +kernel
theorem dX2_init_69 : decode cX2_init 69 = .ok (.bipush 6, 2) := by decide +kernel
theorem dX2_init_71 : decode cX2_init 71 = .ok (.if_icmp .ge 22, 3) := by decide +kernel
theorem dX2_init_74 : decode cX2_init 74 = .ok (.aload_n 0, 1) := by decide +kernel
theorem dX2_init_75 : decode cX2_init 75 = .ok (.getfield 11, 3) := by decide +kernel
theorem dX2_init_78 : decode cX2_init 78 = .ok (.iload_n 1, 1) := by decide +kernel
theorem dX2_init_79 : decode cX2_init 79 = .ok (.new 9, 3) := by decide +kernel
theorem dX2_init_82 : decode cX2_init 82 = .ok (.dup, 1) := by decide +kernel
theorem dX2_init_83 : decode cX2_init 83 = .ok (.invokespecial 54, 3) := by decide +kernel
theorem dX2_init_86 : decode cX2_init 86 = .ok (.aastore, 1) := by decide +kernel
theorem dX2_init_87 : decode cX2_init 87 = .ok (.iinc 1 1, 3) := by decide +kernel
theorem dX2_init_90 : decode cX2_init 90 = .ok (.goto (-22), 3) := by decide +kernel
theorem dX2_init_93 : decode cX2_init 93 = .ok (.iconst 0, 1) := by decide +kernel
theorem dX2_init_94 : decode cX2_init 94 = .ok (.istore_n 1, 1) := by decide +kernel
theorem dX2_init_95 : decode cX2_init 95 = .ok (.iload_n 1, 1) := by decide +kernel
theorem dX2_init_96 : decode cX2_init 96 = .ok (.bipush 8, 2) := by decide +kernel
theorem dX2_init_98 : decode cX2_init 98 = .ok (.if_icmp .ge 22, 3) := by decide +kernel
theorem dX2_init_101 : decode cX2_init 101 = .ok (.aload_n 0, 1) := by decide +kernel
theorem dX2_init_102 : decode cX2_init 102 = .ok (.getfield 19, 3) := by decide +kernel
theorem dX2_init_105 : decode cX2_init 105 = .ok (.iload_n 1, 1) := by decide +kernel
theorem dX2_init_106 : decode cX2_init 106 = .ok (.new 17, 3) := by decide +kernel
theorem dX2_init_109 : decode cX2_init 109 = .ok (.dup, 1) := by decide +kernel
theorem dX2_init_110 : decode cX2_init 110 = .ok (.invokespecial 55, 3) := by decide +kernel
theorem dX2_init_113 : decode cX2_init 113 = .ok (.aastore, 1) := by decide +kernel
theorem dX2_init_114 : decode cX2_init 114 = .ok (.iinc 1 1, 3) := by decide +kernel
theorem dX2_init_117 : decode cX2_init 117 = .ok (.goto (-22), 3) := by decide +kernel
theorem dX2_init_120 : decode cX2_init 120 = .ok (.iconst 0, 1) := by decide +kernel
theorem dX2_init_121 : decode cX2_init 121 = .ok (.istore_n 1, 1) := by decide +kernel
theorem dX2_init_122 : decode cX2_init 122 = .ok (.iload_n 1, 1) := by decide +kernel
theorem dX2_init_123 : decode cX2_init 123 = .ok (.iconst 3, 1) := by decide +kernel
theorem dX2_init_124 : decode cX2_init 124 = .ok (.if_icmp .ge 22, 3) := by decide +kernel
theorem dX2_init_127 : decode cX2_init 127 = .ok (.aload_n 0, 1) := by decide +kernel
theorem dX2_init_128 : decode cX2_init 128 = .ok (.getfield 25, 3) := by decide +kernel
theorem dX2_init_131 : decode cX2_init 131 = .ok (.iload_n 1, 1) := by decide +kernel
theorem dX2_init_132 : decode cX2_init 132 = .ok (.new 23, 3) := by decide +kernel
theorem dX2_init_135 : decode cX2_init 135 = .ok (.dup, 1) := by decide +kernel
theorem dX2_init_136 : decode cX2_init 136 = .ok (.invokespecial 56, 3) := by decide +kernel
theorem dX2_init_139 : decode cX2_init 139 = .ok (.aastore, 1) := by decide +kernel
theorem dX2_init_140 : decode cX2_init 140 = .ok (.iinc 1 1, 3) := by decide +kernel
theorem dX2_init_143 : decode cX2_init 143 = .ok (.goto (-21), 3) := by decide +kernel
theorem dX2_init_146 : decode cX2_init 146 = .ok (.return_, 1) := by decide +kernel
theorem dX2_copyFrom_0 : decode cX2_copyFrom 0 = .ok (.iconst 0, 1) := by decide +kernel
theorem dX2_copyFrom_1 : decode cX2_copyFrom 1 = .ok (.istore_n 2, 1) := by decide +kernel
theorem dX2_copyFrom_2 : decode cX2_copyFrom 2 = .ok (.iload_n 2, 1) := by decide +kernel
theorem dX2_copyFrom_3 : decode cX2_copyFrom 3 = .ok (.aload_n 1, 1) := by decide +kernel
theorem dX2_copyFrom_4 : decode cX2_copyFrom 4 = .ok (.getfield 57, 3) := by decide +kernel
theorem dX2_copyFrom_7 : decode cX2_copyFrom 7 = .ok (.if_icmp .ge 24, 3) := by decide +kernel
theorem dX2_copyFrom_10 : decode cX2_copyFrom 10 = .ok (.aload_n 0, 1) := by decide +kernel
theorem dX2_copyFrom_11 : decode cX2_copyFrom 11 = .ok (.getfield 11, 3) := by decide +kernel
theorem dX2_copyFrom_14 : decode cX2_copyFrom 14 = .ok (.iload_n 2, 1) := by decide +kernel
theorem dX2_copyFrom_15 : decode cX2_copyFrom 15 = .ok (.aaload, 1) := by decide +kernel
theorem dX2_copyFrom_16 : decode cX2_copyFrom 16 = .ok (.aload_n 1, 1) := by decide +kernel
theorem dX2_copyFrom_17 : decode cX2_copyFrom 17 = .ok (.getfield 11, 3) := by decide +kernel
theorem dX2_copyFrom_20 : decode cX2_copyFrom 20 = .ok (.iload_n 2, 1) := by decide +kernel
theorem dX2_copyFrom_21 : decode cX2_copyFrom 21 = .ok (.aaload, 1) := by decide +kernel
theorem dX2_copyFrom_22 : decode cX2_copyFrom 22 = .ok (.invokevirtual 60, 3) := by decide +kernel
theorem dX2_copyFrom_25 : decode cX2_copyFrom 25 = .ok (.iinc 2 1, 3) := by decide +kernel
theorem dX2_copyFrom_28 : decode cX2_copyFrom 28 = .ok (.goto (-26), 3) := by decide +kernel
theorem dX2_copyFrom_31 : decode cX2_copyFrom 31 = .ok (.iconst 0, 1) := by decide +kernel
theorem dX2_copyFrom_32 : decode cX2_copyFrom 32 = .ok (.istore_n 2, 1) := by decide +kernel
theorem dX2_copyFrom_33 : decode cX2_copyFrom 33 = .ok (.iload_n 2, 1) := by decide +kernel
theorem dX2_copyFrom_34 : decode cX2_copyFrom 34 = .ok (.aload_n 1, 1) := by decide +kernel
theorem dX2_copyFrom_35 : decode cX2_copyFrom 35 = .ok (.getfield 64, 3) := by decide +kernel
theorem dX2_copyFrom_38 : decode cX2_copyFrom 38 = .ok (.if_icmp .ge 24, 3) := by decide +kernel
theorem dX2_copyFrom_41 : decode cX2_copyFrom 41 = .ok (.aload_n 0, 1) := by decide +kernel
theorem dX2_copyFrom_42 : decode cX2_copyFrom 42 = .ok (.getfield 19, 3) := by decide +kernel
theorem dX2_copyFrom_45 : decode cX2_copyFrom 45 = .ok (.iload_n 2, 1) := by decide +kernel
theorem dX2_copyFrom_46 : decode cX2_copyFrom 46 = .ok (.aaload, 1) := by decide +kernel
theorem dX2_copyFrom_47 : decode cX2_copyFrom 47 = .ok (.aload_n 1, 1) := by decide +kernel
theorem dX2_copyFrom_48 : decode cX2_copyFrom 48 = .ok (.getfield 19, 3) := by decide +kernel
theorem dX2_copyFrom_51 : decode cX2_copyFrom 51 = .ok (.iload_n 2, 1) := by decide +kernel
theorem dX2_copyFrom_52 : decode cX2_copyFrom 52 = .ok (.aaload, 1) := by decide +kernel
theorem dX2_copyFrom_53 : decode cX2_copyFrom 53 = .ok (.invokevirtual 67, 3) := by decide +kernel
theorem dX2_copyFrom_56 : decode cX2_copyFrom 56 = .ok (.iinc 2 1, 3) := by decide +kernel
theorem dX2_copyFrom_59 : decode cX2_copyFrom 59 = .ok (.goto (-26), 3) := by decide +kernel
theorem dX2_copyFrom_62 : decode cX2_copyFrom 62 = .ok (.iconst 0, 1) := by decide +kernel
theorem dX2_copyFrom_63 : decode cX2_copyFrom 63 = .ok (.istore_n 2, 1) := by decide +kernel
theorem dX2_copyFrom_64 : decode cX2_copyFrom 64 = .ok (.iload_n 2, 1) := by decide +kernel
theorem dX2_copyFrom_65 : decode cX2_copyFrom 65 = .ok (.iconst 3, 1) := by decide +kernel
theorem dX2_copyFrom_66 : decode cX2_copyFrom 66 = .ok (.if_icmp .ge 24, 3) := by decide +kernel
theorem dX2_copyFrom_69 : decode cX2_copyFrom 69 = .ok (.aload_n 0, 1) := by decide +kernel
theorem dX2_copyFrom_70 : decode cX2_copyFrom 70 = .ok (.getfield 25, 3) := by decide +kernel
theorem dX2_copyFrom_73 : decode cX2_copyFrom 73 = .ok (.iload_n 2, 1) := by decide +kernel
theorem dX2_copyFrom_74 : decode cX2_copyFrom 74 = .ok (.aaload, 1) := by decide +kernel
theorem dX2_copyFrom_75 : decode cX2_copyFrom 75 = .ok (.aload_n 1, 1) := by decide +kernel
theorem dX2_copyFrom_76 : decode cX2_copyFrom 76 = .ok (.getfield 25, 3) := by decide +kernel
theorem dX2_copyFrom_79 : decode cX2_copyFrom 79 = .ok (.iload_n 2, 1) := by decide +kernel
theorem dX2_copyFrom_80 : decode cX2_copyFrom 80 = .ok (.aaload, 1) := by decide +kernel
theorem dX2_copyFrom_81 : decode cX2_copyFrom 81 = .ok (.invokevirtual 70, 3) := by decide +kernel
theorem dX2_copyFrom_84 : decode cX2_copyFrom 84 = .ok (.iinc 2 1, 3) := by decide +kernel
theorem dX2_copyFrom_87 : decode cX2_copyFrom 87 = .ok (.goto (-23), 3) := by decide +kernel
theorem dX2_copyFrom_90 : decode cX2_copyFrom 90 = .ok (.aload_n 1, 1) := by decide +kernel
theorem dX2_copyFrom_91 : decode cX2_copyFrom 91 = .ok (.getfield 38, 3) := by decide +kernel
theorem dX2_copyFrom_94 : decode cX2_copyFrom 94 = .ok (.iconst 0, 1) := by decide +kernel
theorem dX2_copyFrom_95 : decode cX2_copyFrom 95 = .ok (.aload_n 0, 1) := by decide +kernel
theorem dX2_copyFrom_96 : decode cX2_copyFrom 96 = .ok (.getfield 38, 3) := by decide +kernel
theorem dX2_copyFrom_99 : decode cX2_copyFrom 99 = .ok (.iconst 0, 1) := by decide +kernel
theorem dX2_copyFrom_100 : decode cX2_copyFrom 100 = .ok (.iconst 3, 1) := by decide +kernel
theorem dX2_copyFrom_101 : decode cX2_copyFrom 101 = .ok (.invokestatic 73, 3) := by decide +kernel
theorem dX2_copyFrom_104 : decode cX2_copyFrom 104 = .ok (.aload_n 1, 1) := by decide +kernel
theorem dX2_copyFrom_105 : decode cX2_copyFrom 105 = .ok (.getfield 44, 3) := by decide +kernel
theorem dX2_copyFrom_108 : decode cX2_copyFrom 108 = .ok (.iconst 0, 1) := by decide +kernel
theorem dX2_copyFrom_109 : decode cX2_copyFrom 109 = .ok (.aload_n 0, 1) := by decide +kernel
theorem dX2_copyFrom_110 : decode cX2_copyFrom 110 = .ok (.getfield 44, 3) := by decide +kernel
theorem dX2_copyFrom_113 : decode cX2_copyFrom 113 = .ok (.iconst 0, 1) := by decide +kernel
theorem dX2_copyFrom_114 : decode cX2_copyFrom 114 = .ok (.iconst 3, 1) := by decide +kernel
theorem dX2_copyFrom_115 : decode cX2_copyFrom 115 = .ok (.invokestatic 73, 3) := by decide +kernel
theorem dX2_copyFrom_118 : decode cX2_copyFrom 118 = .ok (.aload_n 0, 1) := by decide +kernel
theorem dX2_copyFrom_119 : decode cX2_copyFrom 119 = .ok (.aload_n 1, 1) := by decide +kernel
theorem dX2_copyFrom_120 : decode cX2_copyFrom 120 = .ok (.getfield 57, 3) := by decide +kernel
theorem dX2_copyFrom_123 : decode cX2_copyFrom 123 = .ok (.putfield 57, 3) := by decide +kernel
theorem dX2_copyFrom_126 : decode cX2_copyFrom 126 = .ok (.aload_n 0, 1) := by decide +kernel
theorem dX2_copyFrom_127 : decode cX2_copyFrom 127 = .ok (.aload_n 1, 1) := by decide +kernel
theorem dX2_copyFrom_128 : decode cX2_copyFrom 128 = .ok (.getfield 64, 3) := by decide +kernel
theorem dX2_copyFrom_131 : decode cX2_copyFrom 131 = .ok (.putfield 64, 3) := by decide +kernel
theorem dX2_copyFrom_134 : decode cX2_copyFrom 134 = .ok (.aload_n 0, 1) := by decide +kernel
theorem dX2_copyFrom_135 : decode cX2_copyFrom 135 = .ok (.aload_n 1, 1) := by decide +kernel
theorem dX2_copyFrom_136 : decode cX2_copyFrom 136 = .ok (.getfield 79, 3) := by decide +kernel
theorem dX2_copyFrom_139 : decode cX2_copyFrom 139 = .ok (.putfield 79, 3) := by decide +kernel
theorem dX2_copyFrom_142 : decode cX2_copyFrom 142 = .ok (.aload_n 0, 1) := by decide +kernel
theorem dX2_copyFrom_143 : decode cX2_copyFrom 143 = .ok (.aload_n 1, 1) := by decide +kernel
theorem dX2_copyFrom_144 : decode cX2_copyFrom 144 = .ok (.getfield 82, 3) := by decide +kernel
theorem dX2_copyFrom_147 : decode cX2_copyFrom 147 = .ok (.putfield 82, 3) := by decide +kernel
theorem dX2_copyFrom_150 : decode cX2_copyFrom 150 = .ok (.aload_n 0, 1) := by decide +kernel
theorem dX2_copyFrom_151 : decode cX2_copyFrom 151 = .ok (.aload_n 1, 1) := by decide +kernel
theorem dX2_copyFrom_152 : decode cX2_copyFrom 152 = .ok (.getfield 47, 3) := by decide +kernel
theorem dX2_copyFrom_155 : decode cX2_copyFrom 155 = .ok (.putfield 47, 3) := by decide +kernel
theorem dX2_copyFrom_158 : decode cX2_copyFrom 158 = .ok (.aload_n 0, 1) := by decide +kernel
theorem dX2_copyFrom_159 : decode cX2_copyFrom 159 = .ok (.aload_n 1, 1) := by decide +kernel
theorem dX2_copyFrom_160 : decode cX2_copyFrom 160 = .ok (.getfield 51, 3) := by decide +kernel
theorem dX2_copyFrom_163 : decode cX2_copyFrom 163 = .ok (.putfield 51, 3) := by decide +kernel
theorem dX2_copyFrom_166 : decode cX2_copyFrom 166 = .ok (.return_, 1) := by decide +kernel
theorem dX2_hasDrum_0 : decode cX2_hasDrum 0 = .ok (.iload_n 1, 1) := by decide +kernel
theorem dX2_hasDrum_1 : decode cX2_hasDrum 1 = .ok (.ifCond .lt 15, 3) := by decide +kernel
theorem dX2_hasDrum_4 : decode cX2_hasDrum 4 = .ok (.iload_n 1, 1) := by decide +kernel
theorem dX2_hasDrum_5 : decode cX2_hasDrum 5 = .ok (.aload_n 0, 1) := by decide +kernel
theorem dX2_hasDrum_6 : decode cX2_hasDrum 6 = .ok (.getfield 57, 3) := by decide +kernel
theorem dX2_hasDrum_9 : decode cX2_hasDrum 9 = .ok (.if_icmp .ge 7, 3) := by decide +kernel
theorem dX2_hasDrum_12 : decode cX2_hasDrum 12 = .ok (.iconst 1, 1) := by decide +kernel
theorem dX2_hasDrum_13 : decode cX2_hasDrum 13 = .ok (.goto 4, 3) := by decide +kernel
theorem dX2_hasDrum_16 : decode cX2_hasDrum 16 = .ok (.iconst 0, 1) := by decide +kernel
theorem dX2_hasDrum_17 : decode cX2_hasDrum 17 = .ok (.ireturn, 1) := by decide +kernel
theorem dX2_hasSample_0 : decode cX2_hasSample 0 = .ok (.iload_n 1, 1) := by decide +kernel
theorem dX2_hasSample_1 : decode cX2_hasSample 1 = .ok (.ifCond .lt 15, 3) := by decide +kernel
theorem dX2_hasSample_4 : decode cX2_hasSample 4 = .ok (.iload_n 1, 1) := by decide +kernel
theorem dX2_hasSample_5 : decode cX2_hasSample 5 = .ok (.aload_n 0, 1) := by decide +kernel
theorem dX2_hasSample_6 : decode cX2_hasSample 6 = .ok (.getfield 64, 3) := by decide +kernel
theorem dX2_hasSample_9 : decode cX2_hasSample 9 = .ok (.if_icmp .ge 7, 3) := by decide +kernel
theorem dX2_hasSample_12 : decode cX2_hasSample 12 = .ok (.iconst 1, 1) := by decide +kernel
theorem dX2_hasSample_13 : decode cX2_hasSample 13 = .ok (.goto 4, 3) := by decide +kernel
theorem dX2_hasSample_16 : decode cX2_hasSample 16 = .ok (.iconst 0, 1) := by decide +kernel
theorem dX2_hasSample_17 : decode cX2_hasSample 17 = .ok (.ireturn, 1) := by decide +kernel
theorem dX2_addDrum_0 : decode cX2_addDrum 0 = .ok (.aload_n 0, 1) := by decide +kernel
theorem dX2_addDrum_1 : decode cX2_addDrum 1 = .ok (.getfield 57, 3) := by decide +kernel
theorem dX2_addDrum_4 : decode cX2_addDrum 4 = .ok (.istore_n 2, 1) := by decide +kernel
theorem dX2_addDrum_5 : decode cX2_addDrum 5 = .ok (.aload_n 0, 1) := by decide +kernel
theorem dX2_addDrum_6 : decode cX2_addDrum 6 = .ok (.getfield 11, 3) := by decide +kernel
theorem dX2_addDrum_9 : decode cX2_addDrum 9 = .ok (.iload_n 2, 1) := by decide +kernel
theorem dX2_addDrum_10 : decode cX2_addDrum 10 = .ok (.aaload, 1) := by decide +kernel
theorem dX2_addDrum_11 : decode cX2_addDrum 11 = .ok (.iload_n 1, 1) := by decide +kernel
theorem dX2_addDrum_12 : decode cX2_addDrum 12 = .ok (.invokevirtual 85, 3) := by decide +kernel
theorem dX2_addDrum_15 : decode cX2_addDrum 15 = .ok (.aload_n 0, 1) := by decide +kernel
theorem dX2_addDrum_16 : decode cX2_addDrum 16 = .ok (.dup, 1) := by decide +kernel
theorem dX2_addDrum_17 : decode cX2_addDrum 17 = .ok (.getfield 57, 3) := by decide +kernel
theorem dX2_addDrum_20 : decode cX2_addDrum 20 = .ok (.iconst 1, 1) := by decide +kernel
theorem dX2_addDrum_21 : decode cX2_addDrum 21 = .ok (.iadd, 1) := by decide +kernel
theorem dX2_addDrum_22 : decode cX2_addDrum 22 = .ok (.putfield 57, 3) := by decide +kernel
theorem dX2_addDrum_25 : decode cX2_addDrum 25 = .ok (.iload_n 2, 1) := by decide +kernel
theorem dX2_addDrum_26 : decode cX2_addDrum 26 = .ok (.ireturn, 1) := by decide +kernel
theorem dX2_ageDrums_0 : decode cX2_ageDrums 0 = .ok (.iconst (-1), 1) := by decide +kernel
theorem dX2_ageDrums_1 : decode cX2_ageDrums 1 = .ok (.istore_n 2, 1) := by decide +kernel
theorem dX2_ageDrums_2 : decode cX2_ageDrums 2 = .ok (.iconst 0, 1) := by decide +kernel
theorem dX2_ageDrums_3 : decode cX2_ageDrums 3 = .ok (.istore_n 3, 1) := by decide +kernel
theorem dX2_ageDrums_4 : decode cX2_ageDrums 4 = .ok (.iload_n 3, 1) := by decide +kernel
theorem dX2_ageDrums_5 : decode cX2_ageDrums 5 = .ok (.aload_n 0, 1) := by decide +kernel
theorem dX2_ageDrums_6 : decode cX2_ageDrums 6 = .ok (.getfield 57, 3) := by decide +kernel
theorem dX2_ageDrums_9 : decode cX2_ageDrums 9 = .ok (.if_icmp .ge 49, 3) := by decide +kernel
theorem dX2_ageDrums_12 : decode cX2_ageDrums 12 = .ok (.aload_n 0, 1) := by decide +kernel
theorem dX2_ageDrums_13 : decode cX2_ageDrums 13 = .ok (.getfield 11, 3) := by decide +kernel
theorem dX2_ageDrums_16 : decode cX2_ageDrums 16 = .ok (.iload_n 3, 1) := by decide +kernel
theorem dX2_ageDrums_17 : decode cX2_ageDrums 17 = .ok (.aaload, 1) := by decide +kernel
theorem dX2_ageDrums_18 : decode cX2_ageDrums 18 = .ok (.sipush 999, 3) := by decide +kernel
theorem dX2_ageDrums_21 : decode cX2_ageDrums 21 = .ok (.aload_n 0, 1) := by decide +kernel
theorem dX2_ageDrums_22 : decode cX2_ageDrums 22 = .ok (.getfield 11, 3) := by decide +kernel
theorem dX2_ageDrums_25 : decode cX2_ageDrums 25 = .ok (.iload_n 3, 1) := by decide +kernel
theorem dX2_ageDrums_26 : decode cX2_ageDrums 26 = .ok (.aaload, 1) := by decide +kernel
theorem dX2_ageDrums_27 : decode cX2_ageDrums 27 = .ok (.getfield 89, 3) := by decide +kernel
theorem dX2_ageDrums_30 : decode cX2_ageDrums 30 = .ok (.iload_n 1, 1) := by decide +kernel
theorem dX2_ageDrums_31 : decode cX2_ageDrums 31 = .ok (.iadd, 1) := by decide +kernel
theorem dX2_ageDrums_32 : decode cX2_ageDrums 32 = .ok (.invokestatic 92, 3) := by decide +kernel
theorem dX2_ageDrums_35 : decode cX2_ageDrums 35 = .ok (.putfield 89, 3) := by decide +kernel
theorem dX2_ageDrums_38 : decode cX2_ageDrums 38 = .ok (.iload_n 2, 1) := by decide +kernel
theorem dX2_ageDrums_39 : decode cX2_ageDrums 39 = .ok (.aload_n 0, 1) := by decide +kernel
theorem dX2_ageDrums_40 : decode cX2_ageDrums 40 = .ok (.getfield 11, 3) := by decide +kernel
theorem dX2_ageDrums_43 : decode cX2_ageDrums 43 = .ok (.iload_n 3, 1) := by decide +kernel
theorem dX2_ageDrums_44 : decode cX2_ageDrums 44 = .ok (.aaload, 1) := by decide +kernel
theorem dX2_ageDrums_45 : decode cX2_ageDrums 45 = .ok (.getfield 89, 3) := by decide +kernel
theorem dX2_ageDrums_48 : decode cX2_ageDrums 48 = .ok (.invokestatic 98, 3) := by decide +kernel
theorem dX2_ageDrums_51 : decode cX2_ageDrums 51 = .ok (.istore_n 2, 1) := by decide +kernel
theorem dX2_ageDrums_52 : decode cX2_ageDrums 52 = .ok (.iinc 3 1, 3) := by decide +kernel
theorem dX2_ageDrums_55 : decode cX2_ageDrums 55 = .ok (.goto (-51), 3) := by decide +kernel
theorem dX2_ageDrums_58 : decode cX2_ageDrums 58 = .ok (.iload_n 2, 1) := by decide +kernel
theorem dX2_ageDrums_59 : decode cX2_ageDrums 59 = .ok (.ireturn, 1) := by decide +kernel
theorem dX2_whyNotTaken_0 : decode cX2_whyNotTaken 0 = .ok (.aload_n 0, 1) := by decide +kernel
theorem dX2_whyNotTaken_1 : decode cX2_whyNotTaken 1 = .ok (.iload_n 1, 1) := by decide +kernel
theorem dX2_whyNotTaken_2 : decode cX2_whyNotTaken 2 = .ok (.invokevirtual 101, 3) := by decide +kernel
theorem dX2_whyNotTaken_5 : decode cX2_whyNotTaken 5 = .ok (.ifCond .ne 6, 3) := by decide +kernel
theorem dX2_whyNotTaken_8 : decode cX2_whyNotTaken 8 = .ok (.bipush 13, 2) := by decide +kernel
theorem dX2_whyNotTaken_10 : decode cX2_whyNotTaken 10 = .ok (.ireturn, 1) := by decide +kernel
theorem dX2_whyNotTaken_11 : decode cX2_whyNotTaken 11 = .ok (.aload_n 0, 1) := by decide +kernel
theorem dX2_whyNotTaken_12 : decode cX2_whyNotTaken 12 = .ok (.getfield 64, 3) := by decide +kernel
theorem dX2_whyNotTaken_15 : decode cX2_whyNotTaken 15 = .ok (.bipush 8, 2) := by decide +kernel
theorem dX2_whyNotTaken_17 : decode cX2_whyNotTaken 17 = .ok (.if_icmp .ge 7, 3) := by decide +kernel
theorem dX2_whyNotTaken_20 : decode cX2_whyNotTaken 20 = .ok (.iconst 0, 1) := by decide +kernel
theorem dX2_whyNotTaken_21 : decode cX2_whyNotTaken 21 = .ok (.goto 5, 3) := by decide +kernel
theorem dX2_whyNotTaken_24 : decode cX2_whyNotTaken 24 = .ok (.bipush 14, 2) := by decide +kernel
theorem dX2_whyNotTaken_26 : decode cX2_whyNotTaken 26 = .ok (.ireturn, 1) := by decide +kernel
theorem dX2_take_0 : decode cX2_take 0 = .ok (.aload_n 0, 1) := by decide +kernel
theorem dX2_take_1 : decode cX2_take 1 = .ok (.getfield 64, 3) := by decide +kernel
theorem dX2_take_4 : decode cX2_take 4 = .ok (.istore_n 2, 1) := by decide +kernel
theorem dX2_take_5 : decode cX2_take 5 = .ok (.aload_n 0, 1) := by decide +kernel
theorem dX2_take_6 : decode cX2_take 6 = .ok (.getfield 19, 3) := by decide +kernel
theorem dX2_take_9 : decode cX2_take 9 = .ok (.iload_n 2, 1) := by decide +kernel
theorem dX2_take_10 : decode cX2_take 10 = .ok (.aaload, 1) := by decide +kernel
theorem dX2_take_11 : decode cX2_take 11 = .ok (.iload_n 1, 1) := by decide +kernel
theorem dX2_take_12 : decode cX2_take 12 = .ok (.aload_n 0, 1) := by decide +kernel
theorem dX2_take_13 : decode cX2_take 13 = .ok (.getfield 11, 3) := by decide +kernel
theorem dX2_take_16 : decode cX2_take 16 = .ok (.iload_n 1, 1) := by decide +kernel
theorem dX2_take_17 : decode cX2_take 17 = .ok (.aaload, 1) := by decide +kernel
theorem dX2_take_18 : decode cX2_take 18 = .ok (.invokevirtual 105, 3) := by decide +kernel
theorem dX2_take_21 : decode cX2_take 21 = .ok (.invokevirtual 109, 3) := by decide +kernel
theorem dX2_take_24 : decode cX2_take 24 = .ok (.aload_n 0, 1) := by decide +kernel
theorem dX2_take_25 : decode cX2_take 25 = .ok (.dup, 1) := by decide +kernel
theorem dX2_take_26 : decode cX2_take 26 = .ok (.getfield 64, 3) := by decide +kernel
theorem dX2_take_29 : decode cX2_take 29 = .ok (.iconst 1, 1) := by decide +kernel
theorem dX2_take_30 : decode cX2_take 30 = .ok (.iadd, 1) := by decide +kernel
theorem dX2_take_31 : decode cX2_take 31 = .ok (.putfield 64, 3) := by decide +kernel
theorem dX2_take_34 : decode cX2_take 34 = .ok (.iload_n 2, 1) := by decide +kernel
theorem dX2_take_35 : decode cX2_take 35 = .ok (.ireturn, 1) := by decide +kernel
theorem dX2_throwAway_0 : decode cX2_throwAway 0 = .ok (.aload_n 0, 1) := by decide +kernel
theorem dX2_throwAway_1 : decode cX2_throwAway 1 = .ok (.getfield 19, 3) := by decide +kernel
theorem dX2_throwAway_4 : decode cX2_throwAway 4 = .ok (.iload_n 1, 1) := by decide +kernel
theorem dX2_throwAway_5 : decode cX2_throwAway 5 = .ok (.aaload, 1) := by decide +kernel
theorem dX2_throwAway_6 : decode cX2_throwAway 6 = .ok (.astore_n 2, 1) := by decide +kernel
theorem dX2_throwAway_7 : decode cX2_throwAway 7 = .ok (.iload_n 1, 1) := by decide +kernel
theorem dX2_throwAway_8 : decode cX2_throwAway 8 = .ok (.istore_n 3, 1) := by decide +kernel
theorem dX2_throwAway_9 : decode cX2_throwAway 9 = .ok (.iload_n 3, 1) := by decide +kernel
theorem dX2_throwAway_10 : decode cX2_throwAway 10 = .ok (.aload_n 0, 1) := by decide +kernel
theorem dX2_throwAway_11 : decode cX2_throwAway 11 = .ok (.getfield 64, 3) := by decide +kernel
theorem dX2_throwAway_14 : decode cX2_throwAway 14 = .ok (.iconst 1, 1) := by decide +kernel
theorem dX2_throwAway_15 : decode cX2_throwAway 15 = .ok (.isub, 1) := by decide +kernel
theorem dX2_throwAway_16 : decode cX2_throwAway 16 = .ok (.if_icmp .ge 23, 3) := by decide +kernel
theorem dX2_throwAway_19 : decode cX2_throwAway 19 = .ok (.aload_n 0, 1) := by decide +kernel
theorem dX2_throwAway_20 : decode cX2_throwAway 20 = .ok (.getfield 19, 3) := by decide +kernel
theorem dX2_throwAway_23 : decode cX2_throwAway 23 = .ok (.iload_n 3, 1) := by decide +kernel
theorem dX2_throwAway_24 : decode cX2_throwAway 24 = .ok (.aload_n 0, 1) := by decide +kernel
theorem dX2_throwAway_25 : decode cX2_throwAway 25 = .ok (.getfield 19, 3) := by decide +kernel
theorem dX2_throwAway_28 : decode cX2_throwAway 28 = .ok (.iload_n 3, 1) := by decide +kernel
theorem dX2_throwAway_29 : decode cX2_throwAway 29 = .ok (.iconst 1, 1) := by decide +kernel
theorem dX2_throwAway_30 : decode cX2_throwAway 30 = .ok (.iadd, 1) := by decide +kernel
theorem dX2_throwAway_31 : decode cX2_throwAway 31 = .ok (.aaload, 1) := by decide +kernel
theorem dX2_throwAway_32 : decode cX2_throwAway 32 = .ok (.aastore, 1) := by decide +kernel
theorem dX2_throwAway_33 : decode cX2_throwAway 33 = .ok (.iinc 3 1, 3) := by decide +kernel
theorem dX2_throwAway_36 : decode cX2_throwAway 36 = .ok (.goto (-27), 3) := by decide +kernel
theorem dX2_throwAway_39 : decode cX2_throwAway 39 = .ok (.aload_n 0, 1) := by decide +kernel
theorem dX2_throwAway_40 : decode cX2_throwAway 40 = .ok (.getfield 19, 3) := by decide +kernel
theorem dX2_throwAway_43 : decode cX2_throwAway 43 = .ok (.aload_n 0, 1) := by decide +kernel
theorem dX2_throwAway_44 : decode cX2_throwAway 44 = .ok (.getfield 64, 3) := by decide +kernel
theorem dX2_throwAway_47 : decode cX2_throwAway 47 = .ok (.iconst 1, 1) := by decide +kernel
theorem dX2_throwAway_48 : decode cX2_throwAway 48 = .ok (.isub, 1) := by decide +kernel
theorem dX2_throwAway_49 : decode cX2_throwAway 49 = .ok (.aload_n 2, 1) := by decide +kernel
theorem dX2_throwAway_50 : decode cX2_throwAway 50 = .ok (.aastore, 1) := by decide +kernel
theorem dX2_throwAway_51 : decode cX2_throwAway 51 = .ok (.aload_n 0, 1) := by decide +kernel
theorem dX2_throwAway_52 : decode cX2_throwAway 52 = .ok (.dup, 1) := by decide +kernel
theorem dX2_throwAway_53 : decode cX2_throwAway 53 = .ok (.getfield 64, 3) := by decide +kernel
theorem dX2_throwAway_56 : decode cX2_throwAway 56 = .ok (.iconst 1, 1) := by decide +kernel
theorem dX2_throwAway_57 : decode cX2_throwAway 57 = .ok (.isub, 1) := by decide +kernel
theorem dX2_throwAway_58 : decode cX2_throwAway 58 = .ok (.putfield 64, 3) := by decide +kernel
theorem dX2_throwAway_61 : decode cX2_throwAway 61 = .ok (.aload_n 2, 1) := by decide +kernel
theorem dX2_throwAway_62 : decode cX2_throwAway 62 = .ok (.getfield 113, 3) := by decide +kernel
theorem dX2_throwAway_65 : decode cX2_throwAway 65 = .ok (.ireturn, 1) := by decide +kernel
theorem dX2_samplesIn_0 : decode cX2_samplesIn 0 = .ok (.iconst 0, 1) := by decide +kernel
theorem dX2_samplesIn_1 : decode cX2_samplesIn 1 = .ok (.istore_n 2, 1) := by decide +kernel
theorem dX2_samplesIn_2 : decode cX2_samplesIn 2 = .ok (.iconst 0, 1) := by decide +kernel
theorem dX2_samplesIn_3 : decode cX2_samplesIn 3 = .ok (.istore_n 3, 1) := by decide +kernel
theorem dX2_samplesIn_4 : decode cX2_samplesIn 4 = .ok (.iload_n 3, 1) := by decide +kernel
theorem dX2_samplesIn_5 : decode cX2_samplesIn 5 = .ok (.aload_n 0, 1) := by decide +kernel
theorem dX2_samplesIn_6 : decode cX2_samplesIn 6 = .ok (.getfield 64, 3) := by decide +kernel
theorem dX2_samplesIn_9 : decode cX2_samplesIn 9 = .ok (.if_icmp .ge 25, 3) := by decide +kernel
theorem dX2_samplesIn_12 : decode cX2_samplesIn 12 = .ok (.aload_n 0, 1) := by decide +kernel
theorem dX2_samplesIn_13 : decode cX2_samplesIn 13 = .ok (.getfield 19, 3) := by decide +kernel
theorem dX2_samplesIn_16 : decode cX2_samplesIn 16 = .ok (.iload_n 3, 1) := by decide +kernel
theorem dX2_samplesIn_17 : decode cX2_samplesIn 17 = .ok (.aaload, 1) := by decide +kernel
theorem dX2_samplesIn_18 : decode cX2_samplesIn 18 = .ok (.getfield 116, 3) := by decide +kernel
theorem dX2_samplesIn_21 : decode cX2_samplesIn 21 = .ok (.iload_n 1, 1) := by decide +kernel
theorem dX2_samplesIn_22 : decode cX2_samplesIn 22 = .ok (.if_icmp .ne 6, 3) := by decide +kernel
theorem dX2_samplesIn_25 : decode cX2_samplesIn 25 = .ok (.iinc 2 1, 3) := by decide +kernel
theorem dX2_samplesIn_28 : decode cX2_samplesIn 28 = .ok (.iinc 3 1, 3) := by decide +kernel
theorem dX2_samplesIn_31 : decode cX2_samplesIn 31 = .ok (.goto (-27), 3) := by decide +kernel
theorem dX2_samplesIn_34 : decode cX2_samplesIn 34 = .ok (.iload_n 2, 1) := by decide +kernel
theorem dX2_samplesIn_35 : decode cX2_samplesIn 35 = .ok (.ireturn, 1) := by decide +kernel
theorem dX2_hasRoomFor_0 : decode cX2_hasRoomFor 0 = .ok (.aload_n 0, 1) := by decide +kernel
theorem dX2_hasRoomFor_1 : decode cX2_hasRoomFor 1 = .ok (.getfield 19, 3) := by decide +kernel
theorem dX2_hasRoomFor_4 : decode cX2_hasRoomFor 4 = .ok (.iload_n 1, 1) := by decide +kernel
theorem dX2_hasRoomFor_5 : decode cX2_hasRoomFor 5 = .ok (.aaload, 1) := by decide +kernel
theorem dX2_hasRoomFor_6 : decode cX2_hasRoomFor 6 = .ok (.getfield 116, 3) := by decide +kernel
theorem dX2_hasRoomFor_9 : decode cX2_hasRoomFor 9 = .ok (.iload_n 2, 1) := by decide +kernel
theorem dX2_hasRoomFor_10 : decode cX2_hasRoomFor 10 = .ok (.if_icmp .eq 12, 3) := by decide +kernel
theorem dX2_hasRoomFor_13 : decode cX2_hasRoomFor 13 = .ok (.aload_n 0, 1) := by decide +kernel
theorem dX2_hasRoomFor_14 : decode cX2_hasRoomFor 14 = .ok (.iload_n 2, 1) := by decide +kernel
theorem dX2_hasRoomFor_15 : decode cX2_hasRoomFor 15 = .ok (.invokevirtual 119, 3) := by decide +kernel
theorem dX2_hasRoomFor_18 : decode cX2_hasRoomFor 18 = .ok (.iconst 3, 1) := by decide +kernel
theorem dX2_hasRoomFor_19 : decode cX2_hasRoomFor 19 = .ok (.if_icmp .ge 7, 3) := by decide +kernel
theorem dX2_hasRoomFor_22 : decode cX2_hasRoomFor 22 = .ok (.iconst 1, 1) := by decide +kernel
theorem dX2_hasRoomFor_23 : decode cX2_hasRoomFor 23 = .ok (.goto 4, 3) := by decide +kernel
theorem dX2_hasRoomFor_26 : decode cX2_hasRoomFor 26 = .ok (.iconst 0, 1) := by decide +kernel
theorem dX2_hasRoomFor_27 : decode cX2_hasRoomFor 27 = .ok (.ireturn, 1) := by decide +kernel
theorem dX2_whyNotLaid_0 : decode cX2_whyNotLaid 0 = .ok (.aload_n 0, 1) := by decide +kernel
theorem dX2_whyNotLaid_1 : decode cX2_whyNotLaid 1 = .ok (.iload_n 1, 1) := by decide +kernel
theorem dX2_whyNotLaid_2 : decode cX2_whyNotLaid 2 = .ok (.invokevirtual 123, 3) := by decide +kernel
theorem dX2_whyNotLaid_5 : decode cX2_whyNotLaid 5 = .ok (.ifCond .ne 6, 3) := by decide +kernel
theorem dX2_whyNotLaid_8 : decode cX2_whyNotLaid 8 = .ok (.bipush 13, 2) := by decide +kernel
theorem dX2_whyNotLaid_10 : decode cX2_whyNotLaid 10 = .ok (.ireturn, 1) := by decide +kernel
theorem dX2_whyNotLaid_11 : decode cX2_whyNotLaid 11 = .ok (.iload_n 2, 1) := by decide +kernel
theorem dX2_whyNotLaid_12 : decode cX2_whyNotLaid 12 = .ok (.iconst (-1), 1) := by decide +kernel
theorem dX2_whyNotLaid_13 : decode cX2_whyNotLaid 13 = .ok (.if_icmp .eq 12, 3) := by decide +kernel
theorem dX2_whyNotLaid_16 : decode cX2_whyNotLaid 16 = .ok (.aload_n 0, 1) := by decide +kernel
theorem dX2_whyNotLaid_17 : decode cX2_whyNotLaid 17 = .ok (.iload_n 1, 1) := by decide +kernel
theorem dX2_whyNotLaid_18 : decode cX2_whyNotLaid 18 = .ok (.iload_n 2, 1) := by decide +kernel
theorem dX2_whyNotLaid_19 : decode cX2_whyNotLaid 19 = .ok (.invokevirtual 126, 3) := by decide +kernel
theorem dX2_whyNotLaid_22 : decode cX2_whyNotLaid 22 = .ok (.ifCond .eq 7, 3) := by decide +kernel
theorem dX2_whyNotLaid_25 : decode cX2_whyNotLaid 25 = .ok (.iconst 0, 1) := by decide +kernel
theorem dX2_whyNotLaid_26 : decode cX2_whyNotLaid 26 = .ok (.goto 5, 3) := by decide +kernel
theorem dX2_whyNotLaid_29 : decode cX2_whyNotLaid 29 = .ok (.bipush 14, 2) := by decide +kernel
theorem dX2_whyNotLaid_31 : decode cX2_whyNotLaid 31 = .ok (.ireturn, 1) := by decide +kernel
theorem dX2_lay_0 : decode cX2_lay 0 = .ok (.aload_n 0, 1) := by decide +kernel
theorem dX2_lay_1 : decode cX2_lay 1 = .ok (.getfield 19, 3) := by decide +kernel
theorem dX2_lay_4 : decode cX2_lay 4 = .ok (.iload_n 1, 1) := by decide +kernel
theorem dX2_lay_5 : decode cX2_lay 5 = .ok (.aaload, 1) := by decide +kernel
theorem dX2_lay_6 : decode cX2_lay 6 = .ok (.getfield 116, 3) := by decide +kernel
theorem dX2_lay_9 : decode cX2_lay 9 = .ok (.istore_n 3, 1) := by decide +kernel
theorem dX2_lay_10 : decode cX2_lay 10 = .ok (.aload_n 0, 1) := by decide +kernel
theorem dX2_lay_11 : decode cX2_lay 11 = .ok (.getfield 19, 3) := by decide +kernel
theorem dX2_lay_14 : decode cX2_lay 14 = .ok (.iload_n 1, 1) := by decide +kernel
theorem dX2_lay_15 : decode cX2_lay 15 = .ok (.aaload, 1) := by decide +kernel
theorem dX2_lay_16 : decode cX2_lay 16 = .ok (.iload_n 2, 1) := by decide +kernel
theorem dX2_lay_17 : decode cX2_lay 17 = .ok (.putfield 116, 3) := by decide +kernel
theorem dX2_lay_20 : decode cX2_lay 20 = .ok (.iload_n 3, 1) := by decide +kernel
theorem dX2_lay_21 : decode cX2_lay 21 = .ok (.ireturn, 1) := by decide +kernel
theorem dX2_degreeAround_0 : decode cX2_degreeAround 0 = .ok (.iload_n 1, 1) := by decide +kernel
theorem dX2_degreeAround_1 : decode cX2_degreeAround 1 = .ok (.ifCond .lt 17, 3) := by decide +kernel
theorem dX2_degreeAround_4 : decode cX2_degreeAround 4 = .ok (.iload_n 1, 1) := by decide +kernel
theorem dX2_degreeAround_5 : decode cX2_degreeAround 5 = .ok (.iconst 3, 1) := by decide +kernel
theorem dX2_degreeAround_6 : decode cX2_degreeAround 6 = .ok (.if_icmp .ge 12, 3) := by decide +kernel
theorem dX2_degreeAround_9 : decode cX2_degreeAround 9 = .ok (.aload_n 0, 1) := by decide +kernel
theorem dX2_degreeAround_10 : decode cX2_degreeAround 10 = .ok (.getfield 38, 3) := by decide +kernel
theorem dX2_degreeAround_13 : decode cX2_degreeAround 13 = .ok (.iload_n 1, 1) := by decide +kernel
theorem dX2_degreeAround_14 : decode cX2_degreeAround 14 = .ok (.iaload, 1) := by decide +kernel
theorem dX2_degreeAround_15 : decode cX2_degreeAround 15 = .ok (.goto 6, 3) := by decide +kernel
theorem dX2_degreeAround_18 : decode cX2_degreeAround 18 = .ok (.sipush 200, 3) := by decide +kernel
theorem dX2_degreeAround_21 : decode cX2_degreeAround 21 = .ok (.ireturn, 1) := by decide +kernel
theorem dX2_passMinutes_0 : decode cX2_passMinutes 0 = .ok (.iconst 0, 1) := by decide +kernel
theorem dX2_passMinutes_1 : decode cX2_passMinutes 1 = .ok (.istore_n 2, 1) := by decide +kernel
theorem dX2_passMinutes_2 : decode cX2_passMinutes 2 = .ok (.iload_n 2, 1) := by decide +kernel
theorem dX2_passMinutes_3 : decode cX2_passMinutes 3 = .ok (.iload_n 1, 1) := by decide +kernel
theorem dX2_passMinutes_4 : decode cX2_passMinutes 4 = .ok (.if_icmp .ge 55, 3) := by decide +kernel
theorem dX2_passMinutes_7 : decode cX2_passMinutes 7 = .ok (.iconst 0, 1) := by decide +kernel
theorem dX2_passMinutes_8 : decode cX2_passMinutes 8 = .ok (.istore_n 3, 1) := by decide +kernel
theorem dX2_passMinutes_9 : decode cX2_passMinutes 9 = .ok (.iload_n 3, 1) := by decide +kernel
theorem dX2_passMinutes_10 : decode cX2_passMinutes 10 = .ok (.aload_n 0, 1) := by decide +kernel
theorem dX2_passMinutes_11 : decode cX2_passMinutes 11 = .ok (.getfield 64, 3) := by decide +kernel
theorem dX2_passMinutes_14 : decode cX2_passMinutes 14 = .ok (.if_icmp .ge 39, 3) := by decide +kernel
theorem dX2_passMinutes_17 : decode cX2_passMinutes 17 = .ok (.aload_n 0, 1) := by decide +kernel
theorem dX2_passMinutes_18 : decode cX2_passMinutes 18 = .ok (.getfield 19, 3) := by decide +kernel
theorem dX2_passMinutes_21 : decode cX2_passMinutes 21 = .ok (.iload_n 3, 1) := by decide +kernel
theorem dX2_passMinutes_22 : decode cX2_passMinutes 22 = .ok (.aaload, 1) := by decide +kernel
theorem dX2_passMinutes_23 : decode cX2_passMinutes 23 = .ok (.astore 4, 2) := by decide +kernel
theorem dX2_passMinutes_25 : decode cX2_passMinutes 25 = .ok (.aload 4, 2) := by decide +kernel
theorem dX2_passMinutes_27 : decode cX2_passMinutes 27 = .ok (.aload 4, 2) := by decide +kernel
theorem dX2_passMinutes_29 : decode cX2_passMinutes 29 = .ok (.getfield 130, 3) := by decide +kernel
theorem dX2_passMinutes_32 : decode cX2_passMinutes 32 = .ok (.aload_n 0, 1) := by decide +kernel
theorem dX2_passMinutes_33 : decode cX2_passMinutes 33 = .ok (.aload 4, 2) := by decide +kernel
theorem dX2_passMinutes_35 : decode cX2_passMinutes 35 = .ok (.getfield 116, 3) := by decide +kernel
theorem dX2_passMinutes_38 : decode cX2_passMinutes 38 = .ok (.invokevirtual 133, 3) := by decide +kernel
theorem dX2_passMinutes_41 : decode cX2_passMinutes 41 = .ok (.invokestatic 136, 3) := by decide +kernel
theorem dX2_passMinutes_44 : decode cX2_passMinutes 44 = .ok (.putfield 130, 3) := by decide +kernel
theorem dX2_passMinutes_47 : decode cX2_passMinutes 47 = .ok (.iinc 3 1, 3) := by decide +kernel
theorem dX2_passMinutes_50 : decode cX2_passMinutes 50 = .ok (.goto (-41), 3) := by decide +kernel
theorem dX2_passMinutes_53 : decode cX2_passMinutes 53 = .ok (.iinc 2 1, 3) := by decide +kernel
theorem dX2_passMinutes_56 : decode cX2_passMinutes 56 = .ok (.goto (-54), 3) := by decide +kernel
theorem dX2_passMinutes_59 : decode cX2_passMinutes 59 = .ok (.aload_n 0, 1) := by decide +kernel
theorem dX2_passMinutes_60 : decode cX2_passMinutes 60 = .ok (.dup, 1) := by decide +kernel
theorem dX2_passMinutes_61 : decode cX2_passMinutes 61 = .ok (.getfield 79, 3) := by decide +kernel
theorem dX2_passMinutes_64 : decode cX2_passMinutes 64 = .ok (.iload_n 1, 1) := by decide +kernel
theorem dX2_passMinutes_65 : decode cX2_passMinutes 65 = .ok (.iadd, 1) := by decide +kernel
theorem dX2_passMinutes_66 : decode cX2_passMinutes 66 = .ok (.putfield 79, 3) := by decide +kernel
theorem dX2_passMinutes_69 : decode cX2_passMinutes 69 = .ok (.return_, 1) := by decide +kernel
theorem dX2_samplesAsTheirBath_0 : decode cX2_samplesAsTheirBath 0 = .ok (.iconst 0, 1) := by decide +kernel
theorem dX2_samplesAsTheirBath_1 : decode cX2_samplesAsTheirBath 1 = .ok (.istore_n 1, 1) := by decide +kernel
theorem dX2_samplesAsTheirBath_2 : decode cX2_samplesAsTheirBath 2 = .ok (.iconst 0, 1) := by decide +kernel
theorem dX2_samplesAsTheirBath_3 : decode cX2_samplesAsTheirBath 3 = .ok (.istore_n 2, 1) := by decide +kernel
theorem dX2_samplesAsTheirBath_4 : decode cX2_samplesAsTheirBath 4 = .ok (.iload_n 2, 1) := by decide +kernel
theorem dX2_samplesAsTheirBath_5 : decode cX2_samplesAsTheirBath 5 = .ok (.aload_n 0, 1) := by decide +kernel
theorem dX2_samplesAsTheirBath_6 : decode cX2_samplesAsTheirBath 6 = .ok (.getfield 64, 3) := by decide +kernel
theorem dX2_samplesAsTheirBath_9 : decode cX2_samplesAsTheirBath 9 = .ok (.if_icmp .ge 42, 3) := by decide +kernel
theorem dX2_samplesAsTheirBath_12 : decode cX2_samplesAsTheirBath 12 = .ok (.aload_n 0, 1) := by decide +kernel
theorem dX2_samplesAsTheirBath_13 : decode cX2_samplesAsTheirBath 13 = .ok (.getfield 19, 3) := by decide +kernel
theorem dX2_samplesAsTheirBath_16 : decode cX2_samplesAsTheirBath 16 = .ok (.iload_n 2, 1) := by decide +kernel
theorem dX2_samplesAsTheirBath_17 : decode cX2_samplesAsTheirBath 17 = .ok (.aaload, 1) := by decide +kernel
theorem dX2_samplesAsTheirBath_18 : decode cX2_samplesAsTheirBath 18 = .ok (.astore_n 3, 1) := by decide +kernel
theorem dX2_samplesAsTheirBath_19 : decode cX2_samplesAsTheirBath 19 = .ok (.aload_n 3, 1) := by decide +kernel
theorem dX2_samplesAsTheirBath_20 : decode cX2_samplesAsTheirBath 20 = .ok (.getfield 116, 3) := by decide +kernel
theorem dX2_samplesAsTheirBath_23 : decode cX2_samplesAsTheirBath 23 = .ok (.iconst (-1), 1) := by decide +kernel
theorem dX2_samplesAsTheirBath_24 : decode cX2_samplesAsTheirBath 24 = .ok (.if_icmp .eq 21, 3) := by decide +kernel
theorem dX2_samplesAsTheirBath_27 : decode cX2_samplesAsTheirBath 27 = .ok (.aload_n 3, 1) := by decide +kernel
theorem dX2_samplesAsTheirBath_28 : decode cX2_samplesAsTheirBath 28 = .ok (.getfield 130, 3) := by decide +kernel
theorem dX2_samplesAsTheirBath_31 : decode cX2_samplesAsTheirBath 31 = .ok (.aload_n 0, 1) := by decide +kernel
theorem dX2_samplesAsTheirBath_32 : decode cX2_samplesAsTheirBath 32 = .ok (.aload_n 3, 1) := by decide +kernel
theorem dX2_samplesAsTheirBath_33 : decode cX2_samplesAsTheirBath 33 = .ok (.getfield 116, 3) := by decide +kernel
theorem dX2_samplesAsTheirBath_36 : decode cX2_samplesAsTheirBath 36 = .ok (.invokevirtual 133, 3) := by decide +kernel
theorem dX2_samplesAsTheirBath_39 : decode cX2_samplesAsTheirBath 39 = .ok (.if_icmp .ne 6, 3) := by decide +kernel
theorem dX2_samplesAsTheirBath_42 : decode cX2_samplesAsTheirBath 42 = .ok (.iinc 1 1, 3) := by decide +kernel
theorem dX2_samplesAsTheirBath_45 : decode cX2_samplesAsTheirBath 45 = .ok (.iinc 2 1, 3) := by decide +kernel
theorem dX2_samplesAsTheirBath_48 : decode cX2_samplesAsTheirBath 48 = .ok (.goto (-44), 3) := by decide +kernel
theorem dX2_samplesAsTheirBath_51 : decode cX2_samplesAsTheirBath 51 = .ok (.iload_n 1, 1) := by decide +kernel
theorem dX2_samplesAsTheirBath_52 : decode cX2_samplesAsTheirBath 52 = .ok (.ireturn, 1) := by decide +kernel
theorem dX2_depth_0 : decode cX2_depth 0 = .ok (.aload_n 0, 1) := by decide +kernel
theorem dX2_depth_1 : decode cX2_depth 1 = .ok (.getfield 19, 3) := by decide +kernel
theorem dX2_depth_4 : decode cX2_depth 4 = .ok (.iload_n 2, 1) := by decide +kernel
theorem dX2_depth_5 : decode cX2_depth 5 = .ok (.aaload, 1) := by decide +kernel
theorem dX2_depth_6 : decode cX2_depth 6 = .ok (.iload_n 3, 1) := by decide +kernel
theorem dX2_depth_7 : decode cX2_depth 7 = .ok (.iload 4, 2) := by decide +kernel
theorem dX2_depth_9 : decode cX2_depth 9 = .ok (.aload_n 0, 1) := by decide +kernel
theorem dX2_depth_10 : decode cX2_depth 10 = .ok (.getfield 25, 3) := by decide +kernel
theorem dX2_depth_13 : decode cX2_depth 13 = .ok (.iload_n 1, 1) := by decide +kernel
theorem dX2_depth_14 : decode cX2_depth 14 = .ok (.aaload, 1) := by decide +kernel
theorem dX2_depth_15 : decode cX2_depth 15 = .ok (.getfield 139, 3) := by decide +kernel
theorem dX2_depth_18 : decode cX2_depth 18 = .ok (.invokevirtual 142, 3) := by decide +kernel
theorem dX2_depth_21 : decode cX2_depth 21 = .ok (.ireturn, 1) := by decide +kernel
theorem dX2_whyNotSunk_0 : decode cX2_whyNotSunk 0 = .ok (.aload_n 0, 1) := by decide +kernel
theorem dX2_whyNotSunk_1 : decode cX2_whyNotSunk 1 = .ok (.getfield 19, 3) := by decide +kernel
theorem dX2_whyNotSunk_4 : decode cX2_whyNotSunk 4 = .ok (.iload_n 2, 1) := by decide +kernel
theorem dX2_whyNotSunk_5 : decode cX2_whyNotSunk 5 = .ok (.aaload, 1) := by decide +kernel
theorem dX2_whyNotSunk_6 : decode cX2_whyNotSunk 6 = .ok (.astore_n 3, 1) := by decide +kernel
theorem dX2_whyNotSunk_7 : decode cX2_whyNotSunk 7 = .ok (.aload_n 0, 1) := by decide +kernel
theorem dX2_whyNotSunk_8 : decode cX2_whyNotSunk 8 = .ok (.getfield 25, 3) := by decide +kernel
theorem dX2_whyNotSunk_11 : decode cX2_whyNotSunk 11 = .ok (.iload_n 1, 1) := by decide +kernel
theorem dX2_whyNotSunk_12 : decode cX2_whyNotSunk 12 = .ok (.aaload, 1) := by decide +kernel
theorem dX2_whyNotSunk_13 : decode cX2_whyNotSunk 13 = .ok (.getfield 146, 3) := by decide +kernel
theorem dX2_whyNotSunk_16 : decode cX2_whyNotSunk 16 = .ok (.ifCond .eq 5, 3) := by decide +kernel
theorem dX2_whyNotSunk_19 : decode cX2_whyNotSunk 19 = .ok (.iconst 1, 1) := by decide +kernel
theorem dX2_whyNotSunk_20 : decode cX2_whyNotSunk 20 = .ok (.ireturn, 1) := by decide +kernel
theorem dX2_whyNotSunk_21 : decode cX2_whyNotSunk 21 = .ok (.aload_n 3, 1) := by decide +kernel
theorem dX2_whyNotSunk_22 : decode cX2_whyNotSunk 22 = .ok (.getfield 116, 3) := by decide +kernel
theorem dX2_whyNotSunk_25 : decode cX2_whyNotSunk 25 = .ok (.iconst (-1), 1) := by decide +kernel
theorem dX2_whyNotSunk_26 : decode cX2_whyNotSunk 26 = .ok (.if_icmp .ne 5, 3) := by decide +kernel
theorem dX2_whyNotSunk_29 : decode cX2_whyNotSunk 29 = .ok (.iconst 2, 1) := by decide +kernel
theorem dX2_whyNotSunk_30 : decode cX2_whyNotSunk 30 = .ok (.ireturn, 1) := by decide +kernel
theorem dX2_whyNotSunk_31 : decode cX2_whyNotSunk 31 = .ok (.aload_n 0, 1) := by decide +kernel
theorem dX2_whyNotSunk_32 : decode cX2_whyNotSunk 32 = .ok (.aload_n 3, 1) := by decide +kernel
theorem dX2_whyNotSunk_33 : decode cX2_whyNotSunk 33 = .ok (.getfield 116, 3) := by decide +kernel
theorem dX2_whyNotSunk_36 : decode cX2_whyNotSunk 36 = .ok (.invokevirtual 133, 3) := by decide +kernel
theorem dX2_whyNotSunk_39 : decode cX2_whyNotSunk 39 = .ok (.aload_n 3, 1) := by decide +kernel
theorem dX2_whyNotSunk_40 : decode cX2_whyNotSunk 40 = .ok (.getfield 130, 3) := by decide +kernel
theorem dX2_whyNotSunk_43 : decode cX2_whyNotSunk 43 = .ok (.isub, 1) := by decide +kernel
theorem dX2_whyNotSunk_44 : decode cX2_whyNotSunk 44 = .ok (.invokestatic 150, 3) := by decide +kernel
theorem dX2_whyNotSunk_47 : decode cX2_whyNotSunk 47 = .ok (.aload_n 0, 1) := by decide +kernel
theorem dX2_whyNotSunk_48 : decode cX2_whyNotSunk 48 = .ok (.getfield 44, 3) := by decide +kernel
theorem dX2_whyNotSunk_51 : decode cX2_whyNotSunk 51 = .ok (.iconst 0, 1) := by decide +kernel
theorem dX2_whyNotSunk_52 : decode cX2_whyNotSunk 52 = .ok (.iaload, 1) := by decide +kernel
theorem dX2_whyNotSunk_53 : decode cX2_whyNotSunk 53 = .ok (.if_icmp .le 5, 3) := by decide +kernel
theorem dX2_whyNotSunk_56 : decode cX2_whyNotSunk 56 = .ok (.iconst 3, 1) := by decide +kernel
theorem dX2_whyNotSunk_57 : decode cX2_whyNotSunk 57 = .ok (.ireturn, 1) := by decide +kernel
theorem dX2_whyNotSunk_58 : decode cX2_whyNotSunk 58 = .ok (.aload_n 3, 1) := by decide +kernel
theorem dX2_whyNotSunk_59 : decode cX2_whyNotSunk 59 = .ok (.getfield 113, 3) := by decide +kernel
theorem dX2_whyNotSunk_62 : decode cX2_whyNotSunk 62 = .ok (.bipush 9, 2) := by decide +kernel
theorem dX2_whyNotSunk_64 : decode cX2_whyNotSunk 64 = .ok (.if_icmp .ge 7, 3) := by decide +kernel
theorem dX2_whyNotSunk_67 : decode cX2_whyNotSunk 67 = .ok (.iconst 0, 1) := by decide +kernel
theorem dX2_whyNotSunk_68 : decode cX2_whyNotSunk 68 = .ok (.goto 4, 3) := by decide +kernel
theorem dX2_whyNotSunk_71 : decode cX2_whyNotSunk 71 = .ok (.iconst 4, 1) := by decide +kernel
theorem dX2_whyNotSunk_72 : decode cX2_whyNotSunk 72 = .ok (.ireturn, 1) := by decide +kernel
theorem dX2_read_0 : decode cX2_read 0 = .ok (.aload_n 0, 1) := by decide +kernel
theorem dX2_read_1 : decode cX2_read 1 = .ok (.iload_n 1, 1) := by decide +kernel
theorem dX2_read_2 : decode cX2_read 2 = .ok (.iload_n 2, 1) := by decide +kernel
theorem dX2_read_3 : decode cX2_read 3 = .ok (.iload_n 3, 1) := by decide +kernel
theorem dX2_read_4 : decode cX2_read 4 = .ok (.iload 4, 2) := by decide +kernel
theorem dX2_read_6 : decode cX2_read 6 = .ok (.invokevirtual 153, 3) := by decide +kernel
theorem dX2_read_9 : decode cX2_read 9 = .ok (.istore 5, 2) := by decide +kernel
theorem dX2_read_11 : decode cX2_read 11 = .ok (.aload_n 0, 1) := by decide +kernel
theorem dX2_read_12 : decode cX2_read 12 = .ok (.getfield 19, 3) := by decide +kernel
theorem dX2_read_15 : decode cX2_read 15 = .ok (.iload_n 2, 1) := by decide +kernel
theorem dX2_read_16 : decode cX2_read 16 = .ok (.aaload, 1) := by decide +kernel
theorem dX2_read_17 : decode cX2_read 17 = .ok (.iload_n 1, 1) := by decide +kernel
theorem dX2_read_18 : decode cX2_read 18 = .ok (.iload 5, 2) := by decide +kernel
theorem dX2_read_20 : decode cX2_read 20 = .ok (.iload_n 3, 1) := by decide +kernel
theorem dX2_read_21 : decode cX2_read 21 = .ok (.iload 4, 2) := by decide +kernel
theorem dX2_read_23 : decode cX2_read 23 = .ok (.invokevirtual 157, 3) := by decide +kernel
theorem dX2_read_26 : decode cX2_read 26 = .ok (.aload_n 0, 1) := by decide +kernel
theorem dX2_read_27 : decode cX2_read 27 = .ok (.getfield 25, 3) := by decide +kernel
theorem dX2_read_30 : decode cX2_read 30 = .ok (.iload_n 1, 1) := by decide +kernel
theorem dX2_read_31 : decode cX2_read 31 = .ok (.aaload, 1) := by decide +kernel
theorem dX2_read_32 : decode cX2_read 32 = .ok (.iload 5, 2) := by decide +kernel
theorem dX2_read_34 : decode cX2_read 34 = .ok (.invokevirtual 161, 3) := by decide +kernel
theorem dX2_read_37 : decode cX2_read 37 = .ok (.iload 5, 2) := by decide +kernel
theorem dX2_read_39 : decode cX2_read 39 = .ok (.ireturn, 1) := by decide +kernel
theorem dX2_whyNotSoftened_0 : decode cX2_whyNotSoftened 0 = .ok (.aload_n 0, 1) := by decide +kernel
theorem dX2_whyNotSoftened_1 : decode cX2_whyNotSoftened 1 = .ok (.iload_n 1, 1) := by decide +kernel
theorem dX2_whyNotSoftened_2 : decode cX2_whyNotSoftened 2 = .ok (.invokevirtual 123, 3) := by decide +kernel
theorem dX2_whyNotSoftened_5 : decode cX2_whyNotSoftened 5 = .ok (.ifCond .ne 6, 3) := by decide +kernel
theorem dX2_whyNotSoftened_8 : decode cX2_whyNotSoftened 8 = .ok (.bipush 13, 2) := by decide +kernel
theorem dX2_whyNotSoftened_10 : decode cX2_whyNotSoftened 10 = .ok (.ireturn, 1) := by decide +kernel
theorem dX2_whyNotSoftened_11 : decode cX2_whyNotSoftened 11 = .ok (.aload_n 0, 1) := by decide +kernel
theorem dX2_whyNotSoftened_12 : decode cX2_whyNotSoftened 12 = .ok (.getfield 19, 3) := by decide +kernel
theorem dX2_whyNotSoftened_15 : decode cX2_whyNotSoftened 15 = .ok (.iload_n 1, 1) := by decide +kernel
theorem dX2_whyNotSoftened_16 : decode cX2_whyNotSoftened 16 = .ok (.aaload, 1) := by decide +kernel
theorem dX2_whyNotSoftened_17 : decode cX2_whyNotSoftened 17 = .ok (.getfield 116, 3) := by decide +kernel
theorem dX2_whyNotSoftened_20 : decode cX2_whyNotSoftened 20 = .ok (.iconst (-1), 1) := by decide +kernel
theorem dX2_whyNotSoftened_21 : decode cX2_whyNotSoftened 21 = .ok (.if_icmp .ne 7, 3) := by decide +kernel
theorem dX2_whyNotSoftened_24 : decode cX2_whyNotSoftened 24 = .ok (.iconst 0, 1) := by decide +kernel
theorem dX2_whyNotSoftened_25 : decode cX2_whyNotSoftened 25 = .ok (.goto 5, 3) := by decide +kernel
theorem dX2_whyNotSoftened_28 : decode cX2_whyNotSoftened 28 = .ok (.bipush 8, 2) := by decide +kernel
theorem dX2_whyNotSoftened_30 : decode cX2_whyNotSoftened 30 = .ok (.ireturn, 1) := by decide +kernel
theorem dX2_minutesIn_0 : decode cX2_minutesIn 0 = .ok (.aload_n 0, 1) := by decide +kernel
theorem dX2_minutesIn_1 : decode cX2_minutesIn 1 = .ok (.iload_n 2, 1) := by decide +kernel
theorem dX2_minutesIn_2 : decode cX2_minutesIn 2 = .ok (.invokevirtual 133, 3) := by decide +kernel
theorem dX2_minutesIn_5 : decode cX2_minutesIn 5 = .ok (.istore_n 3, 1) := by decide +kernel
theorem dX2_minutesIn_6 : decode cX2_minutesIn 6 = .ok (.aload_n 0, 1) := by decide +kernel
theorem dX2_minutesIn_7 : decode cX2_minutesIn 7 = .ok (.getfield 19, 3) := by decide +kernel
theorem dX2_minutesIn_10 : decode cX2_minutesIn 10 = .ok (.iload_n 1, 1) := by decide +kernel
theorem dX2_minutesIn_11 : decode cX2_minutesIn 11 = .ok (.aaload, 1) := by decide +kernel
theorem dX2_minutesIn_12 : decode cX2_minutesIn 12 = .ok (.getfield 130, 3) := by decide +kernel
theorem dX2_minutesIn_15 : decode cX2_minutesIn 15 = .ok (.istore 4, 2) := by decide +kernel
theorem dX2_minutesIn_17 : decode cX2_minutesIn 17 = .ok (.iconst 0, 1) := by decide +kernel
theorem dX2_minutesIn_18 : decode cX2_minutesIn 18 = .ok (.istore 5, 2) := by decide +kernel
theorem dX2_minutesIn_20 : decode cX2_minutesIn 20 = .ok (.iload 5, 2) := by decide +kernel
theorem dX2_minutesIn_22 : decode cX2_minutesIn 22 = .ok (.sipush 200, 3) := by decide +kernel
theorem dX2_minutesIn_25 : decode cX2_minutesIn 25 = .ok (.if_icmp .gt 36, 3) := by decide +kernel
theorem dX2_minutesIn_28 : decode cX2_minutesIn 28 = .ok (.iload_n 3, 1) := by decide +kernel
theorem dX2_minutesIn_29 : decode cX2_minutesIn 29 = .ok (.iload 4, 2) := by decide +kernel
theorem dX2_minutesIn_31 : decode cX2_minutesIn 31 = .ok (.isub, 1) := by decide +kernel
theorem dX2_minutesIn_32 : decode cX2_minutesIn 32 = .ok (.invokestatic 150, 3) := by decide +kernel
theorem dX2_minutesIn_35 : decode cX2_minutesIn 35 = .ok (.aload_n 0, 1) := by decide +kernel
theorem dX2_minutesIn_36 : decode cX2_minutesIn 36 = .ok (.getfield 44, 3) := by decide +kernel
theorem dX2_minutesIn_39 : decode cX2_minutesIn 39 = .ok (.iconst 0, 1) := by decide +kernel
theorem dX2_minutesIn_40 : decode cX2_minutesIn 40 = .ok (.iaload, 1) := by decide +kernel
theorem dX2_minutesIn_41 : decode cX2_minutesIn 41 = .ok (.if_icmp .gt 6, 3) := by decide +kernel
theorem dX2_minutesIn_44 : decode cX2_minutesIn 44 = .ok (.iload 5, 2) := by decide +kernel
theorem dX2_minutesIn_46 : decode cX2_minutesIn 46 = .ok (.ireturn, 1) := by decide +kernel
theorem dX2_minutesIn_47 : decode cX2_minutesIn 47 = .ok (.iload 4, 2) := by decide +kernel
theorem dX2_minutesIn_49 : decode cX2_minutesIn 49 = .ok (.iload_n 3, 1) := by decide +kernel
theorem dX2_minutesIn_50 : decode cX2_minutesIn 50 = .ok (.invokestatic 136, 3) := by decide +kernel
theorem dX2_minutesIn_53 : decode cX2_minutesIn 53 = .ok (.istore 4, 2) := by decide +kernel
theorem dX2_minutesIn_55 : decode cX2_minutesIn 55 = .ok (.iinc 5 1, 3) := by decide +kernel
theorem dX2_minutesIn_58 : decode cX2_minutesIn 58 = .ok (.goto (-38), 3) := by decide +kernel
theorem dX2_minutesIn_61 : decode cX2_minutesIn 61 = .ok (.iconst (-1), 1) := by decide +kernel
theorem dX2_minutesIn_62 : decode cX2_minutesIn 62 = .ok (.ireturn, 1) := by decide +kernel
theorem dX2_minutesToReady_0 : decode cX2_minutesToReady 0 = .ok (.aload_n 0, 1) := by decide +kernel
theorem dX2_minutesToReady_1 : decode cX2_minutesToReady 1 = .ok (.getfield 19, 3) := by decide +kernel
theorem dX2_minutesToReady_4 : decode cX2_minutesToReady 4 = .ok (.iload_n 1, 1) := by decide +kernel
theorem dX2_minutesToReady_5 : decode cX2_minutesToReady 5 = .ok (.aaload, 1) := by decide +kernel
theorem dX2_minutesToReady_6 : decode cX2_minutesToReady 6 = .ok (.getfield 116, 3) := by decide +kernel
theorem dX2_minutesToReady_9 : decode cX2_minutesToReady 9 = .ok (.istore_n 2, 1) := by decide +kernel
theorem dX2_minutesToReady_10 : decode cX2_minutesToReady 10 = .ok (.iload_n 2, 1) := by decide +kernel
theorem dX2_minutesToReady_11 : decode cX2_minutesToReady 11 = .ok (.iconst (-1), 1) := by decide +kernel
theorem dX2_minutesToReady_12 : decode cX2_minutesToReady 12 = .ok (.if_icmp .ne 7, 3) := by decide +kernel
theorem dX2_minutesToReady_15 : decode cX2_minutesToReady 15 = .ok (.iconst (-1), 1) := by decide +kernel
theorem dX2_minutesToReady_16 : decode cX2_minutesToReady 16 = .ok (.goto 9, 3) := by decide +kernel
theorem dX2_minutesToReady_19 : decode cX2_minutesToReady 19 = .ok (.aload_n 0, 1) := by decide +kernel
theorem dX2_minutesToReady_20 : decode cX2_minutesToReady 20 = .ok (.iload_n 1, 1) := by decide +kernel
theorem dX2_minutesToReady_21 : decode cX2_minutesToReady 21 = .ok (.iload_n 2, 1) := by decide +kernel
theorem dX2_minutesToReady_22 : decode cX2_minutesToReady 22 = .ok (.invokevirtual 164, 3) := by decide +kernel
theorem dX2_minutesToReady_25 : decode cX2_minutesToReady 25 = .ok (.ireturn, 1) := by decide +kernel
theorem dX2_quickestBath_0 : decode cX2_quickestBath 0 = .ok (.iconst (-1), 1) := by decide +kernel
theorem dX2_quickestBath_1 : decode cX2_quickestBath 1 = .ok (.istore_n 2, 1) := by decide +kernel
theorem dX2_quickestBath_2 : decode cX2_quickestBath 2 = .ok (.sipush 201, 3) := by decide +kernel
theorem dX2_quickestBath_5 : decode cX2_quickestBath 5 = .ok (.istore_n 3, 1) := by decide +kernel
theorem dX2_quickestBath_6 : decode cX2_quickestBath 6 = .ok (.iconst 0, 1) := by decide +kernel
theorem dX2_quickestBath_7 : decode cX2_quickestBath 7 = .ok (.istore 4, 2) := by decide +kernel
theorem dX2_quickestBath_9 : decode cX2_quickestBath 9 = .ok (.iload 4, 2) := by decide +kernel
theorem dX2_quickestBath_11 : decode cX2_quickestBath 11 = .ok (.iconst 3, 1) := by decide +kernel
theorem dX2_quickestBath_12 : decode cX2_quickestBath 12 = .ok (.if_icmp .ge 50, 3) := by decide +kernel
theorem dX2_quickestBath_15 : decode cX2_quickestBath 15 = .ok (.aload_n 0, 1) := by decide +kernel
theorem dX2_quickestBath_16 : decode cX2_quickestBath 16 = .ok (.iload_n 1, 1) := by decide +kernel
theorem dX2_quickestBath_17 : decode cX2_quickestBath 17 = .ok (.iload 4, 2) := by decide +kernel
theorem dX2_quickestBath_19 : decode cX2_quickestBath 19 = .ok (.invokevirtual 126, 3) := by decide +kernel
theorem dX2_quickestBath_22 : decode cX2_quickestBath 22 = .ok (.ifCond .eq 13, 3) := by decide +kernel
theorem dX2_quickestBath_25 : decode cX2_quickestBath 25 = .ok (.aload_n 0, 1) := by decide +kernel
theorem dX2_quickestBath_26 : decode cX2_quickestBath 26 = .ok (.iload_n 1, 1) := by decide +kernel
theorem dX2_quickestBath_27 : decode cX2_quickestBath 27 = .ok (.iload 4, 2) := by decide +kernel
theorem dX2_quickestBath_29 : decode cX2_quickestBath 29 = .ok (.invokevirtual 164, 3) := by decide +kernel
theorem dX2_quickestBath_32 : decode cX2_quickestBath 32 = .ok (.goto 4, 3) := by decide +kernel
theorem dX2_quickestBath_35 : decode cX2_quickestBath 35 = .ok (.iconst (-1), 1) := by decide +kernel
theorem dX2_quickestBath_36 : decode cX2_quickestBath 36 = .ok (.istore 5, 2) := by decide +kernel
theorem dX2_quickestBath_38 : decode cX2_quickestBath 38 = .ok (.iload 5, 2) := by decide +kernel
theorem dX2_quickestBath_40 : decode cX2_quickestBath 40 = .ok (.iconst (-1), 1) := by decide +kernel
theorem dX2_quickestBath_41 : decode cX2_quickestBath 41 = .ok (.if_icmp .eq 15, 3) := by decide +kernel
theorem dX2_quickestBath_44 : decode cX2_quickestBath 44 = .ok (.iload 5, 2) := by decide +kernel
theorem dX2_quickestBath_46 : decode cX2_quickestBath 46 = .ok (.iload_n 3, 1) := by decide +kernel
theorem dX2_quickestBath_47 : decode cX2_quickestBath 47 = .ok (.if_icmp .ge 9, 3) := by decide +kernel
theorem dX2_quickestBath_50 : decode cX2_quickestBath 50 = .ok (.iload 4, 2) := by decide +kernel
theorem dX2_quickestBath_52 : decode cX2_quickestBath 52 = .ok (.istore_n 2, 1) := by decide +kernel
theorem dX2_quickestBath_53 : decode cX2_quickestBath 53 = .ok (.iload 5, 2) := by decide +kernel
theorem dX2_quickestBath_55 : decode cX2_quickestBath 55 = .ok (.istore_n 3, 1) := by decide +kernel
theorem dX2_quickestBath_56 : decode cX2_quickestBath 56 = .ok (.iinc 4 1, 3) := by decide +kernel
theorem dX2_quickestBath_59 : decode cX2_quickestBath 59 = .ok (.goto (-50), 3) := by decide +kernel
theorem dX2_quickestBath_62 : decode cX2_quickestBath 62 = .ok (.iload_n 2, 1) := by decide +kernel
theorem dX2_quickestBath_63 : decode cX2_quickestBath 63 = .ok (.ireturn, 1) := by decide +kernel
theorem dX2_greatestDifferenceIn_0 : decode cX2_greatestDifferenceIn 0 = .ok (.iconst (-1), 1) := by decide +kernel
theorem dX2_greatestDifferenceIn_1 : decode cX2_greatestDifferenceIn 1 = .ok (.istore_n 2, 1) := by decide +kernel
theorem dX2_greatestDifferenceIn_2 : decode cX2_greatestDifferenceIn 2 = .ok (.iconst 0, 1) := by decide +kernel
theorem dX2_greatestDifferenceIn_3 : decode cX2_greatestDifferenceIn 3 = .ok (.istore_n 3, 1) := by decide +kernel
theorem dX2_greatestDifferenceIn_4 : decode cX2_greatestDifferenceIn 4 = .ok (.iload_n 3, 1) := by decide +kernel
theorem dX2_greatestDifferenceIn_5 : decode cX2_greatestDifferenceIn 5 = .ok (.aload_n 0, 1) := by decide +kernel
theorem dX2_greatestDifferenceIn_6 : decode cX2_greatestDifferenceIn 6 = .ok (.getfield 64, 3) := by decide +kernel
theorem dX2_greatestDifferenceIn_9 : decode cX2_greatestDifferenceIn 9 = .ok (.if_icmp .ge 45, 3) := by decide +kernel
theorem dX2_greatestDifferenceIn_12 : decode cX2_greatestDifferenceIn 12 = .ok (.aload_n 0, 1) := by decide +kernel
theorem dX2_greatestDifferenceIn_13 : decode cX2_greatestDifferenceIn 13 = .ok (.getfield 19, 3) := by decide +kernel
theorem dX2_greatestDifferenceIn_16 : decode cX2_greatestDifferenceIn 16 = .ok (.iload_n 3, 1) := by decide +kernel
theorem dX2_greatestDifferenceIn_17 : decode cX2_greatestDifferenceIn 17 = .ok (.aaload, 1) := by decide +kernel
theorem dX2_greatestDifferenceIn_18 : decode cX2_greatestDifferenceIn 18 = .ok (.getfield 116, 3) := by decide +kernel
theorem dX2_greatestDifferenceIn_21 : decode cX2_greatestDifferenceIn 21 = .ok (.iload_n 1, 1) := by decide +kernel
theorem dX2_greatestDifferenceIn_22 : decode cX2_greatestDifferenceIn 22 = .ok (.if_icmp .ne 26, 3) := by decide +kernel
theorem dX2_greatestDifferenceIn_25 : decode cX2_greatestDifferenceIn 25 = .ok (.iload_n 2, 1) := by decide +kernel
theorem dX2_greatestDifferenceIn_26 : decode cX2_greatestDifferenceIn 26 = .ok (.aload_n 0, 1) := by decide +kernel
theorem dX2_greatestDifferenceIn_27 : decode cX2_greatestDifferenceIn 27 = .ok (.iload_n 1, 1) := by decide +kernel
theorem dX2_greatestDifferenceIn_28 : decode cX2_greatestDifferenceIn 28 = .ok (.invokevirtual 133, 3) := by decide +kernel
theorem dX2_greatestDifferenceIn_31 : decode cX2_greatestDifferenceIn 31 = .ok (.aload_n 0, 1) := by decide +kernel
theorem dX2_greatestDifferenceIn_32 : decode cX2_greatestDifferenceIn 32 = .ok (.getfield 19, 3) := by decide +kernel
theorem dX2_greatestDifferenceIn_35 : decode cX2_greatestDifferenceIn 35 = .ok (.iload_n 3, 1) := by decide +kernel
theorem dX2_greatestDifferenceIn_36 : decode cX2_greatestDifferenceIn 36 = .ok (.aaload, 1) := by decide +kernel
theorem dX2_greatestDifferenceIn_37 : decode cX2_greatestDifferenceIn 37 = .ok (.getfield 130, 3) := by decide +kernel
theorem dX2_greatestDifferenceIn_40 : decode cX2_greatestDifferenceIn 40 = .ok (.isub, 1) := by decide +kernel
theorem dX2_greatestDifferenceIn_41 : decode cX2_greatestDifferenceIn 41 = .ok (.invokestatic 150, 3) := by decide +kernel
theorem dX2_greatestDifferenceIn_44 : decode cX2_greatestDifferenceIn 44 = .ok (.invokestatic 98, 3) := by decide +kernel
theorem dX2_greatestDifferenceIn_47 : decode cX2_greatestDifferenceIn 47 = .ok (.istore_n 2, 1) := by decide +kernel
theorem dX2_greatestDifferenceIn_48 : decode cX2_greatestDifferenceIn 48 = .ok (.iinc 3 1, 3) := by decide +kernel
theorem dX2_greatestDifferenceIn_51 : decode cX2_greatestDifferenceIn 51 = .ok (.goto (-47), 3) := by decide +kernel
theorem dX2_greatestDifferenceIn_54 : decode cX2_greatestDifferenceIn 54 = .ok (.iload_n 2, 1) := by decide +kernel
theorem dX2_greatestDifferenceIn_55 : decode cX2_greatestDifferenceIn 55 = .ok (.ireturn, 1) := by decide +kernel
theorem dX2_bathNumber_0 : decode cX2_bathNumber 0 = .ok (.iload_n 2, 1) := by decide +kernel
theorem dX2_bathNumber_1 : decode cX2_bathNumber 1 = .ok (.lookupswitch 39 #[(0, 27), (1, 33)], 27) := by decide +kernel
theorem dX2_bathNumber_28 : decode cX2_bathNumber 28 = .ok (.aload_n 0, 1) := by decide +kernel
theorem dX2_bathNumber_29 : decode cX2_bathNumber 29 = .ok (.iload_n 1, 1) := by decide +kernel
theorem dX2_bathNumber_30 : decode cX2_bathNumber 30 = .ok (.invokevirtual 133, 3) := by decide +kernel
theorem dX2_bathNumber_33 : decode cX2_bathNumber 33 = .ok (.ireturn, 1) := by decide +kernel
theorem dX2_bathNumber_34 : decode cX2_bathNumber 34 = .ok (.aload_n 0, 1) := by decide +kernel
theorem dX2_bathNumber_35 : decode cX2_bathNumber 35 = .ok (.iload_n 1, 1) := by decide +kernel
theorem dX2_bathNumber_36 : decode cX2_bathNumber 36 = .ok (.invokevirtual 119, 3) := by decide +kernel
theorem dX2_bathNumber_39 : decode cX2_bathNumber 39 = .ok (.ireturn, 1) := by decide +kernel
theorem dX2_bathNumber_40 : decode cX2_bathNumber 40 = .ok (.aload_n 0, 1) := by decide +kernel
theorem dX2_bathNumber_41 : decode cX2_bathNumber 41 = .ok (.iload_n 1, 1) := by decide +kernel
theorem dX2_bathNumber_42 : decode cX2_bathNumber 42 = .ok (.invokevirtual 167, 3) := by decide +kernel
theorem dX2_bathNumber_45 : decode cX2_bathNumber 45 = .ok (.ireturn, 1) := by decide +kernel
theorem dX2_samplesWithPenetration_0 : decode cX2_samplesWithPenetration 0 = .ok (.iconst 0, 1) := by decide +kernel
theorem dX2_samplesWithPenetration_1 : decode cX2_samplesWithPenetration 1 = .ok (.istore_n 1, 1) := by decide +kernel
theorem dX2_samplesWithPenetration_2 : decode cX2_samplesWithPenetration 2 = .ok (.iconst 0, 1) := by decide +kernel
theorem dX2_samplesWithPenetration_3 : decode cX2_samplesWithPenetration 3 = .ok (.istore_n 2, 1) := by decide +kernel
theorem dX2_samplesWithPenetration_4 : decode cX2_samplesWithPenetration 4 = .ok (.iload_n 2, 1) := by decide +kernel
theorem dX2_samplesWithPenetration_5 : decode cX2_samplesWithPenetration 5 = .ok (.aload_n 0, 1) := by decide +kernel
theorem dX2_samplesWithPenetration_6 : decode cX2_samplesWithPenetration 6 = .ok (.getfield 64, 3) := by decide +kernel
theorem dX2_samplesWithPenetration_9 : decode cX2_samplesWithPenetration 9 = .ok (.if_icmp .ge 30, 3) := by decide +kernel
theorem dX2_samplesWithPenetration_12 : decode cX2_samplesWithPenetration 12 = .ok (.aload_n 0, 1) := by decide +kernel
theorem dX2_samplesWithPenetration_13 : decode cX2_samplesWithPenetration 13 = .ok (.getfield 19, 3) := by decide +kernel
theorem dX2_samplesWithPenetration_16 : decode cX2_samplesWithPenetration 16 = .ok (.iload_n 2, 1) := by decide +kernel
theorem dX2_samplesWithPenetration_17 : decode cX2_samplesWithPenetration 17 = .ok (.aaload, 1) := by decide +kernel
theorem dX2_samplesWithPenetration_18 : decode cX2_samplesWithPenetration 18 = .ok (.aload_n 0, 1) := by decide +kernel
theorem dX2_samplesWithPenetration_19 : decode cX2_samplesWithPenetration 19 = .ok (.getfield 44, 3) := by decide +kernel
theorem dX2_samplesWithPenetration_22 : decode cX2_samplesWithPenetration 22 = .ok (.iconst 1, 1) := by decide +kernel
theorem dX2_samplesWithPenetration_23 : decode cX2_samplesWithPenetration 23 = .ok (.iaload, 1) := by decide +kernel
theorem dX2_samplesWithPenetration_24 : decode cX2_samplesWithPenetration 24 = .ok (.invokevirtual 170, 3) := by decide +kernel
theorem dX2_samplesWithPenetration_27 : decode cX2_samplesWithPenetration 27 = .ok (.ifCond .ne 6, 3) := by decide +kernel
theorem dX2_samplesWithPenetration_30 : decode cX2_samplesWithPenetration 30 = .ok (.iinc 1 1, 3) := by decide +kernel
theorem dX2_samplesWithPenetration_33 : decode cX2_samplesWithPenetration 33 = .ok (.iinc 2 1, 3) := by decide +kernel
theorem dX2_samplesWithPenetration_36 : decode cX2_samplesWithPenetration 36 = .ok (.goto (-32), 3) := by decide +kernel
theorem dX2_samplesWithPenetration_39 : decode cX2_samplesWithPenetration 39 = .ok (.iload_n 1, 1) := by decide +kernel
theorem dX2_samplesWithPenetration_40 : decode cX2_samplesWithPenetration 40 = .ok (.ireturn, 1) := by decide +kernel
theorem dX2_readingsSoFar_0 : decode cX2_readingsSoFar 0 = .ok (.iconst 0, 1) := by decide +kernel
theorem dX2_readingsSoFar_1 : decode cX2_readingsSoFar 1 = .ok (.istore_n 1, 1) := by decide +kernel
theorem dX2_readingsSoFar_2 : decode cX2_readingsSoFar 2 = .ok (.iconst 0, 1) := by decide +kernel
theorem dX2_readingsSoFar_3 : decode cX2_readingsSoFar 3 = .ok (.istore_n 2, 1) := by decide +kernel
theorem dX2_readingsSoFar_4 : decode cX2_readingsSoFar 4 = .ok (.iload_n 2, 1) := by decide +kernel
theorem dX2_readingsSoFar_5 : decode cX2_readingsSoFar 5 = .ok (.iconst 3, 1) := by decide +kernel
theorem dX2_readingsSoFar_6 : decode cX2_readingsSoFar 6 = .ok (.if_icmp .ge 21, 3) := by decide +kernel
theorem dX2_readingsSoFar_9 : decode cX2_readingsSoFar 9 = .ok (.iload_n 1, 1) := by decide +kernel
theorem dX2_readingsSoFar_10 : decode cX2_readingsSoFar 10 = .ok (.aload_n 0, 1) := by decide +kernel
theorem dX2_readingsSoFar_11 : decode cX2_readingsSoFar 11 = .ok (.getfield 25, 3) := by decide +kernel
theorem dX2_readingsSoFar_14 : decode cX2_readingsSoFar 14 = .ok (.iload_n 2, 1) := by decide +kernel
theorem dX2_readingsSoFar_15 : decode cX2_readingsSoFar 15 = .ok (.aaload, 1) := by decide +kernel
theorem dX2_readingsSoFar_16 : decode cX2_readingsSoFar 16 = .ok (.getfield 173, 3) := by decide +kernel
theorem dX2_readingsSoFar_19 : decode cX2_readingsSoFar 19 = .ok (.iadd, 1) := by decide +kernel
theorem dX2_readingsSoFar_20 : decode cX2_readingsSoFar 20 = .ok (.istore_n 1, 1) := by decide +kernel
theorem dX2_readingsSoFar_21 : decode cX2_readingsSoFar 21 = .ok (.iinc 2 1, 3) := by decide +kernel
theorem dX2_readingsSoFar_24 : decode cX2_readingsSoFar 24 = .ok (.goto (-20), 3) := by decide +kernel
theorem dX2_readingsSoFar_27 : decode cX2_readingsSoFar 27 = .ok (.iload_n 1, 1) := by decide +kernel
theorem dX2_readingsSoFar_28 : decode cX2_readingsSoFar 28 = .ok (.ireturn, 1) := by decide +kernel
theorem dX2_bentNeedles_0 : decode cX2_bentNeedles 0 = .ok (.iconst 0, 1) := by decide +kernel
theorem dX2_bentNeedles_1 : decode cX2_bentNeedles 1 = .ok (.istore_n 1, 1) := by decide +kernel
theorem dX2_bentNeedles_2 : decode cX2_bentNeedles 2 = .ok (.iconst 0, 1) := by decide +kernel
theorem dX2_bentNeedles_3 : decode cX2_bentNeedles 3 = .ok (.istore_n 2, 1) := by decide +kernel
theorem dX2_bentNeedles_4 : decode cX2_bentNeedles 4 = .ok (.iload_n 2, 1) := by decide +kernel
theorem dX2_bentNeedles_5 : decode cX2_bentNeedles 5 = .ok (.iconst 3, 1) := by decide +kernel
theorem dX2_bentNeedles_6 : decode cX2_bentNeedles 6 = .ok (.if_icmp .ge 24, 3) := by decide +kernel
theorem dX2_bentNeedles_9 : decode cX2_bentNeedles 9 = .ok (.aload_n 0, 1) := by decide +kernel
theorem dX2_bentNeedles_10 : decode cX2_bentNeedles 10 = .ok (.getfield 25, 3) := by decide +kernel
theorem dX2_bentNeedles_13 : decode cX2_bentNeedles 13 = .ok (.iload_n 2, 1) := by decide +kernel
theorem dX2_bentNeedles_14 : decode cX2_bentNeedles 14 = .ok (.aaload, 1) := by decide +kernel
theorem dX2_bentNeedles_15 : decode cX2_bentNeedles 15 = .ok (.getfield 146, 3) := by decide +kernel
theorem dX2_bentNeedles_18 : decode cX2_bentNeedles 18 = .ok (.ifCond .eq 6, 3) := by decide +kernel
theorem dX2_bentNeedles_21 : decode cX2_bentNeedles 21 = .ok (.iinc 1 1, 3) := by decide +kernel
theorem dX2_bentNeedles_24 : decode cX2_bentNeedles 24 = .ok (.iinc 2 1, 3) := by decide +kernel
theorem dX2_bentNeedles_27 : decode cX2_bentNeedles 27 = .ok (.goto (-23), 3) := by decide +kernel
theorem dX2_bentNeedles_30 : decode cX2_bentNeedles 30 = .ok (.iload_n 1, 1) := by decide +kernel
theorem dX2_bentNeedles_31 : decode cX2_bentNeedles 31 = .ok (.ireturn, 1) := by decide +kernel
theorem dX2_soldDrums_0 : decode cX2_soldDrums 0 = .ok (.iconst 0, 1) := by decide +kernel
theorem dX2_soldDrums_1 : decode cX2_soldDrums 1 = .ok (.istore_n 1, 1) := by decide +kernel
theorem dX2_soldDrums_2 : decode cX2_soldDrums 2 = .ok (.iconst 0, 1) := by decide +kernel
theorem dX2_soldDrums_3 : decode cX2_soldDrums 3 = .ok (.istore_n 2, 1) := by decide +kernel
theorem dX2_soldDrums_4 : decode cX2_soldDrums 4 = .ok (.iload_n 2, 1) := by decide +kernel
theorem dX2_soldDrums_5 : decode cX2_soldDrums 5 = .ok (.aload_n 0, 1) := by decide +kernel
theorem dX2_soldDrums_6 : decode cX2_soldDrums 6 = .ok (.getfield 57, 3) := by decide +kernel
theorem dX2_soldDrums_9 : decode cX2_soldDrums 9 = .ok (.if_icmp .ge 25, 3) := by decide +kernel
theorem dX2_soldDrums_12 : decode cX2_soldDrums 12 = .ok (.aload_n 0, 1) := by decide +kernel
theorem dX2_soldDrums_13 : decode cX2_soldDrums 13 = .ok (.getfield 11, 3) := by decide +kernel
theorem dX2_soldDrums_16 : decode cX2_soldDrums 16 = .ok (.iload_n 2, 1) := by decide +kernel
theorem dX2_soldDrums_17 : decode cX2_soldDrums 17 = .ok (.aaload, 1) := by decide +kernel
theorem dX2_soldDrums_18 : decode cX2_soldDrums 18 = .ok (.getfield 174, 3) := by decide +kernel
theorem dX2_soldDrums_21 : decode cX2_soldDrums 21 = .ok (.iconst (-1), 1) := by decide +kernel
theorem dX2_soldDrums_22 : decode cX2_soldDrums 22 = .ok (.if_icmp .eq 6, 3) := by decide +kernel
theorem dX2_soldDrums_25 : decode cX2_soldDrums 25 = .ok (.iinc 1 1, 3) := by decide +kernel
theorem dX2_soldDrums_28 : decode cX2_soldDrums 28 = .ok (.iinc 2 1, 3) := by decide +kernel
theorem dX2_soldDrums_31 : decode cX2_soldDrums 31 = .ok (.goto (-27), 3) := by decide +kernel
theorem dX2_soldDrums_34 : decode cX2_soldDrums 34 = .ok (.iload_n 1, 1) := by decide +kernel
theorem dX2_soldDrums_35 : decode cX2_soldDrums 35 = .ok (.ireturn, 1) := by decide +kernel
theorem dX2_total_0 : decode cX2_total 0 = .ok (.iload_n 1, 1) := by decide +kernel
theorem dX2_total_1 : decode cX2_total 1 = .ok (.tableswitch 109 0 9 #[55, 60, 65, 70, 75, 80, 85, 90, 95, 102], 55) := by decide +kernel
theorem dX2_total_56 : decode cX2_total 56 = .ok (.aload_n 0, 1) := by decide +kernel
theorem dX2_total_57 : decode cX2_total 57 = .ok (.getfield 57, 3) := by decide +kernel
theorem dX2_total_60 : decode cX2_total 60 = .ok (.ireturn, 1) := by decide +kernel
theorem dX2_total_61 : decode cX2_total 61 = .ok (.aload_n 0, 1) := by decide +kernel
theorem dX2_total_62 : decode cX2_total 62 = .ok (.getfield 64, 3) := by decide +kernel
theorem dX2_total_65 : decode cX2_total 65 = .ok (.ireturn, 1) := by decide +kernel
theorem dX2_total_66 : decode cX2_total 66 = .ok (.aload_n 0, 1) := by decide +kernel
theorem dX2_total_67 : decode cX2_total 67 = .ok (.invokevirtual 177, 3) := by decide +kernel
theorem dX2_total_70 : decode cX2_total 70 = .ok (.ireturn, 1) := by decide +kernel
theorem dX2_total_71 : decode cX2_total 71 = .ok (.aload_n 0, 1) := by decide +kernel
theorem dX2_total_72 : decode cX2_total 72 = .ok (.invokevirtual 180, 3) := by decide +kernel
theorem dX2_total_75 : decode cX2_total 75 = .ok (.ireturn, 1) := by decide +kernel
theorem dX2_total_76 : decode cX2_total 76 = .ok (.aload_n 0, 1) := by decide +kernel
theorem dX2_total_77 : decode cX2_total 77 = .ok (.invokevirtual 183, 3) := by decide +kernel
theorem dX2_total_80 : decode cX2_total 80 = .ok (.ireturn, 1) := by decide +kernel
theorem dX2_total_81 : decode cX2_total 81 = .ok (.aload_n 0, 1) := by decide +kernel
theorem dX2_total_82 : decode cX2_total 82 = .ok (.getfield 79, 3) := by decide +kernel
theorem dX2_total_85 : decode cX2_total 85 = .ok (.ireturn, 1) := by decide +kernel
theorem dX2_total_86 : decode cX2_total 86 = .ok (.aload_n 0, 1) := by decide +kernel
theorem dX2_total_87 : decode cX2_total 87 = .ok (.invokevirtual 186, 3) := by decide +kernel
theorem dX2_total_90 : decode cX2_total 90 = .ok (.ireturn, 1) := by decide +kernel
theorem dX2_total_91 : decode cX2_total 91 = .ok (.aload_n 0, 1) := by decide +kernel
theorem dX2_total_92 : decode cX2_total 92 = .ok (.getfield 82, 3) := by decide +kernel
theorem dX2_total_95 : decode cX2_total 95 = .ok (.ireturn, 1) := by decide +kernel
theorem dX2_total_96 : decode cX2_total 96 = .ok (.aload_n 0, 1) := by decide +kernel
theorem dX2_total_97 : decode cX2_total 97 = .ok (.getfield 44, 3) := by decide +kernel
theorem dX2_total_100 : decode cX2_total 100 = .ok (.iconst 0, 1) := by decide +kernel
theorem dX2_total_101 : decode cX2_total 101 = .ok (.iaload, 1) := by decide +kernel
theorem dX2_total_102 : decode cX2_total 102 = .ok (.ireturn, 1) := by decide +kernel
theorem dX2_total_103 : decode cX2_total 103 = .ok (.aload_n 0, 1) := by decide +kernel
theorem dX2_total_104 : decode cX2_total 104 = .ok (.getfield 44, 3) := by decide +kernel
theorem dX2_total_107 : decode cX2_total 107 = .ok (.iconst 1, 1) := by decide +kernel
theorem dX2_total_108 : decode cX2_total 108 = .ok (.iaload, 1) := by decide +kernel
theorem dX2_total_109 : decode cX2_total 109 = .ok (.ireturn, 1) := by decide +kernel
theorem dX2_total_110 : decode cX2_total 110 = .ok (.aload_n 0, 1) := by decide +kernel
theorem dX2_total_111 : decode cX2_total 111 = .ok (.getfield 44, 3) := by decide +kernel
theorem dX2_total_114 : decode cX2_total 114 = .ok (.iconst 2, 1) := by decide +kernel
theorem dX2_total_115 : decode cX2_total 115 = .ok (.iaload, 1) := by decide +kernel
theorem dX2_total_116 : decode cX2_total 116 = .ok (.ireturn, 1) := by decide +kernel
theorem dX3_init_0 : decode cX3_init 0 = .ok (.aload_n 0, 1) := by decide +kernel
theorem dX3_init_1 : decode cX3_init 1 = .ok (.invokespecial 3, 3) := by decide +kernel
theorem dX3_init_4 : decode cX3_init 4 = .ok (.return_, 1) := by decide +kernel
theorem dX3_copyFrom_0 : decode cX3_copyFrom 0 = .ok (.aload_n 0, 1) := by decide +kernel
theorem dX3_copyFrom_1 : decode cX3_copyFrom 1 = .ok (.aload_n 1, 1) := by decide +kernel
theorem dX3_copyFrom_2 : decode cX3_copyFrom 2 = .ok (.getfield 9, 3) := by decide +kernel
theorem dX3_copyFrom_5 : decode cX3_copyFrom 5 = .ok (.putfield 9, 3) := by decide +kernel
theorem dX3_copyFrom_8 : decode cX3_copyFrom 8 = .ok (.aload_n 0, 1) := by decide +kernel
theorem dX3_copyFrom_9 : decode cX3_copyFrom 9 = .ok (.aload_n 1, 1) := by decide +kernel
theorem dX3_copyFrom_10 : decode cX3_copyFrom 10 = .ok (.getfield 15, 3) := by decide +kernel
theorem dX3_copyFrom_13 : decode cX3_copyFrom 13 = .ok (.putfield 15, 3) := by decide +kernel
theorem dX3_copyFrom_16 : decode cX3_copyFrom 16 = .ok (.aload_n 0, 1) := by decide +kernel
theorem dX3_copyFrom_17 : decode cX3_copyFrom 17 = .ok (.aload_n 1, 1) := by decide +kernel
theorem dX3_copyFrom_18 : decode cX3_copyFrom 18 = .ok (.getfield 19, 3) := by decide +kernel
theorem dX3_copyFrom_21 : decode cX3_copyFrom 21 = .ok (.putfield 19, 3) := by decide +kernel
theorem dX3_copyFrom_24 : decode cX3_copyFrom 24 = .ok (.return_, 1) := by decide +kernel
theorem dX3_makeNew_0 : decode cX3_makeNew 0 = .ok (.aload_n 0, 1) := by decide +kernel
theorem dX3_makeNew_1 : decode cX3_makeNew 1 = .ok (.getfield 9, 3) := by decide +kernel
theorem dX3_makeNew_4 : decode cX3_makeNew 4 = .ok (.istore_n 1, 1) := by decide +kernel
theorem dX3_makeNew_5 : decode cX3_makeNew 5 = .ok (.aload_n 0, 1) := by decide +kernel
theorem dX3_makeNew_6 : decode cX3_makeNew 6 = .ok (.iconst 0, 1) := by decide +kernel
theorem dX3_makeNew_7 : decode cX3_makeNew 7 = .ok (.putfield 9, 3) := by decide +kernel
theorem dX3_makeNew_10 : decode cX3_makeNew 10 = .ok (.aload_n 0, 1) := by decide +kernel
theorem dX3_makeNew_11 : decode cX3_makeNew 11 = .ok (.iconst 0, 1) := by decide +kernel
theorem dX3_makeNew_12 : decode cX3_makeNew 12 = .ok (.putfield 15, 3) := by decide +kernel
theorem dX3_makeNew_15 : decode cX3_makeNew 15 = .ok (.iload_n 1, 1) := by decide +kernel
theorem dX3_makeNew_16 : decode cX3_makeNew 16 = .ok (.ireturn, 1) := by decide +kernel
theorem dX3_wearBy_0 : decode cX3_wearBy 0 = .ok (.aload_n 0, 1) := by decide +kernel
theorem dX3_wearBy_1 : decode cX3_wearBy 1 = .ok (.dup, 1) := by decide +kernel
theorem dX3_wearBy_2 : decode cX3_wearBy 2 = .ok (.getfield 19, 3) := by decide +kernel
theorem dX3_wearBy_5 : decode cX3_wearBy 5 = .ok (.iconst 1, 1) := by decide +kernel
theorem dX3_wearBy_6 : decode cX3_wearBy 6 = .ok (.iadd, 1) := by decide +kernel
theorem dX3_wearBy_7 : decode cX3_wearBy 7 = .ok (.putfield 19, 3) := by decide +kernel
theorem dX3_wearBy_10 : decode cX3_wearBy 10 = .ok (.iload_n 1, 1) := by decide +kernel
theorem dX3_wearBy_11 : decode cX3_wearBy 11 = .ok (.bipush 50, 2) := by decide +kernel
theorem dX3_wearBy_13 : decode cX3_wearBy 13 = .ok (.if_icmp .ge 18, 3) := by decide +kernel
theorem dX3_wearBy_16 : decode cX3_wearBy 16 = .ok (.aload_n 0, 1) := by decide +kernel
theorem dX3_wearBy_17 : decode cX3_wearBy 17 = .ok (.bipush 20, 2) := by decide +kernel
theorem dX3_wearBy_19 : decode cX3_wearBy 19 = .ok (.aload_n 0, 1) := by decide +kernel
theorem dX3_wearBy_20 : decode cX3_wearBy 20 = .ok (.getfield 9, 3) := by decide +kernel
theorem dX3_wearBy_23 : decode cX3_wearBy 23 = .ok (.iconst 1, 1) := by decide +kernel
theorem dX3_wearBy_24 : decode cX3_wearBy 24 = .ok (.iadd, 1) := by decide +kernel
theorem dX3_wearBy_25 : decode cX3_wearBy 25 = .ok (.invokestatic 22, 3) := by decide +kernel
theorem dX3_wearBy_28 : decode cX3_wearBy 28 = .ok (.putfield 9, 3) := by decide +kernel
theorem dX3_wearBy_31 : decode cX3_wearBy 31 = .ok (.iload_n 1, 1) := by decide +kernel
theorem dX3_wearBy_32 : decode cX3_wearBy 32 = .ok (.ifCond .ne 8, 3) := by decide +kernel
theorem dX3_wearBy_35 : decode cX3_wearBy 35 = .ok (.aload_n 0, 1) := by decide +kernel
theorem dX3_wearBy_36 : decode cX3_wearBy 36 = .ok (.iconst 1, 1) := by decide +kernel
theorem dX3_wearBy_37 : decode cX3_wearBy 37 = .ok (.putfield 15, 3) := by decide +kernel
theorem dX3_wearBy_40 : decode cX3_wearBy 40 = .ok (.return_, 1) := by decide +kernel
theorem dX3_number_0 : decode cX3_number 0 = .ok (.iload_n 1, 1) := by decide +kernel
theorem dX3_number_1 : decode cX3_number 1 = .ok (.lookupswitch 45 #[(0, 27), (1, 32)], 27) := by decide +kernel
theorem dX3_number_28 : decode cX3_number 28 = .ok (.aload_n 0, 1) := by decide +kernel
theorem dX3_number_29 : decode cX3_number 29 = .ok (.getfield 9, 3) := by decide +kernel
theorem dX3_number_32 : decode cX3_number 32 = .ok (.ireturn, 1) := by decide +kernel
theorem dX3_number_33 : decode cX3_number 33 = .ok (.aload_n 0, 1) := by decide +kernel
theorem dX3_number_34 : decode cX3_number 34 = .ok (.getfield 15, 3) := by decide +kernel
theorem dX3_number_37 : decode cX3_number 37 = .ok (.ifCond .eq 7, 3) := by decide +kernel
theorem dX3_number_40 : decode cX3_number 40 = .ok (.iconst 1, 1) := by decide +kernel
theorem dX3_number_41 : decode cX3_number 41 = .ok (.goto 4, 3) := by decide +kernel
theorem dX3_number_44 : decode cX3_number 44 = .ok (.iconst 0, 1) := by decide +kernel
theorem dX3_number_45 : decode cX3_number 45 = .ok (.ireturn, 1) := by decide +kernel
theorem dX3_number_46 : decode cX3_number 46 = .ok (.aload_n 0, 1) := by decide +kernel
theorem dX3_number_47 : decode cX3_number 47 = .ok (.getfield 19, 3) := by decide +kernel
theorem dX3_number_50 : decode cX3_number 50 = .ok (.ireturn, 1) := by decide +kernel
theorem dX4_init_0 : decode cX4_init 0 = .ok (.aload_n 0, 1) := by decide +kernel
theorem dX4_init_1 : decode cX4_init 1 = .ok (.invokespecial 3, 3) := by decide +kernel
theorem dX4_init_4 : decode cX4_init 4 = .ok (.aload_n 0, 1) := by decide +kernel
theorem dX4_init_5 : decode cX4_init 5 = .ok (.bipush 60, 2) := by decide +kernel
theorem dX4_init_7 : decode cX4_init 7 = .ok (.newarray .char, 2) := by decide +kernel
theorem dX4_init_9 : decode cX4_init 9 = .ok (.putfield 9, 3) := by decide +kernel
theorem dX4_init_12 : decode cX4_init 12 = .ok (.aload_n 0, 1) := by decide +kernel
theorem dX4_init_13 : decode cX4_init 13 = .ok (.new 15, 3) := by decide +kernel
theorem dX4_init_16 : decode cX4_init 16 = .ok (.dup, 1) := by decide +kernel
theorem dX4_init_17 : decode cX4_init 17 = .ok (.invokespecial 17, 3) := by decide +kernel
theorem dX4_init_20 : decode cX4_init 20 = .ok (.putfield 18, 3) := by decide +kernel
theorem dX4_init_23 : decode cX4_init 23 = .ok (.return_, 1) := by decide +kernel
theorem dX5_init_0 : decode cX5_init 0 = .ok (.aload_n 0, 1) := by decide +kernel
theorem dX5_init_1 : decode cX5_init 1 = .ok (.invokespecial 3, 3) := by decide +kernel
theorem dX5_init_4 : decode cX5_init 4 = .ok (.aload_n 0, 1) := by decide +kernel
theorem dX5_init_5 : decode cX5_init 5 = .ok (.ldc 9, 2) := by decide +kernel
theorem dX5_init_7 : decode cX5_init 7 = .ok (.putfield 11, 3) := by decide +kernel
theorem dX5_init_10 : decode cX5_init 10 = .ok (.aload_n 0, 1) := by decide +kernel
theorem dX5_init_11 : decode cX5_init 11 = .ok (.bipush 6, 2) := by decide +kernel
theorem dX5_init_13 : decode cX5_init 13 = .ok (.newarray .int, 2) := by decide +kernel
theorem dX5_init_15 : decode cX5_init 15 = .ok (.putfield 17, 3) := by decide +kernel
theorem dX5_init_18 : decode cX5_init 18 = .ok (.return_, 1) := by decide +kernel
theorem dX6_init_0 : decode cX6_init 0 = .ok (.aload_n 0, 1) := by decide +kernel
theorem dX6_init_1 : decode cX6_init 1 = .ok (.invokespecial 3, 3) := by decide +kernel
theorem dX6_init_4 : decode cX6_init 4 = .ok (.aload_n 0, 1) := by decide +kernel
theorem dX6_init_5 : decode cX6_init 5 = .ok (.iconst (-1), 1) := by decide +kernel
theorem dX6_init_6 : decode cX6_init 6 = .ok (.putfield 9, 3) := by decide +kernel
theorem dX6_init_9 : decode cX6_init 9 = .ok (.aload_n 0, 1) := by decide +kernel
theorem dX6_init_10 : decode cX6_init 10 = .ok (.iconst (-1), 1) := by decide +kernel
theorem dX6_init_11 : decode cX6_init 11 = .ok (.putfield 15, 3) := by decide +kernel
theorem dX6_init_14 : decode cX6_init 14 = .ok (.aload_n 0, 1) := by decide +kernel
theorem dX6_init_15 : decode cX6_init 15 = .ok (.bipush 36, 2) := by decide +kernel
theorem dX6_init_17 : decode cX6_init 17 = .ok (.newarray .int, 2) := by decide +kernel
theorem dX6_init_19 : decode cX6_init 19 = .ok (.putfield 18, 3) := by decide +kernel
theorem dX6_init_22 : decode cX6_init 22 = .ok (.return_, 1) := by decide +kernel
theorem dX6_begin_0 : decode cX6_begin 0 = .ok (.aload_n 0, 1) := by decide +kernel
theorem dX6_begin_1 : decode cX6_begin 1 = .ok (.iload_n 1, 1) := by decide +kernel
theorem dX6_begin_2 : decode cX6_begin 2 = .ok (.putfield 22, 3) := by decide +kernel
theorem dX6_begin_5 : decode cX6_begin 5 = .ok (.aload_n 0, 1) := by decide +kernel
theorem dX6_begin_6 : decode cX6_begin 6 = .ok (.iload_n 2, 1) := by decide +kernel
theorem dX6_begin_7 : decode cX6_begin 7 = .ok (.putfield 25, 3) := by decide +kernel
theorem dX6_begin_10 : decode cX6_begin 10 = .ok (.aload_n 0, 1) := by decide +kernel
theorem dX6_begin_11 : decode cX6_begin 11 = .ok (.sipush 200, 3) := by decide +kernel
theorem dX6_begin_14 : decode cX6_begin 14 = .ok (.putfield 28, 3) := by decide +kernel
theorem dX6_begin_17 : decode cX6_begin 17 = .ok (.aload_n 0, 1) := by decide +kernel
theorem dX6_begin_18 : decode cX6_begin 18 = .ok (.iconst (-1), 1) := by decide +kernel
theorem dX6_begin_19 : decode cX6_begin 19 = .ok (.putfield 9, 3) := by decide +kernel
theorem dX6_begin_22 : decode cX6_begin 22 = .ok (.aload_n 0, 1) := by decide +kernel
theorem dX6_begin_23 : decode cX6_begin 23 = .ok (.iconst (-1), 1) := by decide +kernel
theorem dX6_begin_24 : decode cX6_begin 24 = .ok (.putfield 15, 3) := by decide +kernel
theorem dX6_begin_27 : decode cX6_begin 27 = .ok (.aload_n 0, 1) := by decide +kernel
theorem dX6_begin_28 : decode cX6_begin 28 = .ok (.iconst 0, 1) := by decide +kernel
theorem dX6_begin_29 : decode cX6_begin 29 = .ok (.putfield 31, 3) := by decide +kernel
theorem dX6_begin_32 : decode cX6_begin 32 = .ok (.return_, 1) := by decide +kernel
theorem dX6_copyFrom_0 : decode cX6_copyFrom 0 = .ok (.aload_n 0, 1) := by decide +kernel
theorem dX6_copyFrom_1 : decode cX6_copyFrom 1 = .ok (.aload_n 1, 1) := by decide +kernel
theorem dX6_copyFrom_2 : decode cX6_copyFrom 2 = .ok (.getfield 22, 3) := by decide +kernel
theorem dX6_copyFrom_5 : decode cX6_copyFrom 5 = .ok (.putfield 22, 3) := by decide +kernel
theorem dX6_copyFrom_8 : decode cX6_copyFrom 8 = .ok (.aload_n 0, 1) := by decide +kernel
theorem dX6_copyFrom_9 : decode cX6_copyFrom 9 = .ok (.aload_n 1, 1) := by decide +kernel
theorem dX6_copyFrom_10 : decode cX6_copyFrom 10 = .ok (.getfield 25, 3) := by decide +kernel
theorem dX6_copyFrom_13 : decode cX6_copyFrom 13 = .ok (.putfield 25, 3) := by decide +kernel
theorem dX6_copyFrom_16 : decode cX6_copyFrom 16 = .ok (.aload_n 0, 1) := by decide +kernel
theorem dX6_copyFrom_17 : decode cX6_copyFrom 17 = .ok (.aload_n 1, 1) := by decide +kernel
theorem dX6_copyFrom_18 : decode cX6_copyFrom 18 = .ok (.getfield 28, 3) := by decide +kernel
theorem dX6_copyFrom_21 : decode cX6_copyFrom 21 = .ok (.putfield 28, 3) := by decide +kernel
theorem dX6_copyFrom_24 : decode cX6_copyFrom 24 = .ok (.aload_n 0, 1) := by decide +kernel
theorem dX6_copyFrom_25 : decode cX6_copyFrom 25 = .ok (.aload_n 1, 1) := by decide +kernel
theorem dX6_copyFrom_26 : decode cX6_copyFrom 26 = .ok (.getfield 9, 3) := by decide +kernel
theorem dX6_copyFrom_29 : decode cX6_copyFrom 29 = .ok (.putfield 9, 3) := by decide +kernel
theorem dX6_copyFrom_32 : decode cX6_copyFrom 32 = .ok (.aload_n 0, 1) := by decide +kernel
theorem dX6_copyFrom_33 : decode cX6_copyFrom 33 = .ok (.aload_n 1, 1) := by decide +kernel
theorem dX6_copyFrom_34 : decode cX6_copyFrom 34 = .ok (.getfield 15, 3) := by decide +kernel
theorem dX6_copyFrom_37 : decode cX6_copyFrom 37 = .ok (.putfield 15, 3) := by decide +kernel
theorem dX6_copyFrom_40 : decode cX6_copyFrom 40 = .ok (.aload_n 0, 1) := by decide +kernel
theorem dX6_copyFrom_41 : decode cX6_copyFrom 41 = .ok (.aload_n 1, 1) := by decide +kernel
theorem dX6_copyFrom_42 : decode cX6_copyFrom 42 = .ok (.getfield 31, 3) := by decide +kernel
theorem dX6_copyFrom_45 : decode cX6_copyFrom 45 = .ok (.putfield 31, 3) := by decide +kernel
theorem dX6_copyFrom_48 : decode cX6_copyFrom 48 = .ok (.aload_n 1, 1) := by decide +kernel
theorem dX6_copyFrom_49 : decode cX6_copyFrom 49 = .ok (.getfield 18, 3) := by decide +kernel
theorem dX6_copyFrom_52 : decode cX6_copyFrom 52 = .ok (.iconst 0, 1) := by decide +kernel
theorem dX6_copyFrom_53 : decode cX6_copyFrom 53 = .ok (.aload_n 0, 1) := by decide +kernel
theorem dX6_copyFrom_54 : decode cX6_copyFrom 54 = .ok (.getfield 18, 3) := by decide +kernel
theorem dX6_copyFrom_57 : decode cX6_copyFrom 57 = .ok (.iconst 0, 1) := by decide +kernel
theorem dX6_copyFrom_58 : decode cX6_copyFrom 58 = .ok (.aload_n 0, 1) := by decide +kernel
theorem dX6_copyFrom_59 : decode cX6_copyFrom 59 = .ok (.getfield 18, 3) := by decide +kernel
theorem dX6_copyFrom_62 : decode cX6_copyFrom 62 = .ok (.arraylength, 1) := by decide +kernel
theorem dX6_copyFrom_63 : decode cX6_copyFrom 63 = .ok (.invokestatic 34, 3) := by decide +kernel
theorem dX6_copyFrom_66 : decode cX6_copyFrom 66 = .ok (.return_, 1) := by decide +kernel
theorem dX6_mark_0 : decode cX6_mark 0 = .ok (.iload_n 1, 1) := by decide +kernel
theorem dX6_mark_1 : decode cX6_mark 1 = .ok (.ifCond .lt 24, 3) := by decide +kernel
theorem dX6_mark_4 : decode cX6_mark 4 = .ok (.iload_n 1, 1) := by decide +kernel
theorem dX6_mark_5 : decode cX6_mark 5 = .ok (.aload_n 0, 1) := by decide +kernel
theorem dX6_mark_6 : decode cX6_mark 6 = .ok (.getfield 31, 3) := by decide +kernel
theorem dX6_mark_9 : decode cX6_mark 9 = .ok (.if_icmp .ge 16, 3) := by decide +kernel
theorem dX6_mark_12 : decode cX6_mark 12 = .ok (.aload_n 0, 1) := by decide +kernel
theorem dX6_mark_13 : decode cX6_mark 13 = .ok (.getfield 18, 3) := by decide +kernel
theorem dX6_mark_16 : decode cX6_mark 16 = .ok (.iload_n 1, 1) := by decide +kernel
theorem dX6_mark_17 : decode cX6_mark 17 = .ok (.iconst 4, 1) := by decide +kernel
theorem dX6_mark_18 : decode cX6_mark 18 = .ok (.imul, 1) := by decide +kernel
theorem dX6_mark_19 : decode cX6_mark 19 = .ok (.iload_n 2, 1) := by decide +kernel
theorem dX6_mark_20 : decode cX6_mark 20 = .ok (.iadd, 1) := by decide +kernel
theorem dX6_mark_21 : decode cX6_mark 21 = .ok (.iaload, 1) := by decide +kernel
theorem dX6_mark_22 : decode cX6_mark 22 = .ok (.goto 4, 3) := by decide +kernel
theorem dX6_mark_25 : decode cX6_mark 25 = .ok (.iconst (-1), 1) := by decide +kernel
theorem dX6_mark_26 : decode cX6_mark 26 = .ok (.ireturn, 1) := by decide +kernel
theorem dX6_write_0 : decode cX6_write 0 = .ok (.aload_n 0, 1) := by decide +kernel
theorem dX6_write_1 : decode cX6_write 1 = .ok (.getfield 31, 3) := by decide +kernel
theorem dX6_write_4 : decode cX6_write 4 = .ok (.bipush 9, 2) := by decide +kernel
theorem dX6_write_6 : decode cX6_write 6 = .ok (.if_icmp .lt 4, 3) := by decide +kernel
theorem dX6_write_9 : decode cX6_write 9 = .ok (.return_, 1) := by decide +kernel
theorem dX6_write_10 : decode cX6_write 10 = .ok (.aload_n 0, 1) := by decide +kernel
theorem dX6_write_11 : decode cX6_write 11 = .ok (.getfield 31, 3) := by decide +kernel
theorem dX6_write_14 : decode cX6_write 14 = .ok (.iconst 4, 1) := by decide +kernel
theorem dX6_write_15 : decode cX6_write 15 = .ok (.imul, 1) := by decide +kernel
theorem dX6_write_16 : decode cX6_write 16 = .ok (.istore 5, 2) := by decide +kernel
theorem dX6_write_18 : decode cX6_write 18 = .ok (.aload_n 0, 1) := by decide +kernel
theorem dX6_write_19 : decode cX6_write 19 = .ok (.getfield 18, 3) := by decide +kernel
theorem dX6_write_22 : decode cX6_write 22 = .ok (.iload 5, 2) := by decide +kernel
theorem dX6_write_24 : decode cX6_write 24 = .ok (.iconst 0, 1) := by decide +kernel
theorem dX6_write_25 : decode cX6_write 25 = .ok (.iadd, 1) := by decide +kernel
theorem dX6_write_26 : decode cX6_write 26 = .ok (.iload_n 1, 1) := by decide +kernel
theorem dX6_write_27 : decode cX6_write 27 = .ok (.iastore, 1) := by decide +kernel
theorem dX6_write_28 : decode cX6_write 28 = .ok (.aload_n 0, 1) := by decide +kernel
theorem dX6_write_29 : decode cX6_write 29 = .ok (.getfield 18, 3) := by decide +kernel
theorem dX6_write_32 : decode cX6_write 32 = .ok (.iload 5, 2) := by decide +kernel
theorem dX6_write_34 : decode cX6_write 34 = .ok (.iconst 1, 1) := by decide +kernel
theorem dX6_write_35 : decode cX6_write 35 = .ok (.iadd, 1) := by decide +kernel
theorem dX6_write_36 : decode cX6_write 36 = .ok (.iload_n 2, 1) := by decide +kernel
theorem dX6_write_37 : decode cX6_write 37 = .ok (.iastore, 1) := by decide +kernel
theorem dX6_write_38 : decode cX6_write 38 = .ok (.aload_n 0, 1) := by decide +kernel
theorem dX6_write_39 : decode cX6_write 39 = .ok (.getfield 18, 3) := by decide +kernel
theorem dX6_write_42 : decode cX6_write 42 = .ok (.iload 5, 2) := by decide +kernel
theorem dX6_write_44 : decode cX6_write 44 = .ok (.iconst 2, 1) := by decide +kernel
theorem dX6_write_45 : decode cX6_write 45 = .ok (.iadd, 1) := by decide +kernel
theorem dX6_write_46 : decode cX6_write 46 = .ok (.iload_n 3, 1) := by decide +kernel
theorem dX6_write_47 : decode cX6_write 47 = .ok (.iastore, 1) := by decide +kernel
theorem dX6_write_48 : decode cX6_write 48 = .ok (.aload_n 0, 1) := by decide +kernel
theorem dX6_write_49 : decode cX6_write 49 = .ok (.getfield 18, 3) := by decide +kernel
theorem dX6_write_52 : decode cX6_write 52 = .ok (.iload 5, 2) := by decide +kernel
theorem dX6_write_54 : decode cX6_write 54 = .ok (.iconst 3, 1) := by decide +kernel
theorem dX6_write_55 : decode cX6_write 55 = .ok (.iadd, 1) := by decide +kernel
theorem dX6_write_56 : decode cX6_write 56 = .ok (.iload 4, 2) := by decide +kernel
theorem dX6_write_58 : decode cX6_write 58 = .ok (.iastore, 1) := by decide +kernel
theorem dX6_write_59 : decode cX6_write 59 = .ok (.aload_n 0, 1) := by decide +kernel
theorem dX6_write_60 : decode cX6_write 60 = .ok (.dup, 1) := by decide +kernel
theorem dX6_write_61 : decode cX6_write 61 = .ok (.getfield 31, 3) := by decide +kernel
theorem dX6_write_64 : decode cX6_write 64 = .ok (.iconst 1, 1) := by decide +kernel
theorem dX6_write_65 : decode cX6_write 65 = .ok (.iadd, 1) := by decide +kernel
theorem dX6_write_66 : decode cX6_write 66 = .ok (.putfield 31, 3) := by decide +kernel
theorem dX6_write_69 : decode cX6_write 69 = .ok (.return_, 1) := by decide +kernel
theorem dX6_depthUnder_0 : decode cX6_depthUnder 0 = .ok (.iload_n 1, 1) := by decide +kernel
theorem dX6_depthUnder_1 : decode cX6_depthUnder 1 = .ok (.iload_n 2, 1) := by decide +kernel
theorem dX6_depthUnder_2 : decode cX6_depthUnder 2 = .ok (.imul, 1) := by decide +kernel
theorem dX6_depthUnder_3 : decode cX6_depthUnder 3 = .ok (.aload_n 0, 1) := by decide +kernel
theorem dX6_depthUnder_4 : decode cX6_depthUnder 4 = .ok (.getfield 25, 3) := by decide +kernel
theorem dX6_depthUnder_7 : decode cX6_depthUnder 7 = .ok (.iconst 1, 1) := by decide +kernel
theorem dX6_depthUnder_8 : decode cX6_depthUnder 8 = .ok (.iadd, 1) := by decide +kernel
theorem dX6_depthUnder_9 : decode cX6_depthUnder 9 = .ok (.invokestatic 40, 3) := by decide +kernel
theorem dX6_depthUnder_12 : decode cX6_depthUnder 12 = .ok (.istore 4, 2) := by decide +kernel
theorem dX6_depthUnder_14 : decode cX6_depthUnder 14 = .ok (.bipush 10, 2) := by decide +kernel
theorem dX6_depthUnder_16 : decode cX6_depthUnder 16 = .ok (.bipush 100, 2) := by decide +kernel
theorem dX6_depthUnder_18 : decode cX6_depthUnder 18 = .ok (.aload_n 0, 1) := by decide +kernel
theorem dX6_depthUnder_19 : decode cX6_depthUnder 19 = .ok (.getfield 28, 3) := by decide +kernel
theorem dX6_depthUnder_22 : decode cX6_depthUnder 22 = .ok (.sipush 250, 3) := by decide +kernel
theorem dX6_depthUnder_25 : decode cX6_depthUnder 25 = .ok (.isub, 1) := by decide +kernel
theorem dX6_depthUnder_26 : decode cX6_depthUnder 26 = .ok (.iconst 5, 1) := by decide +kernel
theorem dX6_depthUnder_27 : decode cX6_depthUnder 27 = .ok (.invokestatic 44, 3) := by decide +kernel
theorem dX6_depthUnder_30 : decode cX6_depthUnder 30 = .ok (.iadd, 1) := by decide +kernel
theorem dX6_depthUnder_31 : decode cX6_depthUnder 31 = .ok (.invokestatic 49, 3) := by decide +kernel
theorem dX6_depthUnder_34 : decode cX6_depthUnder 34 = .ok (.istore 5, 2) := by decide +kernel
theorem dX6_depthUnder_36 : decode cX6_depthUnder 36 = .ok (.iload 4, 2) := by decide +kernel
theorem dX6_depthUnder_38 : decode cX6_depthUnder 38 = .ok (.iload 5, 2) := by decide +kernel
theorem dX6_depthUnder_40 : decode cX6_depthUnder 40 = .ok (.imul, 1) := by decide +kernel
theorem dX6_depthUnder_41 : decode cX6_depthUnder 41 = .ok (.bipush 100, 2) := by decide +kernel
theorem dX6_depthUnder_43 : decode cX6_depthUnder 43 = .ok (.invokestatic 44, 3) := by decide +kernel
theorem dX6_depthUnder_46 : decode cX6_depthUnder 46 = .ok (.iload_n 3, 1) := by decide +kernel
theorem dX6_depthUnder_47 : decode cX6_depthUnder 47 = .ok (.isub, 1) := by decide +kernel
theorem dX6_depthUnder_48 : decode cX6_depthUnder 48 = .ok (.istore 6, 2) := by decide +kernel
theorem dX6_depthUnder_50 : decode cX6_depthUnder 50 = .ok (.sipush 400, 3) := by decide +kernel
theorem dX6_depthUnder_53 : decode cX6_depthUnder 53 = .ok (.iconst 0, 1) := by decide +kernel
theorem dX6_depthUnder_54 : decode cX6_depthUnder 54 = .ok (.iload 6, 2) := by decide +kernel
theorem dX6_depthUnder_56 : decode cX6_depthUnder 56 = .ok (.invokestatic 49, 3) := by decide +kernel
theorem dX6_depthUnder_59 : decode cX6_depthUnder 59 = .ok (.invokestatic 52, 3) := by decide +kernel
theorem dX6_depthUnder_62 : decode cX6_depthUnder 62 = .ok (.ireturn, 1) := by decide +kernel
theorem dX6_whyNoPenetration_0 : decode cX6_whyNoPenetration 0 = .ok (.aload_n 0, 1) := by decide +kernel
theorem dX6_whyNoPenetration_1 : decode cX6_whyNoPenetration 1 = .ok (.getfield 31, 3) := by decide +kernel
theorem dX6_whyNoPenetration_4 : decode cX6_whyNoPenetration 4 = .ok (.iconst 3, 1) := by decide +kernel
theorem dX6_whyNoPenetration_5 : decode cX6_whyNoPenetration 5 = .ok (.if_icmp .ge 5, 3) := by decide +kernel
theorem dX6_whyNoPenetration_8 : decode cX6_whyNoPenetration 8 = .ok (.iconst 5, 1) := by decide +kernel
theorem dX6_whyNoPenetration_9 : decode cX6_whyNoPenetration 9 = .ok (.ireturn, 1) := by decide +kernel
theorem dX6_whyNoPenetration_10 : decode cX6_whyNoPenetration 10 = .ok (.sipush 400, 3) := by decide +kernel
theorem dX6_whyNoPenetration_13 : decode cX6_whyNoPenetration 13 = .ok (.istore_n 2, 1) := by decide +kernel
theorem dX6_whyNoPenetration_14 : decode cX6_whyNoPenetration 14 = .ok (.iconst 0, 1) := by decide +kernel
theorem dX6_whyNoPenetration_15 : decode cX6_whyNoPenetration 15 = .ok (.istore_n 3, 1) := by decide +kernel
theorem dX6_whyNoPenetration_16 : decode cX6_whyNoPenetration 16 = .ok (.aload_n 0, 1) := by decide +kernel
theorem dX6_whyNoPenetration_17 : decode cX6_whyNoPenetration 17 = .ok (.getfield 31, 3) := by decide +kernel
theorem dX6_whyNoPenetration_20 : decode cX6_whyNoPenetration 20 = .ok (.iconst 3, 1) := by decide +kernel
theorem dX6_whyNoPenetration_21 : decode cX6_whyNoPenetration 21 = .ok (.isub, 1) := by decide +kernel
theorem dX6_whyNoPenetration_22 : decode cX6_whyNoPenetration 22 = .ok (.istore 4, 2) := by decide +kernel
theorem dX6_whyNoPenetration_24 : decode cX6_whyNoPenetration 24 = .ok (.iload 4, 2) := by decide +kernel
theorem dX6_whyNoPenetration_26 : decode cX6_whyNoPenetration 26 = .ok (.aload_n 0, 1) := by decide +kernel
theorem dX6_whyNoPenetration_27 : decode cX6_whyNoPenetration 27 = .ok (.getfield 31, 3) := by decide +kernel
theorem dX6_whyNoPenetration_30 : decode cX6_whyNoPenetration 30 = .ok (.if_icmp .ge 73, 3) := by decide +kernel
theorem dX6_whyNoPenetration_33 : decode cX6_whyNoPenetration 33 = .ok (.iload 4, 2) := by decide +kernel
theorem dX6_whyNoPenetration_35 : decode cX6_whyNoPenetration 35 = .ok (.iconst 4, 1) := by decide +kernel
theorem dX6_whyNoPenetration_36 : decode cX6_whyNoPenetration 36 = .ok (.imul, 1) := by decide +kernel
theorem dX6_whyNoPenetration_37 : decode cX6_whyNoPenetration 37 = .ok (.istore 5, 2) := by decide +kernel
theorem dX6_whyNoPenetration_39 : decode cX6_whyNoPenetration 39 = .ok (.aload_n 0, 1) := by decide +kernel
theorem dX6_whyNoPenetration_40 : decode cX6_whyNoPenetration 40 = .ok (.getfield 18, 3) := by decide +kernel
theorem dX6_whyNoPenetration_43 : decode cX6_whyNoPenetration 43 = .ok (.iload 5, 2) := by decide +kernel
theorem dX6_whyNoPenetration_45 : decode cX6_whyNoPenetration 45 = .ok (.iconst 2, 1) := by decide +kernel
theorem dX6_whyNoPenetration_46 : decode cX6_whyNoPenetration 46 = .ok (.iadd, 1) := by decide +kernel
theorem dX6_whyNoPenetration_47 : decode cX6_whyNoPenetration 47 = .ok (.iaload, 1) := by decide +kernel
theorem dX6_whyNoPenetration_48 : decode cX6_whyNoPenetration 48 = .ok (.bipush 100, 2) := by decide +kernel
theorem dX6_whyNoPenetration_50 : decode cX6_whyNoPenetration 50 = .ok (.if_icmp .ne 16, 3) := by decide +kernel
theorem dX6_whyNoPenetration_53 : decode cX6_whyNoPenetration 53 = .ok (.aload_n 0, 1) := by decide +kernel
theorem dX6_whyNoPenetration_54 : decode cX6_whyNoPenetration 54 = .ok (.getfield 18, 3) := by decide +kernel
theorem dX6_whyNoPenetration_57 : decode cX6_whyNoPenetration 57 = .ok (.iload 5, 2) := by decide +kernel
theorem dX6_whyNoPenetration_59 : decode cX6_whyNoPenetration 59 = .ok (.iconst 3, 1) := by decide +kernel
theorem dX6_whyNoPenetration_60 : decode cX6_whyNoPenetration 60 = .ok (.iadd, 1) := by decide +kernel
theorem dX6_whyNoPenetration_61 : decode cX6_whyNoPenetration 61 = .ok (.iaload, 1) := by decide +kernel
theorem dX6_whyNoPenetration_62 : decode cX6_whyNoPenetration 62 = .ok (.iconst 5, 1) := by decide +kernel
theorem dX6_whyNoPenetration_63 : decode cX6_whyNoPenetration 63 = .ok (.if_icmp .eq 6, 3) := by decide +kernel
theorem dX6_whyNoPenetration_66 : decode cX6_whyNoPenetration 66 = .ok (.bipush 6, 2) := by decide +kernel
theorem dX6_whyNoPenetration_68 : decode cX6_whyNoPenetration 68 = .ok (.ireturn, 1) := by decide +kernel
theorem dX6_whyNoPenetration_69 : decode cX6_whyNoPenetration 69 = .ok (.iload_n 2, 1) := by decide +kernel
theorem dX6_whyNoPenetration_70 : decode cX6_whyNoPenetration 70 = .ok (.aload_n 0, 1) := by decide +kernel
theorem dX6_whyNoPenetration_71 : decode cX6_whyNoPenetration 71 = .ok (.getfield 18, 3) := by decide +kernel
theorem dX6_whyNoPenetration_74 : decode cX6_whyNoPenetration 74 = .ok (.iload 5, 2) := by decide +kernel
theorem dX6_whyNoPenetration_76 : decode cX6_whyNoPenetration 76 = .ok (.iconst 1, 1) := by decide +kernel
theorem dX6_whyNoPenetration_77 : decode cX6_whyNoPenetration 77 = .ok (.iadd, 1) := by decide +kernel
theorem dX6_whyNoPenetration_78 : decode cX6_whyNoPenetration 78 = .ok (.iaload, 1) := by decide +kernel
theorem dX6_whyNoPenetration_79 : decode cX6_whyNoPenetration 79 = .ok (.invokestatic 52, 3) := by decide +kernel
theorem dX6_whyNoPenetration_82 : decode cX6_whyNoPenetration 82 = .ok (.istore_n 2, 1) := by decide +kernel
theorem dX6_whyNoPenetration_83 : decode cX6_whyNoPenetration 83 = .ok (.iload_n 3, 1) := by decide +kernel
theorem dX6_whyNoPenetration_84 : decode cX6_whyNoPenetration 84 = .ok (.aload_n 0, 1) := by decide +kernel
theorem dX6_whyNoPenetration_85 : decode cX6_whyNoPenetration 85 = .ok (.getfield 18, 3) := by decide +kernel
theorem dX6_whyNoPenetration_88 : decode cX6_whyNoPenetration 88 = .ok (.iload 5, 2) := by decide +kernel
theorem dX6_whyNoPenetration_90 : decode cX6_whyNoPenetration 90 = .ok (.iconst 1, 1) := by decide +kernel
theorem dX6_whyNoPenetration_91 : decode cX6_whyNoPenetration 91 = .ok (.iadd, 1) := by decide +kernel
theorem dX6_whyNoPenetration_92 : decode cX6_whyNoPenetration 92 = .ok (.iaload, 1) := by decide +kernel
theorem dX6_whyNoPenetration_93 : decode cX6_whyNoPenetration 93 = .ok (.invokestatic 49, 3) := by decide +kernel
theorem dX6_whyNoPenetration_96 : decode cX6_whyNoPenetration 96 = .ok (.istore_n 3, 1) := by decide +kernel
theorem dX6_whyNoPenetration_97 : decode cX6_whyNoPenetration 97 = .ok (.iinc 4 1, 3) := by decide +kernel
theorem dX6_whyNoPenetration_100 : decode cX6_whyNoPenetration 100 = .ok (.goto (-76), 3) := by decide +kernel
theorem dX6_whyNoPenetration_103 : decode cX6_whyNoPenetration 103 = .ok (.iload_n 3, 1) := by decide +kernel
theorem dX6_whyNoPenetration_104 : decode cX6_whyNoPenetration 104 = .ok (.iload_n 2, 1) := by decide +kernel
theorem dX6_whyNoPenetration_105 : decode cX6_whyNoPenetration 105 = .ok (.isub, 1) := by decide +kernel
theorem dX6_whyNoPenetration_106 : decode cX6_whyNoPenetration 106 = .ok (.iload_n 1, 1) := by decide +kernel
theorem dX6_whyNoPenetration_107 : decode cX6_whyNoPenetration 107 = .ok (.if_icmp .le 8, 3) := by decide +kernel
theorem dX6_whyNoPenetration_110 : decode cX6_whyNoPenetration 110 = .ok (.bipush 7, 2) := by decide +kernel
theorem dX6_whyNoPenetration_112 : decode cX6_whyNoPenetration 112 = .ok (.goto 4, 3) := by decide +kernel
theorem dX6_whyNoPenetration_115 : decode cX6_whyNoPenetration 115 = .ok (.iconst 0, 1) := by decide +kernel
theorem dX6_whyNoPenetration_116 : decode cX6_whyNoPenetration 116 = .ok (.ireturn, 1) := by decide +kernel
theorem dX6_penetration_0 : decode cX6_penetration 0 = .ok (.aload_n 0, 1) := by decide +kernel
theorem dX6_penetration_1 : decode cX6_penetration 1 = .ok (.iload_n 1, 1) := by decide +kernel
theorem dX6_penetration_2 : decode cX6_penetration 2 = .ok (.invokevirtual 55, 3) := by decide +kernel
theorem dX6_penetration_5 : decode cX6_penetration 5 = .ok (.ifCond .eq 5, 3) := by decide +kernel
theorem dX6_penetration_8 : decode cX6_penetration 8 = .ok (.iconst (-1), 1) := by decide +kernel
theorem dX6_penetration_9 : decode cX6_penetration 9 = .ok (.ireturn, 1) := by decide +kernel
theorem dX6_penetration_10 : decode cX6_penetration 10 = .ok (.iconst 0, 1) := by decide +kernel
theorem dX6_penetration_11 : decode cX6_penetration 11 = .ok (.istore_n 2, 1) := by decide +kernel
theorem dX6_penetration_12 : decode cX6_penetration 12 = .ok (.aload_n 0, 1) := by decide +kernel
theorem dX6_penetration_13 : decode cX6_penetration 13 = .ok (.getfield 31, 3) := by decide +kernel
theorem dX6_penetration_16 : decode cX6_penetration 16 = .ok (.iconst 3, 1) := by decide +kernel
theorem dX6_penetration_17 : decode cX6_penetration 17 = .ok (.isub, 1) := by decide +kernel
theorem dX6_penetration_18 : decode cX6_penetration 18 = .ok (.istore_n 3, 1) := by decide +kernel
theorem dX6_penetration_19 : decode cX6_penetration 19 = .ok (.iload_n 3, 1) := by decide +kernel
theorem dX6_penetration_20 : decode cX6_penetration 20 = .ok (.aload_n 0, 1) := by decide +kernel
theorem dX6_penetration_21 : decode cX6_penetration 21 = .ok (.getfield 31, 3) := by decide +kernel
theorem dX6_penetration_24 : decode cX6_penetration 24 = .ok (.if_icmp .ge 18, 3) := by decide +kernel
theorem dX6_penetration_27 : decode cX6_penetration 27 = .ok (.iload_n 2, 1) := by decide +kernel
theorem dX6_penetration_28 : decode cX6_penetration 28 = .ok (.aload_n 0, 1) := by decide +kernel
theorem dX6_penetration_29 : decode cX6_penetration 29 = .ok (.iload_n 3, 1) := by decide +kernel
theorem dX6_penetration_30 : decode cX6_penetration 30 = .ok (.iconst 1, 1) := by decide +kernel
theorem dX6_penetration_31 : decode cX6_penetration 31 = .ok (.invokevirtual 59, 3) := by decide +kernel
theorem dX6_penetration_34 : decode cX6_penetration 34 = .ok (.iadd, 1) := by decide +kernel
theorem dX6_penetration_35 : decode cX6_penetration 35 = .ok (.istore_n 2, 1) := by decide +kernel
theorem dX6_penetration_36 : decode cX6_penetration 36 = .ok (.iinc 3 1, 3) := by decide +kernel
theorem dX6_penetration_39 : decode cX6_penetration 39 = .ok (.goto (-20), 3) := by decide +kernel
theorem dX6_penetration_42 : decode cX6_penetration 42 = .ok (.iload_n 2, 1) := by decide +kernel
theorem dX6_penetration_43 : decode cX6_penetration 43 = .ok (.iconst 3, 1) := by decide +kernel
theorem dX6_penetration_44 : decode cX6_penetration 44 = .ok (.invokestatic 44, 3) := by decide +kernel
theorem dX6_penetration_47 : decode cX6_penetration 47 = .ok (.ireturn, 1) := by decide +kernel
theorem dX6_latestNeedles_0 : decode cX6_latestNeedles 0 = .ok (.iconst 0, 1) := by decide +kernel
theorem dX6_latestNeedles_1 : decode cX6_latestNeedles 1 = .ok (.istore_n 1, 1) := by decide +kernel
theorem dX6_latestNeedles_2 : decode cX6_latestNeedles 2 = .ok (.iconst 0, 1) := by decide +kernel
theorem dX6_latestNeedles_3 : decode cX6_latestNeedles 3 = .ok (.aload_n 0, 1) := by decide +kernel
theorem dX6_latestNeedles_4 : decode cX6_latestNeedles 4 = .ok (.getfield 31, 3) := by decide +kernel
theorem dX6_latestNeedles_7 : decode cX6_latestNeedles 7 = .ok (.iconst 3, 1) := by decide +kernel
theorem dX6_latestNeedles_8 : decode cX6_latestNeedles 8 = .ok (.isub, 1) := by decide +kernel
theorem dX6_latestNeedles_9 : decode cX6_latestNeedles 9 = .ok (.invokestatic 49, 3) := by decide +kernel
theorem dX6_latestNeedles_12 : decode cX6_latestNeedles 12 = .ok (.istore_n 2, 1) := by decide +kernel
theorem dX6_latestNeedles_13 : decode cX6_latestNeedles 13 = .ok (.iload_n 2, 1) := by decide +kernel
theorem dX6_latestNeedles_14 : decode cX6_latestNeedles 14 = .ok (.aload_n 0, 1) := by decide +kernel
theorem dX6_latestNeedles_15 : decode cX6_latestNeedles 15 = .ok (.getfield 31, 3) := by decide +kernel
theorem dX6_latestNeedles_18 : decode cX6_latestNeedles 18 = .ok (.if_icmp .ge 20, 3) := by decide +kernel
theorem dX6_latestNeedles_21 : decode cX6_latestNeedles 21 = .ok (.iload_n 1, 1) := by decide +kernel
theorem dX6_latestNeedles_22 : decode cX6_latestNeedles 22 = .ok (.iconst 1, 1) := by decide +kernel
theorem dX6_latestNeedles_23 : decode cX6_latestNeedles 23 = .ok (.aload_n 0, 1) := by decide +kernel
theorem dX6_latestNeedles_24 : decode cX6_latestNeedles 24 = .ok (.iload_n 2, 1) := by decide +kernel
theorem dX6_latestNeedles_25 : decode cX6_latestNeedles 25 = .ok (.iconst 0, 1) := by decide +kernel
theorem dX6_latestNeedles_26 : decode cX6_latestNeedles 26 = .ok (.invokevirtual 59, 3) := by decide +kernel
theorem dX6_latestNeedles_29 : decode cX6_latestNeedles 29 = .ok (.ishl, 1) := by decide +kernel
theorem dX6_latestNeedles_30 : decode cX6_latestNeedles 30 = .ok (.ior, 1) := by decide +kernel
theorem dX6_latestNeedles_31 : decode cX6_latestNeedles 31 = .ok (.istore_n 1, 1) := by decide +kernel
theorem dX6_latestNeedles_32 : decode cX6_latestNeedles 32 = .ok (.iinc 2 1, 3) := by decide +kernel
theorem dX6_latestNeedles_35 : decode cX6_latestNeedles 35 = .ok (.goto (-22), 3) := by decide +kernel
theorem dX6_latestNeedles_38 : decode cX6_latestNeedles 38 = .ok (.iload_n 1, 1) := by decide +kernel
theorem dX6_latestNeedles_39 : decode cX6_latestNeedles 39 = .ok (.ireturn, 1) := by decide +kernel
theorem dX6_soften_0 : decode cX6_soften 0 = .ok (.aload_n 0, 1) := by decide +kernel
theorem dX6_soften_1 : decode cX6_soften 1 = .ok (.getfield 15, 3) := by decide +kernel
theorem dX6_soften_4 : decode cX6_soften 4 = .ok (.iconst (-1), 1) := by decide +kernel
theorem dX6_soften_5 : decode cX6_soften 5 = .ok (.if_icmp .ne 31, 3) := by decide +kernel
theorem dX6_soften_8 : decode cX6_soften 8 = .ok (.aload_n 0, 1) := by decide +kernel
theorem dX6_soften_9 : decode cX6_soften 9 = .ok (.sipush 250, 3) := by decide +kernel
theorem dX6_soften_12 : decode cX6_soften 12 = .ok (.sipush 300, 3) := by decide +kernel
theorem dX6_soften_15 : decode cX6_soften 15 = .ok (.bipush 12, 2) := by decide +kernel
theorem dX6_soften_17 : decode cX6_soften 17 = .ok (.aload_n 0, 1) := by decide +kernel
theorem dX6_soften_18 : decode cX6_soften 18 = .ok (.getfield 25, 3) := by decide +kernel
theorem dX6_soften_21 : decode cX6_soften 21 = .ok (.imul, 1) := by decide +kernel
theorem dX6_soften_22 : decode cX6_soften 22 = .ok (.iadd, 1) := by decide +kernel
theorem dX6_soften_23 : decode cX6_soften 23 = .ok (.iconst 5, 1) := by decide +kernel
theorem dX6_soften_24 : decode cX6_soften 24 = .ok (.aload_n 0, 1) := by decide +kernel
theorem dX6_soften_25 : decode cX6_soften 25 = .ok (.getfield 31, 3) := by decide +kernel
theorem dX6_soften_28 : decode cX6_soften 28 = .ok (.imul, 1) := by decide +kernel
theorem dX6_soften_29 : decode cX6_soften 29 = .ok (.isub, 1) := by decide +kernel
theorem dX6_soften_30 : decode cX6_soften 30 = .ok (.invokestatic 49, 3) := by decide +kernel
theorem dX6_soften_33 : decode cX6_soften 33 = .ok (.putfield 15, 3) := by decide +kernel
theorem dX6_soften_36 : decode cX6_soften 36 = .ok (.aload_n 0, 1) := by decide +kernel
theorem dX6_soften_37 : decode cX6_soften 37 = .ok (.getfield 15, 3) := by decide +kernel
theorem dX6_soften_40 : decode cX6_soften 40 = .ok (.ireturn, 1) := by decide +kernel
theorem dX6_number_0 : decode cX6_number 0 = .ok (.iload_n 1, 1) := by decide +kernel
theorem dX6_number_1 : decode cX6_number 1 = .ok (.tableswitch 89 0 7 #[47, 52, 57, 62, 67, 72, 78, 84], 47) := by decide +kernel
theorem dX6_number_48 : decode cX6_number 48 = .ok (.aload_n 0, 1) := by decide +kernel
theorem dX6_number_49 : decode cX6_number 49 = .ok (.getfield 22, 3) := by decide +kernel
theorem dX6_number_52 : decode cX6_number 52 = .ok (.ireturn, 1) := by decide +kernel
theorem dX6_number_53 : decode cX6_number 53 = .ok (.aload_n 0, 1) := by decide +kernel
theorem dX6_number_54 : decode cX6_number 54 = .ok (.getfield 25, 3) := by decide +kernel
theorem dX6_number_57 : decode cX6_number 57 = .ok (.ireturn, 1) := by decide +kernel
theorem dX6_number_58 : decode cX6_number 58 = .ok (.aload_n 0, 1) := by decide +kernel
theorem dX6_number_59 : decode cX6_number 59 = .ok (.getfield 28, 3) := by decide +kernel
theorem dX6_number_62 : decode cX6_number 62 = .ok (.ireturn, 1) := by decide +kernel
theorem dX6_number_63 : decode cX6_number 63 = .ok (.aload_n 0, 1) := by decide +kernel
theorem dX6_number_64 : decode cX6_number 64 = .ok (.getfield 9, 3) := by decide +kernel
theorem dX6_number_67 : decode cX6_number 67 = .ok (.ireturn, 1) := by decide +kernel
theorem dX6_number_68 : decode cX6_number 68 = .ok (.aload_n 0, 1) := by decide +kernel
theorem dX6_number_69 : decode cX6_number 69 = .ok (.getfield 31, 3) := by decide +kernel
theorem dX6_number_72 : decode cX6_number 72 = .ok (.ireturn, 1) := by decide +kernel
theorem dX6_number_73 : decode cX6_number 73 = .ok (.aload_n 0, 1) := by decide +kernel
theorem dX6_number_74 : decode cX6_number 74 = .ok (.iload_n 2, 1) := by decide +kernel
theorem dX6_number_75 : decode cX6_number 75 = .ok (.invokevirtual 62, 3) := by decide +kernel
theorem dX6_number_78 : decode cX6_number 78 = .ok (.ireturn, 1) := by decide +kernel
theorem dX6_number_79 : decode cX6_number 79 = .ok (.aload_n 0, 1) := by decide +kernel
theorem dX6_number_80 : decode cX6_number 80 = .ok (.iload_n 2, 1) := by decide +kernel
theorem dX6_number_81 : decode cX6_number 81 = .ok (.invokevirtual 55, 3) := by decide +kernel
theorem dX6_number_84 : decode cX6_number 84 = .ok (.ireturn, 1) := by decide +kernel
theorem dX6_number_85 : decode cX6_number 85 = .ok (.aload_n 0, 1) := by decide +kernel
theorem dX6_number_86 : decode cX6_number 86 = .ok (.getfield 15, 3) := by decide +kernel
theorem dX6_number_89 : decode cX6_number 89 = .ok (.ireturn, 1) := by decide +kernel
theorem dX6_number_90 : decode cX6_number 90 = .ok (.aload_n 0, 1) := by decide +kernel
theorem dX6_number_91 : decode cX6_number 91 = .ok (.invokevirtual 65, 3) := by decide +kernel
theorem dX6_number_94 : decode cX6_number 94 = .ok (.ireturn, 1) := by decide +kernel
theorem dX7_samplesOf_0 : decode cX7_samplesOf 0 = .ok (.iconst 0, 1) := by decide +kernel
theorem dX7_samplesOf_1 : decode cX7_samplesOf 1 = .ok (.istore_n 2, 1) := by decide +kernel
theorem dX7_samplesOf_2 : decode cX7_samplesOf 2 = .ok (.iconst 0, 1) := by decide +kernel
theorem dX7_samplesOf_3 : decode cX7_samplesOf 3 = .ok (.istore_n 3, 1) := by decide +kernel
theorem dX7_samplesOf_4 : decode cX7_samplesOf 4 = .ok (.iload_n 3, 1) := by decide +kernel
theorem dX7_samplesOf_5 : decode cX7_samplesOf 5 = .ok (.aload_n 0, 1) := by decide +kernel
theorem dX7_samplesOf_6 : decode cX7_samplesOf 6 = .ok (.getfield 9, 3) := by decide +kernel
theorem dX7_samplesOf_9 : decode cX7_samplesOf 9 = .ok (.if_icmp .ge 25, 3) := by decide +kernel
theorem dX7_samplesOf_12 : decode cX7_samplesOf 12 = .ok (.aload_n 0, 1) := by decide +kernel
theorem dX7_samplesOf_13 : decode cX7_samplesOf 13 = .ok (.getfield 15, 3) := by decide +kernel
theorem dX7_samplesOf_16 : decode cX7_samplesOf 16 = .ok (.iload_n 3, 1) := by decide +kernel
theorem dX7_samplesOf_17 : decode cX7_samplesOf 17 = .ok (.aaload, 1) := by decide +kernel
theorem dX7_samplesOf_18 : decode cX7_samplesOf 18 = .ok (.getfield 19, 3) := by decide +kernel
theorem dX7_samplesOf_21 : decode cX7_samplesOf 21 = .ok (.iload_n 1, 1) := by decide +kernel
theorem dX7_samplesOf_22 : decode cX7_samplesOf 22 = .ok (.if_icmp .ne 6, 3) := by decide +kernel
theorem dX7_samplesOf_25 : decode cX7_samplesOf 25 = .ok (.iinc 2 1, 3) := by decide +kernel
theorem dX7_samplesOf_28 : decode cX7_samplesOf 28 = .ok (.iinc 3 1, 3) := by decide +kernel
theorem dX7_samplesOf_31 : decode cX7_samplesOf 31 = .ok (.goto (-27), 3) := by decide +kernel
theorem dX7_samplesOf_34 : decode cX7_samplesOf 34 = .ok (.iload_n 2, 1) := by decide +kernel
theorem dX7_samplesOf_35 : decode cX7_samplesOf 35 = .ok (.ireturn, 1) := by decide +kernel
theorem dX7_meanPenetration_0 : decode cX7_meanPenetration 0 = .ok (.iconst 0, 1) := by decide +kernel
theorem dX7_meanPenetration_1 : decode cX7_meanPenetration 1 = .ok (.istore_n 2, 1) := by decide +kernel
theorem dX7_meanPenetration_2 : decode cX7_meanPenetration 2 = .ok (.iconst 0, 1) := by decide +kernel
theorem dX7_meanPenetration_3 : decode cX7_meanPenetration 3 = .ok (.istore_n 3, 1) := by decide +kernel
theorem dX7_meanPenetration_4 : decode cX7_meanPenetration 4 = .ok (.iconst 0, 1) := by decide +kernel
theorem dX7_meanPenetration_5 : decode cX7_meanPenetration 5 = .ok (.istore 4, 2) := by decide +kernel
theorem dX7_meanPenetration_7 : decode cX7_meanPenetration 7 = .ok (.iload 4, 2) := by decide +kernel
theorem dX7_meanPenetration_9 : decode cX7_meanPenetration 9 = .ok (.aload_n 0, 1) := by decide +kernel
theorem dX7_meanPenetration_10 : decode cX7_meanPenetration 10 = .ok (.getfield 9, 3) := by decide +kernel
theorem dX7_meanPenetration_13 : decode cX7_meanPenetration 13 = .ok (.if_icmp .ge 58, 3) := by decide +kernel
theorem dX7_meanPenetration_16 : decode cX7_meanPenetration 16 = .ok (.aload_n 0, 1) := by decide +kernel
theorem dX7_meanPenetration_17 : decode cX7_meanPenetration 17 = .ok (.getfield 15, 3) := by decide +kernel
theorem dX7_meanPenetration_20 : decode cX7_meanPenetration 20 = .ok (.iload 4, 2) := by decide +kernel
theorem dX7_meanPenetration_22 : decode cX7_meanPenetration 22 = .ok (.aaload, 1) := by decide +kernel
theorem dX7_meanPenetration_23 : decode cX7_meanPenetration 23 = .ok (.astore 5, 2) := by decide +kernel
theorem dX7_meanPenetration_25 : decode cX7_meanPenetration 25 = .ok (.aload 5, 2) := by decide +kernel
theorem dX7_meanPenetration_27 : decode cX7_meanPenetration 27 = .ok (.getfield 19, 3) := by decide +kernel
theorem dX7_meanPenetration_30 : decode cX7_meanPenetration 30 = .ok (.iload_n 1, 1) := by decide +kernel
theorem dX7_meanPenetration_31 : decode cX7_meanPenetration 31 = .ok (.if_icmp .ne 17, 3) := by decide +kernel
theorem dX7_meanPenetration_34 : decode cX7_meanPenetration 34 = .ok (.aload 5, 2) := by decide +kernel
theorem dX7_meanPenetration_36 : decode cX7_meanPenetration 36 = .ok (.aload_n 0, 1) := by decide +kernel
theorem dX7_meanPenetration_37 : decode cX7_meanPenetration 37 = .ok (.getfield 24, 3) := by decide +kernel
theorem dX7_meanPenetration_40 : decode cX7_meanPenetration 40 = .ok (.iconst 1, 1) := by decide +kernel
theorem dX7_meanPenetration_41 : decode cX7_meanPenetration 41 = .ok (.iaload, 1) := by decide +kernel
theorem dX7_meanPenetration_42 : decode cX7_meanPenetration 42 = .ok (.invokevirtual 28, 3) := by decide +kernel
theorem dX7_meanPenetration_45 : decode cX7_meanPenetration 45 = .ok (.goto 4, 3) := by decide +kernel
theorem dX7_meanPenetration_48 : decode cX7_meanPenetration 48 = .ok (.iconst (-1), 1) := by decide +kernel
theorem dX7_meanPenetration_49 : decode cX7_meanPenetration 49 = .ok (.istore 6, 2) := by decide +kernel
theorem dX7_meanPenetration_51 : decode cX7_meanPenetration 51 = .ok (.iload 6, 2) := by decide +kernel
theorem dX7_meanPenetration_53 : decode cX7_meanPenetration 53 = .ok (.iconst (-1), 1) := by decide +kernel
theorem dX7_meanPenetration_54 : decode cX7_meanPenetration 54 = .ok (.if_icmp .eq 11, 3) := by decide +kernel
theorem dX7_meanPenetration_57 : decode cX7_meanPenetration 57 = .ok (.iload_n 2, 1) := by decide +kernel
theorem dX7_meanPenetration_58 : decode cX7_meanPenetration 58 = .ok (.iload 6, 2) := by decide +kernel
theorem dX7_meanPenetration_60 : decode cX7_meanPenetration 60 = .ok (.iadd, 1) := by decide +kernel
theorem dX7_meanPenetration_61 : decode cX7_meanPenetration 61 = .ok (.istore_n 2, 1) := by decide +kernel
theorem dX7_meanPenetration_62 : decode cX7_meanPenetration 62 = .ok (.iinc 3 1, 3) := by decide +kernel
theorem dX7_meanPenetration_65 : decode cX7_meanPenetration 65 = .ok (.iinc 4 1, 3) := by decide +kernel
theorem dX7_meanPenetration_68 : decode cX7_meanPenetration 68 = .ok (.goto (-61), 3) := by decide +kernel
theorem dX7_meanPenetration_71 : decode cX7_meanPenetration 71 = .ok (.iload_n 3, 1) := by decide +kernel
theorem dX7_meanPenetration_72 : decode cX7_meanPenetration 72 = .ok (.ifCond .ne 7, 3) := by decide +kernel
theorem dX7_meanPenetration_75 : decode cX7_meanPenetration 75 = .ok (.iconst (-1), 1) := by decide +kernel
theorem dX7_meanPenetration_76 : decode cX7_meanPenetration 76 = .ok (.goto 8, 3) := by decide +kernel
theorem dX7_meanPenetration_79 : decode cX7_meanPenetration 79 = .ok (.iload_n 2, 1) := by decide +kernel
theorem dX7_meanPenetration_80 : decode cX7_meanPenetration 80 = .ok (.iload_n 3, 1) := by decide +kernel
theorem dX7_meanPenetration_81 : decode cX7_meanPenetration 81 = .ok (.invokestatic 32, 3) := by decide +kernel
theorem dX7_meanPenetration_84 : decode cX7_meanPenetration 84 = .ok (.ireturn, 1) := by decide +kernel
theorem dX7_meanSoftening_0 : decode cX7_meanSoftening 0 = .ok (.iconst 0, 1) := by decide +kernel
theorem dX7_meanSoftening_1 : decode cX7_meanSoftening 1 = .ok (.istore_n 2, 1) := by decide +kernel
theorem dX7_meanSoftening_2 : decode cX7_meanSoftening 2 = .ok (.iconst 0, 1) := by decide +kernel
theorem dX7_meanSoftening_3 : decode cX7_meanSoftening 3 = .ok (.istore_n 3, 1) := by decide +kernel
theorem dX7_meanSoftening_4 : decode cX7_meanSoftening 4 = .ok (.iconst 0, 1) := by decide +kernel
theorem dX7_meanSoftening_5 : decode cX7_meanSoftening 5 = .ok (.istore 4, 2) := by decide +kernel
theorem dX7_meanSoftening_7 : decode cX7_meanSoftening 7 = .ok (.iload 4, 2) := by decide +kernel
theorem dX7_meanSoftening_9 : decode cX7_meanSoftening 9 = .ok (.aload_n 0, 1) := by decide +kernel
theorem dX7_meanSoftening_10 : decode cX7_meanSoftening 10 = .ok (.getfield 9, 3) := by decide +kernel
theorem dX7_meanSoftening_13 : decode cX7_meanSoftening 13 = .ok (.if_icmp .ge 47, 3) := by decide +kernel
theorem dX7_meanSoftening_16 : decode cX7_meanSoftening 16 = .ok (.aload_n 0, 1) := by decide +kernel
theorem dX7_meanSoftening_17 : decode cX7_meanSoftening 17 = .ok (.getfield 15, 3) := by decide +kernel
theorem dX7_meanSoftening_20 : decode cX7_meanSoftening 20 = .ok (.iload 4, 2) := by decide +kernel
theorem dX7_meanSoftening_22 : decode cX7_meanSoftening 22 = .ok (.aaload, 1) := by decide +kernel
theorem dX7_meanSoftening_23 : decode cX7_meanSoftening 23 = .ok (.astore 5, 2) := by decide +kernel
theorem dX7_meanSoftening_25 : decode cX7_meanSoftening 25 = .ok (.aload 5, 2) := by decide +kernel
theorem dX7_meanSoftening_27 : decode cX7_meanSoftening 27 = .ok (.getfield 19, 3) := by decide +kernel
theorem dX7_meanSoftening_30 : decode cX7_meanSoftening 30 = .ok (.iload_n 1, 1) := by decide +kernel
theorem dX7_meanSoftening_31 : decode cX7_meanSoftening 31 = .ok (.if_icmp .ne 23, 3) := by decide +kernel
theorem dX7_meanSoftening_34 : decode cX7_meanSoftening 34 = .ok (.aload 5, 2) := by decide +kernel
theorem dX7_meanSoftening_36 : decode cX7_meanSoftening 36 = .ok (.getfield 36, 3) := by decide +kernel
theorem dX7_meanSoftening_39 : decode cX7_meanSoftening 39 = .ok (.iconst (-1), 1) := by decide +kernel
theorem dX7_meanSoftening_40 : decode cX7_meanSoftening 40 = .ok (.if_icmp .eq 14, 3) := by decide +kernel
theorem dX7_meanSoftening_43 : decode cX7_meanSoftening 43 = .ok (.iload_n 2, 1) := by decide +kernel
theorem dX7_meanSoftening_44 : decode cX7_meanSoftening 44 = .ok (.aload 5, 2) := by decide +kernel
theorem dX7_meanSoftening_46 : decode cX7_meanSoftening 46 = .ok (.getfield 36, 3) := by decide +kernel
theorem dX7_meanSoftening_49 : decode cX7_meanSoftening 49 = .ok (.iadd, 1) := by decide +kernel
theorem dX7_meanSoftening_50 : decode cX7_meanSoftening 50 = .ok (.istore_n 2, 1) := by decide +kernel
theorem dX7_meanSoftening_51 : decode cX7_meanSoftening 51 = .ok (.iinc 3 1, 3) := by decide +kernel
theorem dX7_meanSoftening_54 : decode cX7_meanSoftening 54 = .ok (.iinc 4 1, 3) := by decide +kernel
theorem dX7_meanSoftening_57 : decode cX7_meanSoftening 57 = .ok (.goto (-50), 3) := by decide +kernel
theorem dX7_meanSoftening_60 : decode cX7_meanSoftening 60 = .ok (.iload_n 3, 1) := by decide +kernel
theorem dX7_meanSoftening_61 : decode cX7_meanSoftening 61 = .ok (.ifCond .ne 7, 3) := by decide +kernel
theorem dX7_meanSoftening_64 : decode cX7_meanSoftening 64 = .ok (.iconst (-1), 1) := by decide +kernel
theorem dX7_meanSoftening_65 : decode cX7_meanSoftening 65 = .ok (.goto 8, 3) := by decide +kernel
theorem dX7_meanSoftening_68 : decode cX7_meanSoftening 68 = .ok (.iload_n 2, 1) := by decide +kernel
theorem dX7_meanSoftening_69 : decode cX7_meanSoftening 69 = .ok (.iload_n 3, 1) := by decide +kernel
theorem dX7_meanSoftening_70 : decode cX7_meanSoftening 70 = .ok (.invokestatic 32, 3) := by decide +kernel
theorem dX7_meanSoftening_73 : decode cX7_meanSoftening 73 = .ok (.ireturn, 1) := by decide +kernel
theorem dX7_meanByReadings_0 : decode cX7_meanByReadings 0 = .ok (.iconst 0, 1) := by decide +kernel
theorem dX7_meanByReadings_1 : decode cX7_meanByReadings 1 = .ok (.istore_n 2, 1) := by decide +kernel
theorem dX7_meanByReadings_2 : decode cX7_meanByReadings 2 = .ok (.iconst 0, 1) := by decide +kernel
theorem dX7_meanByReadings_3 : decode cX7_meanByReadings 3 = .ok (.istore_n 3, 1) := by decide +kernel
theorem dX7_meanByReadings_4 : decode cX7_meanByReadings 4 = .ok (.iconst 0, 1) := by decide +kernel
theorem dX7_meanByReadings_5 : decode cX7_meanByReadings 5 = .ok (.istore 4, 2) := by decide +kernel
theorem dX7_meanByReadings_7 : decode cX7_meanByReadings 7 = .ok (.iload 4, 2) := by decide +kernel
theorem dX7_meanByReadings_9 : decode cX7_meanByReadings 9 = .ok (.aload_n 0, 1) := by decide +kernel
theorem dX7_meanByReadings_10 : decode cX7_meanByReadings 10 = .ok (.getfield 9, 3) := by decide +kernel
theorem dX7_meanByReadings_13 : decode cX7_meanByReadings 13 = .ok (.if_icmp .ge 93, 3) := by decide +kernel
theorem dX7_meanByReadings_16 : decode cX7_meanByReadings 16 = .ok (.aload_n 0, 1) := by decide +kernel
theorem dX7_meanByReadings_17 : decode cX7_meanByReadings 17 = .ok (.getfield 15, 3) := by decide +kernel
theorem dX7_meanByReadings_20 : decode cX7_meanByReadings 20 = .ok (.iload 4, 2) := by decide +kernel
theorem dX7_meanByReadings_22 : decode cX7_meanByReadings 22 = .ok (.aaload, 1) := by decide +kernel
theorem dX7_meanByReadings_23 : decode cX7_meanByReadings 23 = .ok (.astore 5, 2) := by decide +kernel
theorem dX7_meanByReadings_25 : decode cX7_meanByReadings 25 = .ok (.aload 5, 2) := by decide +kernel
theorem dX7_meanByReadings_27 : decode cX7_meanByReadings 27 = .ok (.getfield 19, 3) := by decide +kernel
theorem dX7_meanByReadings_30 : decode cX7_meanByReadings 30 = .ok (.iload_n 1, 1) := by decide +kernel
theorem dX7_meanByReadings_31 : decode cX7_meanByReadings 31 = .ok (.if_icmp .ne 69, 3) := by decide +kernel
theorem dX7_meanByReadings_34 : decode cX7_meanByReadings 34 = .ok (.aload 5, 2) := by decide +kernel
theorem dX7_meanByReadings_36 : decode cX7_meanByReadings 36 = .ok (.aload_n 0, 1) := by decide +kernel
theorem dX7_meanByReadings_37 : decode cX7_meanByReadings 37 = .ok (.getfield 24, 3) := by decide +kernel
theorem dX7_meanByReadings_40 : decode cX7_meanByReadings 40 = .ok (.iconst 1, 1) := by decide +kernel
theorem dX7_meanByReadings_41 : decode cX7_meanByReadings 41 = .ok (.iaload, 1) := by decide +kernel
theorem dX7_meanByReadings_42 : decode cX7_meanByReadings 42 = .ok (.invokevirtual 39, 3) := by decide +kernel
theorem dX7_meanByReadings_45 : decode cX7_meanByReadings 45 = .ok (.ifCond .eq 6, 3) := by decide +kernel
theorem dX7_meanByReadings_48 : decode cX7_meanByReadings 48 = .ok (.goto 52, 3) := by decide +kernel
theorem dX7_meanByReadings_51 : decode cX7_meanByReadings 51 = .ok (.iconst 0, 1) := by decide +kernel
theorem dX7_meanByReadings_52 : decode cX7_meanByReadings 52 = .ok (.istore 6, 2) := by decide +kernel
theorem dX7_meanByReadings_54 : decode cX7_meanByReadings 54 = .ok (.iconst 1, 1) := by decide +kernel
theorem dX7_meanByReadings_55 : decode cX7_meanByReadings 55 = .ok (.istore 7, 2) := by decide +kernel
theorem dX7_meanByReadings_57 : decode cX7_meanByReadings 57 = .ok (.iload 7, 2) := by decide +kernel
theorem dX7_meanByReadings_59 : decode cX7_meanByReadings 59 = .ok (.iconst 3, 1) := by decide +kernel
theorem dX7_meanByReadings_60 : decode cX7_meanByReadings 60 = .ok (.if_icmp .gt 28, 3) := by decide +kernel
theorem dX7_meanByReadings_63 : decode cX7_meanByReadings 63 = .ok (.iload 6, 2) := by decide +kernel
theorem dX7_meanByReadings_65 : decode cX7_meanByReadings 65 = .ok (.aload 5, 2) := by decide +kernel
theorem dX7_meanByReadings_67 : decode cX7_meanByReadings 67 = .ok (.aload 5, 2) := by decide +kernel
theorem dX7_meanByReadings_69 : decode cX7_meanByReadings 69 = .ok (.getfield 42, 3) := by decide +kernel
theorem dX7_meanByReadings_72 : decode cX7_meanByReadings 72 = .ok (.iload 7, 2) := by decide +kernel
theorem dX7_meanByReadings_74 : decode cX7_meanByReadings 74 = .ok (.isub, 1) := by decide +kernel
theorem dX7_meanByReadings_75 : decode cX7_meanByReadings 75 = .ok (.iconst 1, 1) := by decide +kernel
theorem dX7_meanByReadings_76 : decode cX7_meanByReadings 76 = .ok (.invokevirtual 45, 3) := by decide +kernel
theorem dX7_meanByReadings_79 : decode cX7_meanByReadings 79 = .ok (.iadd, 1) := by decide +kernel
theorem dX7_meanByReadings_80 : decode cX7_meanByReadings 80 = .ok (.istore 6, 2) := by decide +kernel
theorem dX7_meanByReadings_82 : decode cX7_meanByReadings 82 = .ok (.iinc 7 1, 3) := by decide +kernel
theorem dX7_meanByReadings_85 : decode cX7_meanByReadings 85 = .ok (.goto (-28), 3) := by decide +kernel
theorem dX7_meanByReadings_88 : decode cX7_meanByReadings 88 = .ok (.iload_n 2, 1) := by decide +kernel
theorem dX7_meanByReadings_89 : decode cX7_meanByReadings 89 = .ok (.iload 6, 2) := by decide +kernel
theorem dX7_meanByReadings_91 : decode cX7_meanByReadings 91 = .ok (.iconst 3, 1) := by decide +kernel
theorem dX7_meanByReadings_92 : decode cX7_meanByReadings 92 = .ok (.invokestatic 48, 3) := by decide +kernel
theorem dX7_meanByReadings_95 : decode cX7_meanByReadings 95 = .ok (.iadd, 1) := by decide +kernel
theorem dX7_meanByReadings_96 : decode cX7_meanByReadings 96 = .ok (.istore_n 2, 1) := by decide +kernel
theorem dX7_meanByReadings_97 : decode cX7_meanByReadings 97 = .ok (.iinc 3 1, 3) := by decide +kernel
theorem dX7_meanByReadings_100 : decode cX7_meanByReadings 100 = .ok (.iinc 4 1, 3) := by decide +kernel
theorem dX7_meanByReadings_103 : decode cX7_meanByReadings 103 = .ok (.goto (-96), 3) := by decide +kernel
theorem dX7_meanByReadings_106 : decode cX7_meanByReadings 106 = .ok (.iload_n 3, 1) := by decide +kernel
theorem dX7_meanByReadings_107 : decode cX7_meanByReadings 107 = .ok (.ifCond .ne 7, 3) := by decide +kernel
theorem dX7_meanByReadings_110 : decode cX7_meanByReadings 110 = .ok (.iconst (-1), 1) := by decide +kernel
theorem dX7_meanByReadings_111 : decode cX7_meanByReadings 111 = .ok (.goto 8, 3) := by decide +kernel
theorem dX7_meanByReadings_114 : decode cX7_meanByReadings 114 = .ok (.iload_n 2, 1) := by decide +kernel
theorem dX7_meanByReadings_115 : decode cX7_meanByReadings 115 = .ok (.iload_n 3, 1) := by decide +kernel
theorem dX7_meanByReadings_116 : decode cX7_meanByReadings 116 = .ok (.invokestatic 32, 3) := by decide +kernel
theorem dX7_meanByReadings_119 : decode cX7_meanByReadings 119 = .ok (.ireturn, 1) := by decide +kernel
theorem dX7_index_0 : decode cX7_index 0 = .ok (.iload_n 0, 1) := by decide +kernel
theorem dX7_index_1 : decode cX7_index 1 = .ok (.bipush 10, 2) := by decide +kernel
theorem dX7_index_3 : decode cX7_index 3 = .ok (.invokestatic 48, 3) := by decide +kernel
theorem dX7_index_6 : decode cX7_index 6 = .ok (.iload_n 1, 1) := by decide +kernel
theorem dX7_index_7 : decode cX7_index 7 = .ok (.sipush 450, 3) := by decide +kernel
theorem dX7_index_10 : decode cX7_index 10 = .ok (.isub, 1) := by decide +kernel
theorem dX7_index_11 : decode cX7_index 11 = .ok (.bipush 10, 2) := by decide +kernel
theorem dX7_index_13 : decode cX7_index 13 = .ok (.invokestatic 48, 3) := by decide +kernel
theorem dX7_index_16 : decode cX7_index 16 = .ok (.iadd, 1) := by decide +kernel
theorem dX7_index_17 : decode cX7_index 17 = .ok (.iload_n 2, 1) := by decide +kernel
theorem dX7_index_18 : decode cX7_index 18 = .ok (.isub, 1) := by decide +kernel
theorem dX7_index_19 : decode cX7_index 19 = .ok (.ireturn, 1) := by decide +kernel
theorem dX7_shownIndex_0 : decode cX7_shownIndex 0 = .ok (.aload_n 0, 1) := by decide +kernel
theorem dX7_shownIndex_1 : decode cX7_shownIndex 1 = .ok (.iload_n 1, 1) := by decide +kernel
theorem dX7_shownIndex_2 : decode cX7_shownIndex 2 = .ok (.invokestatic 53, 3) := by decide +kernel
theorem dX7_shownIndex_5 : decode cX7_shownIndex 5 = .ok (.istore_n 3, 1) := by decide +kernel
theorem dX7_shownIndex_6 : decode cX7_shownIndex 6 = .ok (.iload_n 2, 1) := by decide +kernel
theorem dX7_shownIndex_7 : decode cX7_shownIndex 7 = .ok (.iconst (-1), 1) := by decide +kernel
theorem dX7_shownIndex_8 : decode cX7_shownIndex 8 = .ok (.if_icmp .eq 8, 3) := by decide +kernel
theorem dX7_shownIndex_11 : decode cX7_shownIndex 11 = .ok (.iload_n 3, 1) := by decide +kernel
theorem dX7_shownIndex_12 : decode cX7_shownIndex 12 = .ok (.iconst (-1), 1) := by decide +kernel
theorem dX7_shownIndex_13 : decode cX7_shownIndex 13 = .ok (.if_icmp .ne 5, 3) := by decide +kernel
theorem dX7_shownIndex_16 : decode cX7_shownIndex 16 = .ok (.iconst (-1), 1) := by decide +kernel
theorem dX7_shownIndex_17 : decode cX7_shownIndex 17 = .ok (.ireturn, 1) := by decide +kernel
theorem dX7_shownIndex_18 : decode cX7_shownIndex 18 = .ok (.iload_n 2, 1) := by decide +kernel
theorem dX7_shownIndex_19 : decode cX7_shownIndex 19 = .ok (.iload_n 3, 1) := by decide +kernel
theorem dX7_shownIndex_20 : decode cX7_shownIndex 20 = .ok (.aload_n 0, 1) := by decide +kernel
theorem dX7_shownIndex_21 : decode cX7_shownIndex 21 = .ok (.getfield 24, 3) := by decide +kernel
theorem dX7_shownIndex_24 : decode cX7_shownIndex 24 = .ok (.iconst 2, 1) := by decide +kernel
theorem dX7_shownIndex_25 : decode cX7_shownIndex 25 = .ok (.iaload, 1) := by decide +kernel
theorem dX7_shownIndex_26 : decode cX7_shownIndex 26 = .ok (.invokestatic 59, 3) := by decide +kernel
theorem dX7_shownIndex_29 : decode cX7_shownIndex 29 = .ok (.sipush 1000, 3) := by decide +kernel
theorem dX7_shownIndex_32 : decode cX7_shownIndex 32 = .ok (.iadd, 1) := by decide +kernel
theorem dX7_shownIndex_33 : decode cX7_shownIndex 33 = .ok (.ireturn, 1) := by decide +kernel
theorem dX7_samplesWithPenetration_0 : decode cX7_samplesWithPenetration 0 = .ok (.iconst 0, 1) := by decide +kernel
theorem dX7_samplesWithPenetration_1 : decode cX7_samplesWithPenetration 1 = .ok (.istore_n 2, 1) := by decide +kernel
theorem dX7_samplesWithPenetration_2 : decode cX7_samplesWithPenetration 2 = .ok (.iconst 0, 1) := by decide +kernel
theorem dX7_samplesWithPenetration_3 : decode cX7_samplesWithPenetration 3 = .ok (.istore_n 3, 1) := by decide +kernel
theorem dX7_samplesWithPenetration_4 : decode cX7_samplesWithPenetration 4 = .ok (.iload_n 3, 1) := by decide +kernel
theorem dX7_samplesWithPenetration_5 : decode cX7_samplesWithPenetration 5 = .ok (.aload_n 0, 1) := by decide +kernel
theorem dX7_samplesWithPenetration_6 : decode cX7_samplesWithPenetration 6 = .ok (.getfield 9, 3) := by decide +kernel
theorem dX7_samplesWithPenetration_9 : decode cX7_samplesWithPenetration 9 = .ok (.if_icmp .ge 43, 3) := by decide +kernel
theorem dX7_samplesWithPenetration_12 : decode cX7_samplesWithPenetration 12 = .ok (.aload_n 0, 1) := by decide +kernel
theorem dX7_samplesWithPenetration_13 : decode cX7_samplesWithPenetration 13 = .ok (.getfield 15, 3) := by decide +kernel
theorem dX7_samplesWithPenetration_16 : decode cX7_samplesWithPenetration 16 = .ok (.iload_n 3, 1) := by decide +kernel
theorem dX7_samplesWithPenetration_17 : decode cX7_samplesWithPenetration 17 = .ok (.aaload, 1) := by decide +kernel
theorem dX7_samplesWithPenetration_18 : decode cX7_samplesWithPenetration 18 = .ok (.astore 4, 2) := by decide +kernel
theorem dX7_samplesWithPenetration_20 : decode cX7_samplesWithPenetration 20 = .ok (.aload 4, 2) := by decide +kernel
theorem dX7_samplesWithPenetration_22 : decode cX7_samplesWithPenetration 22 = .ok (.getfield 19, 3) := by decide +kernel
theorem dX7_samplesWithPenetration_25 : decode cX7_samplesWithPenetration 25 = .ok (.iload_n 1, 1) := by decide +kernel
theorem dX7_samplesWithPenetration_26 : decode cX7_samplesWithPenetration 26 = .ok (.if_icmp .ne 20, 3) := by decide +kernel
theorem dX7_samplesWithPenetration_29 : decode cX7_samplesWithPenetration 29 = .ok (.aload 4, 2) := by decide +kernel
theorem dX7_samplesWithPenetration_31 : decode cX7_samplesWithPenetration 31 = .ok (.aload_n 0, 1) := by decide +kernel
theorem dX7_samplesWithPenetration_32 : decode cX7_samplesWithPenetration 32 = .ok (.getfield 24, 3) := by decide +kernel
theorem dX7_samplesWithPenetration_35 : decode cX7_samplesWithPenetration 35 = .ok (.iconst 1, 1) := by decide +kernel
theorem dX7_samplesWithPenetration_36 : decode cX7_samplesWithPenetration 36 = .ok (.iaload, 1) := by decide +kernel
theorem dX7_samplesWithPenetration_37 : decode cX7_samplesWithPenetration 37 = .ok (.invokevirtual 39, 3) := by decide +kernel
theorem dX7_samplesWithPenetration_40 : decode cX7_samplesWithPenetration 40 = .ok (.ifCond .ne 6, 3) := by decide +kernel
theorem dX7_samplesWithPenetration_43 : decode cX7_samplesWithPenetration 43 = .ok (.iinc 2 1, 3) := by decide +kernel
theorem dX7_samplesWithPenetration_46 : decode cX7_samplesWithPenetration 46 = .ok (.iinc 3 1, 3) := by decide +kernel
theorem dX7_samplesWithPenetration_49 : decode cX7_samplesWithPenetration 49 = .ok (.goto (-45), 3) := by decide +kernel
theorem dX7_samplesWithPenetration_52 : decode cX7_samplesWithPenetration 52 = .ok (.iload_n 2, 1) := by decide +kernel
theorem dX7_samplesWithPenetration_53 : decode cX7_samplesWithPenetration 53 = .ok (.ireturn, 1) := by decide +kernel
theorem dX7_needlesRead_0 : decode cX7_needlesRead 0 = .ok (.iconst 0, 1) := by decide +kernel
theorem dX7_needlesRead_1 : decode cX7_needlesRead 1 = .ok (.istore_n 2, 1) := by decide +kernel
theorem dX7_needlesRead_2 : decode cX7_needlesRead 2 = .ok (.iconst 0, 1) := by decide +kernel
theorem dX7_needlesRead_3 : decode cX7_needlesRead 3 = .ok (.istore_n 3, 1) := by decide +kernel
theorem dX7_needlesRead_4 : decode cX7_needlesRead 4 = .ok (.iload_n 3, 1) := by decide +kernel
theorem dX7_needlesRead_5 : decode cX7_needlesRead 5 = .ok (.aload_n 0, 1) := by decide +kernel
theorem dX7_needlesRead_6 : decode cX7_needlesRead 6 = .ok (.getfield 9, 3) := by decide +kernel
theorem dX7_needlesRead_9 : decode cX7_needlesRead 9 = .ok (.if_icmp .ge 48, 3) := by decide +kernel
theorem dX7_needlesRead_12 : decode cX7_needlesRead 12 = .ok (.aload_n 0, 1) := by decide +kernel
theorem dX7_needlesRead_13 : decode cX7_needlesRead 13 = .ok (.getfield 15, 3) := by decide +kernel
theorem dX7_needlesRead_16 : decode cX7_needlesRead 16 = .ok (.iload_n 3, 1) := by decide +kernel
theorem dX7_needlesRead_17 : decode cX7_needlesRead 17 = .ok (.aaload, 1) := by decide +kernel
theorem dX7_needlesRead_18 : decode cX7_needlesRead 18 = .ok (.astore 4, 2) := by decide +kernel
theorem dX7_needlesRead_20 : decode cX7_needlesRead 20 = .ok (.aload 4, 2) := by decide +kernel
theorem dX7_needlesRead_22 : decode cX7_needlesRead 22 = .ok (.getfield 19, 3) := by decide +kernel
theorem dX7_needlesRead_25 : decode cX7_needlesRead 25 = .ok (.iload_n 1, 1) := by decide +kernel
theorem dX7_needlesRead_26 : decode cX7_needlesRead 26 = .ok (.if_icmp .ne 25, 3) := by decide +kernel
theorem dX7_needlesRead_29 : decode cX7_needlesRead 29 = .ok (.aload 4, 2) := by decide +kernel
theorem dX7_needlesRead_31 : decode cX7_needlesRead 31 = .ok (.aload_n 0, 1) := by decide +kernel
theorem dX7_needlesRead_32 : decode cX7_needlesRead 32 = .ok (.getfield 24, 3) := by decide +kernel
theorem dX7_needlesRead_35 : decode cX7_needlesRead 35 = .ok (.iconst 1, 1) := by decide +kernel
theorem dX7_needlesRead_36 : decode cX7_needlesRead 36 = .ok (.iaload, 1) := by decide +kernel
theorem dX7_needlesRead_37 : decode cX7_needlesRead 37 = .ok (.invokevirtual 39, 3) := by decide +kernel
theorem dX7_needlesRead_40 : decode cX7_needlesRead 40 = .ok (.ifCond .ne 11, 3) := by decide +kernel
theorem dX7_needlesRead_43 : decode cX7_needlesRead 43 = .ok (.iload_n 2, 1) := by decide +kernel
theorem dX7_needlesRead_44 : decode cX7_needlesRead 44 = .ok (.aload 4, 2) := by decide +kernel
theorem dX7_needlesRead_46 : decode cX7_needlesRead 46 = .ok (.invokevirtual 63, 3) := by decide +kernel
theorem dX7_needlesRead_49 : decode cX7_needlesRead 49 = .ok (.ior, 1) := by decide +kernel
theorem dX7_needlesRead_50 : decode cX7_needlesRead 50 = .ok (.istore_n 2, 1) := by decide +kernel
theorem dX7_needlesRead_51 : decode cX7_needlesRead 51 = .ok (.iinc 3 1, 3) := by decide +kernel
theorem dX7_needlesRead_54 : decode cX7_needlesRead 54 = .ok (.goto (-50), 3) := by decide +kernel
theorem dX7_needlesRead_57 : decode cX7_needlesRead 57 = .ok (.iload_n 2, 1) := by decide +kernel
theorem dX7_needlesRead_58 : decode cX7_needlesRead 58 = .ok (.invokestatic 67, 3) := by decide +kernel
theorem dX7_needlesRead_61 : decode cX7_needlesRead 61 = .ok (.ireturn, 1) := by decide +kernel
theorem dX7_whyNotSold_0 : decode cX7_whyNotSold 0 = .ok (.aload_n 0, 1) := by decide +kernel
theorem dX7_whyNotSold_1 : decode cX7_whyNotSold 1 = .ok (.iload_n 1, 1) := by decide +kernel
theorem dX7_whyNotSold_2 : decode cX7_whyNotSold 2 = .ok (.invokevirtual 72, 3) := by decide +kernel
theorem dX7_whyNotSold_5 : decode cX7_whyNotSold 5 = .ok (.ifCond .ne 6, 3) := by decide +kernel
theorem dX7_whyNotSold_8 : decode cX7_whyNotSold 8 = .ok (.bipush 13, 2) := by decide +kernel
theorem dX7_whyNotSold_10 : decode cX7_whyNotSold 10 = .ok (.ireturn, 1) := by decide +kernel
theorem dX7_whyNotSold_11 : decode cX7_whyNotSold 11 = .ok (.aload_n 0, 1) := by decide +kernel
theorem dX7_whyNotSold_12 : decode cX7_whyNotSold 12 = .ok (.getfield 76, 3) := by decide +kernel
theorem dX7_whyNotSold_15 : decode cX7_whyNotSold 15 = .ok (.iload_n 1, 1) := by decide +kernel
theorem dX7_whyNotSold_16 : decode cX7_whyNotSold 16 = .ok (.aaload, 1) := by decide +kernel
theorem dX7_whyNotSold_17 : decode cX7_whyNotSold 17 = .ok (.getfield 80, 3) := by decide +kernel
theorem dX7_whyNotSold_20 : decode cX7_whyNotSold 20 = .ok (.iconst (-1), 1) := by decide +kernel
theorem dX7_whyNotSold_21 : decode cX7_whyNotSold 21 = .ok (.if_icmp .eq 6, 3) := by decide +kernel
theorem dX7_whyNotSold_24 : decode cX7_whyNotSold 24 = .ok (.bipush 15, 2) := by decide +kernel
theorem dX7_whyNotSold_26 : decode cX7_whyNotSold 26 = .ok (.ireturn, 1) := by decide +kernel
theorem dX7_whyNotSold_27 : decode cX7_whyNotSold 27 = .ok (.aload_n 0, 1) := by decide +kernel
theorem dX7_whyNotSold_28 : decode cX7_whyNotSold 28 = .ok (.iload_n 1, 1) := by decide +kernel
theorem dX7_whyNotSold_29 : decode cX7_whyNotSold 29 = .ok (.invokestatic 85, 3) := by decide +kernel
theorem dX7_whyNotSold_32 : decode cX7_whyNotSold 32 = .ok (.iconst 2, 1) := by decide +kernel
theorem dX7_whyNotSold_33 : decode cX7_whyNotSold 33 = .ok (.if_icmp .ge 6, 3) := by decide +kernel
theorem dX7_whyNotSold_36 : decode cX7_whyNotSold 36 = .ok (.bipush 9, 2) := by decide +kernel
theorem dX7_whyNotSold_38 : decode cX7_whyNotSold 38 = .ok (.ireturn, 1) := by decide +kernel
theorem dX7_whyNotSold_39 : decode cX7_whyNotSold 39 = .ok (.aload_n 0, 1) := by decide +kernel
theorem dX7_whyNotSold_40 : decode cX7_whyNotSold 40 = .ok (.iload_n 1, 1) := by decide +kernel
theorem dX7_whyNotSold_41 : decode cX7_whyNotSold 41 = .ok (.invokestatic 88, 3) := by decide +kernel
theorem dX7_whyNotSold_44 : decode cX7_whyNotSold 44 = .ok (.iconst 2, 1) := by decide +kernel
theorem dX7_whyNotSold_45 : decode cX7_whyNotSold 45 = .ok (.if_icmp .ge 6, 3) := by decide +kernel
theorem dX7_whyNotSold_48 : decode cX7_whyNotSold 48 = .ok (.bipush 10, 2) := by decide +kernel
theorem dX7_whyNotSold_50 : decode cX7_whyNotSold 50 = .ok (.ireturn, 1) := by decide +kernel
theorem dX7_whyNotSold_51 : decode cX7_whyNotSold 51 = .ok (.aload_n 0, 1) := by decide +kernel
theorem dX7_whyNotSold_52 : decode cX7_whyNotSold 52 = .ok (.iload_n 1, 1) := by decide +kernel
theorem dX7_whyNotSold_53 : decode cX7_whyNotSold 53 = .ok (.invokestatic 53, 3) := by decide +kernel
theorem dX7_whyNotSold_56 : decode cX7_whyNotSold 56 = .ok (.istore_n 2, 1) := by decide +kernel
theorem dX7_whyNotSold_57 : decode cX7_whyNotSold 57 = .ok (.iload_n 2, 1) := by decide +kernel
theorem dX7_whyNotSold_58 : decode cX7_whyNotSold 58 = .ok (.iconst (-1), 1) := by decide +kernel
theorem dX7_whyNotSold_59 : decode cX7_whyNotSold 59 = .ok (.if_icmp .ne 6, 3) := by decide +kernel
theorem dX7_whyNotSold_62 : decode cX7_whyNotSold 62 = .ok (.bipush 11, 2) := by decide +kernel
theorem dX7_whyNotSold_64 : decode cX7_whyNotSold 64 = .ok (.ireturn, 1) := by decide +kernel
theorem dX7_whyNotSold_65 : decode cX7_whyNotSold 65 = .ok (.aload_n 0, 1) := by decide +kernel
theorem dX7_whyNotSold_66 : decode cX7_whyNotSold 66 = .ok (.iload_n 1, 1) := by decide +kernel
theorem dX7_whyNotSold_67 : decode cX7_whyNotSold 67 = .ok (.invokestatic 91, 3) := by decide +kernel
theorem dX7_whyNotSold_70 : decode cX7_whyNotSold 70 = .ok (.iload_n 2, 1) := by decide +kernel
theorem dX7_whyNotSold_71 : decode cX7_whyNotSold 71 = .ok (.aload_n 0, 1) := by decide +kernel
theorem dX7_whyNotSold_72 : decode cX7_whyNotSold 72 = .ok (.getfield 24, 3) := by decide +kernel
theorem dX7_whyNotSold_75 : decode cX7_whyNotSold 75 = .ok (.iconst 2, 1) := by decide +kernel
theorem dX7_whyNotSold_76 : decode cX7_whyNotSold 76 = .ok (.iaload, 1) := by decide +kernel
theorem dX7_whyNotSold_77 : decode cX7_whyNotSold 77 = .ok (.invokestatic 59, 3) := by decide +kernel
theorem dX7_whyNotSold_80 : decode cX7_whyNotSold 80 = .ok (.istore_n 3, 1) := by decide +kernel
theorem dX7_whyNotSold_81 : decode cX7_whyNotSold 81 = .ok (.iload_n 3, 1) := by decide +kernel
theorem dX7_whyNotSold_82 : decode cX7_whyNotSold 82 = .ok (.bipush (-20), 2) := by decide +kernel
theorem dX7_whyNotSold_84 : decode cX7_whyNotSold 84 = .ok (.if_icmp .lt 9, 3) := by decide +kernel
theorem dX7_whyNotSold_87 : decode cX7_whyNotSold 87 = .ok (.iload_n 3, 1) := by decide +kernel
theorem dX7_whyNotSold_88 : decode cX7_whyNotSold 88 = .ok (.bipush 20, 2) := by decide +kernel
theorem dX7_whyNotSold_90 : decode cX7_whyNotSold 90 = .ok (.if_icmp .le 8, 3) := by decide +kernel
theorem dX7_whyNotSold_93 : decode cX7_whyNotSold 93 = .ok (.bipush 12, 2) := by decide +kernel
theorem dX7_whyNotSold_95 : decode cX7_whyNotSold 95 = .ok (.goto 4, 3) := by decide +kernel
theorem dX7_whyNotSold_98 : decode cX7_whyNotSold 98 = .ok (.iconst 0, 1) := by decide +kernel
theorem dX7_whyNotSold_99 : decode cX7_whyNotSold 99 = .ok (.ireturn, 1) := by decide +kernel
theorem dX7_close_0 : decode cX7_close 0 = .ok (.aload_n 0, 1) := by decide +kernel
theorem dX7_close_1 : decode cX7_close 1 = .ok (.iload_n 1, 1) := by decide +kernel
theorem dX7_close_2 : decode cX7_close 2 = .ok (.invokestatic 91, 3) := by decide +kernel
theorem dX7_close_5 : decode cX7_close 5 = .ok (.bipush 20, 2) := by decide +kernel
theorem dX7_close_7 : decode cX7_close 7 = .ok (.invokestatic 48, 3) := by decide +kernel
theorem dX7_close_10 : decode cX7_close 10 = .ok (.istore_n 2, 1) := by decide +kernel
theorem dX7_close_11 : decode cX7_close 11 = .ok (.aload_n 0, 1) := by decide +kernel
theorem dX7_close_12 : decode cX7_close 12 = .ok (.getfield 76, 3) := by decide +kernel
theorem dX7_close_15 : decode cX7_close 15 = .ok (.iload_n 1, 1) := by decide +kernel
theorem dX7_close_16 : decode cX7_close 16 = .ok (.aaload, 1) := by decide +kernel
theorem dX7_close_17 : decode cX7_close 17 = .ok (.iload_n 2, 1) := by decide +kernel
theorem dX7_close_18 : decode cX7_close 18 = .ok (.putfield 80, 3) := by decide +kernel
theorem dX7_close_21 : decode cX7_close 21 = .ok (.iload_n 2, 1) := by decide +kernel
theorem dX7_close_22 : decode cX7_close 22 = .ok (.ireturn, 1) := by decide +kernel
theorem dX7_number_0 : decode cX7_number 0 = .ok (.iload_n 2, 1) := by decide +kernel
theorem dX7_number_1 : decode cX7_number 1 = .ok (.tableswitch 117 0 7 #[47, 57, 67, 77, 83, 89, 95, 106], 47) := by decide +kernel
theorem dX7_number_48 : decode cX7_number 48 = .ok (.aload_n 0, 1) := by decide +kernel
theorem dX7_number_49 : decode cX7_number 49 = .ok (.getfield 76, 3) := by decide +kernel
theorem dX7_number_52 : decode cX7_number 52 = .ok (.iload_n 1, 1) := by decide +kernel
theorem dX7_number_53 : decode cX7_number 53 = .ok (.aaload, 1) := by decide +kernel
theorem dX7_number_54 : decode cX7_number 54 = .ok (.getfield 94, 3) := by decide +kernel
theorem dX7_number_57 : decode cX7_number 57 = .ok (.ireturn, 1) := by decide +kernel
theorem dX7_number_58 : decode cX7_number 58 = .ok (.aload_n 0, 1) := by decide +kernel
theorem dX7_number_59 : decode cX7_number 59 = .ok (.getfield 76, 3) := by decide +kernel
theorem dX7_number_62 : decode cX7_number 62 = .ok (.iload_n 1, 1) := by decide +kernel
theorem dX7_number_63 : decode cX7_number 63 = .ok (.aaload, 1) := by decide +kernel
theorem dX7_number_64 : decode cX7_number 64 = .ok (.getfield 97, 3) := by decide +kernel
theorem dX7_number_67 : decode cX7_number 67 = .ok (.ireturn, 1) := by decide +kernel
theorem dX7_number_68 : decode cX7_number 68 = .ok (.aload_n 0, 1) := by decide +kernel
theorem dX7_number_69 : decode cX7_number 69 = .ok (.getfield 76, 3) := by decide +kernel
theorem dX7_number_72 : decode cX7_number 72 = .ok (.iload_n 1, 1) := by decide +kernel
theorem dX7_number_73 : decode cX7_number 73 = .ok (.aaload, 1) := by decide +kernel
theorem dX7_number_74 : decode cX7_number 74 = .ok (.invokevirtual 100, 3) := by decide +kernel
theorem dX7_number_77 : decode cX7_number 77 = .ok (.ireturn, 1) := by decide +kernel
theorem dX7_number_78 : decode cX7_number 78 = .ok (.aload_n 0, 1) := by decide +kernel
theorem dX7_number_79 : decode cX7_number 79 = .ok (.iload_n 1, 1) := by decide +kernel
theorem dX7_number_80 : decode cX7_number 80 = .ok (.invokestatic 103, 3) := by decide +kernel
theorem dX7_number_83 : decode cX7_number 83 = .ok (.ireturn, 1) := by decide +kernel
theorem dX7_number_84 : decode cX7_number 84 = .ok (.aload_n 0, 1) := by decide +kernel
theorem dX7_number_85 : decode cX7_number 85 = .ok (.iload_n 1, 1) := by decide +kernel
theorem dX7_number_86 : decode cX7_number 86 = .ok (.invokestatic 91, 3) := by decide +kernel
theorem dX7_number_89 : decode cX7_number 89 = .ok (.ireturn, 1) := by decide +kernel
theorem dX7_number_90 : decode cX7_number 90 = .ok (.aload_n 0, 1) := by decide +kernel
theorem dX7_number_91 : decode cX7_number 91 = .ok (.iload_n 1, 1) := by decide +kernel
theorem dX7_number_92 : decode cX7_number 92 = .ok (.invokestatic 53, 3) := by decide +kernel
theorem dX7_number_95 : decode cX7_number 95 = .ok (.ireturn, 1) := by decide +kernel
theorem dX7_number_96 : decode cX7_number 96 = .ok (.aload_n 0, 1) := by decide +kernel
theorem dX7_number_97 : decode cX7_number 97 = .ok (.iload_n 1, 1) := by decide +kernel
theorem dX7_number_98 : decode cX7_number 98 = .ok (.aload_n 0, 1) := by decide +kernel
theorem dX7_number_99 : decode cX7_number 99 = .ok (.iload_n 1, 1) := by decide +kernel
theorem dX7_number_100 : decode cX7_number 100 = .ok (.invokestatic 91, 3) := by decide +kernel
theorem dX7_number_103 : decode cX7_number 103 = .ok (.invokestatic 106, 3) := by decide +kernel
theorem dX7_number_106 : decode cX7_number 106 = .ok (.ireturn, 1) := by decide +kernel
theorem dX7_number_107 : decode cX7_number 107 = .ok (.aload_n 0, 1) := by decide +kernel
theorem dX7_number_108 : decode cX7_number 108 = .ok (.iload_n 1, 1) := by decide +kernel
theorem dX7_number_109 : decode cX7_number 109 = .ok (.aload_n 0, 1) := by decide +kernel
theorem dX7_number_110 : decode cX7_number 110 = .ok (.iload_n 1, 1) := by decide +kernel
theorem dX7_number_111 : decode cX7_number 111 = .ok (.invokestatic 110, 3) := by decide +kernel
theorem dX7_number_114 : decode cX7_number 114 = .ok (.invokestatic 106, 3) := by decide +kernel
theorem dX7_number_117 : decode cX7_number 117 = .ok (.ireturn, 1) := by decide +kernel
theorem dX7_number_118 : decode cX7_number 118 = .ok (.aload_n 0, 1) := by decide +kernel
theorem dX7_number_119 : decode cX7_number 119 = .ok (.getfield 76, 3) := by decide +kernel
theorem dX7_number_122 : decode cX7_number 122 = .ok (.iload_n 1, 1) := by decide +kernel
theorem dX7_number_123 : decode cX7_number 123 = .ok (.aaload, 1) := by decide +kernel
theorem dX7_number_124 : decode cX7_number 124 = .ok (.getfield 80, 3) := by decide +kernel
theorem dX7_number_127 : decode cX7_number 127 = .ok (.ireturn, 1) := by decide +kernel
