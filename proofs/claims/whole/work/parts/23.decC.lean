theorem dX9_init_0 : decode cX9_init 0 = .ok (.aload_n 0, 1) := by decide +kernel
theorem dX9_init_1 : decode cX9_init 1 = .ok (.invokespecial 1, 3) := by decide +kernel
theorem dX9_init_4 : decode cX9_init 4 = .ok (.aload_n 0, 1) := by decide +kernel
theorem dX9_init_5 : decode cX9_init 5 = .ok (.sipush 3008, 3) := by decide +kernel
theorem dX9_init_8 : decode cX9_init 8 = .ok (.newarray .int, 2) := by decide +kernel
theorem dX9_init_10 : decode cX9_init 10 = .ok (.putfield 7, 3) := by decide +kernel
theorem dX9_init_13 : decode cX9_init 13 = .ok (.aload_n 0, 1) := by decide +kernel
theorem dX9_init_14 : decode cX9_init 14 = .ok (.bipush 60, 2) := by decide +kernel
theorem dX9_init_16 : decode cX9_init 16 = .ok (.newarray .int, 2) := by decide +kernel
theorem dX9_init_18 : decode cX9_init 18 = .ok (.putfield 13, 3) := by decide +kernel
theorem dX9_init_21 : decode cX9_init 21 = .ok (.aload_n 0, 1) := by decide +kernel
theorem dX9_init_22 : decode cX9_init 22 = .ok (.iconst 4, 1) := by decide +kernel
theorem dX9_init_23 : decode cX9_init 23 = .ok (.newarray .int, 2) := by decide +kernel
theorem dX9_init_25 : decode cX9_init 25 = .ok (.putfield 16, 3) := by decide +kernel
theorem dX9_init_28 : decode cX9_init 28 = .ok (.aload_n 0, 1) := by decide +kernel
theorem dX9_init_29 : decode cX9_init 29 = .ok (.getfield 7, 3) := by decide +kernel
theorem dX9_init_32 : decode cX9_init 32 = .ok (.iconst 5, 1) := by decide +kernel
theorem dX9_init_33 : decode cX9_init 33 = .ok (.iconst 5, 1) := by decide +kernel
theorem dX9_init_34 : decode cX9_init 34 = .ok (.iastore, 1) := by decide +kernel
theorem dX9_init_35 : decode cX9_init 35 = .ok (.aload_n 0, 1) := by decide +kernel
theorem dX9_init_36 : decode cX9_init 36 = .ok (.getfield 7, 3) := by decide +kernel
theorem dX9_init_39 : decode cX9_init 39 = .ok (.bipush 6, 2) := by decide +kernel
theorem dX9_init_41 : decode cX9_init 41 = .ok (.bipush 12, 2) := by decide +kernel
theorem dX9_init_43 : decode cX9_init 43 = .ok (.iastore, 1) := by decide +kernel
theorem dX9_init_44 : decode cX9_init 44 = .ok (.aload_n 0, 1) := by decide +kernel
theorem dX9_init_45 : decode cX9_init 45 = .ok (.getfield 7, 3) := by decide +kernel
theorem dX9_init_48 : decode cX9_init 48 = .ok (.bipush 7, 2) := by decide +kernel
theorem dX9_init_50 : decode cX9_init 50 = .ok (.bipush 8, 2) := by decide +kernel
theorem dX9_init_52 : decode cX9_init 52 = .ok (.iastore, 1) := by decide +kernel
theorem dX9_init_53 : decode cX9_init 53 = .ok (.aload_n 0, 1) := by decide +kernel
theorem dX9_init_54 : decode cX9_init 54 = .ok (.getfield 7, 3) := by decide +kernel
theorem dX9_init_57 : decode cX9_init 57 = .ok (.bipush 8, 2) := by decide +kernel
theorem dX9_init_59 : decode cX9_init 59 = .ok (.iconst (-1), 1) := by decide +kernel
theorem dX9_init_60 : decode cX9_init 60 = .ok (.iastore, 1) := by decide +kernel
theorem dX9_init_61 : decode cX9_init 61 = .ok (.aload_n 0, 1) := by decide +kernel
theorem dX9_init_62 : decode cX9_init 62 = .ok (.getfield 7, 3) := by decide +kernel
theorem dX9_init_65 : decode cX9_init 65 = .ok (.bipush 9, 2) := by decide +kernel
theorem dX9_init_67 : decode cX9_init 67 = .ok (.iconst (-1), 1) := by decide +kernel
theorem dX9_init_68 : decode cX9_init 68 = .ok (.iastore, 1) := by decide +kernel
theorem dX9_init_69 : decode cX9_init 69 = .ok (.iconst 0, 1) := by decide +kernel
theorem dX9_init_70 : decode cX9_init 70 = .ok (.istore_n 1, 1) := by decide +kernel
theorem dX9_init_71 : decode cX9_init 71 = .ok (.iload_n 1, 1) := by decide +kernel
theorem dX9_init_72 : decode cX9_init 72 = .ok (.iconst 3, 1) := by decide +kernel
theorem dX9_init_73 : decode cX9_init 73 = .ok (.if_icmp .ge 26, 3) := by decide +kernel
theorem dX9_init_76 : decode cX9_init 76 = .ok (.aload_n 0, 1) := by decide +kernel
theorem dX9_init_77 : decode cX9_init 77 = .ok (.getfield 7, 3) := by decide +kernel
theorem dX9_init_80 : decode cX9_init 80 = .ok (.bipush 28, 2) := by decide +kernel
theorem dX9_init_82 : decode cX9_init 82 = .ok (.iload_n 1, 1) := by decide +kernel
theorem dX9_init_83 : decode cX9_init 83 = .ok (.iadd, 1) := by decide +kernel
theorem dX9_init_84 : decode cX9_init 84 = .ok (.sipush 150, 3) := by decide +kernel
theorem dX9_init_87 : decode cX9_init 87 = .ok (.bipush 100, 2) := by decide +kernel
theorem dX9_init_89 : decode cX9_init 89 = .ok (.iload_n 1, 1) := by decide +kernel
theorem dX9_init_90 : decode cX9_init 90 = .ok (.imul, 1) := by decide +kernel
theorem dX9_init_91 : decode cX9_init 91 = .ok (.iadd, 1) := by decide +kernel
theorem dX9_init_92 : decode cX9_init 92 = .ok (.iastore, 1) := by decide +kernel
theorem dX9_init_93 : decode cX9_init 93 = .ok (.iinc 1 1, 3) := by decide +kernel
theorem dX9_init_96 : decode cX9_init 96 = .ok (.goto (-25), 3) := by decide +kernel
theorem dX9_init_99 : decode cX9_init 99 = .ok (.return_, 1) := by decide +kernel
theorem dX9_thrown_0 : decode cX9_thrown 0 = .ok (.aload_n 0, 1) := by decide +kernel
theorem dX9_thrown_1 : decode cX9_thrown 1 = .ok (.getfield 19, 3) := by decide +kernel
theorem dX9_thrown_4 : decode cX9_thrown 4 = .ok (.ireturn, 1) := by decide +kernel
theorem dX9_in_0 : decode cX9_in 0 = .ok (.iload_n 0, 1) := by decide +kernel
theorem dX9_in_1 : decode cX9_in 1 = .ok (.iload_n 1, 1) := by decide +kernel
theorem dX9_in_2 : decode cX9_in 2 = .ok (.if_icmp .lt 12, 3) := by decide +kernel
theorem dX9_in_5 : decode cX9_in 5 = .ok (.iload_n 0, 1) := by decide +kernel
theorem dX9_in_6 : decode cX9_in 6 = .ok (.iload_n 2, 1) := by decide +kernel
theorem dX9_in_7 : decode cX9_in 7 = .ok (.if_icmp .gt 7, 3) := by decide +kernel
theorem dX9_in_10 : decode cX9_in 10 = .ok (.iconst 1, 1) := by decide +kernel
theorem dX9_in_11 : decode cX9_in 11 = .ok (.goto 4, 3) := by decide +kernel
theorem dX9_in_14 : decode cX9_in 14 = .ok (.iconst 0, 1) := by decide +kernel
theorem dX9_in_15 : decode cX9_in 15 = .ok (.ireturn, 1) := by decide +kernel
theorem dX9_holds_0 : decode cX9_holds 0 = .ok (.aload_n 0, 1) := by decide +kernel
theorem dX9_holds_1 : decode cX9_holds 1 = .ok (.iload_n 1, 1) := by decide +kernel
theorem dX9_holds_2 : decode cX9_holds 2 = .ok (.putfield 19, 3) := by decide +kernel
theorem dX9_holds_5 : decode cX9_holds 5 = .ok (.iload_n 1, 1) := by decide +kernel
theorem dX9_holds_6 : decode cX9_holds 6 = .ok (.ifCond .ne 7, 3) := by decide +kernel
theorem dX9_holds_9 : decode cX9_holds 9 = .ok (.iconst 1, 1) := by decide +kernel
theorem dX9_holds_10 : decode cX9_holds 10 = .ok (.goto 4, 3) := by decide +kernel
theorem dX9_holds_13 : decode cX9_holds 13 = .ok (.iconst 0, 1) := by decide +kernel
theorem dX9_holds_14 : decode cX9_holds 14 = .ok (.ireturn, 1) := by decide +kernel
theorem dX9_div_0 : decode cX9_div 0 = .ok (.iload_n 0, 1) := by decide +kernel
theorem dX9_div_1 : decode cX9_div 1 = .ok (.iload_n 1, 1) := by decide +kernel
theorem dX9_div_2 : decode cX9_div 2 = .ok (.idiv, 1) := by decide +kernel
theorem dX9_div_3 : decode cX9_div 3 = .ok (.istore_n 2, 1) := by decide +kernel
theorem dX9_div_4 : decode cX9_div 4 = .ok (.iload_n 0, 1) := by decide +kernel
theorem dX9_div_5 : decode cX9_div 5 = .ok (.iload_n 1, 1) := by decide +kernel
theorem dX9_div_6 : decode cX9_div 6 = .ok (.irem, 1) := by decide +kernel
theorem dX9_div_7 : decode cX9_div 7 = .ok (.ifCond .ge 9, 3) := by decide +kernel
theorem dX9_div_10 : decode cX9_div 10 = .ok (.iload_n 2, 1) := by decide +kernel
theorem dX9_div_11 : decode cX9_div 11 = .ok (.iconst 1, 1) := by decide +kernel
theorem dX9_div_12 : decode cX9_div 12 = .ok (.isub, 1) := by decide +kernel
theorem dX9_div_13 : decode cX9_div 13 = .ok (.goto 4, 3) := by decide +kernel
theorem dX9_div_16 : decode cX9_div 16 = .ok (.iload_n 2, 1) := by decide +kernel
theorem dX9_div_17 : decode cX9_div 17 = .ok (.ireturn, 1) := by decide +kernel
theorem dX9_size_0 : decode cX9_size 0 = .ok (.iload_n 0, 1) := by decide +kernel
theorem dX9_size_1 : decode cX9_size 1 = .ok (.ifCond .ge 8, 3) := by decide +kernel
theorem dX9_size_4 : decode cX9_size 4 = .ok (.iload_n 0, 1) := by decide +kernel
theorem dX9_size_5 : decode cX9_size 5 = .ok (.ineg, 1) := by decide +kernel
theorem dX9_size_6 : decode cX9_size 6 = .ok (.goto 4, 3) := by decide +kernel
theorem dX9_size_9 : decode cX9_size 9 = .ok (.iload_n 0, 1) := by decide +kernel
theorem dX9_size_10 : decode cX9_size 10 = .ok (.ireturn, 1) := by decide +kernel
theorem dX9_isDrum_0 : decode cX9_isDrum 0 = .ok (.iload_n 1, 1) := by decide +kernel
theorem dX9_isDrum_1 : decode cX9_isDrum 1 = .ok (.iconst 0, 1) := by decide +kernel
theorem dX9_isDrum_2 : decode cX9_isDrum 2 = .ok (.aload_n 0, 1) := by decide +kernel
theorem dX9_isDrum_3 : decode cX9_isDrum 3 = .ok (.getfield 7, 3) := by decide +kernel
theorem dX9_isDrum_6 : decode cX9_isDrum 6 = .ok (.iconst 0, 1) := by decide +kernel
theorem dX9_isDrum_7 : decode cX9_isDrum 7 = .ok (.iaload, 1) := by decide +kernel
theorem dX9_isDrum_8 : decode cX9_isDrum 8 = .ok (.iconst 1, 1) := by decide +kernel
theorem dX9_isDrum_9 : decode cX9_isDrum 9 = .ok (.isub, 1) := by decide +kernel
theorem dX9_isDrum_10 : decode cX9_isDrum 10 = .ok (.invokestatic 23, 3) := by decide +kernel
theorem dX9_isDrum_13 : decode cX9_isDrum 13 = .ok (.ireturn, 1) := by decide +kernel
theorem dX9_isSample_0 : decode cX9_isSample 0 = .ok (.iload_n 1, 1) := by decide +kernel
theorem dX9_isSample_1 : decode cX9_isSample 1 = .ok (.iconst 0, 1) := by decide +kernel
theorem dX9_isSample_2 : decode cX9_isSample 2 = .ok (.aload_n 0, 1) := by decide +kernel
theorem dX9_isSample_3 : decode cX9_isSample 3 = .ok (.getfield 7, 3) := by decide +kernel
theorem dX9_isSample_6 : decode cX9_isSample 6 = .ok (.iconst 1, 1) := by decide +kernel
theorem dX9_isSample_7 : decode cX9_isSample 7 = .ok (.iaload, 1) := by decide +kernel
theorem dX9_isSample_8 : decode cX9_isSample 8 = .ok (.iconst 1, 1) := by decide +kernel
theorem dX9_isSample_9 : decode cX9_isSample 9 = .ok (.isub, 1) := by decide +kernel
theorem dX9_isSample_10 : decode cX9_isSample 10 = .ok (.invokestatic 23, 3) := by decide +kernel
theorem dX9_isSample_13 : decode cX9_isSample 13 = .ok (.ireturn, 1) := by decide +kernel
theorem dX9_isOne_0 : decode cX9_isOne 0 = .ok (.iload_n 0, 1) := by decide +kernel
theorem dX9_isOne_1 : decode cX9_isOne 1 = .ok (.iconst 0, 1) := by decide +kernel
theorem dX9_isOne_2 : decode cX9_isOne 2 = .ok (.iconst 2, 1) := by decide +kernel
theorem dX9_isOne_3 : decode cX9_isOne 3 = .ok (.invokestatic 23, 3) := by decide +kernel
theorem dX9_isOne_6 : decode cX9_isOne 6 = .ok (.ireturn, 1) := by decide +kernel
theorem dX9_of_0 : decode cX9_of 0 = .ok (.aload_n 0, 1) := by decide +kernel
theorem dX9_of_1 : decode cX9_of 1 = .ok (.getfield 7, 3) := by decide +kernel
theorem dX9_of_4 : decode cX9_of 4 = .ok (.bipush 40, 2) := by decide +kernel
theorem dX9_of_6 : decode cX9_of 6 = .ok (.bipush 42, 2) := by decide +kernel
theorem dX9_of_8 : decode cX9_of 8 = .ok (.iload_n 1, 1) := by decide +kernel
theorem dX9_of_9 : decode cX9_of 9 = .ok (.imul, 1) := by decide +kernel
theorem dX9_of_10 : decode cX9_of 10 = .ok (.iadd, 1) := by decide +kernel
theorem dX9_of_11 : decode cX9_of 11 = .ok (.iload_n 2, 1) := by decide +kernel
theorem dX9_of_12 : decode cX9_of 12 = .ok (.iadd, 1) := by decide +kernel
theorem dX9_of_13 : decode cX9_of 13 = .ok (.iaload, 1) := by decide +kernel
theorem dX9_of_14 : decode cX9_of 14 = .ok (.ireturn, 1) := by decide +kernel
theorem dX9_lay_0 : decode cX9_lay 0 = .ok (.aload_n 0, 1) := by decide +kernel
theorem dX9_lay_1 : decode cX9_lay 1 = .ok (.getfield 7, 3) := by decide +kernel
theorem dX9_lay_4 : decode cX9_lay 4 = .ok (.bipush 40, 2) := by decide +kernel
theorem dX9_lay_6 : decode cX9_lay 6 = .ok (.bipush 42, 2) := by decide +kernel
theorem dX9_lay_8 : decode cX9_lay 8 = .ok (.iload_n 1, 1) := by decide +kernel
theorem dX9_lay_9 : decode cX9_lay 9 = .ok (.imul, 1) := by decide +kernel
theorem dX9_lay_10 : decode cX9_lay 10 = .ok (.iadd, 1) := by decide +kernel
theorem dX9_lay_11 : decode cX9_lay 11 = .ok (.iload_n 2, 1) := by decide +kernel
theorem dX9_lay_12 : decode cX9_lay 12 = .ok (.iadd, 1) := by decide +kernel
theorem dX9_lay_13 : decode cX9_lay 13 = .ok (.iload_n 3, 1) := by decide +kernel
theorem dX9_lay_14 : decode cX9_lay 14 = .ok (.iastore, 1) := by decide +kernel
theorem dX9_lay_15 : decode cX9_lay 15 = .ok (.return_, 1) := by decide +kernel
theorem dX9_drumAt_0 : decode cX9_drumAt 0 = .ok (.aload_n 0, 1) := by decide +kernel
theorem dX9_drumAt_1 : decode cX9_drumAt 1 = .ok (.getfield 7, 3) := by decide +kernel
theorem dX9_drumAt_4 : decode cX9_drumAt 4 = .ok (.bipush 10, 2) := by decide +kernel
theorem dX9_drumAt_6 : decode cX9_drumAt 6 = .ok (.iconst 3, 1) := by decide +kernel
theorem dX9_drumAt_7 : decode cX9_drumAt 7 = .ok (.iload_n 1, 1) := by decide +kernel
theorem dX9_drumAt_8 : decode cX9_drumAt 8 = .ok (.imul, 1) := by decide +kernel
theorem dX9_drumAt_9 : decode cX9_drumAt 9 = .ok (.iadd, 1) := by decide +kernel
theorem dX9_drumAt_10 : decode cX9_drumAt 10 = .ok (.iload_n 2, 1) := by decide +kernel
theorem dX9_drumAt_11 : decode cX9_drumAt 11 = .ok (.iadd, 1) := by decide +kernel
theorem dX9_drumAt_12 : decode cX9_drumAt 12 = .ok (.iaload, 1) := by decide +kernel
theorem dX9_drumAt_13 : decode cX9_drumAt 13 = .ok (.ireturn, 1) := by decide +kernel
theorem dX9_needleAt_0 : decode cX9_needleAt 0 = .ok (.aload_n 0, 1) := by decide +kernel
theorem dX9_needleAt_1 : decode cX9_needleAt 1 = .ok (.getfield 7, 3) := by decide +kernel
theorem dX9_needleAt_4 : decode cX9_needleAt 4 = .ok (.bipush 31, 2) := by decide +kernel
theorem dX9_needleAt_6 : decode cX9_needleAt 6 = .ok (.iconst 3, 1) := by decide +kernel
theorem dX9_needleAt_7 : decode cX9_needleAt 7 = .ok (.iload_n 1, 1) := by decide +kernel
theorem dX9_needleAt_8 : decode cX9_needleAt 8 = .ok (.imul, 1) := by decide +kernel
theorem dX9_needleAt_9 : decode cX9_needleAt 9 = .ok (.iadd, 1) := by decide +kernel
theorem dX9_needleAt_10 : decode cX9_needleAt 10 = .ok (.iload_n 2, 1) := by decide +kernel
theorem dX9_needleAt_11 : decode cX9_needleAt 11 = .ok (.iadd, 1) := by decide +kernel
theorem dX9_needleAt_12 : decode cX9_needleAt 12 = .ok (.iaload, 1) := by decide +kernel
theorem dX9_needleAt_13 : decode cX9_needleAt 13 = .ok (.ireturn, 1) := by decide +kernel
theorem dX9_warmed_0 : decode cX9_warmed 0 = .ok (.iload_n 1, 1) := by decide +kernel
theorem dX9_warmed_1 : decode cX9_warmed 1 = .ok (.iload_n 0, 1) := by decide +kernel
theorem dX9_warmed_2 : decode cX9_warmed 2 = .ok (.isub, 1) := by decide +kernel
theorem dX9_warmed_3 : decode cX9_warmed 3 = .ok (.iconst 4, 1) := by decide +kernel
theorem dX9_warmed_4 : decode cX9_warmed 4 = .ok (.invokestatic 27, 3) := by decide +kernel
theorem dX9_warmed_7 : decode cX9_warmed 7 = .ok (.istore_n 2, 1) := by decide +kernel
theorem dX9_warmed_8 : decode cX9_warmed 8 = .ok (.iload_n 0, 1) := by decide +kernel
theorem dX9_warmed_9 : decode cX9_warmed 9 = .ok (.iload_n 2, 1) := by decide +kernel
theorem dX9_warmed_10 : decode cX9_warmed 10 = .ok (.iadd, 1) := by decide +kernel
theorem dX9_warmed_11 : decode cX9_warmed 11 = .ok (.iload_n 2, 1) := by decide +kernel
theorem dX9_warmed_12 : decode cX9_warmed 12 = .ok (.ifCond .ne 12, 3) := by decide +kernel
theorem dX9_warmed_15 : decode cX9_warmed 15 = .ok (.iload_n 1, 1) := by decide +kernel
theorem dX9_warmed_16 : decode cX9_warmed 16 = .ok (.iload_n 0, 1) := by decide +kernel
theorem dX9_warmed_17 : decode cX9_warmed 17 = .ok (.if_icmp .le 7, 3) := by decide +kernel
theorem dX9_warmed_20 : decode cX9_warmed 20 = .ok (.iconst 1, 1) := by decide +kernel
theorem dX9_warmed_21 : decode cX9_warmed 21 = .ok (.goto 4, 3) := by decide +kernel
theorem dX9_warmed_24 : decode cX9_warmed 24 = .ok (.iconst 0, 1) := by decide +kernel
theorem dX9_warmed_25 : decode cX9_warmed 25 = .ok (.iadd, 1) := by decide +kernel
theorem dX9_warmed_26 : decode cX9_warmed 26 = .ok (.ireturn, 1) := by decide +kernel
theorem dX9_inBath_0 : decode cX9_inBath 0 = .ok (.iconst 0, 1) := by decide +kernel
theorem dX9_inBath_1 : decode cX9_inBath 1 = .ok (.istore_n 2, 1) := by decide +kernel
theorem dX9_inBath_2 : decode cX9_inBath 2 = .ok (.iconst 0, 1) := by decide +kernel
theorem dX9_inBath_3 : decode cX9_inBath 3 = .ok (.istore_n 3, 1) := by decide +kernel
theorem dX9_inBath_4 : decode cX9_inBath 4 = .ok (.iload_n 3, 1) := by decide +kernel
theorem dX9_inBath_5 : decode cX9_inBath 5 = .ok (.aload_n 0, 1) := by decide +kernel
theorem dX9_inBath_6 : decode cX9_inBath 6 = .ok (.getfield 7, 3) := by decide +kernel
theorem dX9_inBath_9 : decode cX9_inBath 9 = .ok (.iconst 1, 1) := by decide +kernel
theorem dX9_inBath_10 : decode cX9_inBath 10 = .ok (.iaload, 1) := by decide +kernel
theorem dX9_inBath_11 : decode cX9_inBath 11 = .ok (.if_icmp .ge 27, 3) := by decide +kernel
theorem dX9_inBath_14 : decode cX9_inBath 14 = .ok (.iload_n 2, 1) := by decide +kernel
theorem dX9_inBath_15 : decode cX9_inBath 15 = .ok (.aload_n 0, 1) := by decide +kernel
theorem dX9_inBath_16 : decode cX9_inBath 16 = .ok (.iload_n 3, 1) := by decide +kernel
theorem dX9_inBath_17 : decode cX9_inBath 17 = .ok (.iconst 3, 1) := by decide +kernel
theorem dX9_inBath_18 : decode cX9_inBath 18 = .ok (.invokevirtual 31, 3) := by decide +kernel
theorem dX9_inBath_21 : decode cX9_inBath 21 = .ok (.iload_n 1, 1) := by decide +kernel
theorem dX9_inBath_22 : decode cX9_inBath 22 = .ok (.if_icmp .ne 7, 3) := by decide +kernel
theorem dX9_inBath_25 : decode cX9_inBath 25 = .ok (.iconst 1, 1) := by decide +kernel
theorem dX9_inBath_26 : decode cX9_inBath 26 = .ok (.goto 4, 3) := by decide +kernel
theorem dX9_inBath_29 : decode cX9_inBath 29 = .ok (.iconst 0, 1) := by decide +kernel
theorem dX9_inBath_30 : decode cX9_inBath 30 = .ok (.iadd, 1) := by decide +kernel
theorem dX9_inBath_31 : decode cX9_inBath 31 = .ok (.istore_n 2, 1) := by decide +kernel
theorem dX9_inBath_32 : decode cX9_inBath 32 = .ok (.iinc 3 1, 3) := by decide +kernel
theorem dX9_inBath_35 : decode cX9_inBath 35 = .ok (.goto (-31), 3) := by decide +kernel
theorem dX9_inBath_38 : decode cX9_inBath 38 = .ok (.iload_n 2, 1) := by decide +kernel
theorem dX9_inBath_39 : decode cX9_inBath 39 = .ok (.ireturn, 1) := by decide +kernel
theorem dX9_hasRoom_0 : decode cX9_hasRoom 0 = .ok (.aload_n 0, 1) := by decide +kernel
theorem dX9_hasRoom_1 : decode cX9_hasRoom 1 = .ok (.iload_n 1, 1) := by decide +kernel
theorem dX9_hasRoom_2 : decode cX9_hasRoom 2 = .ok (.iconst 3, 1) := by decide +kernel
theorem dX9_hasRoom_3 : decode cX9_hasRoom 3 = .ok (.invokevirtual 31, 3) := by decide +kernel
theorem dX9_hasRoom_6 : decode cX9_hasRoom 6 = .ok (.iload_n 2, 1) := by decide +kernel
theorem dX9_hasRoom_7 : decode cX9_hasRoom 7 = .ok (.if_icmp .eq 12, 3) := by decide +kernel
theorem dX9_hasRoom_10 : decode cX9_hasRoom 10 = .ok (.aload_n 0, 1) := by decide +kernel
theorem dX9_hasRoom_11 : decode cX9_hasRoom 11 = .ok (.iload_n 2, 1) := by decide +kernel
theorem dX9_hasRoom_12 : decode cX9_hasRoom 12 = .ok (.invokevirtual 34, 3) := by decide +kernel
theorem dX9_hasRoom_15 : decode cX9_hasRoom 15 = .ok (.iconst 3, 1) := by decide +kernel
theorem dX9_hasRoom_16 : decode cX9_hasRoom 16 = .ok (.if_icmp .ge 7, 3) := by decide +kernel
theorem dX9_hasRoom_19 : decode cX9_hasRoom 19 = .ok (.iconst 1, 1) := by decide +kernel
theorem dX9_hasRoom_20 : decode cX9_hasRoom 20 = .ok (.goto 4, 3) := by decide +kernel
theorem dX9_hasRoom_23 : decode cX9_hasRoom 23 = .ok (.iconst 0, 1) := by decide +kernel
theorem dX9_hasRoom_24 : decode cX9_hasRoom 24 = .ok (.ireturn, 1) := by decide +kernel
theorem dX9_passes_0 : decode cX9_passes 0 = .ok (.iconst 0, 1) := by decide +kernel
theorem dX9_passes_1 : decode cX9_passes 1 = .ok (.istore_n 2, 1) := by decide +kernel
theorem dX9_passes_2 : decode cX9_passes 2 = .ok (.iload_n 2, 1) := by decide +kernel
theorem dX9_passes_3 : decode cX9_passes 3 = .ok (.iload_n 1, 1) := by decide +kernel
theorem dX9_passes_4 : decode cX9_passes 4 = .ok (.if_icmp .ge 72, 3) := by decide +kernel
theorem dX9_passes_7 : decode cX9_passes 7 = .ok (.iconst 0, 1) := by decide +kernel
theorem dX9_passes_8 : decode cX9_passes 8 = .ok (.istore_n 3, 1) := by decide +kernel
theorem dX9_passes_9 : decode cX9_passes 9 = .ok (.iload_n 3, 1) := by decide +kernel
theorem dX9_passes_10 : decode cX9_passes 10 = .ok (.aload_n 0, 1) := by decide +kernel
theorem dX9_passes_11 : decode cX9_passes 11 = .ok (.getfield 7, 3) := by decide +kernel
theorem dX9_passes_14 : decode cX9_passes 14 = .ok (.iconst 1, 1) := by decide +kernel
theorem dX9_passes_15 : decode cX9_passes 15 = .ok (.iaload, 1) := by decide +kernel
theorem dX9_passes_16 : decode cX9_passes 16 = .ok (.if_icmp .ge 54, 3) := by decide +kernel
theorem dX9_passes_19 : decode cX9_passes 19 = .ok (.aload_n 0, 1) := by decide +kernel
theorem dX9_passes_20 : decode cX9_passes 20 = .ok (.iload_n 3, 1) := by decide +kernel
theorem dX9_passes_21 : decode cX9_passes 21 = .ok (.iconst 2, 1) := by decide +kernel
theorem dX9_passes_22 : decode cX9_passes 22 = .ok (.aload_n 0, 1) := by decide +kernel
theorem dX9_passes_23 : decode cX9_passes 23 = .ok (.iload_n 3, 1) := by decide +kernel
theorem dX9_passes_24 : decode cX9_passes 24 = .ok (.iconst 2, 1) := by decide +kernel
theorem dX9_passes_25 : decode cX9_passes 25 = .ok (.invokevirtual 31, 3) := by decide +kernel
theorem dX9_passes_28 : decode cX9_passes 28 = .ok (.aload_n 0, 1) := by decide +kernel
theorem dX9_passes_29 : decode cX9_passes 29 = .ok (.iload_n 3, 1) := by decide +kernel
theorem dX9_passes_30 : decode cX9_passes 30 = .ok (.iconst 3, 1) := by decide +kernel
theorem dX9_passes_31 : decode cX9_passes 31 = .ok (.invokevirtual 31, 3) := by decide +kernel
theorem dX9_passes_34 : decode cX9_passes 34 = .ok (.iconst (-1), 1) := by decide +kernel
theorem dX9_passes_35 : decode cX9_passes 35 = .ok (.if_icmp .ne 9, 3) := by decide +kernel
theorem dX9_passes_38 : decode cX9_passes 38 = .ok (.sipush 200, 3) := by decide +kernel
theorem dX9_passes_41 : decode cX9_passes 41 = .ok (.goto 17, 3) := by decide +kernel
theorem dX9_passes_44 : decode cX9_passes 44 = .ok (.aload_n 0, 1) := by decide +kernel
theorem dX9_passes_45 : decode cX9_passes 45 = .ok (.getfield 7, 3) := by decide +kernel
theorem dX9_passes_48 : decode cX9_passes 48 = .ok (.bipush 28, 2) := by decide +kernel
theorem dX9_passes_50 : decode cX9_passes 50 = .ok (.aload_n 0, 1) := by decide +kernel
theorem dX9_passes_51 : decode cX9_passes 51 = .ok (.iload_n 3, 1) := by decide +kernel
theorem dX9_passes_52 : decode cX9_passes 52 = .ok (.iconst 3, 1) := by decide +kernel
theorem dX9_passes_53 : decode cX9_passes 53 = .ok (.invokevirtual 31, 3) := by decide +kernel
theorem dX9_passes_56 : decode cX9_passes 56 = .ok (.iadd, 1) := by decide +kernel
theorem dX9_passes_57 : decode cX9_passes 57 = .ok (.iaload, 1) := by decide +kernel
theorem dX9_passes_58 : decode cX9_passes 58 = .ok (.invokestatic 38, 3) := by decide +kernel
theorem dX9_passes_61 : decode cX9_passes 61 = .ok (.invokevirtual 41, 3) := by decide +kernel
theorem dX9_passes_64 : decode cX9_passes 64 = .ok (.iinc 3 1, 3) := by decide +kernel
theorem dX9_passes_67 : decode cX9_passes 67 = .ok (.goto (-58), 3) := by decide +kernel
theorem dX9_passes_70 : decode cX9_passes 70 = .ok (.iinc 2 1, 3) := by decide +kernel
theorem dX9_passes_73 : decode cX9_passes 73 = .ok (.goto (-71), 3) := by decide +kernel
theorem dX9_passes_76 : decode cX9_passes 76 = .ok (.aload_n 0, 1) := by decide +kernel
theorem dX9_passes_77 : decode cX9_passes 77 = .ok (.getfield 7, 3) := by decide +kernel
theorem dX9_passes_80 : decode cX9_passes 80 = .ok (.iconst 3, 1) := by decide +kernel
theorem dX9_passes_81 : decode cX9_passes 81 = .ok (.dup2, 1) := by decide +kernel
theorem dX9_passes_82 : decode cX9_passes 82 = .ok (.iaload, 1) := by decide +kernel
theorem dX9_passes_83 : decode cX9_passes 83 = .ok (.iload_n 1, 1) := by decide +kernel
theorem dX9_passes_84 : decode cX9_passes 84 = .ok (.iadd, 1) := by decide +kernel
theorem dX9_passes_85 : decode cX9_passes 85 = .ok (.iastore, 1) := by decide +kernel
theorem dX9_passes_86 : decode cX9_passes 86 = .ok (.iconst 0, 1) := by decide +kernel
theorem dX9_passes_87 : decode cX9_passes 87 = .ok (.istore_n 2, 1) := by decide +kernel
theorem dX9_passes_88 : decode cX9_passes 88 = .ok (.iconst 0, 1) := by decide +kernel
theorem dX9_passes_89 : decode cX9_passes 89 = .ok (.istore_n 3, 1) := by decide +kernel
theorem dX9_passes_90 : decode cX9_passes 90 = .ok (.iload_n 3, 1) := by decide +kernel
theorem dX9_passes_91 : decode cX9_passes 91 = .ok (.aload_n 0, 1) := by decide +kernel
theorem dX9_passes_92 : decode cX9_passes 92 = .ok (.getfield 7, 3) := by decide +kernel
theorem dX9_passes_95 : decode cX9_passes 95 = .ok (.iconst 1, 1) := by decide +kernel
theorem dX9_passes_96 : decode cX9_passes 96 = .ok (.iaload, 1) := by decide +kernel
theorem dX9_passes_97 : decode cX9_passes 97 = .ok (.if_icmp .ge 50, 3) := by decide +kernel
theorem dX9_passes_100 : decode cX9_passes 100 = .ok (.iload_n 2, 1) := by decide +kernel
theorem dX9_passes_101 : decode cX9_passes 101 = .ok (.aload_n 0, 1) := by decide +kernel
theorem dX9_passes_102 : decode cX9_passes 102 = .ok (.iload_n 3, 1) := by decide +kernel
theorem dX9_passes_103 : decode cX9_passes 103 = .ok (.iconst 3, 1) := by decide +kernel
theorem dX9_passes_104 : decode cX9_passes 104 = .ok (.invokevirtual 31, 3) := by decide +kernel
theorem dX9_passes_107 : decode cX9_passes 107 = .ok (.iconst (-1), 1) := by decide +kernel
theorem dX9_passes_108 : decode cX9_passes 108 = .ok (.if_icmp .eq 30, 3) := by decide +kernel
theorem dX9_passes_111 : decode cX9_passes 111 = .ok (.aload_n 0, 1) := by decide +kernel
theorem dX9_passes_112 : decode cX9_passes 112 = .ok (.iload_n 3, 1) := by decide +kernel
theorem dX9_passes_113 : decode cX9_passes 113 = .ok (.iconst 2, 1) := by decide +kernel
theorem dX9_passes_114 : decode cX9_passes 114 = .ok (.invokevirtual 31, 3) := by decide +kernel
theorem dX9_passes_117 : decode cX9_passes 117 = .ok (.aload_n 0, 1) := by decide +kernel
theorem dX9_passes_118 : decode cX9_passes 118 = .ok (.getfield 7, 3) := by decide +kernel
theorem dX9_passes_121 : decode cX9_passes 121 = .ok (.bipush 28, 2) := by decide +kernel
theorem dX9_passes_123 : decode cX9_passes 123 = .ok (.aload_n 0, 1) := by decide +kernel
theorem dX9_passes_124 : decode cX9_passes 124 = .ok (.iload_n 3, 1) := by decide +kernel
theorem dX9_passes_125 : decode cX9_passes 125 = .ok (.iconst 3, 1) := by decide +kernel
theorem dX9_passes_126 : decode cX9_passes 126 = .ok (.invokevirtual 31, 3) := by decide +kernel
theorem dX9_passes_129 : decode cX9_passes 129 = .ok (.iadd, 1) := by decide +kernel
theorem dX9_passes_130 : decode cX9_passes 130 = .ok (.iaload, 1) := by decide +kernel
theorem dX9_passes_131 : decode cX9_passes 131 = .ok (.if_icmp .ne 7, 3) := by decide +kernel
theorem dX9_passes_134 : decode cX9_passes 134 = .ok (.iconst 1, 1) := by decide +kernel
theorem dX9_passes_135 : decode cX9_passes 135 = .ok (.goto 4, 3) := by decide +kernel
theorem dX9_passes_138 : decode cX9_passes 138 = .ok (.iconst 0, 1) := by decide +kernel
theorem dX9_passes_139 : decode cX9_passes 139 = .ok (.iadd, 1) := by decide +kernel
theorem dX9_passes_140 : decode cX9_passes 140 = .ok (.istore_n 2, 1) := by decide +kernel
theorem dX9_passes_141 : decode cX9_passes 141 = .ok (.iinc 3 1, 3) := by decide +kernel
theorem dX9_passes_144 : decode cX9_passes 144 = .ok (.goto (-54), 3) := by decide +kernel
theorem dX9_passes_147 : decode cX9_passes 147 = .ok (.iload_n 2, 1) := by decide +kernel
theorem dX9_passes_148 : decode cX9_passes 148 = .ok (.ireturn, 1) := by decide +kernel
theorem dX9_ready_0 : decode cX9_ready 0 = .ok (.aload_n 0, 1) := by decide +kernel
theorem dX9_ready_1 : decode cX9_ready 1 = .ok (.iload_n 1, 1) := by decide +kernel
theorem dX9_ready_2 : decode cX9_ready 2 = .ok (.iconst 2, 1) := by decide +kernel
theorem dX9_ready_3 : decode cX9_ready 3 = .ok (.invokevirtual 31, 3) := by decide +kernel
theorem dX9_ready_6 : decode cX9_ready 6 = .ok (.istore_n 3, 1) := by decide +kernel
theorem dX9_ready_7 : decode cX9_ready 7 = .ok (.iconst 0, 1) := by decide +kernel
theorem dX9_ready_8 : decode cX9_ready 8 = .ok (.istore 4, 2) := by decide +kernel
theorem dX9_ready_10 : decode cX9_ready 10 = .ok (.iload 4, 2) := by decide +kernel
theorem dX9_ready_12 : decode cX9_ready 12 = .ok (.sipush 200, 3) := by decide +kernel
theorem dX9_ready_15 : decode cX9_ready 15 = .ok (.if_icmp .gt 49, 3) := by decide +kernel
theorem dX9_ready_18 : decode cX9_ready 18 = .ok (.iload_n 3, 1) := by decide +kernel
theorem dX9_ready_19 : decode cX9_ready 19 = .ok (.aload_n 0, 1) := by decide +kernel
theorem dX9_ready_20 : decode cX9_ready 20 = .ok (.getfield 7, 3) := by decide +kernel
theorem dX9_ready_23 : decode cX9_ready 23 = .ok (.bipush 28, 2) := by decide +kernel
theorem dX9_ready_25 : decode cX9_ready 25 = .ok (.iload_n 2, 1) := by decide +kernel
theorem dX9_ready_26 : decode cX9_ready 26 = .ok (.iadd, 1) := by decide +kernel
theorem dX9_ready_27 : decode cX9_ready 27 = .ok (.iaload, 1) := by decide +kernel
theorem dX9_ready_28 : decode cX9_ready 28 = .ok (.isub, 1) := by decide +kernel
theorem dX9_ready_29 : decode cX9_ready 29 = .ok (.invokestatic 45, 3) := by decide +kernel
theorem dX9_ready_32 : decode cX9_ready 32 = .ok (.aload_n 0, 1) := by decide +kernel
theorem dX9_ready_33 : decode cX9_ready 33 = .ok (.getfield 7, 3) := by decide +kernel
theorem dX9_ready_36 : decode cX9_ready 36 = .ok (.iconst 5, 1) := by decide +kernel
theorem dX9_ready_37 : decode cX9_ready 37 = .ok (.iaload, 1) := by decide +kernel
theorem dX9_ready_38 : decode cX9_ready 38 = .ok (.if_icmp .gt 6, 3) := by decide +kernel
theorem dX9_ready_41 : decode cX9_ready 41 = .ok (.iload 4, 2) := by decide +kernel
theorem dX9_ready_43 : decode cX9_ready 43 = .ok (.ireturn, 1) := by decide +kernel
theorem dX9_ready_44 : decode cX9_ready 44 = .ok (.iload_n 3, 1) := by decide +kernel
theorem dX9_ready_45 : decode cX9_ready 45 = .ok (.aload_n 0, 1) := by decide +kernel
theorem dX9_ready_46 : decode cX9_ready 46 = .ok (.getfield 7, 3) := by decide +kernel
theorem dX9_ready_49 : decode cX9_ready 49 = .ok (.bipush 28, 2) := by decide +kernel
theorem dX9_ready_51 : decode cX9_ready 51 = .ok (.iload_n 2, 1) := by decide +kernel
theorem dX9_ready_52 : decode cX9_ready 52 = .ok (.iadd, 1) := by decide +kernel
theorem dX9_ready_53 : decode cX9_ready 53 = .ok (.iaload, 1) := by decide +kernel
theorem dX9_ready_54 : decode cX9_ready 54 = .ok (.invokestatic 38, 3) := by decide +kernel
theorem dX9_ready_57 : decode cX9_ready 57 = .ok (.istore_n 3, 1) := by decide +kernel
theorem dX9_ready_58 : decode cX9_ready 58 = .ok (.iinc 4 1, 3) := by decide +kernel
theorem dX9_ready_61 : decode cX9_ready 61 = .ok (.goto (-51), 3) := by decide +kernel
theorem dX9_ready_64 : decode cX9_ready 64 = .ok (.iconst (-1), 1) := by decide +kernel
theorem dX9_ready_65 : decode cX9_ready 65 = .ok (.ireturn, 1) := by decide +kernel
theorem dX9_depth_0 : decode cX9_depth 0 = .ok (.bipush 100, 2) := by decide +kernel
theorem dX9_depth_2 : decode cX9_depth 2 = .ok (.aload_n 0, 1) := by decide +kernel
theorem dX9_depth_3 : decode cX9_depth 3 = .ok (.iload_n 2, 1) := by decide +kernel
theorem dX9_depth_4 : decode cX9_depth 4 = .ok (.iconst 2, 1) := by decide +kernel
theorem dX9_depth_5 : decode cX9_depth 5 = .ok (.invokevirtual 31, 3) := by decide +kernel
theorem dX9_depth_8 : decode cX9_depth 8 = .ok (.sipush 250, 3) := by decide +kernel
theorem dX9_depth_11 : decode cX9_depth 11 = .ok (.isub, 1) := by decide +kernel
theorem dX9_depth_12 : decode cX9_depth 12 = .ok (.iconst 5, 1) := by decide +kernel
theorem dX9_depth_13 : decode cX9_depth 13 = .ok (.invokestatic 27, 3) := by decide +kernel
theorem dX9_depth_16 : decode cX9_depth 16 = .ok (.iadd, 1) := by decide +kernel
theorem dX9_depth_17 : decode cX9_depth 17 = .ok (.istore 5, 2) := by decide +kernel
theorem dX9_depth_19 : decode cX9_depth 19 = .ok (.iload_n 3, 1) := by decide +kernel
theorem dX9_depth_20 : decode cX9_depth 20 = .ok (.iload 4, 2) := by decide +kernel
theorem dX9_depth_22 : decode cX9_depth 22 = .ok (.imul, 1) := by decide +kernel
theorem dX9_depth_23 : decode cX9_depth 23 = .ok (.aload_n 0, 1) := by decide +kernel
theorem dX9_depth_24 : decode cX9_depth 24 = .ok (.iload_n 2, 1) := by decide +kernel
theorem dX9_depth_25 : decode cX9_depth 25 = .ok (.iconst 1, 1) := by decide +kernel
theorem dX9_depth_26 : decode cX9_depth 26 = .ok (.invokevirtual 31, 3) := by decide +kernel
theorem dX9_depth_29 : decode cX9_depth 29 = .ok (.iconst 1, 1) := by decide +kernel
theorem dX9_depth_30 : decode cX9_depth 30 = .ok (.iadd, 1) := by decide +kernel
theorem dX9_depth_31 : decode cX9_depth 31 = .ok (.idiv, 1) := by decide +kernel
theorem dX9_depth_32 : decode cX9_depth 32 = .ok (.iload 5, 2) := by decide +kernel
theorem dX9_depth_34 : decode cX9_depth 34 = .ok (.bipush 10, 2) := by decide +kernel
theorem dX9_depth_36 : decode cX9_depth 36 = .ok (.if_icmp .ge 8, 3) := by decide +kernel
theorem dX9_depth_39 : decode cX9_depth 39 = .ok (.bipush 10, 2) := by decide +kernel
theorem dX9_depth_41 : decode cX9_depth 41 = .ok (.goto 5, 3) := by decide +kernel
theorem dX9_depth_44 : decode cX9_depth 44 = .ok (.iload 5, 2) := by decide +kernel
theorem dX9_depth_46 : decode cX9_depth 46 = .ok (.imul, 1) := by decide +kernel
theorem dX9_depth_47 : decode cX9_depth 47 = .ok (.bipush 100, 2) := by decide +kernel
theorem dX9_depth_49 : decode cX9_depth 49 = .ok (.idiv, 1) := by decide +kernel
theorem dX9_depth_50 : decode cX9_depth 50 = .ok (.aload_n 0, 1) := by decide +kernel
theorem dX9_depth_51 : decode cX9_depth 51 = .ok (.iload_n 1, 1) := by decide +kernel
theorem dX9_depth_52 : decode cX9_depth 52 = .ok (.iconst 0, 1) := by decide +kernel
theorem dX9_depth_53 : decode cX9_depth 53 = .ok (.invokevirtual 48, 3) := by decide +kernel
theorem dX9_depth_56 : decode cX9_depth 56 = .ok (.isub, 1) := by decide +kernel
theorem dX9_depth_57 : decode cX9_depth 57 = .ok (.istore 6, 2) := by decide +kernel
theorem dX9_depth_59 : decode cX9_depth 59 = .ok (.iload 6, 2) := by decide +kernel
theorem dX9_depth_61 : decode cX9_depth 61 = .ok (.ifCond .ge 7, 3) := by decide +kernel
theorem dX9_depth_64 : decode cX9_depth 64 = .ok (.iconst 0, 1) := by decide +kernel
theorem dX9_depth_65 : decode cX9_depth 65 = .ok (.goto 19, 3) := by decide +kernel
theorem dX9_depth_68 : decode cX9_depth 68 = .ok (.iload 6, 2) := by decide +kernel
theorem dX9_depth_70 : decode cX9_depth 70 = .ok (.sipush 400, 3) := by decide +kernel
theorem dX9_depth_73 : decode cX9_depth 73 = .ok (.if_icmp .le 9, 3) := by decide +kernel
theorem dX9_depth_76 : decode cX9_depth 76 = .ok (.sipush 400, 3) := by decide +kernel
theorem dX9_depth_79 : decode cX9_depth 79 = .ok (.goto 5, 3) := by decide +kernel
theorem dX9_depth_82 : decode cX9_depth 82 = .ok (.iload 6, 2) := by decide +kernel
theorem dX9_depth_84 : decode cX9_depth 84 = .ok (.ireturn, 1) := by decide +kernel
theorem dX9_whyNot_0 : decode cX9_whyNot 0 = .ok (.aload_n 0, 1) := by decide +kernel
theorem dX9_whyNot_1 : decode cX9_whyNot 1 = .ok (.iload_n 1, 1) := by decide +kernel
theorem dX9_whyNot_2 : decode cX9_whyNot 2 = .ok (.iconst 1, 1) := by decide +kernel
theorem dX9_whyNot_3 : decode cX9_whyNot 3 = .ok (.invokevirtual 48, 3) := by decide +kernel
theorem dX9_whyNot_6 : decode cX9_whyNot 6 = .ok (.iconst 1, 1) := by decide +kernel
theorem dX9_whyNot_7 : decode cX9_whyNot 7 = .ok (.if_icmp .ne 5, 3) := by decide +kernel
theorem dX9_whyNot_10 : decode cX9_whyNot 10 = .ok (.iconst 1, 1) := by decide +kernel
theorem dX9_whyNot_11 : decode cX9_whyNot 11 = .ok (.ireturn, 1) := by decide +kernel
theorem dX9_whyNot_12 : decode cX9_whyNot 12 = .ok (.aload_n 0, 1) := by decide +kernel
theorem dX9_whyNot_13 : decode cX9_whyNot 13 = .ok (.iload_n 2, 1) := by decide +kernel
theorem dX9_whyNot_14 : decode cX9_whyNot 14 = .ok (.iconst 3, 1) := by decide +kernel
theorem dX9_whyNot_15 : decode cX9_whyNot 15 = .ok (.invokevirtual 31, 3) := by decide +kernel
theorem dX9_whyNot_18 : decode cX9_whyNot 18 = .ok (.iconst (-1), 1) := by decide +kernel
theorem dX9_whyNot_19 : decode cX9_whyNot 19 = .ok (.if_icmp .ne 5, 3) := by decide +kernel
theorem dX9_whyNot_22 : decode cX9_whyNot 22 = .ok (.iconst 2, 1) := by decide +kernel
theorem dX9_whyNot_23 : decode cX9_whyNot 23 = .ok (.ireturn, 1) := by decide +kernel
theorem dX9_whyNot_24 : decode cX9_whyNot 24 = .ok (.aload_n 0, 1) := by decide +kernel
theorem dX9_whyNot_25 : decode cX9_whyNot 25 = .ok (.iload_n 2, 1) := by decide +kernel
theorem dX9_whyNot_26 : decode cX9_whyNot 26 = .ok (.iconst 2, 1) := by decide +kernel
theorem dX9_whyNot_27 : decode cX9_whyNot 27 = .ok (.invokevirtual 31, 3) := by decide +kernel
theorem dX9_whyNot_30 : decode cX9_whyNot 30 = .ok (.aload_n 0, 1) := by decide +kernel
theorem dX9_whyNot_31 : decode cX9_whyNot 31 = .ok (.getfield 7, 3) := by decide +kernel
theorem dX9_whyNot_34 : decode cX9_whyNot 34 = .ok (.bipush 28, 2) := by decide +kernel
theorem dX9_whyNot_36 : decode cX9_whyNot 36 = .ok (.aload_n 0, 1) := by decide +kernel
theorem dX9_whyNot_37 : decode cX9_whyNot 37 = .ok (.iload_n 2, 1) := by decide +kernel
theorem dX9_whyNot_38 : decode cX9_whyNot 38 = .ok (.iconst 3, 1) := by decide +kernel
theorem dX9_whyNot_39 : decode cX9_whyNot 39 = .ok (.invokevirtual 31, 3) := by decide +kernel
theorem dX9_whyNot_42 : decode cX9_whyNot 42 = .ok (.iadd, 1) := by decide +kernel
theorem dX9_whyNot_43 : decode cX9_whyNot 43 = .ok (.iaload, 1) := by decide +kernel
theorem dX9_whyNot_44 : decode cX9_whyNot 44 = .ok (.isub, 1) := by decide +kernel
theorem dX9_whyNot_45 : decode cX9_whyNot 45 = .ok (.invokestatic 45, 3) := by decide +kernel
theorem dX9_whyNot_48 : decode cX9_whyNot 48 = .ok (.aload_n 0, 1) := by decide +kernel
theorem dX9_whyNot_49 : decode cX9_whyNot 49 = .ok (.getfield 7, 3) := by decide +kernel
theorem dX9_whyNot_52 : decode cX9_whyNot 52 = .ok (.iconst 5, 1) := by decide +kernel
theorem dX9_whyNot_53 : decode cX9_whyNot 53 = .ok (.iaload, 1) := by decide +kernel
theorem dX9_whyNot_54 : decode cX9_whyNot 54 = .ok (.if_icmp .gt 7, 3) := by decide +kernel
theorem dX9_whyNot_57 : decode cX9_whyNot 57 = .ok (.iconst 1, 1) := by decide +kernel
theorem dX9_whyNot_58 : decode cX9_whyNot 58 = .ok (.goto 4, 3) := by decide +kernel
theorem dX9_whyNot_61 : decode cX9_whyNot 61 = .ok (.iconst 0, 1) := by decide +kernel
theorem dX9_whyNot_62 : decode cX9_whyNot 62 = .ok (.istore_n 3, 1) := by decide +kernel
theorem dX9_whyNot_63 : decode cX9_whyNot 63 = .ok (.iload_n 3, 1) := by decide +kernel
theorem dX9_whyNot_64 : decode cX9_whyNot 64 = .ok (.ifCond .ne 7, 3) := by decide +kernel
theorem dX9_whyNot_67 : decode cX9_whyNot 67 = .ok (.iconst 3, 1) := by decide +kernel
theorem dX9_whyNot_68 : decode cX9_whyNot 68 = .ok (.goto 19, 3) := by decide +kernel
theorem dX9_whyNot_71 : decode cX9_whyNot 71 = .ok (.aload_n 0, 1) := by decide +kernel
theorem dX9_whyNot_72 : decode cX9_whyNot 72 = .ok (.iload_n 2, 1) := by decide +kernel
theorem dX9_whyNot_73 : decode cX9_whyNot 73 = .ok (.iconst 5, 1) := by decide +kernel
theorem dX9_whyNot_74 : decode cX9_whyNot 74 = .ok (.invokevirtual 31, 3) := by decide +kernel
theorem dX9_whyNot_77 : decode cX9_whyNot 77 = .ok (.bipush 9, 2) := by decide +kernel
theorem dX9_whyNot_79 : decode cX9_whyNot 79 = .ok (.if_icmp .ne 7, 3) := by decide +kernel
theorem dX9_whyNot_82 : decode cX9_whyNot 82 = .ok (.iconst 4, 1) := by decide +kernel
theorem dX9_whyNot_83 : decode cX9_whyNot 83 = .ok (.goto 4, 3) := by decide +kernel
theorem dX9_whyNot_86 : decode cX9_whyNot 86 = .ok (.iconst 0, 1) := by decide +kernel
theorem dX9_whyNot_87 : decode cX9_whyNot 87 = .ok (.ireturn, 1) := by decide +kernel
theorem dX9_sinks_0 : decode cX9_sinks 0 = .ok (.aload_n 0, 1) := by decide +kernel
theorem dX9_sinks_1 : decode cX9_sinks 1 = .ok (.iload_n 1, 1) := by decide +kernel
theorem dX9_sinks_2 : decode cX9_sinks 2 = .ok (.iload_n 2, 1) := by decide +kernel
theorem dX9_sinks_3 : decode cX9_sinks 3 = .ok (.iload_n 3, 1) := by decide +kernel
theorem dX9_sinks_4 : decode cX9_sinks 4 = .ok (.iload 4, 2) := by decide +kernel
theorem dX9_sinks_6 : decode cX9_sinks 6 = .ok (.invokevirtual 51, 3) := by decide +kernel
theorem dX9_sinks_9 : decode cX9_sinks 9 = .ok (.istore 5, 2) := by decide +kernel
theorem dX9_sinks_11 : decode cX9_sinks 11 = .ok (.bipush 6, 2) := by decide +kernel
theorem dX9_sinks_13 : decode cX9_sinks 13 = .ok (.iconst 4, 1) := by decide +kernel
theorem dX9_sinks_14 : decode cX9_sinks 14 = .ok (.aload_n 0, 1) := by decide +kernel
theorem dX9_sinks_15 : decode cX9_sinks 15 = .ok (.iload_n 2, 1) := by decide +kernel
theorem dX9_sinks_16 : decode cX9_sinks 16 = .ok (.iconst 5, 1) := by decide +kernel
theorem dX9_sinks_17 : decode cX9_sinks 17 = .ok (.invokevirtual 31, 3) := by decide +kernel
theorem dX9_sinks_20 : decode cX9_sinks 20 = .ok (.imul, 1) := by decide +kernel
theorem dX9_sinks_21 : decode cX9_sinks 21 = .ok (.iadd, 1) := by decide +kernel
theorem dX9_sinks_22 : decode cX9_sinks 22 = .ok (.istore 6, 2) := by decide +kernel
theorem dX9_sinks_24 : decode cX9_sinks 24 = .ok (.aload_n 0, 1) := by decide +kernel
theorem dX9_sinks_25 : decode cX9_sinks 25 = .ok (.iload_n 2, 1) := by decide +kernel
theorem dX9_sinks_26 : decode cX9_sinks 26 = .ok (.iload 6, 2) := by decide +kernel
theorem dX9_sinks_28 : decode cX9_sinks 28 = .ok (.iload_n 1, 1) := by decide +kernel
theorem dX9_sinks_29 : decode cX9_sinks 29 = .ok (.invokevirtual 41, 3) := by decide +kernel
theorem dX9_sinks_32 : decode cX9_sinks 32 = .ok (.aload_n 0, 1) := by decide +kernel
theorem dX9_sinks_33 : decode cX9_sinks 33 = .ok (.iload_n 2, 1) := by decide +kernel
theorem dX9_sinks_34 : decode cX9_sinks 34 = .ok (.iload 6, 2) := by decide +kernel
theorem dX9_sinks_36 : decode cX9_sinks 36 = .ok (.iconst 1, 1) := by decide +kernel
theorem dX9_sinks_37 : decode cX9_sinks 37 = .ok (.iadd, 1) := by decide +kernel
theorem dX9_sinks_38 : decode cX9_sinks 38 = .ok (.iload 5, 2) := by decide +kernel
theorem dX9_sinks_40 : decode cX9_sinks 40 = .ok (.invokevirtual 41, 3) := by decide +kernel
theorem dX9_sinks_43 : decode cX9_sinks 43 = .ok (.aload_n 0, 1) := by decide +kernel
theorem dX9_sinks_44 : decode cX9_sinks 44 = .ok (.iload_n 2, 1) := by decide +kernel
theorem dX9_sinks_45 : decode cX9_sinks 45 = .ok (.iload 6, 2) := by decide +kernel
theorem dX9_sinks_47 : decode cX9_sinks 47 = .ok (.iconst 2, 1) := by decide +kernel
theorem dX9_sinks_48 : decode cX9_sinks 48 = .ok (.iadd, 1) := by decide +kernel
theorem dX9_sinks_49 : decode cX9_sinks 49 = .ok (.iload_n 3, 1) := by decide +kernel
theorem dX9_sinks_50 : decode cX9_sinks 50 = .ok (.invokevirtual 41, 3) := by decide +kernel
theorem dX9_sinks_53 : decode cX9_sinks 53 = .ok (.aload_n 0, 1) := by decide +kernel
theorem dX9_sinks_54 : decode cX9_sinks 54 = .ok (.iload_n 2, 1) := by decide +kernel
theorem dX9_sinks_55 : decode cX9_sinks 55 = .ok (.iload 6, 2) := by decide +kernel
theorem dX9_sinks_57 : decode cX9_sinks 57 = .ok (.iconst 3, 1) := by decide +kernel
theorem dX9_sinks_58 : decode cX9_sinks 58 = .ok (.iadd, 1) := by decide +kernel
theorem dX9_sinks_59 : decode cX9_sinks 59 = .ok (.iload 4, 2) := by decide +kernel
theorem dX9_sinks_61 : decode cX9_sinks 61 = .ok (.invokevirtual 41, 3) := by decide +kernel
theorem dX9_sinks_64 : decode cX9_sinks 64 = .ok (.aload_n 0, 1) := by decide +kernel
theorem dX9_sinks_65 : decode cX9_sinks 65 = .ok (.iload_n 2, 1) := by decide +kernel
theorem dX9_sinks_66 : decode cX9_sinks 66 = .ok (.iconst 5, 1) := by decide +kernel
theorem dX9_sinks_67 : decode cX9_sinks 67 = .ok (.aload_n 0, 1) := by decide +kernel
theorem dX9_sinks_68 : decode cX9_sinks 68 = .ok (.iload_n 2, 1) := by decide +kernel
theorem dX9_sinks_69 : decode cX9_sinks 69 = .ok (.iconst 5, 1) := by decide +kernel
theorem dX9_sinks_70 : decode cX9_sinks 70 = .ok (.invokevirtual 31, 3) := by decide +kernel
theorem dX9_sinks_73 : decode cX9_sinks 73 = .ok (.iconst 1, 1) := by decide +kernel
theorem dX9_sinks_74 : decode cX9_sinks 74 = .ok (.iadd, 1) := by decide +kernel
theorem dX9_sinks_75 : decode cX9_sinks 75 = .ok (.invokevirtual 41, 3) := by decide +kernel
theorem dX9_sinks_78 : decode cX9_sinks 78 = .ok (.bipush 31, 2) := by decide +kernel
theorem dX9_sinks_80 : decode cX9_sinks 80 = .ok (.iconst 3, 1) := by decide +kernel
theorem dX9_sinks_81 : decode cX9_sinks 81 = .ok (.iload_n 1, 1) := by decide +kernel
theorem dX9_sinks_82 : decode cX9_sinks 82 = .ok (.imul, 1) := by decide +kernel
theorem dX9_sinks_83 : decode cX9_sinks 83 = .ok (.iadd, 1) := by decide +kernel
theorem dX9_sinks_84 : decode cX9_sinks 84 = .ok (.istore 7, 2) := by decide +kernel
theorem dX9_sinks_86 : decode cX9_sinks 86 = .ok (.aload_n 0, 1) := by decide +kernel
theorem dX9_sinks_87 : decode cX9_sinks 87 = .ok (.getfield 7, 3) := by decide +kernel
theorem dX9_sinks_90 : decode cX9_sinks 90 = .ok (.iload 7, 2) := by decide +kernel
theorem dX9_sinks_92 : decode cX9_sinks 92 = .ok (.iconst 0, 1) := by decide +kernel
theorem dX9_sinks_93 : decode cX9_sinks 93 = .ok (.iadd, 1) := by decide +kernel
theorem dX9_sinks_94 : decode cX9_sinks 94 = .ok (.dup2, 1) := by decide +kernel
theorem dX9_sinks_95 : decode cX9_sinks 95 = .ok (.iaload, 1) := by decide +kernel
theorem dX9_sinks_96 : decode cX9_sinks 96 = .ok (.iload 5, 2) := by decide +kernel
theorem dX9_sinks_98 : decode cX9_sinks 98 = .ok (.bipush 50, 2) := by decide +kernel
theorem dX9_sinks_100 : decode cX9_sinks 100 = .ok (.if_icmp .ge 21, 3) := by decide +kernel
theorem dX9_sinks_103 : decode cX9_sinks 103 = .ok (.aload_n 0, 1) := by decide +kernel
theorem dX9_sinks_104 : decode cX9_sinks 104 = .ok (.getfield 7, 3) := by decide +kernel
theorem dX9_sinks_107 : decode cX9_sinks 107 = .ok (.iload 7, 2) := by decide +kernel
theorem dX9_sinks_109 : decode cX9_sinks 109 = .ok (.iconst 0, 1) := by decide +kernel
theorem dX9_sinks_110 : decode cX9_sinks 110 = .ok (.iadd, 1) := by decide +kernel
theorem dX9_sinks_111 : decode cX9_sinks 111 = .ok (.iaload, 1) := by decide +kernel
theorem dX9_sinks_112 : decode cX9_sinks 112 = .ok (.bipush 20, 2) := by decide +kernel
theorem dX9_sinks_114 : decode cX9_sinks 114 = .ok (.if_icmp .ge 7, 3) := by decide +kernel
theorem dX9_sinks_117 : decode cX9_sinks 117 = .ok (.iconst 1, 1) := by decide +kernel
theorem dX9_sinks_118 : decode cX9_sinks 118 = .ok (.goto 4, 3) := by decide +kernel
theorem dX9_sinks_121 : decode cX9_sinks 121 = .ok (.iconst 0, 1) := by decide +kernel
theorem dX9_sinks_122 : decode cX9_sinks 122 = .ok (.iadd, 1) := by decide +kernel
theorem dX9_sinks_123 : decode cX9_sinks 123 = .ok (.iastore, 1) := by decide +kernel
theorem dX9_sinks_124 : decode cX9_sinks 124 = .ok (.aload_n 0, 1) := by decide +kernel
theorem dX9_sinks_125 : decode cX9_sinks 125 = .ok (.getfield 7, 3) := by decide +kernel
theorem dX9_sinks_128 : decode cX9_sinks 128 = .ok (.iload 7, 2) := by decide +kernel
theorem dX9_sinks_130 : decode cX9_sinks 130 = .ok (.iconst 1, 1) := by decide +kernel
theorem dX9_sinks_131 : decode cX9_sinks 131 = .ok (.iadd, 1) := by decide +kernel
theorem dX9_sinks_132 : decode cX9_sinks 132 = .ok (.iload 5, 2) := by decide +kernel
theorem dX9_sinks_134 : decode cX9_sinks 134 = .ok (.ifCond .ne 7, 3) := by decide +kernel
theorem dX9_sinks_137 : decode cX9_sinks 137 = .ok (.iconst 1, 1) := by decide +kernel
theorem dX9_sinks_138 : decode cX9_sinks 138 = .ok (.goto 12, 3) := by decide +kernel
theorem dX9_sinks_141 : decode cX9_sinks 141 = .ok (.aload_n 0, 1) := by decide +kernel
theorem dX9_sinks_142 : decode cX9_sinks 142 = .ok (.getfield 7, 3) := by decide +kernel
theorem dX9_sinks_145 : decode cX9_sinks 145 = .ok (.iload 7, 2) := by decide +kernel
theorem dX9_sinks_147 : decode cX9_sinks 147 = .ok (.iconst 1, 1) := by decide +kernel
theorem dX9_sinks_148 : decode cX9_sinks 148 = .ok (.iadd, 1) := by decide +kernel
theorem dX9_sinks_149 : decode cX9_sinks 149 = .ok (.iaload, 1) := by decide +kernel
theorem dX9_sinks_150 : decode cX9_sinks 150 = .ok (.iastore, 1) := by decide +kernel
theorem dX9_sinks_151 : decode cX9_sinks 151 = .ok (.aload_n 0, 1) := by decide +kernel
theorem dX9_sinks_152 : decode cX9_sinks 152 = .ok (.getfield 7, 3) := by decide +kernel
theorem dX9_sinks_155 : decode cX9_sinks 155 = .ok (.iload 7, 2) := by decide +kernel
theorem dX9_sinks_157 : decode cX9_sinks 157 = .ok (.iconst 2, 1) := by decide +kernel
theorem dX9_sinks_158 : decode cX9_sinks 158 = .ok (.iadd, 1) := by decide +kernel
theorem dX9_sinks_159 : decode cX9_sinks 159 = .ok (.dup2, 1) := by decide +kernel
theorem dX9_sinks_160 : decode cX9_sinks 160 = .ok (.iaload, 1) := by decide +kernel
theorem dX9_sinks_161 : decode cX9_sinks 161 = .ok (.iconst 1, 1) := by decide +kernel
theorem dX9_sinks_162 : decode cX9_sinks 162 = .ok (.iadd, 1) := by decide +kernel
theorem dX9_sinks_163 : decode cX9_sinks 163 = .ok (.iastore, 1) := by decide +kernel
theorem dX9_sinks_164 : decode cX9_sinks 164 = .ok (.aload_n 0, 1) := by decide +kernel
theorem dX9_sinks_165 : decode cX9_sinks 165 = .ok (.getfield 7, 3) := by decide +kernel
theorem dX9_sinks_168 : decode cX9_sinks 168 = .ok (.iconst 2, 1) := by decide +kernel
theorem dX9_sinks_169 : decode cX9_sinks 169 = .ok (.dup2, 1) := by decide +kernel
theorem dX9_sinks_170 : decode cX9_sinks 170 = .ok (.iaload, 1) := by decide +kernel
theorem dX9_sinks_171 : decode cX9_sinks 171 = .ok (.iconst 1, 1) := by decide +kernel
theorem dX9_sinks_172 : decode cX9_sinks 172 = .ok (.iadd, 1) := by decide +kernel
theorem dX9_sinks_173 : decode cX9_sinks 173 = .ok (.iastore, 1) := by decide +kernel
theorem dX9_sinks_174 : decode cX9_sinks 174 = .ok (.iload 5, 2) := by decide +kernel
theorem dX9_sinks_176 : decode cX9_sinks 176 = .ok (.ireturn, 1) := by decide +kernel
theorem dX9_latest_0 : decode cX9_latest 0 = .ok (.aload_n 0, 1) := by decide +kernel
theorem dX9_latest_1 : decode cX9_latest 1 = .ok (.iload_n 1, 1) := by decide +kernel
theorem dX9_latest_2 : decode cX9_latest 2 = .ok (.bipush 6, 2) := by decide +kernel
theorem dX9_latest_4 : decode cX9_latest 4 = .ok (.iconst 4, 1) := by decide +kernel
theorem dX9_latest_5 : decode cX9_latest 5 = .ok (.aload_n 0, 1) := by decide +kernel
theorem dX9_latest_6 : decode cX9_latest 6 = .ok (.iload_n 1, 1) := by decide +kernel
theorem dX9_latest_7 : decode cX9_latest 7 = .ok (.iconst 5, 1) := by decide +kernel
theorem dX9_latest_8 : decode cX9_latest 8 = .ok (.invokevirtual 31, 3) := by decide +kernel
theorem dX9_latest_11 : decode cX9_latest 11 = .ok (.iconst 1, 1) := by decide +kernel
theorem dX9_latest_12 : decode cX9_latest 12 = .ok (.isub, 1) := by decide +kernel
theorem dX9_latest_13 : decode cX9_latest 13 = .ok (.iload_n 2, 1) := by decide +kernel
theorem dX9_latest_14 : decode cX9_latest 14 = .ok (.isub, 1) := by decide +kernel
theorem dX9_latest_15 : decode cX9_latest 15 = .ok (.imul, 1) := by decide +kernel
theorem dX9_latest_16 : decode cX9_latest 16 = .ok (.iadd, 1) := by decide +kernel
theorem dX9_latest_17 : decode cX9_latest 17 = .ok (.iload_n 3, 1) := by decide +kernel
theorem dX9_latest_18 : decode cX9_latest 18 = .ok (.iadd, 1) := by decide +kernel
theorem dX9_latest_19 : decode cX9_latest 19 = .ok (.invokevirtual 31, 3) := by decide +kernel
theorem dX9_latest_22 : decode cX9_latest 22 = .ok (.ireturn, 1) := by decide +kernel
theorem dX9_whyNone_0 : decode cX9_whyNone 0 = .ok (.aload_n 0, 1) := by decide +kernel
theorem dX9_whyNone_1 : decode cX9_whyNone 1 = .ok (.iload_n 1, 1) := by decide +kernel
theorem dX9_whyNone_2 : decode cX9_whyNone 2 = .ok (.iconst 5, 1) := by decide +kernel
theorem dX9_whyNone_3 : decode cX9_whyNone 3 = .ok (.invokevirtual 31, 3) := by decide +kernel
theorem dX9_whyNone_6 : decode cX9_whyNone 6 = .ok (.iconst 3, 1) := by decide +kernel
theorem dX9_whyNone_7 : decode cX9_whyNone 7 = .ok (.if_icmp .ge 5, 3) := by decide +kernel
theorem dX9_whyNone_10 : decode cX9_whyNone 10 = .ok (.iconst 5, 1) := by decide +kernel
theorem dX9_whyNone_11 : decode cX9_whyNone 11 = .ok (.ireturn, 1) := by decide +kernel
theorem dX9_whyNone_12 : decode cX9_whyNone 12 = .ok (.sipush 400, 3) := by decide +kernel
theorem dX9_whyNone_15 : decode cX9_whyNone 15 = .ok (.istore_n 2, 1) := by decide +kernel
theorem dX9_whyNone_16 : decode cX9_whyNone 16 = .ok (.iconst 0, 1) := by decide +kernel
theorem dX9_whyNone_17 : decode cX9_whyNone 17 = .ok (.istore_n 3, 1) := by decide +kernel
theorem dX9_whyNone_18 : decode cX9_whyNone 18 = .ok (.iconst 1, 1) := by decide +kernel
theorem dX9_whyNone_19 : decode cX9_whyNone 19 = .ok (.istore 4, 2) := by decide +kernel
theorem dX9_whyNone_21 : decode cX9_whyNone 21 = .ok (.iconst 0, 1) := by decide +kernel
theorem dX9_whyNone_22 : decode cX9_whyNone 22 = .ok (.istore 5, 2) := by decide +kernel
theorem dX9_whyNone_24 : decode cX9_whyNone 24 = .ok (.iload 5, 2) := by decide +kernel
theorem dX9_whyNone_26 : decode cX9_whyNone 26 = .ok (.iconst 3, 1) := by decide +kernel
theorem dX9_whyNone_27 : decode cX9_whyNone 27 = .ok (.if_icmp .ge 82, 3) := by decide +kernel
theorem dX9_whyNone_30 : decode cX9_whyNone 30 = .ok (.aload_n 0, 1) := by decide +kernel
theorem dX9_whyNone_31 : decode cX9_whyNone 31 = .ok (.iload_n 1, 1) := by decide +kernel
theorem dX9_whyNone_32 : decode cX9_whyNone 32 = .ok (.iload 5, 2) := by decide +kernel
theorem dX9_whyNone_34 : decode cX9_whyNone 34 = .ok (.iconst 1, 1) := by decide +kernel
theorem dX9_whyNone_35 : decode cX9_whyNone 35 = .ok (.invokevirtual 55, 3) := by decide +kernel
theorem dX9_whyNone_38 : decode cX9_whyNone 38 = .ok (.istore 6, 2) := by decide +kernel
theorem dX9_whyNone_40 : decode cX9_whyNone 40 = .ok (.iload 4, 2) := by decide +kernel
theorem dX9_whyNone_42 : decode cX9_whyNone 42 = .ok (.ifCond .eq 32, 3) := by decide +kernel
theorem dX9_whyNone_45 : decode cX9_whyNone 45 = .ok (.aload_n 0, 1) := by decide +kernel
theorem dX9_whyNone_46 : decode cX9_whyNone 46 = .ok (.iload_n 1, 1) := by decide +kernel
theorem dX9_whyNone_47 : decode cX9_whyNone 47 = .ok (.iload 5, 2) := by decide +kernel
theorem dX9_whyNone_49 : decode cX9_whyNone 49 = .ok (.iconst 2, 1) := by decide +kernel
theorem dX9_whyNone_50 : decode cX9_whyNone 50 = .ok (.invokevirtual 55, 3) := by decide +kernel
theorem dX9_whyNone_53 : decode cX9_whyNone 53 = .ok (.bipush 100, 2) := by decide +kernel
theorem dX9_whyNone_55 : decode cX9_whyNone 55 = .ok (.if_icmp .ne 19, 3) := by decide +kernel
theorem dX9_whyNone_58 : decode cX9_whyNone 58 = .ok (.aload_n 0, 1) := by decide +kernel
theorem dX9_whyNone_59 : decode cX9_whyNone 59 = .ok (.iload_n 1, 1) := by decide +kernel
theorem dX9_whyNone_60 : decode cX9_whyNone 60 = .ok (.iload 5, 2) := by decide +kernel
theorem dX9_whyNone_62 : decode cX9_whyNone 62 = .ok (.iconst 3, 1) := by decide +kernel
theorem dX9_whyNone_63 : decode cX9_whyNone 63 = .ok (.invokevirtual 55, 3) := by decide +kernel
theorem dX9_whyNone_66 : decode cX9_whyNone 66 = .ok (.iconst 5, 1) := by decide +kernel
theorem dX9_whyNone_67 : decode cX9_whyNone 67 = .ok (.if_icmp .ne 7, 3) := by decide +kernel
theorem dX9_whyNone_70 : decode cX9_whyNone 70 = .ok (.iconst 1, 1) := by decide +kernel
theorem dX9_whyNone_71 : decode cX9_whyNone 71 = .ok (.goto 4, 3) := by decide +kernel
theorem dX9_whyNone_74 : decode cX9_whyNone 74 = .ok (.iconst 0, 1) := by decide +kernel
theorem dX9_whyNone_75 : decode cX9_whyNone 75 = .ok (.istore 4, 2) := by decide +kernel
theorem dX9_whyNone_77 : decode cX9_whyNone 77 = .ok (.iload 6, 2) := by decide +kernel
theorem dX9_whyNone_79 : decode cX9_whyNone 79 = .ok (.iload_n 2, 1) := by decide +kernel
theorem dX9_whyNone_80 : decode cX9_whyNone 80 = .ok (.if_icmp .ge 8, 3) := by decide +kernel
theorem dX9_whyNone_83 : decode cX9_whyNone 83 = .ok (.iload 6, 2) := by decide +kernel
theorem dX9_whyNone_85 : decode cX9_whyNone 85 = .ok (.goto 4, 3) := by decide +kernel
theorem dX9_whyNone_88 : decode cX9_whyNone 88 = .ok (.iload_n 2, 1) := by decide +kernel
theorem dX9_whyNone_89 : decode cX9_whyNone 89 = .ok (.istore_n 2, 1) := by decide +kernel
theorem dX9_whyNone_90 : decode cX9_whyNone 90 = .ok (.iload 6, 2) := by decide +kernel
theorem dX9_whyNone_92 : decode cX9_whyNone 92 = .ok (.iload_n 3, 1) := by decide +kernel
theorem dX9_whyNone_93 : decode cX9_whyNone 93 = .ok (.if_icmp .le 8, 3) := by decide +kernel
theorem dX9_whyNone_96 : decode cX9_whyNone 96 = .ok (.iload 6, 2) := by decide +kernel
theorem dX9_whyNone_98 : decode cX9_whyNone 98 = .ok (.goto 4, 3) := by decide +kernel
theorem dX9_whyNone_101 : decode cX9_whyNone 101 = .ok (.iload_n 3, 1) := by decide +kernel
theorem dX9_whyNone_102 : decode cX9_whyNone 102 = .ok (.istore_n 3, 1) := by decide +kernel
theorem dX9_whyNone_103 : decode cX9_whyNone 103 = .ok (.iinc 5 1, 3) := by decide +kernel
theorem dX9_whyNone_106 : decode cX9_whyNone 106 = .ok (.goto (-82), 3) := by decide +kernel
theorem dX9_whyNone_109 : decode cX9_whyNone 109 = .ok (.iload 4, 2) := by decide +kernel
theorem dX9_whyNone_111 : decode cX9_whyNone 111 = .ok (.ifCond .ne 8, 3) := by decide +kernel
theorem dX9_whyNone_114 : decode cX9_whyNone 114 = .ok (.bipush 6, 2) := by decide +kernel
theorem dX9_whyNone_116 : decode cX9_whyNone 116 = .ok (.goto 22, 3) := by decide +kernel
theorem dX9_whyNone_119 : decode cX9_whyNone 119 = .ok (.iload_n 3, 1) := by decide +kernel
theorem dX9_whyNone_120 : decode cX9_whyNone 120 = .ok (.iload_n 2, 1) := by decide +kernel
theorem dX9_whyNone_121 : decode cX9_whyNone 121 = .ok (.isub, 1) := by decide +kernel
theorem dX9_whyNone_122 : decode cX9_whyNone 122 = .ok (.aload_n 0, 1) := by decide +kernel
theorem dX9_whyNone_123 : decode cX9_whyNone 123 = .ok (.getfield 7, 3) := by decide +kernel
theorem dX9_whyNone_126 : decode cX9_whyNone 126 = .ok (.bipush 6, 2) := by decide +kernel
theorem dX9_whyNone_128 : decode cX9_whyNone 128 = .ok (.iaload, 1) := by decide +kernel
theorem dX9_whyNone_129 : decode cX9_whyNone 129 = .ok (.if_icmp .le 8, 3) := by decide +kernel
theorem dX9_whyNone_132 : decode cX9_whyNone 132 = .ok (.bipush 7, 2) := by decide +kernel
theorem dX9_whyNone_134 : decode cX9_whyNone 134 = .ok (.goto 4, 3) := by decide +kernel
theorem dX9_whyNone_137 : decode cX9_whyNone 137 = .ok (.iconst 0, 1) := by decide +kernel
theorem dX9_whyNone_138 : decode cX9_whyNone 138 = .ok (.ireturn, 1) := by decide +kernel
theorem dX9_penetration_0 : decode cX9_penetration 0 = .ok (.aload_n 0, 1) := by decide +kernel
theorem dX9_penetration_1 : decode cX9_penetration 1 = .ok (.iload_n 1, 1) := by decide +kernel
theorem dX9_penetration_2 : decode cX9_penetration 2 = .ok (.invokevirtual 59, 3) := by decide +kernel
theorem dX9_penetration_5 : decode cX9_penetration 5 = .ok (.ifCond .le 7, 3) := by decide +kernel
theorem dX9_penetration_8 : decode cX9_penetration 8 = .ok (.iconst (-1), 1) := by decide +kernel
theorem dX9_penetration_9 : decode cX9_penetration 9 = .ok (.goto 28, 3) := by decide +kernel
theorem dX9_penetration_12 : decode cX9_penetration 12 = .ok (.aload_n 0, 1) := by decide +kernel
theorem dX9_penetration_13 : decode cX9_penetration 13 = .ok (.iload_n 1, 1) := by decide +kernel
theorem dX9_penetration_14 : decode cX9_penetration 14 = .ok (.iconst 0, 1) := by decide +kernel
theorem dX9_penetration_15 : decode cX9_penetration 15 = .ok (.iconst 1, 1) := by decide +kernel
theorem dX9_penetration_16 : decode cX9_penetration 16 = .ok (.invokevirtual 55, 3) := by decide +kernel
theorem dX9_penetration_19 : decode cX9_penetration 19 = .ok (.aload_n 0, 1) := by decide +kernel
theorem dX9_penetration_20 : decode cX9_penetration 20 = .ok (.iload_n 1, 1) := by decide +kernel
theorem dX9_penetration_21 : decode cX9_penetration 21 = .ok (.iconst 1, 1) := by decide +kernel
theorem dX9_penetration_22 : decode cX9_penetration 22 = .ok (.iconst 1, 1) := by decide +kernel
theorem dX9_penetration_23 : decode cX9_penetration 23 = .ok (.invokevirtual 55, 3) := by decide +kernel
theorem dX9_penetration_26 : decode cX9_penetration 26 = .ok (.iadd, 1) := by decide +kernel
theorem dX9_penetration_27 : decode cX9_penetration 27 = .ok (.aload_n 0, 1) := by decide +kernel
theorem dX9_penetration_28 : decode cX9_penetration 28 = .ok (.iload_n 1, 1) := by decide +kernel
theorem dX9_penetration_29 : decode cX9_penetration 29 = .ok (.iconst 2, 1) := by decide +kernel
theorem dX9_penetration_30 : decode cX9_penetration 30 = .ok (.iconst 1, 1) := by decide +kernel
theorem dX9_penetration_31 : decode cX9_penetration 31 = .ok (.invokevirtual 55, 3) := by decide +kernel
theorem dX9_penetration_34 : decode cX9_penetration 34 = .ok (.iadd, 1) := by decide +kernel
theorem dX9_penetration_35 : decode cX9_penetration 35 = .ok (.iconst 3, 1) := by decide +kernel
theorem dX9_penetration_36 : decode cX9_penetration 36 = .ok (.idiv, 1) := by decide +kernel
theorem dX9_penetration_37 : decode cX9_penetration 37 = .ok (.ireturn, 1) := by decide +kernel
theorem dX9_needles_0 : decode cX9_needles 0 = .ok (.iconst 0, 1) := by decide +kernel
theorem dX9_needles_1 : decode cX9_needles 1 = .ok (.istore_n 2, 1) := by decide +kernel
theorem dX9_needles_2 : decode cX9_needles 2 = .ok (.iconst 0, 1) := by decide +kernel
theorem dX9_needles_3 : decode cX9_needles 3 = .ok (.istore_n 3, 1) := by decide +kernel
theorem dX9_needles_4 : decode cX9_needles 4 = .ok (.iload_n 3, 1) := by decide +kernel
theorem dX9_needles_5 : decode cX9_needles 5 = .ok (.iconst 3, 1) := by decide +kernel
theorem dX9_needles_6 : decode cX9_needles 6 = .ok (.if_icmp .ge 31, 3) := by decide +kernel
theorem dX9_needles_9 : decode cX9_needles 9 = .ok (.iload_n 3, 1) := by decide +kernel
theorem dX9_needles_10 : decode cX9_needles 10 = .ok (.aload_n 0, 1) := by decide +kernel
theorem dX9_needles_11 : decode cX9_needles 11 = .ok (.iload_n 1, 1) := by decide +kernel
theorem dX9_needles_12 : decode cX9_needles 12 = .ok (.iconst 5, 1) := by decide +kernel
theorem dX9_needles_13 : decode cX9_needles 13 = .ok (.invokevirtual 31, 3) := by decide +kernel
theorem dX9_needles_16 : decode cX9_needles 16 = .ok (.if_icmp .ge 21, 3) := by decide +kernel
theorem dX9_needles_19 : decode cX9_needles 19 = .ok (.iload_n 2, 1) := by decide +kernel
theorem dX9_needles_20 : decode cX9_needles 20 = .ok (.iconst 1, 1) := by decide +kernel
theorem dX9_needles_21 : decode cX9_needles 21 = .ok (.aload_n 0, 1) := by decide +kernel
theorem dX9_needles_22 : decode cX9_needles 22 = .ok (.iload_n 1, 1) := by decide +kernel
theorem dX9_needles_23 : decode cX9_needles 23 = .ok (.iload_n 3, 1) := by decide +kernel
theorem dX9_needles_24 : decode cX9_needles 24 = .ok (.iconst 0, 1) := by decide +kernel
theorem dX9_needles_25 : decode cX9_needles 25 = .ok (.invokevirtual 55, 3) := by decide +kernel
theorem dX9_needles_28 : decode cX9_needles 28 = .ok (.ishl, 1) := by decide +kernel
theorem dX9_needles_29 : decode cX9_needles 29 = .ok (.ior, 1) := by decide +kernel
theorem dX9_needles_30 : decode cX9_needles 30 = .ok (.istore_n 2, 1) := by decide +kernel
theorem dX9_needles_31 : decode cX9_needles 31 = .ok (.iinc 3 1, 3) := by decide +kernel
theorem dX9_needles_34 : decode cX9_needles 34 = .ok (.goto (-30), 3) := by decide +kernel
theorem dX9_needles_37 : decode cX9_needles 37 = .ok (.iload_n 2, 1) := by decide +kernel
theorem dX9_needles_38 : decode cX9_needles 38 = .ok (.ireturn, 1) := by decide +kernel
theorem dX9_rings_0 : decode cX9_rings 0 = .ok (.aload_n 0, 1) := by decide +kernel
theorem dX9_rings_1 : decode cX9_rings 1 = .ok (.iload_n 1, 1) := by decide +kernel
theorem dX9_rings_2 : decode cX9_rings 2 = .ok (.iconst 4, 1) := by decide +kernel
theorem dX9_rings_3 : decode cX9_rings 3 = .ok (.invokevirtual 31, 3) := by decide +kernel
theorem dX9_rings_6 : decode cX9_rings 6 = .ok (.iconst (-1), 1) := by decide +kernel
theorem dX9_rings_7 : decode cX9_rings 7 = .ok (.if_icmp .ne 46, 3) := by decide +kernel
theorem dX9_rings_10 : decode cX9_rings 10 = .ok (.sipush 300, 3) := by decide +kernel
theorem dX9_rings_13 : decode cX9_rings 13 = .ok (.bipush 12, 2) := by decide +kernel
theorem dX9_rings_15 : decode cX9_rings 15 = .ok (.aload_n 0, 1) := by decide +kernel
theorem dX9_rings_16 : decode cX9_rings 16 = .ok (.iload_n 1, 1) := by decide +kernel
theorem dX9_rings_17 : decode cX9_rings 17 = .ok (.iconst 1, 1) := by decide +kernel
theorem dX9_rings_18 : decode cX9_rings 18 = .ok (.invokevirtual 31, 3) := by decide +kernel
theorem dX9_rings_21 : decode cX9_rings 21 = .ok (.imul, 1) := by decide +kernel
theorem dX9_rings_22 : decode cX9_rings 22 = .ok (.iadd, 1) := by decide +kernel
theorem dX9_rings_23 : decode cX9_rings 23 = .ok (.iconst 5, 1) := by decide +kernel
theorem dX9_rings_24 : decode cX9_rings 24 = .ok (.aload_n 0, 1) := by decide +kernel
theorem dX9_rings_25 : decode cX9_rings 25 = .ok (.iload_n 1, 1) := by decide +kernel
theorem dX9_rings_26 : decode cX9_rings 26 = .ok (.iconst 5, 1) := by decide +kernel
theorem dX9_rings_27 : decode cX9_rings 27 = .ok (.invokevirtual 31, 3) := by decide +kernel
theorem dX9_rings_30 : decode cX9_rings 30 = .ok (.imul, 1) := by decide +kernel
theorem dX9_rings_31 : decode cX9_rings 31 = .ok (.isub, 1) := by decide +kernel
theorem dX9_rings_32 : decode cX9_rings 32 = .ok (.istore_n 2, 1) := by decide +kernel
theorem dX9_rings_33 : decode cX9_rings 33 = .ok (.aload_n 0, 1) := by decide +kernel
theorem dX9_rings_34 : decode cX9_rings 34 = .ok (.iload_n 1, 1) := by decide +kernel
theorem dX9_rings_35 : decode cX9_rings 35 = .ok (.iconst 4, 1) := by decide +kernel
theorem dX9_rings_36 : decode cX9_rings 36 = .ok (.iload_n 2, 1) := by decide +kernel
theorem dX9_rings_37 : decode cX9_rings 37 = .ok (.sipush 250, 3) := by decide +kernel
theorem dX9_rings_40 : decode cX9_rings 40 = .ok (.if_icmp .ge 9, 3) := by decide +kernel
theorem dX9_rings_43 : decode cX9_rings 43 = .ok (.sipush 250, 3) := by decide +kernel
theorem dX9_rings_46 : decode cX9_rings 46 = .ok (.goto 4, 3) := by decide +kernel
theorem dX9_rings_49 : decode cX9_rings 49 = .ok (.iload_n 2, 1) := by decide +kernel
theorem dX9_rings_50 : decode cX9_rings 50 = .ok (.invokevirtual 41, 3) := by decide +kernel
theorem dX9_rings_53 : decode cX9_rings 53 = .ok (.aload_n 0, 1) := by decide +kernel
theorem dX9_rings_54 : decode cX9_rings 54 = .ok (.iload_n 1, 1) := by decide +kernel
theorem dX9_rings_55 : decode cX9_rings 55 = .ok (.iconst 4, 1) := by decide +kernel
theorem dX9_rings_56 : decode cX9_rings 56 = .ok (.invokevirtual 31, 3) := by decide +kernel
theorem dX9_rings_59 : decode cX9_rings 59 = .ok (.ireturn, 1) := by decide +kernel
theorem dX9_hardness_0 : decode cX9_hardness 0 = .ok (.sipush 1000, 3) := by decide +kernel
theorem dX9_hardness_3 : decode cX9_hardness 3 = .ok (.aload_n 0, 1) := by decide +kernel
theorem dX9_hardness_4 : decode cX9_hardness 4 = .ok (.iload_n 1, 1) := by decide +kernel
theorem dX9_hardness_5 : decode cX9_hardness 5 = .ok (.iconst 0, 1) := by decide +kernel
theorem dX9_hardness_6 : decode cX9_hardness 6 = .ok (.invokevirtual 62, 3) := by decide +kernel
theorem dX9_hardness_9 : decode cX9_hardness 9 = .ok (.idiv, 1) := by decide +kernel
theorem dX9_hardness_10 : decode cX9_hardness 10 = .ok (.aload_n 0, 1) := by decide +kernel
theorem dX9_hardness_11 : decode cX9_hardness 11 = .ok (.iload_n 1, 1) := by decide +kernel
theorem dX9_hardness_12 : decode cX9_hardness 12 = .ok (.iconst 1, 1) := by decide +kernel
theorem dX9_hardness_13 : decode cX9_hardness 13 = .ok (.invokevirtual 62, 3) := by decide +kernel
theorem dX9_hardness_16 : decode cX9_hardness 16 = .ok (.bipush 10, 2) := by decide +kernel
theorem dX9_hardness_18 : decode cX9_hardness 18 = .ok (.idiv, 1) := by decide +kernel
theorem dX9_hardness_19 : decode cX9_hardness 19 = .ok (.iadd, 1) := by decide +kernel
theorem dX9_hardness_20 : decode cX9_hardness 20 = .ok (.ireturn, 1) := by decide +kernel
theorem dX9_samplesOf_0 : decode cX9_samplesOf 0 = .ok (.iconst 0, 1) := by decide +kernel
theorem dX9_samplesOf_1 : decode cX9_samplesOf 1 = .ok (.istore_n 2, 1) := by decide +kernel
theorem dX9_samplesOf_2 : decode cX9_samplesOf 2 = .ok (.iconst 0, 1) := by decide +kernel
theorem dX9_samplesOf_3 : decode cX9_samplesOf 3 = .ok (.istore_n 3, 1) := by decide +kernel
theorem dX9_samplesOf_4 : decode cX9_samplesOf 4 = .ok (.iload_n 3, 1) := by decide +kernel
theorem dX9_samplesOf_5 : decode cX9_samplesOf 5 = .ok (.aload_n 0, 1) := by decide +kernel
theorem dX9_samplesOf_6 : decode cX9_samplesOf 6 = .ok (.getfield 7, 3) := by decide +kernel
theorem dX9_samplesOf_9 : decode cX9_samplesOf 9 = .ok (.iconst 1, 1) := by decide +kernel
theorem dX9_samplesOf_10 : decode cX9_samplesOf 10 = .ok (.iaload, 1) := by decide +kernel
theorem dX9_samplesOf_11 : decode cX9_samplesOf 11 = .ok (.if_icmp .ge 27, 3) := by decide +kernel
theorem dX9_samplesOf_14 : decode cX9_samplesOf 14 = .ok (.iload_n 2, 1) := by decide +kernel
theorem dX9_samplesOf_15 : decode cX9_samplesOf 15 = .ok (.aload_n 0, 1) := by decide +kernel
theorem dX9_samplesOf_16 : decode cX9_samplesOf 16 = .ok (.iload_n 3, 1) := by decide +kernel
theorem dX9_samplesOf_17 : decode cX9_samplesOf 17 = .ok (.iconst 0, 1) := by decide +kernel
theorem dX9_samplesOf_18 : decode cX9_samplesOf 18 = .ok (.invokevirtual 31, 3) := by decide +kernel
theorem dX9_samplesOf_21 : decode cX9_samplesOf 21 = .ok (.iload_n 1, 1) := by decide +kernel
theorem dX9_samplesOf_22 : decode cX9_samplesOf 22 = .ok (.if_icmp .ne 7, 3) := by decide +kernel
theorem dX9_samplesOf_25 : decode cX9_samplesOf 25 = .ok (.iconst 1, 1) := by decide +kernel
theorem dX9_samplesOf_26 : decode cX9_samplesOf 26 = .ok (.goto 4, 3) := by decide +kernel
theorem dX9_samplesOf_29 : decode cX9_samplesOf 29 = .ok (.iconst 0, 1) := by decide +kernel
theorem dX9_samplesOf_30 : decode cX9_samplesOf 30 = .ok (.iadd, 1) := by decide +kernel
theorem dX9_samplesOf_31 : decode cX9_samplesOf 31 = .ok (.istore_n 2, 1) := by decide +kernel
theorem dX9_samplesOf_32 : decode cX9_samplesOf 32 = .ok (.iinc 3 1, 3) := by decide +kernel
theorem dX9_samplesOf_35 : decode cX9_samplesOf 35 = .ok (.goto (-31), 3) := by decide +kernel
theorem dX9_samplesOf_38 : decode cX9_samplesOf 38 = .ok (.iload_n 2, 1) := by decide +kernel
theorem dX9_samplesOf_39 : decode cX9_samplesOf 39 = .ok (.ireturn, 1) := by decide +kernel
theorem dX9_told_0 : decode cX9_told 0 = .ok (.iload_n 2, 1) := by decide +kernel
theorem dX9_told_1 : decode cX9_told 1 = .ok (.ifCond .eq 11, 3) := by decide +kernel
theorem dX9_told_4 : decode cX9_told 4 = .ok (.aload_n 0, 1) := by decide +kernel
theorem dX9_told_5 : decode cX9_told 5 = .ok (.iload_n 1, 1) := by decide +kernel
theorem dX9_told_6 : decode cX9_told 6 = .ok (.invokevirtual 65, 3) := by decide +kernel
theorem dX9_told_9 : decode cX9_told 9 = .ok (.goto 9, 3) := by decide +kernel
theorem dX9_told_12 : decode cX9_told 12 = .ok (.aload_n 0, 1) := by decide +kernel
theorem dX9_told_13 : decode cX9_told 13 = .ok (.iload_n 1, 1) := by decide +kernel
theorem dX9_told_14 : decode cX9_told 14 = .ok (.iconst 4, 1) := by decide +kernel
theorem dX9_told_15 : decode cX9_told 15 = .ok (.invokevirtual 31, 3) := by decide +kernel
theorem dX9_told_18 : decode cX9_told 18 = .ok (.ireturn, 1) := by decide +kernel
theorem dX9_mean_0 : decode cX9_mean 0 = .ok (.iconst 0, 1) := by decide +kernel
theorem dX9_mean_1 : decode cX9_mean 1 = .ok (.istore_n 3, 1) := by decide +kernel
theorem dX9_mean_2 : decode cX9_mean 2 = .ok (.iconst 0, 1) := by decide +kernel
theorem dX9_mean_3 : decode cX9_mean 3 = .ok (.istore 4, 2) := by decide +kernel
theorem dX9_mean_5 : decode cX9_mean 5 = .ok (.iconst 0, 1) := by decide +kernel
theorem dX9_mean_6 : decode cX9_mean 6 = .ok (.istore 5, 2) := by decide +kernel
theorem dX9_mean_8 : decode cX9_mean 8 = .ok (.iload 5, 2) := by decide +kernel
theorem dX9_mean_10 : decode cX9_mean 10 = .ok (.aload_n 0, 1) := by decide +kernel
theorem dX9_mean_11 : decode cX9_mean 11 = .ok (.getfield 7, 3) := by decide +kernel
theorem dX9_mean_14 : decode cX9_mean 14 = .ok (.iconst 1, 1) := by decide +kernel
theorem dX9_mean_15 : decode cX9_mean 15 = .ok (.iaload, 1) := by decide +kernel
theorem dX9_mean_16 : decode cX9_mean 16 = .ok (.if_icmp .ge 72, 3) := by decide +kernel
theorem dX9_mean_19 : decode cX9_mean 19 = .ok (.aload_n 0, 1) := by decide +kernel
theorem dX9_mean_20 : decode cX9_mean 20 = .ok (.iload 5, 2) := by decide +kernel
theorem dX9_mean_22 : decode cX9_mean 22 = .ok (.iconst 0, 1) := by decide +kernel
theorem dX9_mean_23 : decode cX9_mean 23 = .ok (.invokevirtual 31, 3) := by decide +kernel
theorem dX9_mean_26 : decode cX9_mean 26 = .ok (.iload_n 1, 1) := by decide +kernel
theorem dX9_mean_27 : decode cX9_mean 27 = .ok (.if_icmp .ne 18, 3) := by decide +kernel
theorem dX9_mean_30 : decode cX9_mean 30 = .ok (.aload_n 0, 1) := by decide +kernel
theorem dX9_mean_31 : decode cX9_mean 31 = .ok (.iload 5, 2) := by decide +kernel
theorem dX9_mean_33 : decode cX9_mean 33 = .ok (.iload_n 2, 1) := by decide +kernel
theorem dX9_mean_34 : decode cX9_mean 34 = .ok (.invokevirtual 68, 3) := by decide +kernel
theorem dX9_mean_37 : decode cX9_mean 37 = .ok (.iconst (-1), 1) := by decide +kernel
theorem dX9_mean_38 : decode cX9_mean 38 = .ok (.if_icmp .eq 7, 3) := by decide +kernel
theorem dX9_mean_41 : decode cX9_mean 41 = .ok (.iconst 1, 1) := by decide +kernel
theorem dX9_mean_42 : decode cX9_mean 42 = .ok (.goto 4, 3) := by decide +kernel
theorem dX9_mean_45 : decode cX9_mean 45 = .ok (.iconst 0, 1) := by decide +kernel
theorem dX9_mean_46 : decode cX9_mean 46 = .ok (.istore 6, 2) := by decide +kernel
theorem dX9_mean_48 : decode cX9_mean 48 = .ok (.iload_n 3, 1) := by decide +kernel
theorem dX9_mean_49 : decode cX9_mean 49 = .ok (.iload 6, 2) := by decide +kernel
theorem dX9_mean_51 : decode cX9_mean 51 = .ok (.ifCond .eq 13, 3) := by decide +kernel
theorem dX9_mean_54 : decode cX9_mean 54 = .ok (.aload_n 0, 1) := by decide +kernel
theorem dX9_mean_55 : decode cX9_mean 55 = .ok (.iload 5, 2) := by decide +kernel
theorem dX9_mean_57 : decode cX9_mean 57 = .ok (.iload_n 2, 1) := by decide +kernel
theorem dX9_mean_58 : decode cX9_mean 58 = .ok (.invokevirtual 68, 3) := by decide +kernel
theorem dX9_mean_61 : decode cX9_mean 61 = .ok (.goto 4, 3) := by decide +kernel
theorem dX9_mean_64 : decode cX9_mean 64 = .ok (.iconst 0, 1) := by decide +kernel
theorem dX9_mean_65 : decode cX9_mean 65 = .ok (.iadd, 1) := by decide +kernel
theorem dX9_mean_66 : decode cX9_mean 66 = .ok (.istore_n 3, 1) := by decide +kernel
theorem dX9_mean_67 : decode cX9_mean 67 = .ok (.iload 4, 2) := by decide +kernel
theorem dX9_mean_69 : decode cX9_mean 69 = .ok (.iload 6, 2) := by decide +kernel
theorem dX9_mean_71 : decode cX9_mean 71 = .ok (.ifCond .eq 7, 3) := by decide +kernel
theorem dX9_mean_74 : decode cX9_mean 74 = .ok (.iconst 1, 1) := by decide +kernel
theorem dX9_mean_75 : decode cX9_mean 75 = .ok (.goto 4, 3) := by decide +kernel
theorem dX9_mean_78 : decode cX9_mean 78 = .ok (.iconst 0, 1) := by decide +kernel
theorem dX9_mean_79 : decode cX9_mean 79 = .ok (.iadd, 1) := by decide +kernel
theorem dX9_mean_80 : decode cX9_mean 80 = .ok (.istore 4, 2) := by decide +kernel
theorem dX9_mean_82 : decode cX9_mean 82 = .ok (.iinc 5 1, 3) := by decide +kernel
theorem dX9_mean_85 : decode cX9_mean 85 = .ok (.goto (-77), 3) := by decide +kernel
theorem dX9_mean_88 : decode cX9_mean 88 = .ok (.iload 4, 2) := by decide +kernel
theorem dX9_mean_90 : decode cX9_mean 90 = .ok (.ifCond .ne 7, 3) := by decide +kernel
theorem dX9_mean_93 : decode cX9_mean 93 = .ok (.iconst (-1), 1) := by decide +kernel
theorem dX9_mean_94 : decode cX9_mean 94 = .ok (.goto 7, 3) := by decide +kernel
theorem dX9_mean_97 : decode cX9_mean 97 = .ok (.iload_n 3, 1) := by decide +kernel
theorem dX9_mean_98 : decode cX9_mean 98 = .ok (.iload 4, 2) := by decide +kernel
theorem dX9_mean_100 : decode cX9_mean 100 = .ok (.idiv, 1) := by decide +kernel
theorem dX9_mean_101 : decode cX9_mean 101 = .ok (.ireturn, 1) := by decide +kernel
theorem dX9_index_0 : decode cX9_index 0 = .ok (.aload_n 0, 1) := by decide +kernel
theorem dX9_index_1 : decode cX9_index 1 = .ok (.iload_n 1, 1) := by decide +kernel
theorem dX9_index_2 : decode cX9_index 2 = .ok (.iconst 1, 1) := by decide +kernel
theorem dX9_index_3 : decode cX9_index 3 = .ok (.invokevirtual 72, 3) := by decide +kernel
theorem dX9_index_6 : decode cX9_index 6 = .ok (.istore_n 2, 1) := by decide +kernel
theorem dX9_index_7 : decode cX9_index 7 = .ok (.aload_n 0, 1) := by decide +kernel
theorem dX9_index_8 : decode cX9_index 8 = .ok (.iload_n 1, 1) := by decide +kernel
theorem dX9_index_9 : decode cX9_index 9 = .ok (.iconst 0, 1) := by decide +kernel
theorem dX9_index_10 : decode cX9_index 10 = .ok (.invokevirtual 72, 3) := by decide +kernel
theorem dX9_index_13 : decode cX9_index 13 = .ok (.istore_n 3, 1) := by decide +kernel
theorem dX9_index_14 : decode cX9_index 14 = .ok (.iload_n 2, 1) := by decide +kernel
theorem dX9_index_15 : decode cX9_index 15 = .ok (.iconst (-1), 1) := by decide +kernel
theorem dX9_index_16 : decode cX9_index 16 = .ok (.if_icmp .eq 8, 3) := by decide +kernel
theorem dX9_index_19 : decode cX9_index 19 = .ok (.iload_n 3, 1) := by decide +kernel
theorem dX9_index_20 : decode cX9_index 20 = .ok (.iconst (-1), 1) := by decide +kernel
theorem dX9_index_21 : decode cX9_index 21 = .ok (.if_icmp .ne 7, 3) := by decide +kernel
theorem dX9_index_24 : decode cX9_index 24 = .ok (.iconst (-1), 1) := by decide +kernel
theorem dX9_index_25 : decode cX9_index 25 = .ok (.goto 30, 3) := by decide +kernel
theorem dX9_index_28 : decode cX9_index 28 = .ok (.sipush 1000, 3) := by decide +kernel
theorem dX9_index_31 : decode cX9_index 31 = .ok (.iload_n 2, 1) := by decide +kernel
theorem dX9_index_32 : decode cX9_index 32 = .ok (.bipush 10, 2) := by decide +kernel
theorem dX9_index_34 : decode cX9_index 34 = .ok (.idiv, 1) := by decide +kernel
theorem dX9_index_35 : decode cX9_index 35 = .ok (.iadd, 1) := by decide +kernel
theorem dX9_index_36 : decode cX9_index 36 = .ok (.iload_n 3, 1) := by decide +kernel
theorem dX9_index_37 : decode cX9_index 37 = .ok (.sipush 450, 3) := by decide +kernel
theorem dX9_index_40 : decode cX9_index 40 = .ok (.isub, 1) := by decide +kernel
theorem dX9_index_41 : decode cX9_index 41 = .ok (.bipush 10, 2) := by decide +kernel
theorem dX9_index_43 : decode cX9_index 43 = .ok (.invokestatic 27, 3) := by decide +kernel
theorem dX9_index_46 : decode cX9_index 46 = .ok (.iadd, 1) := by decide +kernel
theorem dX9_index_47 : decode cX9_index 47 = .ok (.aload_n 0, 1) := by decide +kernel
theorem dX9_index_48 : decode cX9_index 48 = .ok (.getfield 7, 3) := by decide +kernel
theorem dX9_index_51 : decode cX9_index 51 = .ok (.bipush 7, 2) := by decide +kernel
theorem dX9_index_53 : decode cX9_index 53 = .ok (.iaload, 1) := by decide +kernel
theorem dX9_index_54 : decode cX9_index 54 = .ok (.isub, 1) := by decide +kernel
theorem dX9_index_55 : decode cX9_index 55 = .ok (.ireturn, 1) := by decide +kernel
theorem dX9_whyNotSold_0 : decode cX9_whyNotSold 0 = .ok (.iconst 0, 1) := by decide +kernel
theorem dX9_whyNotSold_1 : decode cX9_whyNotSold 1 = .ok (.istore_n 2, 1) := by decide +kernel
theorem dX9_whyNotSold_2 : decode cX9_whyNotSold 2 = .ok (.iconst 0, 1) := by decide +kernel
theorem dX9_whyNotSold_3 : decode cX9_whyNotSold 3 = .ok (.istore_n 3, 1) := by decide +kernel
theorem dX9_whyNotSold_4 : decode cX9_whyNotSold 4 = .ok (.iconst 0, 1) := by decide +kernel
theorem dX9_whyNotSold_5 : decode cX9_whyNotSold 5 = .ok (.istore 4, 2) := by decide +kernel
theorem dX9_whyNotSold_7 : decode cX9_whyNotSold 7 = .ok (.iload 4, 2) := by decide +kernel
theorem dX9_whyNotSold_9 : decode cX9_whyNotSold 9 = .ok (.aload_n 0, 1) := by decide +kernel
theorem dX9_whyNotSold_10 : decode cX9_whyNotSold 10 = .ok (.getfield 7, 3) := by decide +kernel
theorem dX9_whyNotSold_13 : decode cX9_whyNotSold 13 = .ok (.iconst 1, 1) := by decide +kernel
theorem dX9_whyNotSold_14 : decode cX9_whyNotSold 14 = .ok (.iaload, 1) := by decide +kernel
theorem dX9_whyNotSold_15 : decode cX9_whyNotSold 15 = .ok (.if_icmp .ge 68, 3) := by decide +kernel
theorem dX9_whyNotSold_18 : decode cX9_whyNotSold 18 = .ok (.aload_n 0, 1) := by decide +kernel
theorem dX9_whyNotSold_19 : decode cX9_whyNotSold 19 = .ok (.iload 4, 2) := by decide +kernel
theorem dX9_whyNotSold_21 : decode cX9_whyNotSold 21 = .ok (.iconst 0, 1) := by decide +kernel
theorem dX9_whyNotSold_22 : decode cX9_whyNotSold 22 = .ok (.invokevirtual 31, 3) := by decide +kernel
theorem dX9_whyNotSold_25 : decode cX9_whyNotSold 25 = .ok (.iload_n 1, 1) := by decide +kernel
theorem dX9_whyNotSold_26 : decode cX9_whyNotSold 26 = .ok (.if_icmp .ne 17, 3) := by decide +kernel
theorem dX9_whyNotSold_29 : decode cX9_whyNotSold 29 = .ok (.aload_n 0, 1) := by decide +kernel
theorem dX9_whyNotSold_30 : decode cX9_whyNotSold 30 = .ok (.iload 4, 2) := by decide +kernel
theorem dX9_whyNotSold_32 : decode cX9_whyNotSold 32 = .ok (.invokevirtual 65, 3) := by decide +kernel
theorem dX9_whyNotSold_35 : decode cX9_whyNotSold 35 = .ok (.iconst (-1), 1) := by decide +kernel
theorem dX9_whyNotSold_36 : decode cX9_whyNotSold 36 = .ok (.if_icmp .eq 7, 3) := by decide +kernel
theorem dX9_whyNotSold_39 : decode cX9_whyNotSold 39 = .ok (.iconst 1, 1) := by decide +kernel
theorem dX9_whyNotSold_40 : decode cX9_whyNotSold 40 = .ok (.goto 4, 3) := by decide +kernel
theorem dX9_whyNotSold_43 : decode cX9_whyNotSold 43 = .ok (.iconst 0, 1) := by decide +kernel
theorem dX9_whyNotSold_44 : decode cX9_whyNotSold 44 = .ok (.istore 5, 2) := by decide +kernel
theorem dX9_whyNotSold_46 : decode cX9_whyNotSold 46 = .ok (.iload_n 2, 1) := by decide +kernel
theorem dX9_whyNotSold_47 : decode cX9_whyNotSold 47 = .ok (.iload 5, 2) := by decide +kernel
theorem dX9_whyNotSold_49 : decode cX9_whyNotSold 49 = .ok (.ifCond .eq 7, 3) := by decide +kernel
theorem dX9_whyNotSold_52 : decode cX9_whyNotSold 52 = .ok (.iconst 1, 1) := by decide +kernel
theorem dX9_whyNotSold_53 : decode cX9_whyNotSold 53 = .ok (.goto 4, 3) := by decide +kernel
theorem dX9_whyNotSold_56 : decode cX9_whyNotSold 56 = .ok (.iconst 0, 1) := by decide +kernel
theorem dX9_whyNotSold_57 : decode cX9_whyNotSold 57 = .ok (.iadd, 1) := by decide +kernel
theorem dX9_whyNotSold_58 : decode cX9_whyNotSold 58 = .ok (.istore_n 2, 1) := by decide +kernel
theorem dX9_whyNotSold_59 : decode cX9_whyNotSold 59 = .ok (.iload_n 3, 1) := by decide +kernel
theorem dX9_whyNotSold_60 : decode cX9_whyNotSold 60 = .ok (.iload 5, 2) := by decide +kernel
theorem dX9_whyNotSold_62 : decode cX9_whyNotSold 62 = .ok (.ifCond .eq 12, 3) := by decide +kernel
theorem dX9_whyNotSold_65 : decode cX9_whyNotSold 65 = .ok (.aload_n 0, 1) := by decide +kernel
theorem dX9_whyNotSold_66 : decode cX9_whyNotSold 66 = .ok (.iload 4, 2) := by decide +kernel
theorem dX9_whyNotSold_68 : decode cX9_whyNotSold 68 = .ok (.invokevirtual 75, 3) := by decide +kernel
theorem dX9_whyNotSold_71 : decode cX9_whyNotSold 71 = .ok (.goto 4, 3) := by decide +kernel
theorem dX9_whyNotSold_74 : decode cX9_whyNotSold 74 = .ok (.iconst 0, 1) := by decide +kernel
theorem dX9_whyNotSold_75 : decode cX9_whyNotSold 75 = .ok (.ior, 1) := by decide +kernel
theorem dX9_whyNotSold_76 : decode cX9_whyNotSold 76 = .ok (.istore_n 3, 1) := by decide +kernel
theorem dX9_whyNotSold_77 : decode cX9_whyNotSold 77 = .ok (.iinc 4 1, 3) := by decide +kernel
theorem dX9_whyNotSold_80 : decode cX9_whyNotSold 80 = .ok (.goto (-73), 3) := by decide +kernel
theorem dX9_whyNotSold_83 : decode cX9_whyNotSold 83 = .ok (.aload_n 0, 1) := by decide +kernel
theorem dX9_whyNotSold_84 : decode cX9_whyNotSold 84 = .ok (.iload_n 1, 1) := by decide +kernel
theorem dX9_whyNotSold_85 : decode cX9_whyNotSold 85 = .ok (.iconst 2, 1) := by decide +kernel
theorem dX9_whyNotSold_86 : decode cX9_whyNotSold 86 = .ok (.invokevirtual 62, 3) := by decide +kernel
theorem dX9_whyNotSold_89 : decode cX9_whyNotSold 89 = .ok (.iconst (-1), 1) := by decide +kernel
theorem dX9_whyNotSold_90 : decode cX9_whyNotSold 90 = .ok (.if_icmp .eq 6, 3) := by decide +kernel
theorem dX9_whyNotSold_93 : decode cX9_whyNotSold 93 = .ok (.bipush 15, 2) := by decide +kernel
theorem dX9_whyNotSold_95 : decode cX9_whyNotSold 95 = .ok (.ireturn, 1) := by decide +kernel
theorem dX9_whyNotSold_96 : decode cX9_whyNotSold 96 = .ok (.iload_n 2, 1) := by decide +kernel
theorem dX9_whyNotSold_97 : decode cX9_whyNotSold 97 = .ok (.iconst 2, 1) := by decide +kernel
theorem dX9_whyNotSold_98 : decode cX9_whyNotSold 98 = .ok (.if_icmp .ge 6, 3) := by decide +kernel
theorem dX9_whyNotSold_101 : decode cX9_whyNotSold 101 = .ok (.bipush 9, 2) := by decide +kernel
theorem dX9_whyNotSold_103 : decode cX9_whyNotSold 103 = .ok (.ireturn, 1) := by decide +kernel
theorem dX9_whyNotSold_104 : decode cX9_whyNotSold 104 = .ok (.iload_n 3, 1) := by decide +kernel
theorem dX9_whyNotSold_105 : decode cX9_whyNotSold 105 = .ok (.iconst 1, 1) := by decide +kernel
theorem dX9_whyNotSold_106 : decode cX9_whyNotSold 106 = .ok (.if_icmp .eq 13, 3) := by decide +kernel
theorem dX9_whyNotSold_109 : decode cX9_whyNotSold 109 = .ok (.iload_n 3, 1) := by decide +kernel
theorem dX9_whyNotSold_110 : decode cX9_whyNotSold 110 = .ok (.iconst 2, 1) := by decide +kernel
theorem dX9_whyNotSold_111 : decode cX9_whyNotSold 111 = .ok (.if_icmp .eq 8, 3) := by decide +kernel
theorem dX9_whyNotSold_114 : decode cX9_whyNotSold 114 = .ok (.iload_n 3, 1) := by decide +kernel
theorem dX9_whyNotSold_115 : decode cX9_whyNotSold 115 = .ok (.iconst 4, 1) := by decide +kernel
theorem dX9_whyNotSold_116 : decode cX9_whyNotSold 116 = .ok (.if_icmp .ne 6, 3) := by decide +kernel
theorem dX9_whyNotSold_119 : decode cX9_whyNotSold 119 = .ok (.bipush 10, 2) := by decide +kernel
theorem dX9_whyNotSold_121 : decode cX9_whyNotSold 121 = .ok (.ireturn, 1) := by decide +kernel
theorem dX9_whyNotSold_122 : decode cX9_whyNotSold 122 = .ok (.aload_n 0, 1) := by decide +kernel
theorem dX9_whyNotSold_123 : decode cX9_whyNotSold 123 = .ok (.iload_n 1, 1) := by decide +kernel
theorem dX9_whyNotSold_124 : decode cX9_whyNotSold 124 = .ok (.iconst 0, 1) := by decide +kernel
theorem dX9_whyNotSold_125 : decode cX9_whyNotSold 125 = .ok (.invokevirtual 72, 3) := by decide +kernel
theorem dX9_whyNotSold_128 : decode cX9_whyNotSold 128 = .ok (.iconst (-1), 1) := by decide +kernel
theorem dX9_whyNotSold_129 : decode cX9_whyNotSold 129 = .ok (.if_icmp .ne 8, 3) := by decide +kernel
theorem dX9_whyNotSold_132 : decode cX9_whyNotSold 132 = .ok (.bipush 11, 2) := by decide +kernel
theorem dX9_whyNotSold_134 : decode cX9_whyNotSold 134 = .ok (.goto 26, 3) := by decide +kernel
theorem dX9_whyNotSold_137 : decode cX9_whyNotSold 137 = .ok (.aload_n 0, 1) := by decide +kernel
theorem dX9_whyNotSold_138 : decode cX9_whyNotSold 138 = .ok (.iload_n 1, 1) := by decide +kernel
theorem dX9_whyNotSold_139 : decode cX9_whyNotSold 139 = .ok (.invokevirtual 78, 3) := by decide +kernel
theorem dX9_whyNotSold_142 : decode cX9_whyNotSold 142 = .ok (.sipush 980, 3) := by decide +kernel
theorem dX9_whyNotSold_145 : decode cX9_whyNotSold 145 = .ok (.sipush 1020, 3) := by decide +kernel
theorem dX9_whyNotSold_148 : decode cX9_whyNotSold 148 = .ok (.invokestatic 23, 3) := by decide +kernel
theorem dX9_whyNotSold_151 : decode cX9_whyNotSold 151 = .ok (.ifCond .eq 7, 3) := by decide +kernel
theorem dX9_whyNotSold_154 : decode cX9_whyNotSold 154 = .ok (.iconst 0, 1) := by decide +kernel
theorem dX9_whyNotSold_155 : decode cX9_whyNotSold 155 = .ok (.goto 5, 3) := by decide +kernel
theorem dX9_whyNotSold_158 : decode cX9_whyNotSold 158 = .ok (.bipush 12, 2) := by decide +kernel
theorem dX9_whyNotSold_160 : decode cX9_whyNotSold 160 = .ok (.ireturn, 1) := by decide +kernel
theorem dX9_sells_0 : decode cX9_sells 0 = .ok (.aload_n 0, 1) := by decide +kernel
theorem dX9_sells_1 : decode cX9_sells 1 = .ok (.getfield 7, 3) := by decide +kernel
theorem dX9_sells_4 : decode cX9_sells 4 = .ok (.bipush 10, 2) := by decide +kernel
theorem dX9_sells_6 : decode cX9_sells 6 = .ok (.iconst 3, 1) := by decide +kernel
theorem dX9_sells_7 : decode cX9_sells 7 = .ok (.iload_n 1, 1) := by decide +kernel
theorem dX9_sells_8 : decode cX9_sells 8 = .ok (.imul, 1) := by decide +kernel
theorem dX9_sells_9 : decode cX9_sells 9 = .ok (.iadd, 1) := by decide +kernel
theorem dX9_sells_10 : decode cX9_sells 10 = .ok (.iconst 2, 1) := by decide +kernel
theorem dX9_sells_11 : decode cX9_sells 11 = .ok (.iadd, 1) := by decide +kernel
theorem dX9_sells_12 : decode cX9_sells 12 = .ok (.aload_n 0, 1) := by decide +kernel
theorem dX9_sells_13 : decode cX9_sells 13 = .ok (.iload_n 1, 1) := by decide +kernel
theorem dX9_sells_14 : decode cX9_sells 14 = .ok (.iconst 1, 1) := by decide +kernel
theorem dX9_sells_15 : decode cX9_sells 15 = .ok (.invokevirtual 72, 3) := by decide +kernel
theorem dX9_sells_18 : decode cX9_sells 18 = .ok (.bipush 20, 2) := by decide +kernel
theorem dX9_sells_20 : decode cX9_sells 20 = .ok (.idiv, 1) := by decide +kernel
theorem dX9_sells_21 : decode cX9_sells 21 = .ok (.iastore, 1) := by decide +kernel
theorem dX9_sells_22 : decode cX9_sells 22 = .ok (.aload_n 0, 1) := by decide +kernel
theorem dX9_sells_23 : decode cX9_sells 23 = .ok (.iload_n 1, 1) := by decide +kernel
theorem dX9_sells_24 : decode cX9_sells 24 = .ok (.iconst 2, 1) := by decide +kernel
theorem dX9_sells_25 : decode cX9_sells 25 = .ok (.invokevirtual 62, 3) := by decide +kernel
theorem dX9_sells_28 : decode cX9_sells 28 = .ok (.ireturn, 1) := by decide +kernel
theorem dX9_takes_0 : decode cX9_takes 0 = .ok (.aload_n 0, 1) := by decide +kernel
theorem dX9_takes_1 : decode cX9_takes 1 = .ok (.getfield 7, 3) := by decide +kernel
theorem dX9_takes_4 : decode cX9_takes 4 = .ok (.iconst 1, 1) := by decide +kernel
theorem dX9_takes_5 : decode cX9_takes 5 = .ok (.iaload, 1) := by decide +kernel
theorem dX9_takes_6 : decode cX9_takes 6 = .ok (.istore_n 2, 1) := by decide +kernel
theorem dX9_takes_7 : decode cX9_takes 7 = .ok (.aload_n 0, 1) := by decide +kernel
theorem dX9_takes_8 : decode cX9_takes 8 = .ok (.iload_n 2, 1) := by decide +kernel
theorem dX9_takes_9 : decode cX9_takes 9 = .ok (.iconst 0, 1) := by decide +kernel
theorem dX9_takes_10 : decode cX9_takes 10 = .ok (.iload_n 1, 1) := by decide +kernel
theorem dX9_takes_11 : decode cX9_takes 11 = .ok (.invokevirtual 41, 3) := by decide +kernel
theorem dX9_takes_14 : decode cX9_takes 14 = .ok (.aload_n 0, 1) := by decide +kernel
theorem dX9_takes_15 : decode cX9_takes 15 = .ok (.iload_n 2, 1) := by decide +kernel
theorem dX9_takes_16 : decode cX9_takes 16 = .ok (.iconst 1, 1) := by decide +kernel
theorem dX9_takes_17 : decode cX9_takes 17 = .ok (.aload_n 0, 1) := by decide +kernel
theorem dX9_takes_18 : decode cX9_takes 18 = .ok (.iload_n 1, 1) := by decide +kernel
theorem dX9_takes_19 : decode cX9_takes 19 = .ok (.invokevirtual 81, 3) := by decide +kernel
theorem dX9_takes_22 : decode cX9_takes 22 = .ok (.invokevirtual 41, 3) := by decide +kernel
theorem dX9_takes_25 : decode cX9_takes 25 = .ok (.aload_n 0, 1) := by decide +kernel
theorem dX9_takes_26 : decode cX9_takes 26 = .ok (.iload_n 2, 1) := by decide +kernel
theorem dX9_takes_27 : decode cX9_takes 27 = .ok (.iconst 2, 1) := by decide +kernel
theorem dX9_takes_28 : decode cX9_takes 28 = .ok (.sipush 200, 3) := by decide +kernel
theorem dX9_takes_31 : decode cX9_takes 31 = .ok (.invokevirtual 41, 3) := by decide +kernel
theorem dX9_takes_34 : decode cX9_takes 34 = .ok (.aload_n 0, 1) := by decide +kernel
theorem dX9_takes_35 : decode cX9_takes 35 = .ok (.iload_n 2, 1) := by decide +kernel
theorem dX9_takes_36 : decode cX9_takes 36 = .ok (.iconst 3, 1) := by decide +kernel
theorem dX9_takes_37 : decode cX9_takes 37 = .ok (.iconst (-1), 1) := by decide +kernel
theorem dX9_takes_38 : decode cX9_takes 38 = .ok (.invokevirtual 41, 3) := by decide +kernel
theorem dX9_takes_41 : decode cX9_takes 41 = .ok (.aload_n 0, 1) := by decide +kernel
theorem dX9_takes_42 : decode cX9_takes 42 = .ok (.iload_n 2, 1) := by decide +kernel
theorem dX9_takes_43 : decode cX9_takes 43 = .ok (.iconst 4, 1) := by decide +kernel
theorem dX9_takes_44 : decode cX9_takes 44 = .ok (.iconst (-1), 1) := by decide +kernel
theorem dX9_takes_45 : decode cX9_takes 45 = .ok (.invokevirtual 41, 3) := by decide +kernel
theorem dX9_takes_48 : decode cX9_takes 48 = .ok (.aload_n 0, 1) := by decide +kernel
theorem dX9_takes_49 : decode cX9_takes 49 = .ok (.iload_n 2, 1) := by decide +kernel
theorem dX9_takes_50 : decode cX9_takes 50 = .ok (.iconst 5, 1) := by decide +kernel
theorem dX9_takes_51 : decode cX9_takes 51 = .ok (.iconst 0, 1) := by decide +kernel
theorem dX9_takes_52 : decode cX9_takes 52 = .ok (.invokevirtual 41, 3) := by decide +kernel
theorem dX9_takes_55 : decode cX9_takes 55 = .ok (.aload_n 0, 1) := by decide +kernel
theorem dX9_takes_56 : decode cX9_takes 56 = .ok (.getfield 7, 3) := by decide +kernel
theorem dX9_takes_59 : decode cX9_takes 59 = .ok (.iconst 1, 1) := by decide +kernel
theorem dX9_takes_60 : decode cX9_takes 60 = .ok (.dup2, 1) := by decide +kernel
theorem dX9_takes_61 : decode cX9_takes 61 = .ok (.iaload, 1) := by decide +kernel
theorem dX9_takes_62 : decode cX9_takes 62 = .ok (.iconst 1, 1) := by decide +kernel
theorem dX9_takes_63 : decode cX9_takes 63 = .ok (.iadd, 1) := by decide +kernel
theorem dX9_takes_64 : decode cX9_takes 64 = .ok (.iastore, 1) := by decide +kernel
theorem dX9_takes_65 : decode cX9_takes 65 = .ok (.iload_n 2, 1) := by decide +kernel
theorem dX9_takes_66 : decode cX9_takes 66 = .ok (.ireturn, 1) := by decide +kernel
theorem dX9_copies_0 : decode cX9_copies 0 = .ok (.iconst 0, 1) := by decide +kernel
theorem dX9_copies_1 : decode cX9_copies 1 = .ok (.istore_n 3, 1) := by decide +kernel
theorem dX9_copies_2 : decode cX9_copies 2 = .ok (.iload_n 3, 1) := by decide +kernel
theorem dX9_copies_3 : decode cX9_copies 3 = .ok (.sipush 376, 3) := by decide +kernel
theorem dX9_copies_6 : decode cX9_copies 6 = .ok (.if_icmp .ge 33, 3) := by decide +kernel
theorem dX9_copies_9 : decode cX9_copies 9 = .ok (.aload_n 0, 1) := by decide +kernel
theorem dX9_copies_10 : decode cX9_copies 10 = .ok (.getfield 7, 3) := by decide +kernel
theorem dX9_copies_13 : decode cX9_copies 13 = .ok (.sipush 376, 3) := by decide +kernel
theorem dX9_copies_16 : decode cX9_copies 16 = .ok (.iload_n 2, 1) := by decide +kernel
theorem dX9_copies_17 : decode cX9_copies 17 = .ok (.imul, 1) := by decide +kernel
theorem dX9_copies_18 : decode cX9_copies 18 = .ok (.iload_n 3, 1) := by decide +kernel
theorem dX9_copies_19 : decode cX9_copies 19 = .ok (.iadd, 1) := by decide +kernel
theorem dX9_copies_20 : decode cX9_copies 20 = .ok (.aload_n 0, 1) := by decide +kernel
theorem dX9_copies_21 : decode cX9_copies 21 = .ok (.getfield 7, 3) := by decide +kernel
theorem dX9_copies_24 : decode cX9_copies 24 = .ok (.sipush 376, 3) := by decide +kernel
theorem dX9_copies_27 : decode cX9_copies 27 = .ok (.iload_n 1, 1) := by decide +kernel
theorem dX9_copies_28 : decode cX9_copies 28 = .ok (.imul, 1) := by decide +kernel
theorem dX9_copies_29 : decode cX9_copies 29 = .ok (.iload_n 3, 1) := by decide +kernel
theorem dX9_copies_30 : decode cX9_copies 30 = .ok (.iadd, 1) := by decide +kernel
theorem dX9_copies_31 : decode cX9_copies 31 = .ok (.iaload, 1) := by decide +kernel
theorem dX9_copies_32 : decode cX9_copies 32 = .ok (.iastore, 1) := by decide +kernel
theorem dX9_copies_33 : decode cX9_copies 33 = .ok (.iinc 3 1, 3) := by decide +kernel
theorem dX9_copies_36 : decode cX9_copies 36 = .ok (.goto (-34), 3) := by decide +kernel
theorem dX9_copies_39 : decode cX9_copies 39 = .ok (.return_, 1) := by decide +kernel
theorem dX9_save_0 : decode cX9_save 0 = .ok (.iconst 1, 1) := by decide +kernel
theorem dX9_save_1 : decode cX9_save 1 = .ok (.istore_n 1, 1) := by decide +kernel
theorem dX9_save_2 : decode cX9_save 2 = .ok (.iload_n 1, 1) := by decide +kernel
theorem dX9_save_3 : decode cX9_save 3 = .ok (.bipush 6, 2) := by decide +kernel
theorem dX9_save_5 : decode cX9_save 5 = .ok (.if_icmp .ge 26, 3) := by decide +kernel
theorem dX9_save_8 : decode cX9_save 8 = .ok (.aload_n 0, 1) := by decide +kernel
theorem dX9_save_9 : decode cX9_save 9 = .ok (.getfield 84, 3) := by decide +kernel
theorem dX9_save_12 : decode cX9_save 12 = .ok (.bipush 6, 2) := by decide +kernel
theorem dX9_save_14 : decode cX9_save 14 = .ok (.if_icmp .ne 17, 3) := by decide +kernel
theorem dX9_save_17 : decode cX9_save 17 = .ok (.aload_n 0, 1) := by decide +kernel
theorem dX9_save_18 : decode cX9_save 18 = .ok (.iload_n 1, 1) := by decide +kernel
theorem dX9_save_19 : decode cX9_save 19 = .ok (.iconst 1, 1) := by decide +kernel
theorem dX9_save_20 : decode cX9_save 20 = .ok (.iadd, 1) := by decide +kernel
theorem dX9_save_21 : decode cX9_save 21 = .ok (.iload_n 1, 1) := by decide +kernel
theorem dX9_save_22 : decode cX9_save 22 = .ok (.invokevirtual 87, 3) := by decide +kernel
theorem dX9_save_25 : decode cX9_save 25 = .ok (.iinc 1 1, 3) := by decide +kernel
theorem dX9_save_28 : decode cX9_save 28 = .ok (.goto (-26), 3) := by decide +kernel
theorem dX9_save_31 : decode cX9_save 31 = .ok (.aload_n 0, 1) := by decide +kernel
theorem dX9_save_32 : decode cX9_save 32 = .ok (.dup, 1) := by decide +kernel
theorem dX9_save_33 : decode cX9_save 33 = .ok (.getfield 84, 3) := by decide +kernel
theorem dX9_save_36 : decode cX9_save 36 = .ok (.aload_n 0, 1) := by decide +kernel
theorem dX9_save_37 : decode cX9_save 37 = .ok (.getfield 84, 3) := by decide +kernel
theorem dX9_save_40 : decode cX9_save 40 = .ok (.bipush 6, 2) := by decide +kernel
theorem dX9_save_42 : decode cX9_save 42 = .ok (.if_icmp .ge 7, 3) := by decide +kernel
theorem dX9_save_45 : decode cX9_save 45 = .ok (.iconst 1, 1) := by decide +kernel
theorem dX9_save_46 : decode cX9_save 46 = .ok (.goto 4, 3) := by decide +kernel
theorem dX9_save_49 : decode cX9_save 49 = .ok (.iconst 0, 1) := by decide +kernel
theorem dX9_save_50 : decode cX9_save 50 = .ok (.iadd, 1) := by decide +kernel
theorem dX9_save_51 : decode cX9_save 51 = .ok (.putfield 84, 3) := by decide +kernel
theorem dX9_save_54 : decode cX9_save 54 = .ok (.aload_n 0, 1) := by decide +kernel
theorem dX9_save_55 : decode cX9_save 55 = .ok (.iconst 0, 1) := by decide +kernel
theorem dX9_save_56 : decode cX9_save 56 = .ok (.aload_n 0, 1) := by decide +kernel
theorem dX9_save_57 : decode cX9_save 57 = .ok (.getfield 84, 3) := by decide +kernel
theorem dX9_save_60 : decode cX9_save 60 = .ok (.invokevirtual 87, 3) := by decide +kernel
theorem dX9_save_63 : decode cX9_save 63 = .ok (.return_, 1) := by decide +kernel
theorem dX9_changed_0 : decode cX9_changed 0 = .ok (.aload_n 0, 1) := by decide +kernel
theorem dX9_changed_1 : decode cX9_changed 1 = .ok (.invokevirtual 91, 3) := by decide +kernel
theorem dX9_changed_4 : decode cX9_changed 4 = .ok (.aload_n 0, 1) := by decide +kernel
theorem dX9_changed_5 : decode cX9_changed 5 = .ok (.getfield 7, 3) := by decide +kernel
theorem dX9_changed_8 : decode cX9_changed 8 = .ok (.iload_n 1, 1) := by decide +kernel
theorem dX9_changed_9 : decode cX9_changed 9 = .ok (.iaload, 1) := by decide +kernel
theorem dX9_changed_10 : decode cX9_changed 10 = .ok (.istore_n 3, 1) := by decide +kernel
theorem dX9_changed_11 : decode cX9_changed 11 = .ok (.aload_n 0, 1) := by decide +kernel
theorem dX9_changed_12 : decode cX9_changed 12 = .ok (.getfield 7, 3) := by decide +kernel
theorem dX9_changed_15 : decode cX9_changed 15 = .ok (.iload_n 1, 1) := by decide +kernel
theorem dX9_changed_16 : decode cX9_changed 16 = .ok (.iload_n 2, 1) := by decide +kernel
theorem dX9_changed_17 : decode cX9_changed 17 = .ok (.iastore, 1) := by decide +kernel
theorem dX9_changed_18 : decode cX9_changed 18 = .ok (.iload_n 3, 1) := by decide +kernel
theorem dX9_changed_19 : decode cX9_changed 19 = .ok (.ireturn, 1) := by decide +kernel
theorem dX9_drum_0 : decode cX9_drum 0 = .ok (.aload_n 0, 1) := by decide +kernel
theorem dX9_drum_1 : decode cX9_drum 1 = .ok (.iload_n 1, 1) := by decide +kernel
theorem dX9_drum_2 : decode cX9_drum 2 = .ok (.bipush 20, 2) := by decide +kernel
theorem dX9_drum_4 : decode cX9_drum 4 = .ok (.sipush 300, 3) := by decide +kernel
theorem dX9_drum_7 : decode cX9_drum 7 = .ok (.invokestatic 23, 3) := by decide +kernel
theorem dX9_drum_10 : decode cX9_drum 10 = .ok (.ifCond .ne 7, 3) := by decide +kernel
theorem dX9_drum_13 : decode cX9_drum 13 = .ok (.iconst 1, 1) := by decide +kernel
theorem dX9_drum_14 : decode cX9_drum 14 = .ok (.goto 19, 3) := by decide +kernel
theorem dX9_drum_17 : decode cX9_drum 17 = .ok (.aload_n 0, 1) := by decide +kernel
theorem dX9_drum_18 : decode cX9_drum 18 = .ok (.getfield 7, 3) := by decide +kernel
theorem dX9_drum_21 : decode cX9_drum 21 = .ok (.iconst 0, 1) := by decide +kernel
theorem dX9_drum_22 : decode cX9_drum 22 = .ok (.iaload, 1) := by decide +kernel
theorem dX9_drum_23 : decode cX9_drum 23 = .ok (.bipush 6, 2) := by decide +kernel
theorem dX9_drum_25 : decode cX9_drum 25 = .ok (.if_icmp .ne 7, 3) := by decide +kernel
theorem dX9_drum_28 : decode cX9_drum 28 = .ok (.iconst 2, 1) := by decide +kernel
theorem dX9_drum_29 : decode cX9_drum 29 = .ok (.goto 4, 3) := by decide +kernel
theorem dX9_drum_32 : decode cX9_drum 32 = .ok (.iconst 0, 1) := by decide +kernel
theorem dX9_drum_33 : decode cX9_drum 33 = .ok (.invokevirtual 94, 3) := by decide +kernel
theorem dX9_drum_36 : decode cX9_drum 36 = .ok (.ifCond .ne 5, 3) := by decide +kernel
theorem dX9_drum_39 : decode cX9_drum 39 = .ok (.iconst 0, 1) := by decide +kernel
theorem dX9_drum_40 : decode cX9_drum 40 = .ok (.ireturn, 1) := by decide +kernel
theorem dX9_drum_41 : decode cX9_drum 41 = .ok (.aload_n 0, 1) := by decide +kernel
theorem dX9_drum_42 : decode cX9_drum 42 = .ok (.invokevirtual 91, 3) := by decide +kernel
theorem dX9_drum_45 : decode cX9_drum 45 = .ok (.bipush 10, 2) := by decide +kernel
theorem dX9_drum_47 : decode cX9_drum 47 = .ok (.iconst 3, 1) := by decide +kernel
theorem dX9_drum_48 : decode cX9_drum 48 = .ok (.aload_n 0, 1) := by decide +kernel
theorem dX9_drum_49 : decode cX9_drum 49 = .ok (.getfield 7, 3) := by decide +kernel
theorem dX9_drum_52 : decode cX9_drum 52 = .ok (.iconst 0, 1) := by decide +kernel
theorem dX9_drum_53 : decode cX9_drum 53 = .ok (.iaload, 1) := by decide +kernel
theorem dX9_drum_54 : decode cX9_drum 54 = .ok (.imul, 1) := by decide +kernel
theorem dX9_drum_55 : decode cX9_drum 55 = .ok (.iadd, 1) := by decide +kernel
theorem dX9_drum_56 : decode cX9_drum 56 = .ok (.istore_n 2, 1) := by decide +kernel
theorem dX9_drum_57 : decode cX9_drum 57 = .ok (.aload_n 0, 1) := by decide +kernel
theorem dX9_drum_58 : decode cX9_drum 58 = .ok (.getfield 7, 3) := by decide +kernel
theorem dX9_drum_61 : decode cX9_drum 61 = .ok (.iload_n 2, 1) := by decide +kernel
theorem dX9_drum_62 : decode cX9_drum 62 = .ok (.iconst 0, 1) := by decide +kernel
theorem dX9_drum_63 : decode cX9_drum 63 = .ok (.iadd, 1) := by decide +kernel
theorem dX9_drum_64 : decode cX9_drum 64 = .ok (.iload_n 1, 1) := by decide +kernel
theorem dX9_drum_65 : decode cX9_drum 65 = .ok (.iastore, 1) := by decide +kernel
theorem dX9_drum_66 : decode cX9_drum 66 = .ok (.aload_n 0, 1) := by decide +kernel
theorem dX9_drum_67 : decode cX9_drum 67 = .ok (.getfield 7, 3) := by decide +kernel
theorem dX9_drum_70 : decode cX9_drum 70 = .ok (.iload_n 2, 1) := by decide +kernel
theorem dX9_drum_71 : decode cX9_drum 71 = .ok (.iconst 1, 1) := by decide +kernel
theorem dX9_drum_72 : decode cX9_drum 72 = .ok (.iadd, 1) := by decide +kernel
theorem dX9_drum_73 : decode cX9_drum 73 = .ok (.iconst 0, 1) := by decide +kernel
theorem dX9_drum_74 : decode cX9_drum 74 = .ok (.iastore, 1) := by decide +kernel
theorem dX9_drum_75 : decode cX9_drum 75 = .ok (.aload_n 0, 1) := by decide +kernel
theorem dX9_drum_76 : decode cX9_drum 76 = .ok (.getfield 7, 3) := by decide +kernel
theorem dX9_drum_79 : decode cX9_drum 79 = .ok (.iload_n 2, 1) := by decide +kernel
theorem dX9_drum_80 : decode cX9_drum 80 = .ok (.iconst 2, 1) := by decide +kernel
theorem dX9_drum_81 : decode cX9_drum 81 = .ok (.iadd, 1) := by decide +kernel
theorem dX9_drum_82 : decode cX9_drum 82 = .ok (.iconst (-1), 1) := by decide +kernel
theorem dX9_drum_83 : decode cX9_drum 83 = .ok (.iastore, 1) := by decide +kernel
theorem dX9_drum_84 : decode cX9_drum 84 = .ok (.aload_n 0, 1) := by decide +kernel
theorem dX9_drum_85 : decode cX9_drum 85 = .ok (.getfield 7, 3) := by decide +kernel
theorem dX9_drum_88 : decode cX9_drum 88 = .ok (.iconst 0, 1) := by decide +kernel
theorem dX9_drum_89 : decode cX9_drum 89 = .ok (.dup2, 1) := by decide +kernel
theorem dX9_drum_90 : decode cX9_drum 90 = .ok (.iaload, 1) := by decide +kernel
theorem dX9_drum_91 : decode cX9_drum 91 = .ok (.iconst 1, 1) := by decide +kernel
theorem dX9_drum_92 : decode cX9_drum 92 = .ok (.iadd, 1) := by decide +kernel
theorem dX9_drum_93 : decode cX9_drum 93 = .ok (.iastore, 1) := by decide +kernel
theorem dX9_drum_94 : decode cX9_drum 94 = .ok (.aload_n 0, 1) := by decide +kernel
theorem dX9_drum_95 : decode cX9_drum 95 = .ok (.getfield 7, 3) := by decide +kernel
theorem dX9_drum_98 : decode cX9_drum 98 = .ok (.iconst 0, 1) := by decide +kernel
theorem dX9_drum_99 : decode cX9_drum 99 = .ok (.iaload, 1) := by decide +kernel
theorem dX9_drum_100 : decode cX9_drum 100 = .ok (.iconst 1, 1) := by decide +kernel
theorem dX9_drum_101 : decode cX9_drum 101 = .ok (.isub, 1) := by decide +kernel
theorem dX9_drum_102 : decode cX9_drum 102 = .ok (.ireturn, 1) := by decide +kernel
theorem dX9_age_0 : decode cX9_age 0 = .ok (.aload_n 0, 1) := by decide +kernel
theorem dX9_age_1 : decode cX9_age 1 = .ok (.iload_n 1, 1) := by decide +kernel
theorem dX9_age_2 : decode cX9_age 2 = .ok (.iconst 1, 1) := by decide +kernel
theorem dX9_age_3 : decode cX9_age 3 = .ok (.bipush 99, 2) := by decide +kernel
theorem dX9_age_5 : decode cX9_age 5 = .ok (.invokestatic 23, 3) := by decide +kernel
theorem dX9_age_8 : decode cX9_age 8 = .ok (.ifCond .eq 7, 3) := by decide +kernel
theorem dX9_age_11 : decode cX9_age 11 = .ok (.iconst 0, 1) := by decide +kernel
theorem dX9_age_12 : decode cX9_age 12 = .ok (.goto 4, 3) := by decide +kernel
theorem dX9_age_15 : decode cX9_age 15 = .ok (.iconst 1, 1) := by decide +kernel
theorem dX9_age_16 : decode cX9_age 16 = .ok (.invokevirtual 94, 3) := by decide +kernel
theorem dX9_age_19 : decode cX9_age 19 = .ok (.ifCond .ne 5, 3) := by decide +kernel
theorem dX9_age_22 : decode cX9_age 22 = .ok (.iconst 0, 1) := by decide +kernel
theorem dX9_age_23 : decode cX9_age 23 = .ok (.ireturn, 1) := by decide +kernel
theorem dX9_age_24 : decode cX9_age 24 = .ok (.aload_n 0, 1) := by decide +kernel
theorem dX9_age_25 : decode cX9_age 25 = .ok (.invokevirtual 91, 3) := by decide +kernel
theorem dX9_age_28 : decode cX9_age 28 = .ok (.iconst (-1), 1) := by decide +kernel
theorem dX9_age_29 : decode cX9_age 29 = .ok (.istore_n 2, 1) := by decide +kernel
theorem dX9_age_30 : decode cX9_age 30 = .ok (.iconst 0, 1) := by decide +kernel
theorem dX9_age_31 : decode cX9_age 31 = .ok (.istore_n 3, 1) := by decide +kernel
theorem dX9_age_32 : decode cX9_age 32 = .ok (.iload_n 3, 1) := by decide +kernel
theorem dX9_age_33 : decode cX9_age 33 = .ok (.aload_n 0, 1) := by decide +kernel
theorem dX9_age_34 : decode cX9_age 34 = .ok (.getfield 7, 3) := by decide +kernel
theorem dX9_age_37 : decode cX9_age 37 = .ok (.iconst 0, 1) := by decide +kernel
theorem dX9_age_38 : decode cX9_age 38 = .ok (.iaload, 1) := by decide +kernel
theorem dX9_age_39 : decode cX9_age 39 = .ok (.if_icmp .ge 69, 3) := by decide +kernel
theorem dX9_age_42 : decode cX9_age 42 = .ok (.aload_n 0, 1) := by decide +kernel
theorem dX9_age_43 : decode cX9_age 43 = .ok (.iload_n 3, 1) := by decide +kernel
theorem dX9_age_44 : decode cX9_age 44 = .ok (.iconst 1, 1) := by decide +kernel
theorem dX9_age_45 : decode cX9_age 45 = .ok (.invokevirtual 62, 3) := by decide +kernel
theorem dX9_age_48 : decode cX9_age 48 = .ok (.iload_n 1, 1) := by decide +kernel
theorem dX9_age_49 : decode cX9_age 49 = .ok (.iadd, 1) := by decide +kernel
theorem dX9_age_50 : decode cX9_age 50 = .ok (.istore 4, 2) := by decide +kernel
theorem dX9_age_52 : decode cX9_age 52 = .ok (.aload_n 0, 1) := by decide +kernel
theorem dX9_age_53 : decode cX9_age 53 = .ok (.getfield 7, 3) := by decide +kernel
theorem dX9_age_56 : decode cX9_age 56 = .ok (.bipush 10, 2) := by decide +kernel
theorem dX9_age_58 : decode cX9_age 58 = .ok (.iconst 3, 1) := by decide +kernel
theorem dX9_age_59 : decode cX9_age 59 = .ok (.iload_n 3, 1) := by decide +kernel
theorem dX9_age_60 : decode cX9_age 60 = .ok (.imul, 1) := by decide +kernel
theorem dX9_age_61 : decode cX9_age 61 = .ok (.iadd, 1) := by decide +kernel
theorem dX9_age_62 : decode cX9_age 62 = .ok (.iconst 1, 1) := by decide +kernel
theorem dX9_age_63 : decode cX9_age 63 = .ok (.iadd, 1) := by decide +kernel
theorem dX9_age_64 : decode cX9_age 64 = .ok (.iload 4, 2) := by decide +kernel
theorem dX9_age_66 : decode cX9_age 66 = .ok (.sipush 999, 3) := by decide +kernel
theorem dX9_age_69 : decode cX9_age 69 = .ok (.if_icmp .le 9, 3) := by decide +kernel
theorem dX9_age_72 : decode cX9_age 72 = .ok (.sipush 999, 3) := by decide +kernel
theorem dX9_age_75 : decode cX9_age 75 = .ok (.goto 5, 3) := by decide +kernel
theorem dX9_age_78 : decode cX9_age 78 = .ok (.iload 4, 2) := by decide +kernel
theorem dX9_age_80 : decode cX9_age 80 = .ok (.iastore, 1) := by decide +kernel
theorem dX9_age_81 : decode cX9_age 81 = .ok (.aload_n 0, 1) := by decide +kernel
theorem dX9_age_82 : decode cX9_age 82 = .ok (.iload_n 3, 1) := by decide +kernel
theorem dX9_age_83 : decode cX9_age 83 = .ok (.iconst 1, 1) := by decide +kernel
theorem dX9_age_84 : decode cX9_age 84 = .ok (.invokevirtual 62, 3) := by decide +kernel
theorem dX9_age_87 : decode cX9_age 87 = .ok (.iload_n 2, 1) := by decide +kernel
theorem dX9_age_88 : decode cX9_age 88 = .ok (.if_icmp .le 12, 3) := by decide +kernel
theorem dX9_age_91 : decode cX9_age 91 = .ok (.aload_n 0, 1) := by decide +kernel
theorem dX9_age_92 : decode cX9_age 92 = .ok (.iload_n 3, 1) := by decide +kernel
theorem dX9_age_93 : decode cX9_age 93 = .ok (.iconst 1, 1) := by decide +kernel
theorem dX9_age_94 : decode cX9_age 94 = .ok (.invokevirtual 62, 3) := by decide +kernel
theorem dX9_age_97 : decode cX9_age 97 = .ok (.goto 4, 3) := by decide +kernel
theorem dX9_age_100 : decode cX9_age 100 = .ok (.iload_n 2, 1) := by decide +kernel
theorem dX9_age_101 : decode cX9_age 101 = .ok (.istore_n 2, 1) := by decide +kernel
theorem dX9_age_102 : decode cX9_age 102 = .ok (.iinc 3 1, 3) := by decide +kernel
theorem dX9_age_105 : decode cX9_age 105 = .ok (.goto (-73), 3) := by decide +kernel
theorem dX9_age_108 : decode cX9_age 108 = .ok (.iload_n 2, 1) := by decide +kernel
theorem dX9_age_109 : decode cX9_age 109 = .ok (.ireturn, 1) := by decide +kernel
theorem dX9_sample_0 : decode cX9_sample 0 = .ok (.aload_n 0, 1) := by decide +kernel
theorem dX9_sample_1 : decode cX9_sample 1 = .ok (.aload_n 0, 1) := by decide +kernel
theorem dX9_sample_2 : decode cX9_sample 2 = .ok (.iload_n 1, 1) := by decide +kernel
theorem dX9_sample_3 : decode cX9_sample 3 = .ok (.invokevirtual 98, 3) := by decide +kernel
theorem dX9_sample_6 : decode cX9_sample 6 = .ok (.ifCond .ne 7, 3) := by decide +kernel
theorem dX9_sample_9 : decode cX9_sample 9 = .ok (.iconst 1, 1) := by decide +kernel
theorem dX9_sample_10 : decode cX9_sample 10 = .ok (.goto 19, 3) := by decide +kernel
theorem dX9_sample_13 : decode cX9_sample 13 = .ok (.aload_n 0, 1) := by decide +kernel
theorem dX9_sample_14 : decode cX9_sample 14 = .ok (.getfield 7, 3) := by decide +kernel
theorem dX9_sample_17 : decode cX9_sample 17 = .ok (.iconst 1, 1) := by decide +kernel
theorem dX9_sample_18 : decode cX9_sample 18 = .ok (.iaload, 1) := by decide +kernel
theorem dX9_sample_19 : decode cX9_sample 19 = .ok (.bipush 8, 2) := by decide +kernel
theorem dX9_sample_21 : decode cX9_sample 21 = .ok (.if_icmp .ne 7, 3) := by decide +kernel
theorem dX9_sample_24 : decode cX9_sample 24 = .ok (.iconst 2, 1) := by decide +kernel
theorem dX9_sample_25 : decode cX9_sample 25 = .ok (.goto 4, 3) := by decide +kernel
theorem dX9_sample_28 : decode cX9_sample 28 = .ok (.iconst 0, 1) := by decide +kernel
theorem dX9_sample_29 : decode cX9_sample 29 = .ok (.invokevirtual 94, 3) := by decide +kernel
theorem dX9_sample_32 : decode cX9_sample 32 = .ok (.ifCond .ne 5, 3) := by decide +kernel
theorem dX9_sample_35 : decode cX9_sample 35 = .ok (.iconst 0, 1) := by decide +kernel
theorem dX9_sample_36 : decode cX9_sample 36 = .ok (.ireturn, 1) := by decide +kernel
theorem dX9_sample_37 : decode cX9_sample 37 = .ok (.aload_n 0, 1) := by decide +kernel
theorem dX9_sample_38 : decode cX9_sample 38 = .ok (.invokevirtual 91, 3) := by decide +kernel
theorem dX9_sample_41 : decode cX9_sample 41 = .ok (.aload_n 0, 1) := by decide +kernel
theorem dX9_sample_42 : decode cX9_sample 42 = .ok (.iload_n 1, 1) := by decide +kernel
theorem dX9_sample_43 : decode cX9_sample 43 = .ok (.invokevirtual 101, 3) := by decide +kernel
theorem dX9_sample_46 : decode cX9_sample 46 = .ok (.ireturn, 1) := by decide +kernel
theorem dX9_toss_0 : decode cX9_toss 0 = .ok (.aload_n 0, 1) := by decide +kernel
theorem dX9_toss_1 : decode cX9_toss 1 = .ok (.aload_n 0, 1) := by decide +kernel
theorem dX9_toss_2 : decode cX9_toss 2 = .ok (.iload_n 1, 1) := by decide +kernel
theorem dX9_toss_3 : decode cX9_toss 3 = .ok (.invokevirtual 104, 3) := by decide +kernel
theorem dX9_toss_6 : decode cX9_toss 6 = .ok (.ifCond .eq 7, 3) := by decide +kernel
theorem dX9_toss_9 : decode cX9_toss 9 = .ok (.iconst 0, 1) := by decide +kernel
theorem dX9_toss_10 : decode cX9_toss 10 = .ok (.goto 4, 3) := by decide +kernel
theorem dX9_toss_13 : decode cX9_toss 13 = .ok (.iconst 1, 1) := by decide +kernel
theorem dX9_toss_14 : decode cX9_toss 14 = .ok (.invokevirtual 94, 3) := by decide +kernel
theorem dX9_toss_17 : decode cX9_toss 17 = .ok (.ifCond .ne 5, 3) := by decide +kernel
theorem dX9_toss_20 : decode cX9_toss 20 = .ok (.iconst 0, 1) := by decide +kernel
theorem dX9_toss_21 : decode cX9_toss 21 = .ok (.ireturn, 1) := by decide +kernel
theorem dX9_toss_22 : decode cX9_toss 22 = .ok (.aload_n 0, 1) := by decide +kernel
theorem dX9_toss_23 : decode cX9_toss 23 = .ok (.invokevirtual 91, 3) := by decide +kernel
theorem dX9_toss_26 : decode cX9_toss 26 = .ok (.aload_n 0, 1) := by decide +kernel
theorem dX9_toss_27 : decode cX9_toss 27 = .ok (.iload_n 1, 1) := by decide +kernel
theorem dX9_toss_28 : decode cX9_toss 28 = .ok (.iconst 5, 1) := by decide +kernel
theorem dX9_toss_29 : decode cX9_toss 29 = .ok (.invokevirtual 31, 3) := by decide +kernel
theorem dX9_toss_32 : decode cX9_toss 32 = .ok (.istore_n 2, 1) := by decide +kernel
theorem dX9_toss_33 : decode cX9_toss 33 = .ok (.aload_n 0, 1) := by decide +kernel
theorem dX9_toss_34 : decode cX9_toss 34 = .ok (.getfield 7, 3) := by decide +kernel
theorem dX9_toss_37 : decode cX9_toss 37 = .ok (.iconst 1, 1) := by decide +kernel
theorem dX9_toss_38 : decode cX9_toss 38 = .ok (.dup2, 1) := by decide +kernel
theorem dX9_toss_39 : decode cX9_toss 39 = .ok (.iaload, 1) := by decide +kernel
theorem dX9_toss_40 : decode cX9_toss 40 = .ok (.iconst 1, 1) := by decide +kernel
theorem dX9_toss_41 : decode cX9_toss 41 = .ok (.isub, 1) := by decide +kernel
theorem dX9_toss_42 : decode cX9_toss 42 = .ok (.iastore, 1) := by decide +kernel
theorem dX9_toss_43 : decode cX9_toss 43 = .ok (.bipush 42, 2) := by decide +kernel
theorem dX9_toss_45 : decode cX9_toss 45 = .ok (.iload_n 1, 1) := by decide +kernel
theorem dX9_toss_46 : decode cX9_toss 46 = .ok (.imul, 1) := by decide +kernel
theorem dX9_toss_47 : decode cX9_toss 47 = .ok (.istore_n 3, 1) := by decide +kernel
theorem dX9_toss_48 : decode cX9_toss 48 = .ok (.iload_n 3, 1) := by decide +kernel
theorem dX9_toss_49 : decode cX9_toss 49 = .ok (.bipush 42, 2) := by decide +kernel
theorem dX9_toss_51 : decode cX9_toss 51 = .ok (.aload_n 0, 1) := by decide +kernel
theorem dX9_toss_52 : decode cX9_toss 52 = .ok (.getfield 7, 3) := by decide +kernel
theorem dX9_toss_55 : decode cX9_toss 55 = .ok (.iconst 1, 1) := by decide +kernel
theorem dX9_toss_56 : decode cX9_toss 56 = .ok (.iaload, 1) := by decide +kernel
theorem dX9_toss_57 : decode cX9_toss 57 = .ok (.imul, 1) := by decide +kernel
theorem dX9_toss_58 : decode cX9_toss 58 = .ok (.if_icmp .ge 30, 3) := by decide +kernel
theorem dX9_toss_61 : decode cX9_toss 61 = .ok (.aload_n 0, 1) := by decide +kernel
theorem dX9_toss_62 : decode cX9_toss 62 = .ok (.getfield 7, 3) := by decide +kernel
theorem dX9_toss_65 : decode cX9_toss 65 = .ok (.bipush 40, 2) := by decide +kernel
theorem dX9_toss_67 : decode cX9_toss 67 = .ok (.iload_n 3, 1) := by decide +kernel
theorem dX9_toss_68 : decode cX9_toss 68 = .ok (.iadd, 1) := by decide +kernel
theorem dX9_toss_69 : decode cX9_toss 69 = .ok (.aload_n 0, 1) := by decide +kernel
theorem dX9_toss_70 : decode cX9_toss 70 = .ok (.getfield 7, 3) := by decide +kernel
theorem dX9_toss_73 : decode cX9_toss 73 = .ok (.bipush 40, 2) := by decide +kernel
theorem dX9_toss_75 : decode cX9_toss 75 = .ok (.iload_n 3, 1) := by decide +kernel
theorem dX9_toss_76 : decode cX9_toss 76 = .ok (.iadd, 1) := by decide +kernel
theorem dX9_toss_77 : decode cX9_toss 77 = .ok (.bipush 42, 2) := by decide +kernel
theorem dX9_toss_79 : decode cX9_toss 79 = .ok (.iadd, 1) := by decide +kernel
theorem dX9_toss_80 : decode cX9_toss 80 = .ok (.iaload, 1) := by decide +kernel
theorem dX9_toss_81 : decode cX9_toss 81 = .ok (.iastore, 1) := by decide +kernel
theorem dX9_toss_82 : decode cX9_toss 82 = .ok (.iinc 3 1, 3) := by decide +kernel
theorem dX9_toss_85 : decode cX9_toss 85 = .ok (.goto (-37), 3) := by decide +kernel
theorem dX9_toss_88 : decode cX9_toss 88 = .ok (.iload_n 2, 1) := by decide +kernel
theorem dX9_toss_89 : decode cX9_toss 89 = .ok (.ireturn, 1) := by decide +kernel
theorem dX9_bath_0 : decode cX9_bath 0 = .ok (.aload_n 0, 1) := by decide +kernel
theorem dX9_bath_1 : decode cX9_bath 1 = .ok (.iload_n 1, 1) := by decide +kernel
theorem dX9_bath_2 : decode cX9_bath 2 = .ok (.invokevirtual 104, 3) := by decide +kernel
theorem dX9_bath_5 : decode cX9_bath 5 = .ok (.ifCond .eq 19, 3) := by decide +kernel
theorem dX9_bath_8 : decode cX9_bath 8 = .ok (.iload_n 2, 1) := by decide +kernel
theorem dX9_bath_9 : decode cX9_bath 9 = .ok (.iconst (-1), 1) := by decide +kernel
theorem dX9_bath_10 : decode cX9_bath 10 = .ok (.if_icmp .eq 10, 3) := by decide +kernel
theorem dX9_bath_13 : decode cX9_bath 13 = .ok (.iload_n 2, 1) := by decide +kernel
theorem dX9_bath_14 : decode cX9_bath 14 = .ok (.invokestatic 107, 3) := by decide +kernel
theorem dX9_bath_17 : decode cX9_bath 17 = .ok (.ifCond .eq 7, 3) := by decide +kernel
theorem dX9_bath_20 : decode cX9_bath 20 = .ok (.iconst 1, 1) := by decide +kernel
theorem dX9_bath_21 : decode cX9_bath 21 = .ok (.goto 4, 3) := by decide +kernel
theorem dX9_bath_24 : decode cX9_bath 24 = .ok (.iconst 0, 1) := by decide +kernel
theorem dX9_bath_25 : decode cX9_bath 25 = .ok (.istore_n 3, 1) := by decide +kernel
theorem dX9_bath_26 : decode cX9_bath 26 = .ok (.aload_n 0, 1) := by decide +kernel
theorem dX9_bath_27 : decode cX9_bath 27 = .ok (.iload_n 3, 1) := by decide +kernel
theorem dX9_bath_28 : decode cX9_bath 28 = .ok (.ifCond .ne 7, 3) := by decide +kernel
theorem dX9_bath_31 : decode cX9_bath 31 = .ok (.iconst 1, 1) := by decide +kernel
theorem dX9_bath_32 : decode cX9_bath 32 = .ok (.goto 22, 3) := by decide +kernel
theorem dX9_bath_35 : decode cX9_bath 35 = .ok (.iload_n 2, 1) := by decide +kernel
theorem dX9_bath_36 : decode cX9_bath 36 = .ok (.iconst (-1), 1) := by decide +kernel
theorem dX9_bath_37 : decode cX9_bath 37 = .ok (.if_icmp .eq 16, 3) := by decide +kernel
theorem dX9_bath_40 : decode cX9_bath 40 = .ok (.aload_n 0, 1) := by decide +kernel
theorem dX9_bath_41 : decode cX9_bath 41 = .ok (.iload_n 1, 1) := by decide +kernel
theorem dX9_bath_42 : decode cX9_bath 42 = .ok (.iload_n 2, 1) := by decide +kernel
theorem dX9_bath_43 : decode cX9_bath 43 = .ok (.invokevirtual 110, 3) := by decide +kernel
theorem dX9_bath_46 : decode cX9_bath 46 = .ok (.ifCond .ne 7, 3) := by decide +kernel
theorem dX9_bath_49 : decode cX9_bath 49 = .ok (.iconst 2, 1) := by decide +kernel
theorem dX9_bath_50 : decode cX9_bath 50 = .ok (.goto 4, 3) := by decide +kernel
theorem dX9_bath_53 : decode cX9_bath 53 = .ok (.iconst 0, 1) := by decide +kernel
theorem dX9_bath_54 : decode cX9_bath 54 = .ok (.invokevirtual 94, 3) := by decide +kernel
theorem dX9_bath_57 : decode cX9_bath 57 = .ok (.ifCond .ne 5, 3) := by decide +kernel
theorem dX9_bath_60 : decode cX9_bath 60 = .ok (.iconst 0, 1) := by decide +kernel
theorem dX9_bath_61 : decode cX9_bath 61 = .ok (.ireturn, 1) := by decide +kernel
theorem dX9_bath_62 : decode cX9_bath 62 = .ok (.aload_n 0, 1) := by decide +kernel
theorem dX9_bath_63 : decode cX9_bath 63 = .ok (.bipush 40, 2) := by decide +kernel
theorem dX9_bath_65 : decode cX9_bath 65 = .ok (.bipush 42, 2) := by decide +kernel
theorem dX9_bath_67 : decode cX9_bath 67 = .ok (.iload_n 1, 1) := by decide +kernel
theorem dX9_bath_68 : decode cX9_bath 68 = .ok (.imul, 1) := by decide +kernel
theorem dX9_bath_69 : decode cX9_bath 69 = .ok (.iadd, 1) := by decide +kernel
theorem dX9_bath_70 : decode cX9_bath 70 = .ok (.iconst 3, 1) := by decide +kernel
theorem dX9_bath_71 : decode cX9_bath 71 = .ok (.iadd, 1) := by decide +kernel
theorem dX9_bath_72 : decode cX9_bath 72 = .ok (.iload_n 2, 1) := by decide +kernel
theorem dX9_bath_73 : decode cX9_bath 73 = .ok (.invokevirtual 114, 3) := by decide +kernel
theorem dX9_bath_76 : decode cX9_bath 76 = .ok (.ireturn, 1) := by decide +kernel
theorem dX9_warm_0 : decode cX9_warm 0 = .ok (.aload_n 0, 1) := by decide +kernel
theorem dX9_warm_1 : decode cX9_warm 1 = .ok (.iload_n 1, 1) := by decide +kernel
theorem dX9_warm_2 : decode cX9_warm 2 = .ok (.invokestatic 107, 3) := by decide +kernel
theorem dX9_warm_5 : decode cX9_warm 5 = .ok (.ifCond .ne 7, 3) := by decide +kernel
theorem dX9_warm_8 : decode cX9_warm 8 = .ok (.iconst 1, 1) := by decide +kernel
theorem dX9_warm_9 : decode cX9_warm 9 = .ok (.goto 19, 3) := by decide +kernel
theorem dX9_warm_12 : decode cX9_warm 12 = .ok (.iload_n 2, 1) := by decide +kernel
theorem dX9_warm_13 : decode cX9_warm 13 = .ok (.iconst 0, 1) := by decide +kernel
theorem dX9_warm_14 : decode cX9_warm 14 = .ok (.sipush 900, 3) := by decide +kernel
theorem dX9_warm_17 : decode cX9_warm 17 = .ok (.invokestatic 23, 3) := by decide +kernel
theorem dX9_warm_20 : decode cX9_warm 20 = .ok (.ifCond .ne 7, 3) := by decide +kernel
theorem dX9_warm_23 : decode cX9_warm 23 = .ok (.iconst 2, 1) := by decide +kernel
theorem dX9_warm_24 : decode cX9_warm 24 = .ok (.goto 4, 3) := by decide +kernel
theorem dX9_warm_27 : decode cX9_warm 27 = .ok (.iconst 0, 1) := by decide +kernel
theorem dX9_warm_28 : decode cX9_warm 28 = .ok (.invokevirtual 94, 3) := by decide +kernel
theorem dX9_warm_31 : decode cX9_warm 31 = .ok (.ifCond .eq 15, 3) := by decide +kernel
theorem dX9_warm_34 : decode cX9_warm 34 = .ok (.aload_n 0, 1) := by decide +kernel
theorem dX9_warm_35 : decode cX9_warm 35 = .ok (.bipush 28, 2) := by decide +kernel
theorem dX9_warm_37 : decode cX9_warm 37 = .ok (.iload_n 1, 1) := by decide +kernel
theorem dX9_warm_38 : decode cX9_warm 38 = .ok (.iadd, 1) := by decide +kernel
theorem dX9_warm_39 : decode cX9_warm 39 = .ok (.iload_n 2, 1) := by decide +kernel
theorem dX9_warm_40 : decode cX9_warm 40 = .ok (.invokevirtual 114, 3) := by decide +kernel
theorem dX9_warm_43 : decode cX9_warm 43 = .ok (.goto 4, 3) := by decide +kernel
theorem dX9_warm_46 : decode cX9_warm 46 = .ok (.iconst 0, 1) := by decide +kernel
theorem dX9_warm_47 : decode cX9_warm 47 = .ok (.ireturn, 1) := by decide +kernel
theorem dX9_pass_0 : decode cX9_pass 0 = .ok (.aload_n 0, 1) := by decide +kernel
theorem dX9_pass_1 : decode cX9_pass 1 = .ok (.iload_n 1, 1) := by decide +kernel
theorem dX9_pass_2 : decode cX9_pass 2 = .ok (.iconst 1, 1) := by decide +kernel
theorem dX9_pass_3 : decode cX9_pass 3 = .ok (.bipush 99, 2) := by decide +kernel
theorem dX9_pass_5 : decode cX9_pass 5 = .ok (.invokestatic 23, 3) := by decide +kernel
theorem dX9_pass_8 : decode cX9_pass 8 = .ok (.ifCond .eq 7, 3) := by decide +kernel
theorem dX9_pass_11 : decode cX9_pass 11 = .ok (.iconst 0, 1) := by decide +kernel
theorem dX9_pass_12 : decode cX9_pass 12 = .ok (.goto 4, 3) := by decide +kernel
theorem dX9_pass_15 : decode cX9_pass 15 = .ok (.iconst 1, 1) := by decide +kernel
theorem dX9_pass_16 : decode cX9_pass 16 = .ok (.invokevirtual 94, 3) := by decide +kernel
theorem dX9_pass_19 : decode cX9_pass 19 = .ok (.ifCond .ne 5, 3) := by decide +kernel
theorem dX9_pass_22 : decode cX9_pass 22 = .ok (.iconst 0, 1) := by decide +kernel
theorem dX9_pass_23 : decode cX9_pass 23 = .ok (.ireturn, 1) := by decide +kernel
theorem dX9_pass_24 : decode cX9_pass 24 = .ok (.aload_n 0, 1) := by decide +kernel
theorem dX9_pass_25 : decode cX9_pass 25 = .ok (.invokevirtual 91, 3) := by decide +kernel
theorem dX9_pass_28 : decode cX9_pass 28 = .ok (.aload_n 0, 1) := by decide +kernel
theorem dX9_pass_29 : decode cX9_pass 29 = .ok (.iload_n 1, 1) := by decide +kernel
theorem dX9_pass_30 : decode cX9_pass 30 = .ok (.invokevirtual 117, 3) := by decide +kernel
theorem dX9_pass_33 : decode cX9_pass 33 = .ok (.ireturn, 1) := by decide +kernel
theorem dX9_sink_0 : decode cX9_sink 0 = .ok (.iload_n 1, 1) := by decide +kernel
theorem dX9_sink_1 : decode cX9_sink 1 = .ok (.invokestatic 107, 3) := by decide +kernel
theorem dX9_sink_4 : decode cX9_sink 4 = .ok (.ifCond .eq 15, 3) := by decide +kernel
theorem dX9_sink_7 : decode cX9_sink 7 = .ok (.aload_n 0, 1) := by decide +kernel
theorem dX9_sink_8 : decode cX9_sink 8 = .ok (.iload_n 2, 1) := by decide +kernel
theorem dX9_sink_9 : decode cX9_sink 9 = .ok (.invokevirtual 104, 3) := by decide +kernel
theorem dX9_sink_12 : decode cX9_sink 12 = .ok (.ifCond .eq 7, 3) := by decide +kernel
theorem dX9_sink_15 : decode cX9_sink 15 = .ok (.iconst 1, 1) := by decide +kernel
theorem dX9_sink_16 : decode cX9_sink 16 = .ok (.goto 4, 3) := by decide +kernel
theorem dX9_sink_19 : decode cX9_sink 19 = .ok (.iconst 0, 1) := by decide +kernel
theorem dX9_sink_20 : decode cX9_sink 20 = .ok (.istore 5, 2) := by decide +kernel
theorem dX9_sink_22 : decode cX9_sink 22 = .ok (.iload_n 3, 1) := by decide +kernel
theorem dX9_sink_23 : decode cX9_sink 23 = .ok (.bipush 50, 2) := by decide +kernel
theorem dX9_sink_25 : decode cX9_sink 25 = .ok (.sipush 200, 3) := by decide +kernel
theorem dX9_sink_28 : decode cX9_sink 28 = .ok (.invokestatic 23, 3) := by decide +kernel
theorem dX9_sink_31 : decode cX9_sink 31 = .ok (.ifCond .eq 18, 3) := by decide +kernel
theorem dX9_sink_34 : decode cX9_sink 34 = .ok (.iload 4, 2) := by decide +kernel
theorem dX9_sink_36 : decode cX9_sink 36 = .ok (.iconst 1, 1) := by decide +kernel
theorem dX9_sink_37 : decode cX9_sink 37 = .ok (.bipush 60, 2) := by decide +kernel
theorem dX9_sink_39 : decode cX9_sink 39 = .ok (.invokestatic 23, 3) := by decide +kernel
theorem dX9_sink_42 : decode cX9_sink 42 = .ok (.ifCond .eq 7, 3) := by decide +kernel
theorem dX9_sink_45 : decode cX9_sink 45 = .ok (.iconst 1, 1) := by decide +kernel
theorem dX9_sink_46 : decode cX9_sink 46 = .ok (.goto 4, 3) := by decide +kernel
theorem dX9_sink_49 : decode cX9_sink 49 = .ok (.iconst 0, 1) := by decide +kernel
theorem dX9_sink_50 : decode cX9_sink 50 = .ok (.istore 6, 2) := by decide +kernel
theorem dX9_sink_52 : decode cX9_sink 52 = .ok (.aload_n 0, 1) := by decide +kernel
theorem dX9_sink_53 : decode cX9_sink 53 = .ok (.iload 5, 2) := by decide +kernel
theorem dX9_sink_55 : decode cX9_sink 55 = .ok (.ifCond .ne 7, 3) := by decide +kernel
theorem dX9_sink_58 : decode cX9_sink 58 = .ok (.iconst 1, 1) := by decide +kernel
theorem dX9_sink_59 : decode cX9_sink 59 = .ok (.goto 26, 3) := by decide +kernel
theorem dX9_sink_62 : decode cX9_sink 62 = .ok (.iload 6, 2) := by decide +kernel
theorem dX9_sink_64 : decode cX9_sink 64 = .ok (.ifCond .ne 7, 3) := by decide +kernel
theorem dX9_sink_67 : decode cX9_sink 67 = .ok (.iconst 2, 1) := by decide +kernel
theorem dX9_sink_68 : decode cX9_sink 68 = .ok (.goto 17, 3) := by decide +kernel
theorem dX9_sink_71 : decode cX9_sink 71 = .ok (.aload_n 0, 1) := by decide +kernel
theorem dX9_sink_72 : decode cX9_sink 72 = .ok (.iload_n 1, 1) := by decide +kernel
theorem dX9_sink_73 : decode cX9_sink 73 = .ok (.iload_n 2, 1) := by decide +kernel
theorem dX9_sink_74 : decode cX9_sink 74 = .ok (.invokevirtual 120, 3) := by decide +kernel
theorem dX9_sink_77 : decode cX9_sink 77 = .ok (.ifCond .le 7, 3) := by decide +kernel
theorem dX9_sink_80 : decode cX9_sink 80 = .ok (.iconst 3, 1) := by decide +kernel
theorem dX9_sink_81 : decode cX9_sink 81 = .ok (.goto 4, 3) := by decide +kernel
theorem dX9_sink_84 : decode cX9_sink 84 = .ok (.iconst 0, 1) := by decide +kernel
theorem dX9_sink_85 : decode cX9_sink 85 = .ok (.invokevirtual 94, 3) := by decide +kernel
theorem dX9_sink_88 : decode cX9_sink 88 = .ok (.ifCond .ne 5, 3) := by decide +kernel
theorem dX9_sink_91 : decode cX9_sink 91 = .ok (.iconst 0, 1) := by decide +kernel
theorem dX9_sink_92 : decode cX9_sink 92 = .ok (.ireturn, 1) := by decide +kernel
theorem dX9_sink_93 : decode cX9_sink 93 = .ok (.aload_n 0, 1) := by decide +kernel
theorem dX9_sink_94 : decode cX9_sink 94 = .ok (.invokevirtual 91, 3) := by decide +kernel
theorem dX9_sink_97 : decode cX9_sink 97 = .ok (.aload_n 0, 1) := by decide +kernel
theorem dX9_sink_98 : decode cX9_sink 98 = .ok (.iload_n 1, 1) := by decide +kernel
theorem dX9_sink_99 : decode cX9_sink 99 = .ok (.iload_n 2, 1) := by decide +kernel
theorem dX9_sink_100 : decode cX9_sink 100 = .ok (.iload_n 3, 1) := by decide +kernel
theorem dX9_sink_101 : decode cX9_sink 101 = .ok (.iload 4, 2) := by decide +kernel
theorem dX9_sink_103 : decode cX9_sink 103 = .ok (.invokevirtual 123, 3) := by decide +kernel
theorem dX9_sink_106 : decode cX9_sink 106 = .ok (.ireturn, 1) := by decide +kernel
theorem dX9_renew_0 : decode cX9_renew 0 = .ok (.aload_n 0, 1) := by decide +kernel
theorem dX9_renew_1 : decode cX9_renew 1 = .ok (.iload_n 1, 1) := by decide +kernel
theorem dX9_renew_2 : decode cX9_renew 2 = .ok (.invokestatic 107, 3) := by decide +kernel
theorem dX9_renew_5 : decode cX9_renew 5 = .ok (.ifCond .eq 7, 3) := by decide +kernel
theorem dX9_renew_8 : decode cX9_renew 8 = .ok (.iconst 0, 1) := by decide +kernel
theorem dX9_renew_9 : decode cX9_renew 9 = .ok (.goto 4, 3) := by decide +kernel
theorem dX9_renew_12 : decode cX9_renew 12 = .ok (.iconst 1, 1) := by decide +kernel
theorem dX9_renew_13 : decode cX9_renew 13 = .ok (.invokevirtual 94, 3) := by decide +kernel
theorem dX9_renew_16 : decode cX9_renew 16 = .ok (.ifCond .ne 5, 3) := by decide +kernel
theorem dX9_renew_19 : decode cX9_renew 19 = .ok (.iconst 0, 1) := by decide +kernel
theorem dX9_renew_20 : decode cX9_renew 20 = .ok (.ireturn, 1) := by decide +kernel
theorem dX9_renew_21 : decode cX9_renew 21 = .ok (.aload_n 0, 1) := by decide +kernel
theorem dX9_renew_22 : decode cX9_renew 22 = .ok (.bipush 31, 2) := by decide +kernel
theorem dX9_renew_24 : decode cX9_renew 24 = .ok (.iconst 3, 1) := by decide +kernel
theorem dX9_renew_25 : decode cX9_renew 25 = .ok (.iload_n 1, 1) := by decide +kernel
theorem dX9_renew_26 : decode cX9_renew 26 = .ok (.imul, 1) := by decide +kernel
theorem dX9_renew_27 : decode cX9_renew 27 = .ok (.iadd, 1) := by decide +kernel
theorem dX9_renew_28 : decode cX9_renew 28 = .ok (.iconst 0, 1) := by decide +kernel
theorem dX9_renew_29 : decode cX9_renew 29 = .ok (.iadd, 1) := by decide +kernel
theorem dX9_renew_30 : decode cX9_renew 30 = .ok (.iconst 0, 1) := by decide +kernel
theorem dX9_renew_31 : decode cX9_renew 31 = .ok (.invokevirtual 114, 3) := by decide +kernel
theorem dX9_renew_34 : decode cX9_renew 34 = .ok (.istore_n 2, 1) := by decide +kernel
theorem dX9_renew_35 : decode cX9_renew 35 = .ok (.aload_n 0, 1) := by decide +kernel
theorem dX9_renew_36 : decode cX9_renew 36 = .ok (.getfield 7, 3) := by decide +kernel
theorem dX9_renew_39 : decode cX9_renew 39 = .ok (.bipush 31, 2) := by decide +kernel
theorem dX9_renew_41 : decode cX9_renew 41 = .ok (.iconst 3, 1) := by decide +kernel
theorem dX9_renew_42 : decode cX9_renew 42 = .ok (.iload_n 1, 1) := by decide +kernel
theorem dX9_renew_43 : decode cX9_renew 43 = .ok (.imul, 1) := by decide +kernel
theorem dX9_renew_44 : decode cX9_renew 44 = .ok (.iadd, 1) := by decide +kernel
theorem dX9_renew_45 : decode cX9_renew 45 = .ok (.iconst 1, 1) := by decide +kernel
theorem dX9_renew_46 : decode cX9_renew 46 = .ok (.iadd, 1) := by decide +kernel
theorem dX9_renew_47 : decode cX9_renew 47 = .ok (.iconst 0, 1) := by decide +kernel
theorem dX9_renew_48 : decode cX9_renew 48 = .ok (.iastore, 1) := by decide +kernel
theorem dX9_renew_49 : decode cX9_renew 49 = .ok (.aload_n 0, 1) := by decide +kernel
theorem dX9_renew_50 : decode cX9_renew 50 = .ok (.getfield 7, 3) := by decide +kernel
theorem dX9_renew_53 : decode cX9_renew 53 = .ok (.iconst 4, 1) := by decide +kernel
theorem dX9_renew_54 : decode cX9_renew 54 = .ok (.dup2, 1) := by decide +kernel
theorem dX9_renew_55 : decode cX9_renew 55 = .ok (.iaload, 1) := by decide +kernel
theorem dX9_renew_56 : decode cX9_renew 56 = .ok (.iconst 1, 1) := by decide +kernel
theorem dX9_renew_57 : decode cX9_renew 57 = .ok (.iadd, 1) := by decide +kernel
theorem dX9_renew_58 : decode cX9_renew 58 = .ok (.iastore, 1) := by decide +kernel
theorem dX9_renew_59 : decode cX9_renew 59 = .ok (.iload_n 2, 1) := by decide +kernel
theorem dX9_renew_60 : decode cX9_renew 60 = .ok (.ireturn, 1) := by decide +kernel
theorem dX9_ring_0 : decode cX9_ring 0 = .ok (.aload_n 0, 1) := by decide +kernel
theorem dX9_ring_1 : decode cX9_ring 1 = .ok (.iload_n 1, 1) := by decide +kernel
theorem dX9_ring_2 : decode cX9_ring 2 = .ok (.invokevirtual 104, 3) := by decide +kernel
theorem dX9_ring_5 : decode cX9_ring 5 = .ok (.istore_n 2, 1) := by decide +kernel
theorem dX9_ring_6 : decode cX9_ring 6 = .ok (.aload_n 0, 1) := by decide +kernel
theorem dX9_ring_7 : decode cX9_ring 7 = .ok (.iload_n 2, 1) := by decide +kernel
theorem dX9_ring_8 : decode cX9_ring 8 = .ok (.ifCond .ne 7, 3) := by decide +kernel
theorem dX9_ring_11 : decode cX9_ring 11 = .ok (.iconst 1, 1) := by decide +kernel
theorem dX9_ring_12 : decode cX9_ring 12 = .ok (.goto 18, 3) := by decide +kernel
theorem dX9_ring_15 : decode cX9_ring 15 = .ok (.aload_n 0, 1) := by decide +kernel
theorem dX9_ring_16 : decode cX9_ring 16 = .ok (.iload_n 1, 1) := by decide +kernel
theorem dX9_ring_17 : decode cX9_ring 17 = .ok (.iconst 3, 1) := by decide +kernel
theorem dX9_ring_18 : decode cX9_ring 18 = .ok (.invokevirtual 31, 3) := by decide +kernel
theorem dX9_ring_21 : decode cX9_ring 21 = .ok (.iconst (-1), 1) := by decide +kernel
theorem dX9_ring_22 : decode cX9_ring 22 = .ok (.if_icmp .eq 7, 3) := by decide +kernel
theorem dX9_ring_25 : decode cX9_ring 25 = .ok (.iconst 2, 1) := by decide +kernel
theorem dX9_ring_26 : decode cX9_ring 26 = .ok (.goto 4, 3) := by decide +kernel
theorem dX9_ring_29 : decode cX9_ring 29 = .ok (.iconst 0, 1) := by decide +kernel
theorem dX9_ring_30 : decode cX9_ring 30 = .ok (.invokevirtual 94, 3) := by decide +kernel
theorem dX9_ring_33 : decode cX9_ring 33 = .ok (.ifCond .ne 5, 3) := by decide +kernel
theorem dX9_ring_36 : decode cX9_ring 36 = .ok (.iconst 0, 1) := by decide +kernel
theorem dX9_ring_37 : decode cX9_ring 37 = .ok (.ireturn, 1) := by decide +kernel
theorem dX9_ring_38 : decode cX9_ring 38 = .ok (.aload_n 0, 1) := by decide +kernel
theorem dX9_ring_39 : decode cX9_ring 39 = .ok (.invokevirtual 91, 3) := by decide +kernel
theorem dX9_ring_42 : decode cX9_ring 42 = .ok (.aload_n 0, 1) := by decide +kernel
theorem dX9_ring_43 : decode cX9_ring 43 = .ok (.iload_n 1, 1) := by decide +kernel
theorem dX9_ring_44 : decode cX9_ring 44 = .ok (.invokevirtual 126, 3) := by decide +kernel
theorem dX9_ring_47 : decode cX9_ring 47 = .ok (.ireturn, 1) := by decide +kernel
theorem dX9_sell_0 : decode cX9_sell 0 = .ok (.aload_n 0, 1) := by decide +kernel
theorem dX9_sell_1 : decode cX9_sell 1 = .ok (.iload_n 1, 1) := by decide +kernel
theorem dX9_sell_2 : decode cX9_sell 2 = .ok (.invokevirtual 98, 3) := by decide +kernel
theorem dX9_sell_5 : decode cX9_sell 5 = .ok (.istore_n 2, 1) := by decide +kernel
theorem dX9_sell_6 : decode cX9_sell 6 = .ok (.aload_n 0, 1) := by decide +kernel
theorem dX9_sell_7 : decode cX9_sell 7 = .ok (.iload_n 2, 1) := by decide +kernel
theorem dX9_sell_8 : decode cX9_sell 8 = .ok (.ifCond .ne 7, 3) := by decide +kernel
theorem dX9_sell_11 : decode cX9_sell 11 = .ok (.iconst 1, 1) := by decide +kernel
theorem dX9_sell_12 : decode cX9_sell 12 = .ok (.goto 16, 3) := by decide +kernel
theorem dX9_sell_15 : decode cX9_sell 15 = .ok (.aload_n 0, 1) := by decide +kernel
theorem dX9_sell_16 : decode cX9_sell 16 = .ok (.iload_n 1, 1) := by decide +kernel
theorem dX9_sell_17 : decode cX9_sell 17 = .ok (.invokevirtual 129, 3) := by decide +kernel
theorem dX9_sell_20 : decode cX9_sell 20 = .ok (.ifCond .le 7, 3) := by decide +kernel
theorem dX9_sell_23 : decode cX9_sell 23 = .ok (.iconst 2, 1) := by decide +kernel
theorem dX9_sell_24 : decode cX9_sell 24 = .ok (.goto 4, 3) := by decide +kernel
theorem dX9_sell_27 : decode cX9_sell 27 = .ok (.iconst 0, 1) := by decide +kernel
theorem dX9_sell_28 : decode cX9_sell 28 = .ok (.invokevirtual 94, 3) := by decide +kernel
theorem dX9_sell_31 : decode cX9_sell 31 = .ok (.ifCond .ne 5, 3) := by decide +kernel
theorem dX9_sell_34 : decode cX9_sell 34 = .ok (.iconst 0, 1) := by decide +kernel
theorem dX9_sell_35 : decode cX9_sell 35 = .ok (.ireturn, 1) := by decide +kernel
theorem dX9_sell_36 : decode cX9_sell 36 = .ok (.aload_n 0, 1) := by decide +kernel
theorem dX9_sell_37 : decode cX9_sell 37 = .ok (.invokevirtual 91, 3) := by decide +kernel
theorem dX9_sell_40 : decode cX9_sell 40 = .ok (.aload_n 0, 1) := by decide +kernel
theorem dX9_sell_41 : decode cX9_sell 41 = .ok (.iload_n 1, 1) := by decide +kernel
theorem dX9_sell_42 : decode cX9_sell 42 = .ok (.invokevirtual 132, 3) := by decide +kernel
theorem dX9_sell_45 : decode cX9_sell 45 = .ok (.ireturn, 1) := by decide +kernel
theorem dX9_set_0 : decode cX9_set 0 = .ok (.iload_n 1, 1) := by decide +kernel
theorem dX9_set_1 : decode cX9_set 1 = .ok (.iconst 0, 1) := by decide +kernel
theorem dX9_set_2 : decode cX9_set 2 = .ok (.iconst 2, 1) := by decide +kernel
theorem dX9_set_3 : decode cX9_set 3 = .ok (.invokestatic 23, 3) := by decide +kernel
theorem dX9_set_6 : decode cX9_set 6 = .ok (.istore_n 3, 1) := by decide +kernel
