theorem dX8_init_0 : decode cX8_init 0 = .ok (.aload_n 0, 1) := by decide +kernel
theorem dX8_init_1 : decode cX8_init 1 = .ok (.invokespecial 1, 3) := by decide +kernel
theorem dX8_init_4 : decode cX8_init 4 = .ok (.aload_n 0, 1) := by decide +kernel
theorem dX8_init_5 : decode cX8_init 5 = .ok (.new 7, 3) := by decide +kernel
theorem dX8_init_8 : decode cX8_init 8 = .ok (.dup, 1) := by decide +kernel
theorem dX8_init_9 : decode cX8_init 9 = .ok (.invokespecial 9, 3) := by decide +kernel
theorem dX8_init_12 : decode cX8_init 12 = .ok (.putfield 10, 3) := by decide +kernel
theorem dX8_init_15 : decode cX8_init 15 = .ok (.aload_n 0, 1) := by decide +kernel
theorem dX8_init_16 : decode cX8_init 16 = .ok (.new 16, 3) := by decide +kernel
theorem dX8_init_19 : decode cX8_init 19 = .ok (.dup, 1) := by decide +kernel
theorem dX8_init_20 : decode cX8_init 20 = .ok (.invokespecial 18, 3) := by decide +kernel
theorem dX8_init_23 : decode cX8_init 23 = .ok (.putfield 19, 3) := by decide +kernel
theorem dX8_init_26 : decode cX8_init 26 = .ok (.aload_n 0, 1) := by decide +kernel
theorem dX8_init_27 : decode cX8_init 27 = .ok (.new 23, 3) := by decide +kernel
theorem dX8_init_30 : decode cX8_init 30 = .ok (.dup, 1) := by decide +kernel
theorem dX8_init_31 : decode cX8_init 31 = .ok (.invokespecial 25, 3) := by decide +kernel
theorem dX8_init_34 : decode cX8_init 34 = .ok (.putfield 26, 3) := by decide +kernel
theorem dX8_init_37 : decode cX8_init 37 = .ok (.return_, 1) := by decide +kernel
theorem dX8_drum_0 : decode cX8_drum 0 = .ok (.iload_n 1, 1) := by decide +kernel
theorem dX8_drum_1 : decode cX8_drum 1 = .ok (.bipush 20, 2) := by decide +kernel
theorem dX8_drum_3 : decode cX8_drum 3 = .ok (.sipush 300, 3) := by decide +kernel
theorem dX8_drum_6 : decode cX8_drum 6 = .ok (.invokestatic 30, 3) := by decide +kernel
theorem dX8_drum_9 : decode cX8_drum 9 = .ok (.aload_n 0, 1) := by decide +kernel
theorem dX8_drum_10 : decode cX8_drum 10 = .ok (.getfield 10, 3) := by decide +kernel
theorem dX8_drum_13 : decode cX8_drum 13 = .ok (.getfield 34, 3) := by decide +kernel
theorem dX8_drum_16 : decode cX8_drum 16 = .ok (.bipush 6, 2) := by decide +kernel
theorem dX8_drum_18 : decode cX8_drum 18 = .ok (.if_icmp .ge 7, 3) := by decide +kernel
theorem dX8_drum_21 : decode cX8_drum 21 = .ok (.iconst 0, 1) := by decide +kernel
theorem dX8_drum_22 : decode cX8_drum 22 = .ok (.goto 5, 3) := by decide +kernel
theorem dX8_drum_25 : decode cX8_drum 25 = .ok (.bipush 14, 2) := by decide +kernel
theorem dX8_drum_27 : decode cX8_drum 27 = .ok (.invokestatic 38, 3) := by decide +kernel
theorem dX8_drum_30 : decode cX8_drum 30 = .ok (.aload_n 0, 1) := by decide +kernel
theorem dX8_drum_31 : decode cX8_drum 31 = .ok (.getfield 19, 3) := by decide +kernel
theorem dX8_drum_34 : decode cX8_drum 34 = .ok (.aload_n 0, 1) := by decide +kernel
theorem dX8_drum_35 : decode cX8_drum 35 = .ok (.getfield 10, 3) := by decide +kernel
theorem dX8_drum_38 : decode cX8_drum 38 = .ok (.invokevirtual 42, 3) := by decide +kernel
theorem dX8_drum_41 : decode cX8_drum 41 = .ok (.aload_n 0, 1) := by decide +kernel
theorem dX8_drum_42 : decode cX8_drum 42 = .ok (.getfield 10, 3) := by decide +kernel
theorem dX8_drum_45 : decode cX8_drum 45 = .ok (.iload_n 1, 1) := by decide +kernel
theorem dX8_drum_46 : decode cX8_drum 46 = .ok (.invokevirtual 46, 3) := by decide +kernel
theorem dX8_drum_49 : decode cX8_drum 49 = .ok (.ireturn, 1) := by decide +kernel
theorem dX8_age_0 : decode cX8_age 0 = .ok (.iload_n 1, 1) := by decide +kernel
theorem dX8_age_1 : decode cX8_age 1 = .ok (.iconst 1, 1) := by decide +kernel
theorem dX8_age_2 : decode cX8_age 2 = .ok (.bipush 99, 2) := by decide +kernel
theorem dX8_age_4 : decode cX8_age 4 = .ok (.invokestatic 30, 3) := by decide +kernel
theorem dX8_age_7 : decode cX8_age 7 = .ok (.aload_n 0, 1) := by decide +kernel
theorem dX8_age_8 : decode cX8_age 8 = .ok (.getfield 19, 3) := by decide +kernel
theorem dX8_age_11 : decode cX8_age 11 = .ok (.aload_n 0, 1) := by decide +kernel
theorem dX8_age_12 : decode cX8_age 12 = .ok (.getfield 10, 3) := by decide +kernel
theorem dX8_age_15 : decode cX8_age 15 = .ok (.invokevirtual 42, 3) := by decide +kernel
theorem dX8_age_18 : decode cX8_age 18 = .ok (.aload_n 0, 1) := by decide +kernel
theorem dX8_age_19 : decode cX8_age 19 = .ok (.getfield 10, 3) := by decide +kernel
theorem dX8_age_22 : decode cX8_age 22 = .ok (.iload_n 1, 1) := by decide +kernel
theorem dX8_age_23 : decode cX8_age 23 = .ok (.invokevirtual 50, 3) := by decide +kernel
theorem dX8_age_26 : decode cX8_age 26 = .ok (.ireturn, 1) := by decide +kernel
theorem dX8_sample_0 : decode cX8_sample 0 = .ok (.aload_n 0, 1) := by decide +kernel
theorem dX8_sample_1 : decode cX8_sample 1 = .ok (.getfield 10, 3) := by decide +kernel
theorem dX8_sample_4 : decode cX8_sample 4 = .ok (.iload_n 1, 1) := by decide +kernel
theorem dX8_sample_5 : decode cX8_sample 5 = .ok (.invokevirtual 53, 3) := by decide +kernel
theorem dX8_sample_8 : decode cX8_sample 8 = .ok (.invokestatic 38, 3) := by decide +kernel
theorem dX8_sample_11 : decode cX8_sample 11 = .ok (.aload_n 0, 1) := by decide +kernel
theorem dX8_sample_12 : decode cX8_sample 12 = .ok (.getfield 19, 3) := by decide +kernel
theorem dX8_sample_15 : decode cX8_sample 15 = .ok (.aload_n 0, 1) := by decide +kernel
theorem dX8_sample_16 : decode cX8_sample 16 = .ok (.getfield 10, 3) := by decide +kernel
theorem dX8_sample_19 : decode cX8_sample 19 = .ok (.invokevirtual 42, 3) := by decide +kernel
theorem dX8_sample_22 : decode cX8_sample 22 = .ok (.aload_n 0, 1) := by decide +kernel
theorem dX8_sample_23 : decode cX8_sample 23 = .ok (.getfield 10, 3) := by decide +kernel
theorem dX8_sample_26 : decode cX8_sample 26 = .ok (.iload_n 1, 1) := by decide +kernel
theorem dX8_sample_27 : decode cX8_sample 27 = .ok (.invokevirtual 56, 3) := by decide +kernel
theorem dX8_sample_30 : decode cX8_sample 30 = .ok (.ireturn, 1) := by decide +kernel
theorem dX8_toss_0 : decode cX8_toss 0 = .ok (.iload_n 1, 1) := by decide +kernel
theorem dX8_toss_1 : decode cX8_toss 1 = .ok (.aload_n 0, 1) := by decide +kernel
theorem dX8_toss_2 : decode cX8_toss 2 = .ok (.getfield 10, 3) := by decide +kernel
theorem dX8_toss_5 : decode cX8_toss 5 = .ok (.getfield 59, 3) := by decide +kernel
theorem dX8_toss_8 : decode cX8_toss 8 = .ok (.invokestatic 62, 3) := by decide +kernel
theorem dX8_toss_11 : decode cX8_toss 11 = .ok (.aload_n 0, 1) := by decide +kernel
theorem dX8_toss_12 : decode cX8_toss 12 = .ok (.getfield 19, 3) := by decide +kernel
theorem dX8_toss_15 : decode cX8_toss 15 = .ok (.aload_n 0, 1) := by decide +kernel
theorem dX8_toss_16 : decode cX8_toss 16 = .ok (.getfield 10, 3) := by decide +kernel
theorem dX8_toss_19 : decode cX8_toss 19 = .ok (.invokevirtual 42, 3) := by decide +kernel
theorem dX8_toss_22 : decode cX8_toss 22 = .ok (.aload_n 0, 1) := by decide +kernel
theorem dX8_toss_23 : decode cX8_toss 23 = .ok (.getfield 10, 3) := by decide +kernel
theorem dX8_toss_26 : decode cX8_toss 26 = .ok (.iload_n 1, 1) := by decide +kernel
theorem dX8_toss_27 : decode cX8_toss 27 = .ok (.invokevirtual 66, 3) := by decide +kernel
theorem dX8_toss_30 : decode cX8_toss 30 = .ok (.ireturn, 1) := by decide +kernel
theorem dX8_bath_0 : decode cX8_bath 0 = .ok (.iload_n 2, 1) := by decide +kernel
theorem dX8_bath_1 : decode cX8_bath 1 = .ok (.iconst (-1), 1) := by decide +kernel
theorem dX8_bath_2 : decode cX8_bath 2 = .ok (.if_icmp .eq 8, 3) := by decide +kernel
theorem dX8_bath_5 : decode cX8_bath 5 = .ok (.iload_n 2, 1) := by decide +kernel
theorem dX8_bath_6 : decode cX8_bath 6 = .ok (.iconst 3, 1) := by decide +kernel
theorem dX8_bath_7 : decode cX8_bath 7 = .ok (.invokestatic 62, 3) := by decide +kernel
theorem dX8_bath_10 : decode cX8_bath 10 = .ok (.aload_n 0, 1) := by decide +kernel
theorem dX8_bath_11 : decode cX8_bath 11 = .ok (.getfield 10, 3) := by decide +kernel
theorem dX8_bath_14 : decode cX8_bath 14 = .ok (.iload_n 1, 1) := by decide +kernel
theorem dX8_bath_15 : decode cX8_bath 15 = .ok (.iload_n 2, 1) := by decide +kernel
theorem dX8_bath_16 : decode cX8_bath 16 = .ok (.invokevirtual 69, 3) := by decide +kernel
theorem dX8_bath_19 : decode cX8_bath 19 = .ok (.invokestatic 38, 3) := by decide +kernel
theorem dX8_bath_22 : decode cX8_bath 22 = .ok (.aload_n 0, 1) := by decide +kernel
theorem dX8_bath_23 : decode cX8_bath 23 = .ok (.getfield 19, 3) := by decide +kernel
theorem dX8_bath_26 : decode cX8_bath 26 = .ok (.aload_n 0, 1) := by decide +kernel
theorem dX8_bath_27 : decode cX8_bath 27 = .ok (.getfield 10, 3) := by decide +kernel
theorem dX8_bath_30 : decode cX8_bath 30 = .ok (.invokevirtual 42, 3) := by decide +kernel
theorem dX8_bath_33 : decode cX8_bath 33 = .ok (.aload_n 0, 1) := by decide +kernel
theorem dX8_bath_34 : decode cX8_bath 34 = .ok (.getfield 10, 3) := by decide +kernel
theorem dX8_bath_37 : decode cX8_bath 37 = .ok (.iload_n 1, 1) := by decide +kernel
theorem dX8_bath_38 : decode cX8_bath 38 = .ok (.iload_n 2, 1) := by decide +kernel
theorem dX8_bath_39 : decode cX8_bath 39 = .ok (.invokevirtual 73, 3) := by decide +kernel
theorem dX8_bath_42 : decode cX8_bath 42 = .ok (.ireturn, 1) := by decide +kernel
theorem dX8_warm_0 : decode cX8_warm 0 = .ok (.iload_n 1, 1) := by decide +kernel
theorem dX8_warm_1 : decode cX8_warm 1 = .ok (.iconst 3, 1) := by decide +kernel
theorem dX8_warm_2 : decode cX8_warm 2 = .ok (.invokestatic 62, 3) := by decide +kernel
theorem dX8_warm_5 : decode cX8_warm 5 = .ok (.iload_n 2, 1) := by decide +kernel
theorem dX8_warm_6 : decode cX8_warm 6 = .ok (.iconst 0, 1) := by decide +kernel
theorem dX8_warm_7 : decode cX8_warm 7 = .ok (.sipush 900, 3) := by decide +kernel
theorem dX8_warm_10 : decode cX8_warm 10 = .ok (.invokestatic 30, 3) := by decide +kernel
theorem dX8_warm_13 : decode cX8_warm 13 = .ok (.aload_n 0, 1) := by decide +kernel
theorem dX8_warm_14 : decode cX8_warm 14 = .ok (.getfield 19, 3) := by decide +kernel
theorem dX8_warm_17 : decode cX8_warm 17 = .ok (.aload_n 0, 1) := by decide +kernel
theorem dX8_warm_18 : decode cX8_warm 18 = .ok (.getfield 10, 3) := by decide +kernel
theorem dX8_warm_21 : decode cX8_warm 21 = .ok (.invokevirtual 42, 3) := by decide +kernel
theorem dX8_warm_24 : decode cX8_warm 24 = .ok (.aload_n 0, 1) := by decide +kernel
theorem dX8_warm_25 : decode cX8_warm 25 = .ok (.getfield 10, 3) := by decide +kernel
theorem dX8_warm_28 : decode cX8_warm 28 = .ok (.getfield 76, 3) := by decide +kernel
theorem dX8_warm_31 : decode cX8_warm 31 = .ok (.iload_n 1, 1) := by decide +kernel
theorem dX8_warm_32 : decode cX8_warm 32 = .ok (.iaload, 1) := by decide +kernel
theorem dX8_warm_33 : decode cX8_warm 33 = .ok (.istore_n 3, 1) := by decide +kernel
theorem dX8_warm_34 : decode cX8_warm 34 = .ok (.aload_n 0, 1) := by decide +kernel
theorem dX8_warm_35 : decode cX8_warm 35 = .ok (.getfield 10, 3) := by decide +kernel
theorem dX8_warm_38 : decode cX8_warm 38 = .ok (.getfield 76, 3) := by decide +kernel
theorem dX8_warm_41 : decode cX8_warm 41 = .ok (.iload_n 1, 1) := by decide +kernel
theorem dX8_warm_42 : decode cX8_warm 42 = .ok (.iload_n 2, 1) := by decide +kernel
theorem dX8_warm_43 : decode cX8_warm 43 = .ok (.iastore, 1) := by decide +kernel
theorem dX8_warm_44 : decode cX8_warm 44 = .ok (.iload_n 3, 1) := by decide +kernel
theorem dX8_warm_45 : decode cX8_warm 45 = .ok (.ireturn, 1) := by decide +kernel
theorem dX8_pass_0 : decode cX8_pass 0 = .ok (.iload_n 1, 1) := by decide +kernel
theorem dX8_pass_1 : decode cX8_pass 1 = .ok (.iconst 1, 1) := by decide +kernel
theorem dX8_pass_2 : decode cX8_pass 2 = .ok (.bipush 99, 2) := by decide +kernel
theorem dX8_pass_4 : decode cX8_pass 4 = .ok (.invokestatic 30, 3) := by decide +kernel
theorem dX8_pass_7 : decode cX8_pass 7 = .ok (.aload_n 0, 1) := by decide +kernel
theorem dX8_pass_8 : decode cX8_pass 8 = .ok (.getfield 19, 3) := by decide +kernel
theorem dX8_pass_11 : decode cX8_pass 11 = .ok (.aload_n 0, 1) := by decide +kernel
theorem dX8_pass_12 : decode cX8_pass 12 = .ok (.getfield 10, 3) := by decide +kernel
theorem dX8_pass_15 : decode cX8_pass 15 = .ok (.invokevirtual 42, 3) := by decide +kernel
theorem dX8_pass_18 : decode cX8_pass 18 = .ok (.aload_n 0, 1) := by decide +kernel
theorem dX8_pass_19 : decode cX8_pass 19 = .ok (.getfield 10, 3) := by decide +kernel
theorem dX8_pass_22 : decode cX8_pass 22 = .ok (.iload_n 1, 1) := by decide +kernel
theorem dX8_pass_23 : decode cX8_pass 23 = .ok (.invokevirtual 80, 3) := by decide +kernel
theorem dX8_pass_26 : decode cX8_pass 26 = .ok (.aload_n 0, 1) := by decide +kernel
theorem dX8_pass_27 : decode cX8_pass 27 = .ok (.getfield 10, 3) := by decide +kernel
theorem dX8_pass_30 : decode cX8_pass 30 = .ok (.invokevirtual 83, 3) := by decide +kernel
theorem dX8_pass_33 : decode cX8_pass 33 = .ok (.ireturn, 1) := by decide +kernel
theorem dX8_sink_0 : decode cX8_sink 0 = .ok (.iload_n 1, 1) := by decide +kernel
theorem dX8_sink_1 : decode cX8_sink 1 = .ok (.iconst 3, 1) := by decide +kernel
theorem dX8_sink_2 : decode cX8_sink 2 = .ok (.invokestatic 62, 3) := by decide +kernel
theorem dX8_sink_5 : decode cX8_sink 5 = .ok (.iload_n 2, 1) := by decide +kernel
theorem dX8_sink_6 : decode cX8_sink 6 = .ok (.aload_n 0, 1) := by decide +kernel
theorem dX8_sink_7 : decode cX8_sink 7 = .ok (.getfield 10, 3) := by decide +kernel
theorem dX8_sink_10 : decode cX8_sink 10 = .ok (.getfield 59, 3) := by decide +kernel
theorem dX8_sink_13 : decode cX8_sink 13 = .ok (.invokestatic 62, 3) := by decide +kernel
theorem dX8_sink_16 : decode cX8_sink 16 = .ok (.iload_n 3, 1) := by decide +kernel
theorem dX8_sink_17 : decode cX8_sink 17 = .ok (.bipush 50, 2) := by decide +kernel
theorem dX8_sink_19 : decode cX8_sink 19 = .ok (.sipush 200, 3) := by decide +kernel
theorem dX8_sink_22 : decode cX8_sink 22 = .ok (.invokestatic 30, 3) := by decide +kernel
theorem dX8_sink_25 : decode cX8_sink 25 = .ok (.iload 4, 2) := by decide +kernel
theorem dX8_sink_27 : decode cX8_sink 27 = .ok (.iconst 1, 1) := by decide +kernel
theorem dX8_sink_28 : decode cX8_sink 28 = .ok (.bipush 60, 2) := by decide +kernel
theorem dX8_sink_30 : decode cX8_sink 30 = .ok (.invokestatic 30, 3) := by decide +kernel
theorem dX8_sink_33 : decode cX8_sink 33 = .ok (.aload_n 0, 1) := by decide +kernel
theorem dX8_sink_34 : decode cX8_sink 34 = .ok (.getfield 10, 3) := by decide +kernel
theorem dX8_sink_37 : decode cX8_sink 37 = .ok (.iload_n 1, 1) := by decide +kernel
theorem dX8_sink_38 : decode cX8_sink 38 = .ok (.iload_n 2, 1) := by decide +kernel
theorem dX8_sink_39 : decode cX8_sink 39 = .ok (.invokevirtual 87, 3) := by decide +kernel
theorem dX8_sink_42 : decode cX8_sink 42 = .ok (.invokestatic 38, 3) := by decide +kernel
theorem dX8_sink_45 : decode cX8_sink 45 = .ok (.aload_n 0, 1) := by decide +kernel
theorem dX8_sink_46 : decode cX8_sink 46 = .ok (.getfield 19, 3) := by decide +kernel
theorem dX8_sink_49 : decode cX8_sink 49 = .ok (.aload_n 0, 1) := by decide +kernel
theorem dX8_sink_50 : decode cX8_sink 50 = .ok (.getfield 10, 3) := by decide +kernel
theorem dX8_sink_53 : decode cX8_sink 53 = .ok (.invokevirtual 42, 3) := by decide +kernel
theorem dX8_sink_56 : decode cX8_sink 56 = .ok (.aload_n 0, 1) := by decide +kernel
theorem dX8_sink_57 : decode cX8_sink 57 = .ok (.getfield 10, 3) := by decide +kernel
theorem dX8_sink_60 : decode cX8_sink 60 = .ok (.iload_n 1, 1) := by decide +kernel
theorem dX8_sink_61 : decode cX8_sink 61 = .ok (.iload_n 2, 1) := by decide +kernel
theorem dX8_sink_62 : decode cX8_sink 62 = .ok (.iload_n 3, 1) := by decide +kernel
theorem dX8_sink_63 : decode cX8_sink 63 = .ok (.iload 4, 2) := by decide +kernel
theorem dX8_sink_65 : decode cX8_sink 65 = .ok (.invokevirtual 90, 3) := by decide +kernel
theorem dX8_sink_68 : decode cX8_sink 68 = .ok (.ireturn, 1) := by decide +kernel
theorem dX8_renew_0 : decode cX8_renew 0 = .ok (.iload_n 1, 1) := by decide +kernel
theorem dX8_renew_1 : decode cX8_renew 1 = .ok (.iconst 3, 1) := by decide +kernel
theorem dX8_renew_2 : decode cX8_renew 2 = .ok (.invokestatic 62, 3) := by decide +kernel
theorem dX8_renew_5 : decode cX8_renew 5 = .ok (.aload_n 0, 1) := by decide +kernel
theorem dX8_renew_6 : decode cX8_renew 6 = .ok (.getfield 19, 3) := by decide +kernel
theorem dX8_renew_9 : decode cX8_renew 9 = .ok (.aload_n 0, 1) := by decide +kernel
theorem dX8_renew_10 : decode cX8_renew 10 = .ok (.getfield 10, 3) := by decide +kernel
theorem dX8_renew_13 : decode cX8_renew 13 = .ok (.invokevirtual 42, 3) := by decide +kernel
theorem dX8_renew_16 : decode cX8_renew 16 = .ok (.aload_n 0, 1) := by decide +kernel
theorem dX8_renew_17 : decode cX8_renew 17 = .ok (.getfield 10, 3) := by decide +kernel
theorem dX8_renew_20 : decode cX8_renew 20 = .ok (.dup, 1) := by decide +kernel
theorem dX8_renew_21 : decode cX8_renew 21 = .ok (.getfield 94, 3) := by decide +kernel
theorem dX8_renew_24 : decode cX8_renew 24 = .ok (.iconst 1, 1) := by decide +kernel
theorem dX8_renew_25 : decode cX8_renew 25 = .ok (.iadd, 1) := by decide +kernel
theorem dX8_renew_26 : decode cX8_renew 26 = .ok (.putfield 94, 3) := by decide +kernel
theorem dX8_renew_29 : decode cX8_renew 29 = .ok (.aload_n 0, 1) := by decide +kernel
theorem dX8_renew_30 : decode cX8_renew 30 = .ok (.getfield 10, 3) := by decide +kernel
theorem dX8_renew_33 : decode cX8_renew 33 = .ok (.getfield 97, 3) := by decide +kernel
theorem dX8_renew_36 : decode cX8_renew 36 = .ok (.iload_n 1, 1) := by decide +kernel
theorem dX8_renew_37 : decode cX8_renew 37 = .ok (.aaload, 1) := by decide +kernel
theorem dX8_renew_38 : decode cX8_renew 38 = .ok (.invokevirtual 101, 3) := by decide +kernel
theorem dX8_renew_41 : decode cX8_renew 41 = .ok (.ireturn, 1) := by decide +kernel
theorem dX8_ring_0 : decode cX8_ring 0 = .ok (.aload_n 0, 1) := by decide +kernel
theorem dX8_ring_1 : decode cX8_ring 1 = .ok (.getfield 10, 3) := by decide +kernel
theorem dX8_ring_4 : decode cX8_ring 4 = .ok (.iload_n 1, 1) := by decide +kernel
theorem dX8_ring_5 : decode cX8_ring 5 = .ok (.invokevirtual 106, 3) := by decide +kernel
theorem dX8_ring_8 : decode cX8_ring 8 = .ok (.invokestatic 38, 3) := by decide +kernel
theorem dX8_ring_11 : decode cX8_ring 11 = .ok (.aload_n 0, 1) := by decide +kernel
theorem dX8_ring_12 : decode cX8_ring 12 = .ok (.getfield 19, 3) := by decide +kernel
theorem dX8_ring_15 : decode cX8_ring 15 = .ok (.aload_n 0, 1) := by decide +kernel
theorem dX8_ring_16 : decode cX8_ring 16 = .ok (.getfield 10, 3) := by decide +kernel
theorem dX8_ring_19 : decode cX8_ring 19 = .ok (.invokevirtual 42, 3) := by decide +kernel
theorem dX8_ring_22 : decode cX8_ring 22 = .ok (.aload_n 0, 1) := by decide +kernel
theorem dX8_ring_23 : decode cX8_ring 23 = .ok (.getfield 10, 3) := by decide +kernel
theorem dX8_ring_26 : decode cX8_ring 26 = .ok (.getfield 109, 3) := by decide +kernel
theorem dX8_ring_29 : decode cX8_ring 29 = .ok (.iload_n 1, 1) := by decide +kernel
theorem dX8_ring_30 : decode cX8_ring 30 = .ok (.aaload, 1) := by decide +kernel
theorem dX8_ring_31 : decode cX8_ring 31 = .ok (.invokevirtual 113, 3) := by decide +kernel
theorem dX8_ring_34 : decode cX8_ring 34 = .ok (.ireturn, 1) := by decide +kernel
theorem dX8_sell_0 : decode cX8_sell 0 = .ok (.aload_n 0, 1) := by decide +kernel
theorem dX8_sell_1 : decode cX8_sell 1 = .ok (.getfield 10, 3) := by decide +kernel
theorem dX8_sell_4 : decode cX8_sell 4 = .ok (.iload_n 1, 1) := by decide +kernel
theorem dX8_sell_5 : decode cX8_sell 5 = .ok (.invokestatic 118, 3) := by decide +kernel
theorem dX8_sell_8 : decode cX8_sell 8 = .ok (.invokestatic 38, 3) := by decide +kernel
theorem dX8_sell_11 : decode cX8_sell 11 = .ok (.aload_n 0, 1) := by decide +kernel
theorem dX8_sell_12 : decode cX8_sell 12 = .ok (.getfield 19, 3) := by decide +kernel
theorem dX8_sell_15 : decode cX8_sell 15 = .ok (.aload_n 0, 1) := by decide +kernel
theorem dX8_sell_16 : decode cX8_sell 16 = .ok (.getfield 10, 3) := by decide +kernel
theorem dX8_sell_19 : decode cX8_sell 19 = .ok (.invokevirtual 42, 3) := by decide +kernel
theorem dX8_sell_22 : decode cX8_sell 22 = .ok (.aload_n 0, 1) := by decide +kernel
theorem dX8_sell_23 : decode cX8_sell 23 = .ok (.getfield 10, 3) := by decide +kernel
theorem dX8_sell_26 : decode cX8_sell 26 = .ok (.iload_n 1, 1) := by decide +kernel
theorem dX8_sell_27 : decode cX8_sell 27 = .ok (.invokestatic 124, 3) := by decide +kernel
theorem dX8_sell_30 : decode cX8_sell 30 = .ok (.ireturn, 1) := by decide +kernel
theorem dX8_set_0 : decode cX8_set 0 = .ok (.iload_n 1, 1) := by decide +kernel
theorem dX8_set_1 : decode cX8_set 1 = .ok (.iconst 3, 1) := by decide +kernel
theorem dX8_set_2 : decode cX8_set 2 = .ok (.invokestatic 62, 3) := by decide +kernel
theorem dX8_set_5 : decode cX8_set 5 = .ok (.iload_n 2, 1) := by decide +kernel
theorem dX8_set_6 : decode cX8_set 6 = .ok (.iconst 0, 1) := by decide +kernel
theorem dX8_set_7 : decode cX8_set 7 = .ok (.getstatic 127, 3) := by decide +kernel
theorem dX8_set_10 : decode cX8_set 10 = .ok (.iload_n 1, 1) := by decide +kernel
theorem dX8_set_11 : decode cX8_set 11 = .ok (.iaload, 1) := by decide +kernel
theorem dX8_set_12 : decode cX8_set 12 = .ok (.invokestatic 30, 3) := by decide +kernel
theorem dX8_set_15 : decode cX8_set 15 = .ok (.aload_n 0, 1) := by decide +kernel
theorem dX8_set_16 : decode cX8_set 16 = .ok (.getfield 19, 3) := by decide +kernel
theorem dX8_set_19 : decode cX8_set 19 = .ok (.aload_n 0, 1) := by decide +kernel
theorem dX8_set_20 : decode cX8_set 20 = .ok (.getfield 10, 3) := by decide +kernel
theorem dX8_set_23 : decode cX8_set 23 = .ok (.invokevirtual 42, 3) := by decide +kernel
theorem dX8_set_26 : decode cX8_set 26 = .ok (.aload_n 0, 1) := by decide +kernel
theorem dX8_set_27 : decode cX8_set 27 = .ok (.getfield 10, 3) := by decide +kernel
theorem dX8_set_30 : decode cX8_set 30 = .ok (.getfield 130, 3) := by decide +kernel
theorem dX8_set_33 : decode cX8_set 33 = .ok (.iload_n 1, 1) := by decide +kernel
theorem dX8_set_34 : decode cX8_set 34 = .ok (.iaload, 1) := by decide +kernel
theorem dX8_set_35 : decode cX8_set 35 = .ok (.istore_n 3, 1) := by decide +kernel
theorem dX8_set_36 : decode cX8_set 36 = .ok (.aload_n 0, 1) := by decide +kernel
theorem dX8_set_37 : decode cX8_set 37 = .ok (.getfield 10, 3) := by decide +kernel
theorem dX8_set_40 : decode cX8_set 40 = .ok (.getfield 130, 3) := by decide +kernel
theorem dX8_set_43 : decode cX8_set 43 = .ok (.iload_n 1, 1) := by decide +kernel
theorem dX8_set_44 : decode cX8_set 44 = .ok (.iload_n 2, 1) := by decide +kernel
theorem dX8_set_45 : decode cX8_set 45 = .ok (.iastore, 1) := by decide +kernel
theorem dX8_set_46 : decode cX8_set 46 = .ok (.iload_n 3, 1) := by decide +kernel
theorem dX8_set_47 : decode cX8_set 47 = .ok (.ireturn, 1) := by decide +kernel
theorem dX8_stopped_0 : decode cX8_stopped 0 = .ok (.iload_n 1, 1) := by decide +kernel
theorem dX8_stopped_1 : decode cX8_stopped 1 = .ok (.iconst 0, 1) := by decide +kernel
theorem dX8_stopped_2 : decode cX8_stopped 2 = .ok (.iconst 1, 1) := by decide +kernel
theorem dX8_stopped_3 : decode cX8_stopped 3 = .ok (.invokestatic 30, 3) := by decide +kernel
theorem dX8_stopped_6 : decode cX8_stopped 6 = .ok (.iload_n 1, 1) := by decide +kernel
theorem dX8_stopped_7 : decode cX8_stopped 7 = .ok (.ifCond .ne 13, 3) := by decide +kernel
theorem dX8_stopped_10 : decode cX8_stopped 10 = .ok (.aload_n 0, 1) := by decide +kernel
theorem dX8_stopped_11 : decode cX8_stopped 11 = .ok (.getfield 10, 3) := by decide +kernel
theorem dX8_stopped_14 : decode cX8_stopped 14 = .ok (.getfield 168, 3) := by decide +kernel
theorem dX8_stopped_17 : decode cX8_stopped 17 = .ok (.goto 10, 3) := by decide +kernel
theorem dX8_stopped_20 : decode cX8_stopped 20 = .ok (.aload_n 0, 1) := by decide +kernel
theorem dX8_stopped_21 : decode cX8_stopped 21 = .ok (.getfield 10, 3) := by decide +kernel
theorem dX8_stopped_24 : decode cX8_stopped 24 = .ok (.getfield 171, 3) := by decide +kernel
theorem dX8_stopped_27 : decode cX8_stopped 27 = .ok (.ireturn, 1) := by decide +kernel
theorem dX8_undo_0 : decode cX8_undo 0 = .ok (.aload_n 0, 1) := by decide +kernel
theorem dX8_undo_1 : decode cX8_undo 1 = .ok (.getfield 19, 3) := by decide +kernel
theorem dX8_undo_4 : decode cX8_undo 4 = .ok (.getfield 174, 3) := by decide +kernel
theorem dX8_undo_7 : decode cX8_undo 7 = .ok (.ifCond .ne 13, 3) := by decide +kernel
theorem dX8_undo_10 : decode cX8_undo 10 = .ok (.new 177, 3) := by decide +kernel
theorem dX8_undo_13 : decode cX8_undo 13 = .ok (.dup, 1) := by decide +kernel
theorem dX8_undo_14 : decode cX8_undo 14 = .ok (.ldc 179, 2) := by decide +kernel
theorem dX8_undo_16 : decode cX8_undo 16 = .ok (.invokespecial 181, 3) := by decide +kernel
theorem dX8_undo_19 : decode cX8_undo 19 = .ok (.athrow, 1) := by decide +kernel
theorem dX8_undo_20 : decode cX8_undo 20 = .ok (.aload_n 0, 1) := by decide +kernel
theorem dX8_undo_21 : decode cX8_undo 21 = .ok (.getfield 19, 3) := by decide +kernel
theorem dX8_undo_24 : decode cX8_undo 24 = .ok (.aload_n 0, 1) := by decide +kernel
theorem dX8_undo_25 : decode cX8_undo 25 = .ok (.getfield 10, 3) := by decide +kernel
theorem dX8_undo_28 : decode cX8_undo 28 = .ok (.invokevirtual 182, 3) := by decide +kernel
theorem dX8_undo_31 : decode cX8_undo 31 = .ok (.aload_n 0, 1) := by decide +kernel
theorem dX8_undo_32 : decode cX8_undo 32 = .ok (.getfield 19, 3) := by decide +kernel
theorem dX8_undo_35 : decode cX8_undo 35 = .ok (.getfield 174, 3) := by decide +kernel
theorem dX8_undo_38 : decode cX8_undo 38 = .ok (.ireturn, 1) := by decide +kernel
theorem dX8_keep_0 : decode cX8_keep 0 = .ok (.aload_n 0, 1) := by decide +kernel
theorem dX8_keep_1 : decode cX8_keep 1 = .ok (.getfield 19, 3) := by decide +kernel
theorem dX8_keep_4 : decode cX8_keep 4 = .ok (.getfield 185, 3) := by decide +kernel
theorem dX8_keep_7 : decode cX8_keep 7 = .ok (.aload_n 0, 1) := by decide +kernel
theorem dX8_keep_8 : decode cX8_keep 8 = .ok (.getfield 10, 3) := by decide +kernel
theorem dX8_keep_11 : decode cX8_keep 11 = .ok (.invokevirtual 188, 3) := by decide +kernel
theorem dX8_keep_14 : decode cX8_keep 14 = .ok (.aload_n 0, 1) := by decide +kernel
theorem dX8_keep_15 : decode cX8_keep 15 = .ok (.getfield 19, 3) := by decide +kernel
theorem dX8_keep_18 : decode cX8_keep 18 = .ok (.iconst 1, 1) := by decide +kernel
theorem dX8_keep_19 : decode cX8_keep 19 = .ok (.putfield 191, 3) := by decide +kernel
theorem dX8_keep_22 : decode cX8_keep 22 = .ok (.aload_n 0, 1) := by decide +kernel
theorem dX8_keep_23 : decode cX8_keep 23 = .ok (.getfield 10, 3) := by decide +kernel
theorem dX8_keep_26 : decode cX8_keep 26 = .ok (.getfield 59, 3) := by decide +kernel
theorem dX8_keep_29 : decode cX8_keep 29 = .ok (.ireturn, 1) := by decide +kernel
theorem dX8_restore_0 : decode cX8_restore 0 = .ok (.aload_n 0, 1) := by decide +kernel
theorem dX8_restore_1 : decode cX8_restore 1 = .ok (.getfield 19, 3) := by decide +kernel
theorem dX8_restore_4 : decode cX8_restore 4 = .ok (.getfield 191, 3) := by decide +kernel
theorem dX8_restore_7 : decode cX8_restore 7 = .ok (.ifCond .ne 13, 3) := by decide +kernel
theorem dX8_restore_10 : decode cX8_restore 10 = .ok (.new 177, 3) := by decide +kernel
theorem dX8_restore_13 : decode cX8_restore 13 = .ok (.dup, 1) := by decide +kernel
theorem dX8_restore_14 : decode cX8_restore 14 = .ok (.ldc 195, 2) := by decide +kernel
theorem dX8_restore_16 : decode cX8_restore 16 = .ok (.invokespecial 181, 3) := by decide +kernel
theorem dX8_restore_19 : decode cX8_restore 19 = .ok (.athrow, 1) := by decide +kernel
theorem dX8_restore_20 : decode cX8_restore 20 = .ok (.aload_n 0, 1) := by decide +kernel
theorem dX8_restore_21 : decode cX8_restore 21 = .ok (.getfield 19, 3) := by decide +kernel
theorem dX8_restore_24 : decode cX8_restore 24 = .ok (.aload_n 0, 1) := by decide +kernel
theorem dX8_restore_25 : decode cX8_restore 25 = .ok (.getfield 10, 3) := by decide +kernel
theorem dX8_restore_28 : decode cX8_restore 28 = .ok (.invokevirtual 42, 3) := by decide +kernel
theorem dX8_restore_31 : decode cX8_restore 31 = .ok (.aload_n 0, 1) := by decide +kernel
theorem dX8_restore_32 : decode cX8_restore 32 = .ok (.getfield 10, 3) := by decide +kernel
theorem dX8_restore_35 : decode cX8_restore 35 = .ok (.aload_n 0, 1) := by decide +kernel
theorem dX8_restore_36 : decode cX8_restore 36 = .ok (.getfield 19, 3) := by decide +kernel
theorem dX8_restore_39 : decode cX8_restore 39 = .ok (.getfield 185, 3) := by decide +kernel
theorem dX8_restore_42 : decode cX8_restore 42 = .ok (.invokevirtual 188, 3) := by decide +kernel
theorem dX8_restore_45 : decode cX8_restore 45 = .ok (.aload_n 0, 1) := by decide +kernel
theorem dX8_restore_46 : decode cX8_restore 46 = .ok (.getfield 10, 3) := by decide +kernel
theorem dX8_restore_49 : decode cX8_restore 49 = .ok (.getfield 59, 3) := by decide +kernel
theorem dX8_restore_52 : decode cX8_restore 52 = .ok (.ireturn, 1) := by decide +kernel
theorem dX8_drumOf_0 : decode cX8_drumOf 0 = .ok (.iload_n 1, 1) := by decide +kernel
theorem dX8_drumOf_1 : decode cX8_drumOf 1 = .ok (.aload_n 0, 1) := by decide +kernel
theorem dX8_drumOf_2 : decode cX8_drumOf 2 = .ok (.getfield 10, 3) := by decide +kernel
theorem dX8_drumOf_5 : decode cX8_drumOf 5 = .ok (.getfield 34, 3) := by decide +kernel
theorem dX8_drumOf_8 : decode cX8_drumOf 8 = .ok (.invokestatic 62, 3) := by decide +kernel
theorem dX8_drumOf_11 : decode cX8_drumOf 11 = .ok (.iload_n 2, 1) := by decide +kernel
theorem dX8_drumOf_12 : decode cX8_drumOf 12 = .ok (.iconst 0, 1) := by decide +kernel
theorem dX8_drumOf_13 : decode cX8_drumOf 13 = .ok (.bipush 8, 2) := by decide +kernel
theorem dX8_drumOf_15 : decode cX8_drumOf 15 = .ok (.invokestatic 30, 3) := by decide +kernel
theorem dX8_drumOf_18 : decode cX8_drumOf 18 = .ok (.aload_n 0, 1) := by decide +kernel
theorem dX8_drumOf_19 : decode cX8_drumOf 19 = .ok (.getfield 10, 3) := by decide +kernel
theorem dX8_drumOf_22 : decode cX8_drumOf 22 = .ok (.iload_n 1, 1) := by decide +kernel
theorem dX8_drumOf_23 : decode cX8_drumOf 23 = .ok (.iload_n 2, 1) := by decide +kernel
theorem dX8_drumOf_24 : decode cX8_drumOf 24 = .ok (.invokestatic 197, 3) := by decide +kernel
theorem dX8_drumOf_27 : decode cX8_drumOf 27 = .ok (.ireturn, 1) := by decide +kernel
theorem dX8_sampleOf_0 : decode cX8_sampleOf 0 = .ok (.iload_n 1, 1) := by decide +kernel
theorem dX8_sampleOf_1 : decode cX8_sampleOf 1 = .ok (.aload_n 0, 1) := by decide +kernel
theorem dX8_sampleOf_2 : decode cX8_sampleOf 2 = .ok (.getfield 10, 3) := by decide +kernel
theorem dX8_sampleOf_5 : decode cX8_sampleOf 5 = .ok (.getfield 59, 3) := by decide +kernel
theorem dX8_sampleOf_8 : decode cX8_sampleOf 8 = .ok (.invokestatic 62, 3) := by decide +kernel
theorem dX8_sampleOf_11 : decode cX8_sampleOf 11 = .ok (.iload_n 2, 1) := by decide +kernel
theorem dX8_sampleOf_12 : decode cX8_sampleOf 12 = .ok (.iconst 0, 1) := by decide +kernel
theorem dX8_sampleOf_13 : decode cX8_sampleOf 13 = .ok (.bipush 8, 2) := by decide +kernel
theorem dX8_sampleOf_15 : decode cX8_sampleOf 15 = .ok (.invokestatic 30, 3) := by decide +kernel
theorem dX8_sampleOf_18 : decode cX8_sampleOf 18 = .ok (.aload_n 0, 1) := by decide +kernel
theorem dX8_sampleOf_19 : decode cX8_sampleOf 19 = .ok (.getfield 10, 3) := by decide +kernel
theorem dX8_sampleOf_22 : decode cX8_sampleOf 22 = .ok (.getfield 109, 3) := by decide +kernel
theorem dX8_sampleOf_25 : decode cX8_sampleOf 25 = .ok (.iload_n 1, 1) := by decide +kernel
theorem dX8_sampleOf_26 : decode cX8_sampleOf 26 = .ok (.aaload, 1) := by decide +kernel
theorem dX8_sampleOf_27 : decode cX8_sampleOf 27 = .ok (.iload_n 2, 1) := by decide +kernel
theorem dX8_sampleOf_28 : decode cX8_sampleOf 28 = .ok (.aload_n 0, 1) := by decide +kernel
theorem dX8_sampleOf_29 : decode cX8_sampleOf 29 = .ok (.getfield 10, 3) := by decide +kernel
theorem dX8_sampleOf_32 : decode cX8_sampleOf 32 = .ok (.getfield 130, 3) := by decide +kernel
theorem dX8_sampleOf_35 : decode cX8_sampleOf 35 = .ok (.iconst 1, 1) := by decide +kernel
theorem dX8_sampleOf_36 : decode cX8_sampleOf 36 = .ok (.iaload, 1) := by decide +kernel
theorem dX8_sampleOf_37 : decode cX8_sampleOf 37 = .ok (.invokevirtual 201, 3) := by decide +kernel
theorem dX8_sampleOf_40 : decode cX8_sampleOf 40 = .ok (.ireturn, 1) := by decide +kernel
theorem dX8_reading_0 : decode cX8_reading 0 = .ok (.iload_n 1, 1) := by decide +kernel
theorem dX8_reading_1 : decode cX8_reading 1 = .ok (.aload_n 0, 1) := by decide +kernel
theorem dX8_reading_2 : decode cX8_reading 2 = .ok (.getfield 10, 3) := by decide +kernel
theorem dX8_reading_5 : decode cX8_reading 5 = .ok (.getfield 59, 3) := by decide +kernel
theorem dX8_reading_8 : decode cX8_reading 8 = .ok (.invokestatic 62, 3) := by decide +kernel
theorem dX8_reading_11 : decode cX8_reading 11 = .ok (.iload_n 3, 1) := by decide +kernel
theorem dX8_reading_12 : decode cX8_reading 12 = .ok (.iconst 0, 1) := by decide +kernel
theorem dX8_reading_13 : decode cX8_reading 13 = .ok (.iconst 3, 1) := by decide +kernel
theorem dX8_reading_14 : decode cX8_reading 14 = .ok (.invokestatic 30, 3) := by decide +kernel
theorem dX8_reading_17 : decode cX8_reading 17 = .ok (.iload_n 2, 1) := by decide +kernel
theorem dX8_reading_18 : decode cX8_reading 18 = .ok (.ifCond .ge 13, 3) := by decide +kernel
theorem dX8_reading_21 : decode cX8_reading 21 = .ok (.new 150, 3) := by decide +kernel
theorem dX8_reading_24 : decode cX8_reading 24 = .ok (.dup, 1) := by decide +kernel
theorem dX8_reading_25 : decode cX8_reading 25 = .ok (.ldc 203, 2) := by decide +kernel
theorem dX8_reading_27 : decode cX8_reading 27 = .ok (.invokespecial 154, 3) := by decide +kernel
theorem dX8_reading_30 : decode cX8_reading 30 = .ok (.athrow, 1) := by decide +kernel
theorem dX8_reading_31 : decode cX8_reading 31 = .ok (.aload_n 0, 1) := by decide +kernel
theorem dX8_reading_32 : decode cX8_reading 32 = .ok (.getfield 10, 3) := by decide +kernel
theorem dX8_reading_35 : decode cX8_reading 35 = .ok (.getfield 109, 3) := by decide +kernel
theorem dX8_reading_38 : decode cX8_reading 38 = .ok (.iload_n 1, 1) := by decide +kernel
theorem dX8_reading_39 : decode cX8_reading 39 = .ok (.aaload, 1) := by decide +kernel
theorem dX8_reading_40 : decode cX8_reading 40 = .ok (.iload_n 2, 1) := by decide +kernel
theorem dX8_reading_41 : decode cX8_reading 41 = .ok (.iload_n 3, 1) := by decide +kernel
theorem dX8_reading_42 : decode cX8_reading 42 = .ok (.invokevirtual 205, 3) := by decide +kernel
theorem dX8_reading_45 : decode cX8_reading 45 = .ok (.ireturn, 1) := by decide +kernel
theorem dX8_needle_0 : decode cX8_needle 0 = .ok (.iload_n 1, 1) := by decide +kernel
theorem dX8_needle_1 : decode cX8_needle 1 = .ok (.iconst 3, 1) := by decide +kernel
theorem dX8_needle_2 : decode cX8_needle 2 = .ok (.invokestatic 62, 3) := by decide +kernel
theorem dX8_needle_5 : decode cX8_needle 5 = .ok (.iload_n 2, 1) := by decide +kernel
theorem dX8_needle_6 : decode cX8_needle 6 = .ok (.iconst 0, 1) := by decide +kernel
theorem dX8_needle_7 : decode cX8_needle 7 = .ok (.iconst 2, 1) := by decide +kernel
theorem dX8_needle_8 : decode cX8_needle 8 = .ok (.invokestatic 30, 3) := by decide +kernel
theorem dX8_needle_11 : decode cX8_needle 11 = .ok (.aload_n 0, 1) := by decide +kernel
theorem dX8_needle_12 : decode cX8_needle 12 = .ok (.getfield 10, 3) := by decide +kernel
theorem dX8_needle_15 : decode cX8_needle 15 = .ok (.getfield 97, 3) := by decide +kernel
theorem dX8_needle_18 : decode cX8_needle 18 = .ok (.iload_n 1, 1) := by decide +kernel
theorem dX8_needle_19 : decode cX8_needle 19 = .ok (.aaload, 1) := by decide +kernel
theorem dX8_needle_20 : decode cX8_needle 20 = .ok (.iload_n 2, 1) := by decide +kernel
theorem dX8_needle_21 : decode cX8_needle 21 = .ok (.invokevirtual 208, 3) := by decide +kernel
theorem dX8_needle_24 : decode cX8_needle 24 = .ok (.ireturn, 1) := by decide +kernel
theorem dX8_bathOf_0 : decode cX8_bathOf 0 = .ok (.iload_n 1, 1) := by decide +kernel
theorem dX8_bathOf_1 : decode cX8_bathOf 1 = .ok (.iconst 3, 1) := by decide +kernel
theorem dX8_bathOf_2 : decode cX8_bathOf 2 = .ok (.invokestatic 62, 3) := by decide +kernel
theorem dX8_bathOf_5 : decode cX8_bathOf 5 = .ok (.iload_n 2, 1) := by decide +kernel
theorem dX8_bathOf_6 : decode cX8_bathOf 6 = .ok (.iconst 0, 1) := by decide +kernel
theorem dX8_bathOf_7 : decode cX8_bathOf 7 = .ok (.iconst 2, 1) := by decide +kernel
theorem dX8_bathOf_8 : decode cX8_bathOf 8 = .ok (.invokestatic 30, 3) := by decide +kernel
theorem dX8_bathOf_11 : decode cX8_bathOf 11 = .ok (.aload_n 0, 1) := by decide +kernel
theorem dX8_bathOf_12 : decode cX8_bathOf 12 = .ok (.getfield 10, 3) := by decide +kernel
theorem dX8_bathOf_15 : decode cX8_bathOf 15 = .ok (.iload_n 1, 1) := by decide +kernel
theorem dX8_bathOf_16 : decode cX8_bathOf 16 = .ok (.iload_n 2, 1) := by decide +kernel
theorem dX8_bathOf_17 : decode cX8_bathOf 17 = .ok (.invokevirtual 210, 3) := by decide +kernel
theorem dX8_bathOf_20 : decode cX8_bathOf 20 = .ok (.ireturn, 1) := by decide +kernel
theorem dX8_count_0 : decode cX8_count 0 = .ok (.iload_n 1, 1) := by decide +kernel
theorem dX8_count_1 : decode cX8_count 1 = .ok (.iconst 0, 1) := by decide +kernel
theorem dX8_count_2 : decode cX8_count 2 = .ok (.bipush 11, 2) := by decide +kernel
theorem dX8_count_4 : decode cX8_count 4 = .ok (.invokestatic 30, 3) := by decide +kernel
theorem dX8_count_7 : decode cX8_count 7 = .ok (.iload_n 1, 1) := by decide +kernel
theorem dX8_count_8 : decode cX8_count 8 = .ok (.bipush 11, 2) := by decide +kernel
theorem dX8_count_10 : decode cX8_count 10 = .ok (.if_icmp .ne 13, 3) := by decide +kernel
theorem dX8_count_13 : decode cX8_count 13 = .ok (.aload_n 0, 1) := by decide +kernel
theorem dX8_count_14 : decode cX8_count 14 = .ok (.getfield 19, 3) := by decide +kernel
theorem dX8_count_17 : decode cX8_count 17 = .ok (.getfield 174, 3) := by decide +kernel
theorem dX8_count_20 : decode cX8_count 20 = .ok (.goto 11, 3) := by decide +kernel
theorem dX8_count_23 : decode cX8_count 23 = .ok (.aload_n 0, 1) := by decide +kernel
theorem dX8_count_24 : decode cX8_count 24 = .ok (.getfield 10, 3) := by decide +kernel
theorem dX8_count_27 : decode cX8_count 27 = .ok (.iload_n 1, 1) := by decide +kernel
theorem dX8_count_28 : decode cX8_count 28 = .ok (.invokevirtual 213, 3) := by decide +kernel
theorem dX8_count_31 : decode cX8_count 31 = .ok (.ireturn, 1) := by decide +kernel
theorem dX8_noSink_0 : decode cX8_noSink 0 = .ok (.iload_n 1, 1) := by decide +kernel
theorem dX8_noSink_1 : decode cX8_noSink 1 = .ok (.iconst 3, 1) := by decide +kernel
theorem dX8_noSink_2 : decode cX8_noSink 2 = .ok (.invokestatic 62, 3) := by decide +kernel
theorem dX8_noSink_5 : decode cX8_noSink 5 = .ok (.iload_n 2, 1) := by decide +kernel
theorem dX8_noSink_6 : decode cX8_noSink 6 = .ok (.aload_n 0, 1) := by decide +kernel
theorem dX8_noSink_7 : decode cX8_noSink 7 = .ok (.getfield 10, 3) := by decide +kernel
theorem dX8_noSink_10 : decode cX8_noSink 10 = .ok (.getfield 59, 3) := by decide +kernel
theorem dX8_noSink_13 : decode cX8_noSink 13 = .ok (.invokestatic 62, 3) := by decide +kernel
theorem dX8_noSink_16 : decode cX8_noSink 16 = .ok (.aload_n 0, 1) := by decide +kernel
theorem dX8_noSink_17 : decode cX8_noSink 17 = .ok (.getfield 10, 3) := by decide +kernel
theorem dX8_noSink_20 : decode cX8_noSink 20 = .ok (.iload_n 1, 1) := by decide +kernel
theorem dX8_noSink_21 : decode cX8_noSink 21 = .ok (.iload_n 2, 1) := by decide +kernel
theorem dX8_noSink_22 : decode cX8_noSink 22 = .ok (.invokevirtual 87, 3) := by decide +kernel
theorem dX8_noSink_25 : decode cX8_noSink 25 = .ok (.ireturn, 1) := by decide +kernel
theorem dX8_noSale_0 : decode cX8_noSale 0 = .ok (.iload_n 1, 1) := by decide +kernel
theorem dX8_noSale_1 : decode cX8_noSale 1 = .ok (.aload_n 0, 1) := by decide +kernel
theorem dX8_noSale_2 : decode cX8_noSale 2 = .ok (.getfield 10, 3) := by decide +kernel
theorem dX8_noSale_5 : decode cX8_noSale 5 = .ok (.getfield 34, 3) := by decide +kernel
theorem dX8_noSale_8 : decode cX8_noSale 8 = .ok (.invokestatic 62, 3) := by decide +kernel
theorem dX8_noSale_11 : decode cX8_noSale 11 = .ok (.aload_n 0, 1) := by decide +kernel
theorem dX8_noSale_12 : decode cX8_noSale 12 = .ok (.getfield 10, 3) := by decide +kernel
theorem dX8_noSale_15 : decode cX8_noSale 15 = .ok (.iload_n 1, 1) := by decide +kernel
theorem dX8_noSale_16 : decode cX8_noSale 16 = .ok (.invokestatic 118, 3) := by decide +kernel
theorem dX8_noSale_19 : decode cX8_noSale 19 = .ok (.ireturn, 1) := by decide +kernel
theorem dX8_ifSunk_0 : decode cX8_ifSunk 0 = .ok (.iload_n 1, 1) := by decide +kernel
theorem dX8_ifSunk_1 : decode cX8_ifSunk 1 = .ok (.iconst 3, 1) := by decide +kernel
theorem dX8_ifSunk_2 : decode cX8_ifSunk 2 = .ok (.invokestatic 62, 3) := by decide +kernel
theorem dX8_ifSunk_5 : decode cX8_ifSunk 5 = .ok (.iload_n 2, 1) := by decide +kernel
theorem dX8_ifSunk_6 : decode cX8_ifSunk 6 = .ok (.aload_n 0, 1) := by decide +kernel
theorem dX8_ifSunk_7 : decode cX8_ifSunk 7 = .ok (.getfield 10, 3) := by decide +kernel
theorem dX8_ifSunk_10 : decode cX8_ifSunk 10 = .ok (.getfield 59, 3) := by decide +kernel
theorem dX8_ifSunk_13 : decode cX8_ifSunk 13 = .ok (.invokestatic 62, 3) := by decide +kernel
theorem dX8_ifSunk_16 : decode cX8_ifSunk 16 = .ok (.iload_n 3, 1) := by decide +kernel
theorem dX8_ifSunk_17 : decode cX8_ifSunk 17 = .ok (.bipush 50, 2) := by decide +kernel
theorem dX8_ifSunk_19 : decode cX8_ifSunk 19 = .ok (.sipush 200, 3) := by decide +kernel
theorem dX8_ifSunk_22 : decode cX8_ifSunk 22 = .ok (.invokestatic 30, 3) := by decide +kernel
theorem dX8_ifSunk_25 : decode cX8_ifSunk 25 = .ok (.iload 4, 2) := by decide +kernel
theorem dX8_ifSunk_27 : decode cX8_ifSunk 27 = .ok (.iconst 1, 1) := by decide +kernel
theorem dX8_ifSunk_28 : decode cX8_ifSunk 28 = .ok (.bipush 60, 2) := by decide +kernel
theorem dX8_ifSunk_30 : decode cX8_ifSunk 30 = .ok (.invokestatic 30, 3) := by decide +kernel
theorem dX8_ifSunk_33 : decode cX8_ifSunk 33 = .ok (.aload_n 0, 1) := by decide +kernel
theorem dX8_ifSunk_34 : decode cX8_ifSunk 34 = .ok (.getfield 10, 3) := by decide +kernel
theorem dX8_ifSunk_37 : decode cX8_ifSunk 37 = .ok (.iload_n 1, 1) := by decide +kernel
theorem dX8_ifSunk_38 : decode cX8_ifSunk 38 = .ok (.iload_n 2, 1) := by decide +kernel
theorem dX8_ifSunk_39 : decode cX8_ifSunk 39 = .ok (.iload_n 3, 1) := by decide +kernel
theorem dX8_ifSunk_40 : decode cX8_ifSunk 40 = .ok (.iload 4, 2) := by decide +kernel
theorem dX8_ifSunk_42 : decode cX8_ifSunk 42 = .ok (.invokevirtual 216, 3) := by decide +kernel
theorem dX8_ifSunk_45 : decode cX8_ifSunk 45 = .ok (.ireturn, 1) := by decide +kernel
theorem dX8_secondsTo_0 : decode cX8_secondsTo 0 = .ok (.iload_n 1, 1) := by decide +kernel
theorem dX8_secondsTo_1 : decode cX8_secondsTo 1 = .ok (.iconst 3, 1) := by decide +kernel
theorem dX8_secondsTo_2 : decode cX8_secondsTo 2 = .ok (.invokestatic 62, 3) := by decide +kernel
theorem dX8_secondsTo_5 : decode cX8_secondsTo 5 = .ok (.iload_n 2, 1) := by decide +kernel
theorem dX8_secondsTo_6 : decode cX8_secondsTo 6 = .ok (.aload_n 0, 1) := by decide +kernel
theorem dX8_secondsTo_7 : decode cX8_secondsTo 7 = .ok (.getfield 10, 3) := by decide +kernel
theorem dX8_secondsTo_10 : decode cX8_secondsTo 10 = .ok (.getfield 59, 3) := by decide +kernel
theorem dX8_secondsTo_13 : decode cX8_secondsTo 13 = .ok (.invokestatic 62, 3) := by decide +kernel
theorem dX8_secondsTo_16 : decode cX8_secondsTo 16 = .ok (.iload_n 3, 1) := by decide +kernel
theorem dX8_secondsTo_17 : decode cX8_secondsTo 17 = .ok (.bipush 50, 2) := by decide +kernel
theorem dX8_secondsTo_19 : decode cX8_secondsTo 19 = .ok (.sipush 200, 3) := by decide +kernel
theorem dX8_secondsTo_22 : decode cX8_secondsTo 22 = .ok (.invokestatic 30, 3) := by decide +kernel
theorem dX8_secondsTo_25 : decode cX8_secondsTo 25 = .ok (.iload 4, 2) := by decide +kernel
theorem dX8_secondsTo_27 : decode cX8_secondsTo 27 = .ok (.iconst 1, 1) := by decide +kernel
theorem dX8_secondsTo_28 : decode cX8_secondsTo 28 = .ok (.sipush 400, 3) := by decide +kernel
theorem dX8_secondsTo_31 : decode cX8_secondsTo 31 = .ok (.invokestatic 30, 3) := by decide +kernel
theorem dX8_secondsTo_34 : decode cX8_secondsTo 34 = .ok (.iconst 1, 1) := by decide +kernel
theorem dX8_secondsTo_35 : decode cX8_secondsTo 35 = .ok (.istore 5, 2) := by decide +kernel
theorem dX8_secondsTo_37 : decode cX8_secondsTo 37 = .ok (.iload 5, 2) := by decide +kernel
theorem dX8_secondsTo_39 : decode cX8_secondsTo 39 = .ok (.bipush 60, 2) := by decide +kernel
theorem dX8_secondsTo_41 : decode cX8_secondsTo 41 = .ok (.if_icmp .gt 29, 3) := by decide +kernel
theorem dX8_secondsTo_44 : decode cX8_secondsTo 44 = .ok (.aload_n 0, 1) := by decide +kernel
theorem dX8_secondsTo_45 : decode cX8_secondsTo 45 = .ok (.getfield 10, 3) := by decide +kernel
theorem dX8_secondsTo_48 : decode cX8_secondsTo 48 = .ok (.iload_n 1, 1) := by decide +kernel
theorem dX8_secondsTo_49 : decode cX8_secondsTo 49 = .ok (.iload_n 2, 1) := by decide +kernel
theorem dX8_secondsTo_50 : decode cX8_secondsTo 50 = .ok (.iload_n 3, 1) := by decide +kernel
theorem dX8_secondsTo_51 : decode cX8_secondsTo 51 = .ok (.iload 5, 2) := by decide +kernel
theorem dX8_secondsTo_53 : decode cX8_secondsTo 53 = .ok (.invokevirtual 216, 3) := by decide +kernel
theorem dX8_secondsTo_56 : decode cX8_secondsTo 56 = .ok (.iload 4, 2) := by decide +kernel
theorem dX8_secondsTo_58 : decode cX8_secondsTo 58 = .ok (.if_icmp .lt 6, 3) := by decide +kernel
theorem dX8_secondsTo_61 : decode cX8_secondsTo 61 = .ok (.iload 5, 2) := by decide +kernel
theorem dX8_secondsTo_63 : decode cX8_secondsTo 63 = .ok (.ireturn, 1) := by decide +kernel
theorem dX8_secondsTo_64 : decode cX8_secondsTo 64 = .ok (.iinc 5 1, 3) := by decide +kernel
theorem dX8_secondsTo_67 : decode cX8_secondsTo 67 = .ok (.goto (-30), 3) := by decide +kernel
theorem dX8_secondsTo_70 : decode cX8_secondsTo 70 = .ok (.iconst (-1), 1) := by decide +kernel
theorem dX8_secondsTo_71 : decode cX8_secondsTo 71 = .ok (.ireturn, 1) := by decide +kernel
theorem dX8_readyIn_0 : decode cX8_readyIn 0 = .ok (.iload_n 1, 1) := by decide +kernel
theorem dX8_readyIn_1 : decode cX8_readyIn 1 = .ok (.aload_n 0, 1) := by decide +kernel
theorem dX8_readyIn_2 : decode cX8_readyIn 2 = .ok (.getfield 10, 3) := by decide +kernel
theorem dX8_readyIn_5 : decode cX8_readyIn 5 = .ok (.getfield 59, 3) := by decide +kernel
theorem dX8_readyIn_8 : decode cX8_readyIn 8 = .ok (.invokestatic 62, 3) := by decide +kernel
theorem dX8_readyIn_11 : decode cX8_readyIn 11 = .ok (.aload_n 0, 1) := by decide +kernel
theorem dX8_readyIn_12 : decode cX8_readyIn 12 = .ok (.getfield 10, 3) := by decide +kernel
theorem dX8_readyIn_15 : decode cX8_readyIn 15 = .ok (.iload_n 1, 1) := by decide +kernel
theorem dX8_readyIn_16 : decode cX8_readyIn 16 = .ok (.invokevirtual 219, 3) := by decide +kernel
theorem dX8_readyIn_19 : decode cX8_readyIn 19 = .ok (.ireturn, 1) := by decide +kernel
theorem dX8_bestBath_0 : decode cX8_bestBath 0 = .ok (.iload_n 1, 1) := by decide +kernel
theorem dX8_bestBath_1 : decode cX8_bestBath 1 = .ok (.aload_n 0, 1) := by decide +kernel
theorem dX8_bestBath_2 : decode cX8_bestBath 2 = .ok (.getfield 10, 3) := by decide +kernel
theorem dX8_bestBath_5 : decode cX8_bestBath 5 = .ok (.getfield 59, 3) := by decide +kernel
theorem dX8_bestBath_8 : decode cX8_bestBath 8 = .ok (.invokestatic 62, 3) := by decide +kernel
theorem dX8_bestBath_11 : decode cX8_bestBath 11 = .ok (.aload_n 0, 1) := by decide +kernel
theorem dX8_bestBath_12 : decode cX8_bestBath 12 = .ok (.getfield 10, 3) := by decide +kernel
theorem dX8_bestBath_15 : decode cX8_bestBath 15 = .ok (.iload_n 1, 1) := by decide +kernel
theorem dX8_bestBath_16 : decode cX8_bestBath 16 = .ok (.invokevirtual 222, 3) := by decide +kernel
theorem dX8_bestBath_19 : decode cX8_bestBath 19 = .ok (.ireturn, 1) := by decide +kernel
theorem dX8_readShare_0 : decode cX8_readShare 0 = .ok (.aload_n 0, 1) := by decide +kernel
theorem dX8_readShare_1 : decode cX8_readShare 1 = .ok (.getfield 10, 3) := by decide +kernel
theorem dX8_readShare_4 : decode cX8_readShare 4 = .ok (.getfield 59, 3) := by decide +kernel
theorem dX8_readShare_7 : decode cX8_readShare 7 = .ok (.ifCond .gt 5, 3) := by decide +kernel
theorem dX8_readShare_10 : decode cX8_readShare 10 = .ok (.dconst 1, 1) := by decide +kernel
theorem dX8_readShare_11 : decode cX8_readShare 11 = .ok (.dreturn, 1) := by decide +kernel
theorem dX8_readShare_12 : decode cX8_readShare 12 = .ok (.aload_n 0, 1) := by decide +kernel
theorem dX8_readShare_13 : decode cX8_readShare 13 = .ok (.getfield 10, 3) := by decide +kernel
theorem dX8_readShare_16 : decode cX8_readShare 16 = .ok (.invokevirtual 225, 3) := by decide +kernel
theorem dX8_readShare_19 : decode cX8_readShare 19 = .ok (.i2d, 1) := by decide +kernel
theorem dX8_readShare_20 : decode cX8_readShare 20 = .ok (.aload_n 0, 1) := by decide +kernel
theorem dX8_readShare_21 : decode cX8_readShare 21 = .ok (.getfield 10, 3) := by decide +kernel
theorem dX8_readShare_24 : decode cX8_readShare 24 = .ok (.getfield 59, 3) := by decide +kernel
theorem dX8_readShare_27 : decode cX8_readShare 27 = .ok (.i2d, 1) := by decide +kernel
theorem dX8_readShare_28 : decode cX8_readShare 28 = .ok (.ddiv, 1) := by decide +kernel
theorem dX8_readShare_29 : decode cX8_readShare 29 = .ok (.dreturn, 1) := by decide +kernel
theorem dX8_mindNumber_0 : decode cX8_mindNumber 0 = .ok (.iload_n 0, 1) := by decide +kernel
theorem dX8_mindNumber_1 : decode cX8_mindNumber 1 = .ok (.ifCond .lt 8, 3) := by decide +kernel
theorem dX8_mindNumber_4 : decode cX8_mindNumber 4 = .ok (.iload_n 0, 1) := by decide +kernel
theorem dX8_mindNumber_5 : decode cX8_mindNumber 5 = .ok (.iload_n 1, 1) := by decide +kernel
theorem dX8_mindNumber_6 : decode cX8_mindNumber 6 = .ok (.if_icmp .lt 14, 3) := by decide +kernel
theorem dX8_mindNumber_9 : decode cX8_mindNumber 9 = .ok (.new 254, 3) := by decide +kernel
theorem dX8_mindNumber_12 : decode cX8_mindNumber 12 = .ok (.dup, 1) := by decide +kernel
theorem dX8_mindNumber_13 : decode cX8_mindNumber 13 = .ok (.ldc_w 256, 3) := by decide +kernel
theorem dX8_mindNumber_16 : decode cX8_mindNumber 16 = .ok (.invokespecial 258, 3) := by decide +kernel
theorem dX8_mindNumber_19 : decode cX8_mindNumber 19 = .ok (.athrow, 1) := by decide +kernel
theorem dX8_mindNumber_20 : decode cX8_mindNumber 20 = .ok (.return_, 1) := by decide +kernel
theorem dX8_mindRange_0 : decode cX8_mindRange 0 = .ok (.iload_n 0, 1) := by decide +kernel
theorem dX8_mindRange_1 : decode cX8_mindRange 1 = .ok (.iload_n 1, 1) := by decide +kernel
theorem dX8_mindRange_2 : decode cX8_mindRange 2 = .ok (.if_icmp .lt 8, 3) := by decide +kernel
theorem dX8_mindRange_5 : decode cX8_mindRange 5 = .ok (.iload_n 0, 1) := by decide +kernel
theorem dX8_mindRange_6 : decode cX8_mindRange 6 = .ok (.iload_n 2, 1) := by decide +kernel
theorem dX8_mindRange_7 : decode cX8_mindRange 7 = .ok (.if_icmp .le 14, 3) := by decide +kernel
theorem dX8_mindRange_10 : decode cX8_mindRange 10 = .ok (.new 150, 3) := by decide +kernel
theorem dX8_mindRange_13 : decode cX8_mindRange 13 = .ok (.dup, 1) := by decide +kernel
theorem dX8_mindRange_14 : decode cX8_mindRange 14 = .ok (.ldc_w 259, 3) := by decide +kernel
theorem dX8_mindRange_17 : decode cX8_mindRange 17 = .ok (.invokespecial 154, 3) := by decide +kernel
theorem dX8_mindRange_20 : decode cX8_mindRange 20 = .ok (.athrow, 1) := by decide +kernel
theorem dX8_mindRange_21 : decode cX8_mindRange 21 = .ok (.return_, 1) := by decide +kernel
theorem dX8_refuseFor_0 : decode cX8_refuseFor 0 = .ok (.iload_n 0, 1) := by decide +kernel
theorem dX8_refuseFor_1 : decode cX8_refuseFor 1 = .ok (.bipush 13, 2) := by decide +kernel
theorem dX8_refuseFor_3 : decode cX8_refuseFor 3 = .ok (.if_icmp .ne 14, 3) := by decide +kernel
theorem dX8_refuseFor_6 : decode cX8_refuseFor 6 = .ok (.new 254, 3) := by decide +kernel
theorem dX8_refuseFor_9 : decode cX8_refuseFor 9 = .ok (.dup, 1) := by decide +kernel
theorem dX8_refuseFor_10 : decode cX8_refuseFor 10 = .ok (.ldc_w 261, 3) := by decide +kernel
theorem dX8_refuseFor_13 : decode cX8_refuseFor 13 = .ok (.invokespecial 258, 3) := by decide +kernel
theorem dX8_refuseFor_16 : decode cX8_refuseFor 16 = .ok (.athrow, 1) := by decide +kernel
theorem dX8_refuseFor_17 : decode cX8_refuseFor 17 = .ok (.iload_n 0, 1) := by decide +kernel
theorem dX8_refuseFor_18 : decode cX8_refuseFor 18 = .ok (.ifCond .eq 14, 3) := by decide +kernel
theorem dX8_refuseFor_21 : decode cX8_refuseFor 21 = .ok (.new 177, 3) := by decide +kernel
theorem dX8_refuseFor_24 : decode cX8_refuseFor 24 = .ok (.dup, 1) := by decide +kernel
theorem dX8_refuseFor_25 : decode cX8_refuseFor 25 = .ok (.ldc_w 263, 3) := by decide +kernel
theorem dX8_refuseFor_28 : decode cX8_refuseFor 28 = .ok (.invokespecial 181, 3) := by decide +kernel
theorem dX8_refuseFor_31 : decode cX8_refuseFor 31 = .ok (.athrow, 1) := by decide +kernel
theorem dX8_refuseFor_32 : decode cX8_refuseFor 32 = .ok (.return_, 1) := by decide +kernel
theorem dX8_divided_0 : decode cX8_divided 0 = .ok (.iload_n 1, 1) := by decide +kernel
theorem dX8_divided_1 : decode cX8_divided 1 = .ok (.ifCond .le 11, 3) := by decide +kernel
theorem dX8_divided_4 : decode cX8_divided 4 = .ok (.iload_n 0, 1) := by decide +kernel
theorem dX8_divided_5 : decode cX8_divided 5 = .ok (.iload_n 1, 1) := by decide +kernel
theorem dX8_divided_6 : decode cX8_divided 6 = .ok (.invokestatic 292, 3) := by decide +kernel
theorem dX8_divided_9 : decode cX8_divided 9 = .ok (.goto 4, 3) := by decide +kernel
theorem dX8_divided_12 : decode cX8_divided 12 = .ok (.iconst 0, 1) := by decide +kernel
theorem dX8_divided_13 : decode cX8_divided 13 = .ok (.ireturn, 1) := by decide +kernel
theorem dX8_degreeNext_0 : decode cX8_degreeNext 0 = .ok (.iload_n 1, 1) := by decide +kernel
theorem dX8_degreeNext_1 : decode cX8_degreeNext 1 = .ok (.iload_n 0, 1) := by decide +kernel
theorem dX8_degreeNext_2 : decode cX8_degreeNext 2 = .ok (.isub, 1) := by decide +kernel
theorem dX8_degreeNext_3 : decode cX8_degreeNext 3 = .ok (.iconst 4, 1) := by decide +kernel
theorem dX8_degreeNext_4 : decode cX8_degreeNext 4 = .ok (.invokestatic 292, 3) := by decide +kernel
theorem dX8_degreeNext_7 : decode cX8_degreeNext 7 = .ok (.istore_n 2, 1) := by decide +kernel
theorem dX8_degreeNext_8 : decode cX8_degreeNext 8 = .ok (.iload_n 2, 1) := by decide +kernel
theorem dX8_degreeNext_9 : decode cX8_degreeNext 9 = .ok (.ifCond .ne 10, 3) := by decide +kernel
theorem dX8_degreeNext_12 : decode cX8_degreeNext 12 = .ok (.iload_n 1, 1) := by decide +kernel
theorem dX8_degreeNext_13 : decode cX8_degreeNext 13 = .ok (.iload_n 0, 1) := by decide +kernel
theorem dX8_degreeNext_14 : decode cX8_degreeNext 14 = .ok (.if_icmp .le 5, 3) := by decide +kernel
theorem dX8_degreeNext_17 : decode cX8_degreeNext 17 = .ok (.iconst 1, 1) := by decide +kernel
theorem dX8_degreeNext_18 : decode cX8_degreeNext 18 = .ok (.istore_n 2, 1) := by decide +kernel
theorem dX8_degreeNext_19 : decode cX8_degreeNext 19 = .ok (.iload_n 0, 1) := by decide +kernel
theorem dX8_degreeNext_20 : decode cX8_degreeNext 20 = .ok (.iload_n 2, 1) := by decide +kernel
theorem dX8_degreeNext_21 : decode cX8_degreeNext 21 = .ok (.iadd, 1) := by decide +kernel
theorem dX8_degreeNext_22 : decode cX8_degreeNext 22 = .ok (.ireturn, 1) := by decide +kernel
