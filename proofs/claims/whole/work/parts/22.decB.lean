theorem dX8_init_0 : decode cX8_init 0 = .ok (.aload_n 0, 1) := by decide +kernel
theorem dX8_init_1 : decode cX8_init 1 = .ok (.invokespecial 1, 3) := by decide +kernel
theorem dX8_init_4 : decode cX8_init 4 = .ok (.aload_n 0, 1) := by decide +kernel
theorem dX8_init_5 : decode cX8_init 5 = .ok (.new 7, 3) := by decide +kernel
theorem dX8_init_8 : decode cX8_init 8 = .ok (.dup, 1) := by decide +kernel
theorem dX8_init_9 : decode cX8_init 9 = .ok (.invokespecial 9, 3) := by decide +kernel
theorem dX8_init_12 : decode cX8_init 12 = .ok (.putfield 10, 3) := by decide +kernel
theorem dX8_init_15 : decode cX8_init 15 = .ok (.aload_n 0, 1) := by decide +kernel
theorem dX8_init_16 : decode cX8_init 16 = .ok (.new 16, 3) := by decide +kernel
theorem dX8_init_19 : decode cX8_init 19 = .ok (.dup, 1) := by decide +kernel
theorem dX8_init_20 : decode cX8_init 20 = .ok (.invokespecial 18, 3) := by decide +kernel
theorem dX8_init_23 : decode cX8_init 23 = .ok (.putfield 19, 3) := by decide +kernel
theorem dX8_init_26 : decode cX8_init 26 = .ok (.aload_n 0, 1) := by decide +kernel
theorem dX8_init_27 : decode cX8_init 27 = .ok (.new 23, 3) := by decide +kernel
theorem dX8_init_30 : decode cX8_init 30 = .ok (.dup, 1) := by decide +kernel
theorem dX8_init_31 : decode cX8_init 31 = .ok (.invokespecial 25, 3) := by decide +kernel
theorem dX8_init_34 : decode cX8_init 34 = .ok (.putfield 26, 3) := by decide +kernel
theorem dX8_init_37 : decode cX8_init 37 = .ok (.return_, 1) := by decide +kernel
theorem dX8_drum_0 : decode cX8_drum 0 = .ok (.iload_n 1, 1) := by decide +kernel
theorem dX8_drum_1 : decode cX8_drum 1 = .ok (.bipush 20, 2) := by decide +kernel
theorem dX8_drum_3 : decode cX8_drum 3 = .ok (.sipush 300, 3) := by decide +kernel
theorem dX8_drum_6 : decode cX8_drum 6 = .ok (.invokestatic 30, 3) := by decide +kernel
theorem dX8_drum_9 : decode cX8_drum 9 = .ok (.aload_n 0, 1) := by decide +kernel
theorem dX8_drum_10 : decode cX8_drum 10 = .ok (.getfield 10, 3) := by decide +kernel
theorem dX8_drum_13 : decode cX8_drum 13 = .ok (.getfield 34, 3) := by decide +kernel
theorem dX8_drum_16 : decode cX8_drum 16 = .ok (.bipush 6, 2) := by decide +kernel
theorem dX8_drum_18 : decode cX8_drum 18 = .ok (.if_icmp .ge 7, 3) := by decide +kernel
theorem dX8_drum_21 : decode cX8_drum 21 = .ok (.iconst 0, 1) := by decide +kernel
theorem dX8_drum_22 : decode cX8_drum 22 = .ok (.goto 5, 3) := by decide +kernel
theorem dX8_drum_25 : decode cX8_drum 25 = .ok (.bipush 14, 2) := by decide +kernel
theorem dX8_drum_27 : decode cX8_drum 27 = .ok (.invokestatic 38, 3) := by decide +kernel
theorem dX8_drum_30 : decode cX8_drum 30 = .ok (.aload_n 0, 1) := by decide +kernel
theorem dX8_drum_31 : decode cX8_drum 31 = .ok (.getfield 19, 3) := by decide +kernel
theorem dX8_drum_34 : decode cX8_drum 34 = .ok (.aload_n 0, 1) := by decide +kernel
theorem dX8_drum_35 : decode cX8_drum 35 = .ok (.getfield 10, 3) := by decide +kernel
theorem dX8_drum_38 : decode cX8_drum 38 = .ok (.invokevirtual 42, 3) := by decide +kernel
theorem dX8_drum_41 : decode cX8_drum 41 = .ok (.aload_n 0, 1) := by decide +kernel
theorem dX8_drum_42 : decode cX8_drum 42 = .ok (.getfield 10, 3) := by decide +kernel
theorem dX8_drum_45 : decode cX8_drum 45 = .ok (.iload_n 1, 1) := by decide +kernel
theorem dX8_drum_46 : decode cX8_drum 46 = .ok (.invokevirtual 46, 3) := by decide +kernel
theorem dX8_drum_49 : decode cX8_drum 49 = .ok (.ireturn, 1) := by decide +kernel
theorem dX8_age_0 : decode cX8_age 0 = .ok (.iload_n 1, 1) := by decide +kernel
theorem dX8_age_1 : decode cX8_age 1 = .ok (.iconst 1, 1) := by decide +kernel
theorem dX8_age_2 : decode cX8_age 2 = .ok (.bipush 99, 2) := by decide +kernel
theorem dX8_age_4 : decode cX8_age 4 = .ok (.invokestatic 30, 3) := by decide +kernel
theorem dX8_age_7 : decode cX8_age 7 = .ok (.aload_n 0, 1) := by decide +kernel
theorem dX8_age_8 : decode cX8_age 8 = .ok (.getfield 19, 3) := by decide +kernel
theorem dX8_age_11 : decode cX8_age 11 = .ok (.aload_n 0, 1) := by decide +kernel
theorem dX8_age_12 : decode cX8_age 12 = .ok (.getfield 10, 3) := by decide +kernel
theorem dX8_age_15 : decode cX8_age 15 = .ok (.invokevirtual 42, 3) := by decide +kernel
theorem dX8_age_18 : decode cX8_age 18 = .ok (.aload_n 0, 1) := by decide +kernel
theorem dX8_age_19 : decode cX8_age 19 = .ok (.getfield 10, 3) := by decide +kernel
theorem dX8_age_22 : decode cX8_age 22 = .ok (.iload_n 1, 1) := by decide +kernel
theorem dX8_age_23 : decode cX8_age 23 = .ok (.invokevirtual 50, 3) := by decide +kernel
theorem dX8_age_26 : decode cX8_age 26 = .ok (.ireturn, 1) := by decide +kernel
theorem dX8_sample_0 : decode cX8_sample 0 = .ok (.aload_n 0, 1) := by decide +kernel
theorem dX8_sample_1 : decode cX8_sample 1 = .ok (.getfield 10, 3) := by decide +kernel
theorem dX8_sample_4 : decode cX8_sample 4 = .ok (.iload_n 1, 1) := by decide +kernel
theorem dX8_sample_5 : decode cX8_sample 5 = .ok (.invokevirtual 53, 3) := by decide +kernel
theorem dX8_sample_8 : decode cX8_sample 8 = .ok (.invokestatic 38, 3) := by decide +kernel
theorem dX8_sample_11 : decode cX8_sample 11 = .ok (.aload_n 0, 1) := by decide +kernel
theorem dX8_sample_12 : decode cX8_sample 12 = .ok (.getfield 19, 3) := by decide +kernel
theorem dX8_sample_15 : decode cX8_sample 15 = .ok (.aload_n 0, 1) := by decide +kernel
theorem dX8_sample_16 : decode cX8_sample 16 = .ok (.getfield 10, 3) := by decide +kernel
theorem dX8_sample_19 : decode cX8_sample 19 = .ok (.invokevirtual 42, 3) := by decide +kernel
theorem dX8_sample_22 : decode cX8_sample 22 = .ok (.aload_n 0, 1) := by decide +kernel
theorem dX8_sample_23 : decode cX8_sample 23 = .ok (.getfield 10, 3) := by decide +kernel
theorem dX8_sample_26 : decode cX8_sample 26 = .ok (.iload_n 1, 1) := by decide +kernel
theorem dX8_sample_27 : decode cX8_sample 27 = .ok (.invokevirtual 56, 3) := by decide +kernel
theorem dX8_sample_30 : decode cX8_sample 30 = .ok (.ireturn, 1) := by decide +kernel
theorem dX8_toss_0 : decode cX8_toss 0 = .ok (.iload_n 1, 1) := by decide +kernel
theorem dX8_toss_1 : decode cX8_toss 1 = .ok (.aload_n 0, 1) := by decide +kernel
theorem dX8_toss_2 : decode cX8_toss 2 = .ok (.getfield 10, 3) := by decide +kernel
theorem dX8_toss_5 : decode cX8_toss 5 = .ok (.getfield 59, 3) := by decide +kernel
theorem dX8_toss_8 : decode cX8_toss 8 = .ok (.invokestatic 62, 3) := by decide +kernel
theorem dX8_toss_11 : decode cX8_toss 11 = .ok (.aload_n 0, 1) := by decide +kernel
theorem dX8_toss_12 : decode cX8_toss 12 = .ok (.getfield 19, 3) := by decide +kernel
theorem dX8_toss_15 : decode cX8_toss 15 = .ok (.aload_n 0, 1) := by decide +kernel
theorem dX8_toss_16 : decode cX8_toss 16 = .ok (.getfield 10, 3) := by decide +kernel
theorem dX8_toss_19 : decode cX8_toss 19 = .ok (.invokevirtual 42, 3) := by decide +kernel
theorem dX8_toss_22 : decode cX8_toss 22 = .ok (.aload_n 0, 1) := by decide +kernel
theorem dX8_toss_23 : decode cX8_toss 23 = .ok (.getfield 10, 3) := by decide +kernel
theorem dX8_toss_26 : decode cX8_toss 26 = .ok (.iload_n 1, 1) := by decide +kernel
theorem dX8_toss_27 : decode cX8_toss 27 = .ok (.invokevirtual 66, 3) := by decide +kernel
theorem dX8_toss_30 : decode cX8_toss 30 = .ok (.ireturn, 1) := by decide +kernel
theorem dX8_bath_0 : decode cX8_bath 0 = .ok (.iload_n 2, 1) := by decide +kernel
theorem dX8_bath_1 : decode cX8_bath 1 = .ok (.iconst (-1), 1) := by decide +kernel
theorem dX8_bath_2 : decode cX8_bath 2 = .ok (.if_icmp .eq 8, 3) := by decide +kernel
theorem dX8_bath_5 : decode cX8_bath 5 = .ok (.iload_n 2, 1) := by decide +kernel
theorem dX8_bath_6 : decode cX8_bath 6 = .ok (.iconst 3, 1) := by decide +kernel
theorem dX8_bath_7 : decode cX8_bath 7 = .ok (.invokestatic 62, 3) := by decide +kernel
theorem dX8_bath_10 : decode cX8_bath 10 = .ok (.aload_n 0, 1) := by decide +kernel
theorem dX8_bath_11 : decode cX8_bath 11 = .ok (.getfield 10, 3) := by decide +kernel
theorem dX8_bath_14 : decode cX8_bath 14 = .ok (.iload_n 1, 1) := by decide +kernel
theorem dX8_bath_15 : decode cX8_bath 15 = .ok (.iload_n 2, 1) := by decide +kernel
theorem dX8_bath_16 : decode cX8_bath 16 = .ok (.invokevirtual 69, 3) := by decide +kernel
theorem dX8_bath_19 : decode cX8_bath 19 = .ok (.invokestatic 38, 3) := by decide +kernel
theorem dX8_bath_22 : decode cX8_bath 22 = .ok (.aload_n 0, 1) := by decide +kernel
theorem dX8_bath_23 : decode cX8_bath 23 = .ok (.getfield 19, 3) := by decide +kernel
theorem dX8_bath_26 : decode cX8_bath 26 = .ok (.aload_n 0, 1) := by decide +kernel
theorem dX8_bath_27 : decode cX8_bath 27 = .ok (.getfield 10, 3) := by decide +kernel
theorem dX8_bath_30 : decode cX8_bath 30 = .ok (.invokevirtual 42, 3) := by decide +kernel
theorem dX8_bath_33 : decode cX8_bath 33 = .ok (.aload_n 0, 1) := by decide +kernel
theorem dX8_bath_34 : decode cX8_bath 34 = .ok (.getfield 10, 3) := by decide +kernel
theorem dX8_bath_37 : decode cX8_bath 37 = .ok (.iload_n 1, 1) := by decide +kernel
theorem dX8_bath_38 : decode cX8_bath 38 = .ok (.iload_n 2, 1) := by decide +kernel
theorem dX8_bath_39 : decode cX8_bath 39 = .ok (.invokevirtual 73, 3) := by decide +kernel
theorem dX8_bath_42 : decode cX8_bath 42 = .ok (.ireturn, 1) := by decide +kernel
theorem dX8_warm_0 : decode cX8_warm 0 = .ok (.iload_n 1, 1) := by decide +kernel
theorem dX8_warm_1 : decode cX8_warm 1 = .ok (.iconst 3, 1) := by decide +kernel
theorem dX8_warm_2 : decode cX8_warm 2 = .ok (.invokestatic 62, 3) := by decide +kernel
theorem dX8_warm_5 : decode cX8_warm 5 = .ok (.iload_n 2, 1) := by decide +kernel
theorem dX8_warm_6 : decode cX8_warm 6 = .ok (.iconst 0, 1) := by decide +kernel
theorem dX8_warm_7 : decode cX8_warm 7 = .ok (.sipush 900, 3) := by decide +kernel
theorem dX8_warm_10 : decode cX8_warm 10 = .ok (.invokestatic 30, 3) := by decide +kernel
theorem dX8_warm_13 : decode cX8_warm 13 = .ok (.aload_n 0, 1) := by decide +kernel
theorem dX8_warm_14 : decode cX8_warm 14 = .ok (.getfield 19, 3) := by decide +kernel
theorem dX8_warm_17 : decode cX8_warm 17 = .ok (.aload_n 0, 1) := by decide +kernel
theorem dX8_warm_18 : decode cX8_warm 18 = .ok (.getfield 10, 3) := by decide +kernel
theorem dX8_warm_21 : decode cX8_warm 21 = .ok (.invokevirtual 42, 3) := by decide +kernel
theorem dX8_warm_24 : decode cX8_warm 24 = .ok (.aload_n 0, 1) := by decide +kernel
theorem dX8_warm_25 : decode cX8_warm 25 = .ok (.getfield 10, 3) := by decide +kernel
theorem dX8_warm_28 : decode cX8_warm 28 = .ok (.getfield 76, 3) := by decide +kernel
theorem dX8_warm_31 : decode cX8_warm 31 = .ok (.iload_n 1, 1) := by decide +kernel
theorem dX8_warm_32 : decode cX8_warm 32 = .ok (.iaload, 1) := by decide +kernel
theorem dX8_warm_33 : decode cX8_warm 33 = .ok (.istore_n 3, 1) := by decide +kernel
theorem dX8_warm_34 : decode cX8_warm 34 = .ok (.aload_n 0, 1) := by decide +kernel
theorem dX8_warm_35 : decode cX8_warm 35 = .ok (.getfield 10, 3) := by decide +kernel
theorem dX8_warm_38 : decode cX8_warm 38 = .ok (.getfield 76, 3) := by decide +kernel
theorem dX8_warm_41 : decode cX8_warm 41 = .ok (.iload_n 1, 1) := by decide +kernel
theorem dX8_warm_42 : decode cX8_warm 42 = .ok (.iload_n 2, 1) := by decide +kernel
theorem dX8_warm_43 : decode cX8_warm 43 = .ok (.iastore, 1) := by decide +kernel
theorem dX8_warm_44 : decode cX8_warm 44 = .ok (.iload_n 3, 1) := by decide +kernel
theorem dX8_warm_45 : decode cX8_warm 45 = .ok (.ireturn, 1) := by decide +kernel
theorem dX8_pass_0 : decode cX8_pass 0 = .ok (.iload_n 1, 1) := by decide +kernel
theorem dX8_pass_1 : decode cX8_pass 1 = .ok (.iconst 1, 1) := by decide +kernel
theorem dX8_pass_2 : decode cX8_pass 2 = .ok (.bipush 99, 2) := by decide +kernel
theorem dX8_pass_4 : decode cX8_pass 4 = .ok (.invokestatic 30, 3) := by decide +kernel
theorem dX8_pass_7 : decode cX8_pass 7 = .ok (.aload_n 0, 1) := by decide +kernel
theorem dX8_pass_8 : decode cX8_pass 8 = .ok (.getfield 19, 3) := by decide +kernel
theorem dX8_pass_11 : decode cX8_pass 11 = .ok (.aload_n 0, 1) := by decide +kernel
theorem dX8_pass_12 : decode cX8_pass 12 = .ok (.getfield 10, 3) := by decide +kernel
theorem dX8_pass_15 : decode cX8_pass 15 = .ok (.invokevirtual 42, 3) := by decide +kernel
theorem dX8_pass_18 : decode cX8_pass 18 = .ok (.aload_n 0, 1) := by decide +kernel
theorem dX8_pass_19 : decode cX8_pass 19 = .ok (.getfield 10, 3) := by decide +kernel
theorem dX8_pass_22 : decode cX8_pass 22 = .ok (.iload_n 1, 1) := by decide +kernel
theorem dX8_pass_23 : decode cX8_pass 23 = .ok (.invokevirtual 80, 3) := by decide +kernel
theorem dX8_pass_26 : decode cX8_pass 26 = .ok (.aload_n 0, 1) := by decide +kernel
theorem dX8_pass_27 : decode cX8_pass 27 = .ok (.getfield 10, 3) := by decide +kernel
theorem dX8_pass_30 : decode cX8_pass 30 = .ok (.invokevirtual 83, 3) := by decide +kernel
theorem dX8_pass_33 : decode cX8_pass 33 = .ok (.ireturn, 1) := by decide +kernel
theorem dX8_sink_0 : decode cX8_sink 0 = .ok (.iload_n 1, 1) := by decide +kernel
theorem dX8_sink_1 : decode cX8_sink 1 = .ok (.iconst 3, 1) := by decide +kernel
theorem dX8_sink_2 : decode cX8_sink 2 = .ok (.invokestatic 62, 3) := by decide +kernel
theorem dX8_sink_5 : decode cX8_sink 5 = .ok (.iload_n 2, 1) := by decide +kernel
theorem dX8_sink_6 : decode cX8_sink 6 = .ok (.aload_n 0, 1) := by decide +kernel
theorem dX8_sink_7 : decode cX8_sink 7 = .ok (.getfield 10, 3) := by decide +kernel
theorem dX8_sink_10 : decode cX8_sink 10 = .ok (.getfield 59, 3) := by decide +kernel
theorem dX8_sink_13 : decode cX8_sink 13 = .ok (.invokestatic 62, 3) := by decide +kernel
theorem dX8_sink_16 : decode cX8_sink 16 = .ok (.iload_n 3, 1) := by decide +kernel
theorem dX8_sink_17 : decode cX8_sink 17 = .ok (.bipush 50, 2) := by decide +kernel
theorem dX8_sink_19 : decode cX8_sink 19 = .ok (.sipush 200, 3) := by decide +kernel
theorem dX8_sink_22 : decode cX8_sink 22 = .ok (.invokestatic 30, 3) := by decide +kernel
theorem dX8_sink_25 : decode cX8_sink 25 = .ok (.iload 4, 2) := by decide +kernel
theorem dX8_sink_27 : decode cX8_sink 27 = .ok (.iconst 1, 1) := by decide +kernel
theorem dX8_sink_28 : decode cX8_sink 28 = .ok (.bipush 60, 2) := by decide +kernel
theorem dX8_sink_30 : decode cX8_sink 30 = .ok (.invokestatic 30, 3) := by decide +kernel
theorem dX8_sink_33 : decode cX8_sink 33 = .ok (.aload_n 0, 1) := by decide +kernel
theorem dX8_sink_34 : decode cX8_sink 34 = .ok (.getfield 10, 3) := by decide +kernel
theorem dX8_sink_37 : decode cX8_sink 37 = .ok (.iload_n 1, 1) := by decide +kernel
theorem dX8_sink_38 : decode cX8_sink 38 = .ok (.iload_n 2, 1) := by decide +kernel
theorem dX8_sink_39 : decode cX8_sink 39 = .ok (.invokevirtual 87, 3) := by decide +kernel
theorem dX8_sink_42 : decode cX8_sink 42 = .ok (.invokestatic 38, 3) := by decide +kernel
theorem dX8_sink_45 : decode cX8_sink 45 = .ok (.aload_n 0, 1) := by decide +kernel
theorem dX8_sink_46 : decode cX8_sink 46 = .ok (.getfield 19, 3) := by decide +kernel
theorem dX8_sink_49 : decode cX8_sink 49 = .ok (.aload_n 0, 1) := by decide +kernel
theorem dX8_sink_50 : decode cX8_sink 50 = .ok (.getfield 10, 3) := by decide +kernel
theorem dX8_sink_53 : decode cX8_sink 53 = .ok (.invokevirtual 42, 3) := by decide +kernel
theorem dX8_sink_56 : decode cX8_sink 56 = .ok (.aload_n 0, 1) := by decide +kernel
theorem dX8_sink_57 : decode cX8_sink 57 = .ok (.getfield 10, 3) := by decide +kernel
theorem dX8_sink_60 : decode cX8_sink 60 = .ok (.iload_n 1, 1) := by decide +kernel
theorem dX8_sink_61 : decode cX8_sink 61 = .ok (.iload_n 2, 1) := by decide +kernel
theorem dX8_sink_62 : decode cX8_sink 62 = .ok (.iload_n 3, 1) := by decide +kernel
theorem dX8_sink_63 : decode cX8_sink 63 = .ok (.iload 4, 2) := by decide +kernel
theorem dX8_sink_65 : decode cX8_sink 65 = .ok (.invokevirtual 90, 3) := by decide +kernel
theorem dX8_sink_68 : decode cX8_sink 68 = .ok (.ireturn, 1) := by decide +kernel
theorem dX8_renew_0 : decode cX8_renew 0 = .ok (.iload_n 1, 1) := by decide +kernel
theorem dX8_renew_1 : decode cX8_renew 1 = .ok (.iconst 3, 1) := by decide +kernel
theorem dX8_renew_2 : decode cX8_renew 2 = .ok (.invokestatic 62, 3) := by decide +kernel
theorem dX8_renew_5 : decode cX8_renew 5 = .ok (.aload_n 0, 1) := by decide +kernel
theorem dX8_renew_6 : decode cX8_renew 6 = .ok (.getfield 19, 3) := by decide +kernel
theorem dX8_renew_9 : decode cX8_renew 9 = .ok (.aload_n 0, 1) := by decide +kernel
theorem dX8_renew_10 : decode cX8_renew 10 = .ok (.getfield 10, 3) := by decide +kernel
theorem dX8_renew_13 : decode cX8_renew 13 = .ok (.invokevirtual 42, 3) := by decide +kernel
theorem dX8_renew_16 : decode cX8_renew 16 = .ok (.aload_n 0, 1) := by decide +kernel
theorem dX8_renew_17 : decode cX8_renew 17 = .ok (.getfield 10, 3) := by decide +kernel
theorem dX8_renew_20 : decode cX8_renew 20 = .ok (.dup, 1) := by decide +kernel
theorem dX8_renew_21 : decode cX8_renew 21 = .ok (.getfield 94, 3) := by decide +kernel
theorem dX8_renew_24 : decode cX8_renew 24 = .ok (.iconst 1, 1) := by decide +kernel
theorem dX8_renew_25 : decode cX8_renew 25 = .ok (.iadd, 1) := by decide +kernel
theorem dX8_renew_26 : decode cX8_renew 26 = .ok (.putfield 94, 3) := by decide +kernel
theorem dX8_renew_29 : decode cX8_renew 29 = .ok (.aload_n 0, 1) := by decide +kernel
theorem dX8_renew_30 : decode cX8_renew 30 = .ok (.getfield 10, 3) := by decide +kernel
theorem dX8_renew_33 : decode cX8_renew 33 = .ok (.getfield 97, 3) := by decide +kernel
theorem dX8_renew_36 : decode cX8_renew 36 = .ok (.iload_n 1, 1) := by decide +kernel
theorem dX8_renew_37 : decode cX8_renew 37 = .ok (.aaload, 1) := by decide +kernel
theorem dX8_renew_38 : decode cX8_renew 38 = .ok (.invokevirtual 101, 3) := by decide +kernel
theorem dX8_renew_41 : decode cX8_renew 41 = .ok (.ireturn, 1) := by decide +kernel
theorem dX8_ring_0 : decode cX8_ring 0 = .ok (.aload_n 0, 1) := by decide +kernel
theorem dX8_ring_1 : decode cX8_ring 1 = .ok (.getfield 10, 3) := by decide +kernel
theorem dX8_ring_4 : decode cX8_ring 4 = .ok (.iload_n 1, 1) := by decide +kernel
theorem dX8_ring_5 : decode cX8_ring 5 = .ok (.invokevirtual 106, 3) := by decide +kernel
theorem dX8_ring_8 : decode cX8_ring 8 = .ok (.invokestatic 38, 3) := by decide +kernel
theorem dX8_ring_11 : decode cX8_ring 11 = .ok (.aload_n 0, 1) := by decide +kernel
theorem dX8_ring_12 : decode cX8_ring 12 = .ok (.getfield 19, 3) := by decide +kernel
theorem dX8_ring_15 : decode cX8_ring 15 = .ok (.aload_n 0, 1) := by decide +kernel
theorem dX8_ring_16 : decode cX8_ring 16 = .ok (.getfield 10, 3) := by decide +kernel
theorem dX8_ring_19 : decode cX8_ring 19 = .ok (.invokevirtual 42, 3) := by decide +kernel
theorem dX8_ring_22 : decode cX8_ring 22 = .ok (.aload_n 0, 1) := by decide +kernel
theorem dX8_ring_23 : decode cX8_ring 23 = .ok (.getfield 10, 3) := by decide +kernel
theorem dX8_ring_26 : decode cX8_ring 26 = .ok (.getfield 109, 3) := by decide +kernel
theorem dX8_ring_29 : decode cX8_ring 29 = .ok (.iload_n 1, 1) := by decide +kernel
theorem dX8_ring_30 : decode cX8_ring 30 = .ok (.aaload, 1) := by decide +kernel
theorem dX8_ring_31 : decode cX8_ring 31 = .ok (.invokevirtual 113, 3) := by decide +kernel
theorem dX8_ring_34 : decode cX8_ring 34 = .ok (.ireturn, 1) := by decide +kernel
theorem dX8_sell_0 : decode cX8_sell 0 = .ok (.aload_n 0, 1) := by decide +kernel
theorem dX8_sell_1 : decode cX8_sell 1 = .ok (.getfield 10, 3) := by decide +kernel
theorem dX8_sell_4 : decode cX8_sell 4 = .ok (.iload_n 1, 1) := by decide +kernel
theorem dX8_sell_5 : decode cX8_sell 5 = .ok (.invokestatic 118, 3) := by decide +kernel
theorem dX8_sell_8 : decode cX8_sell 8 = .ok (.invokestatic 38, 3) := by decide +kernel
theorem dX8_sell_11 : decode cX8_sell 11 = .ok (.aload_n 0, 1) := by decide +kernel
theorem dX8_sell_12 : decode cX8_sell 12 = .ok (.getfield 19, 3) := by decide +kernel
theorem dX8_sell_15 : decode cX8_sell 15 = .ok (.aload_n 0, 1) := by decide +kernel
theorem dX8_sell_16 : decode cX8_sell 16 = .ok (.getfield 10, 3) := by decide +kernel
theorem dX8_sell_19 : decode cX8_sell 19 = .ok (.invokevirtual 42, 3) := by decide +kernel
theorem dX8_sell_22 : decode cX8_sell 22 = .ok (.aload_n 0, 1) := by decide +kernel
theorem dX8_sell_23 : decode cX8_sell 23 = .ok (.getfield 10, 3) := by decide +kernel
theorem dX8_sell_26 : decode cX8_sell 26 = .ok (.iload_n 1, 1) := by decide +kernel
theorem dX8_sell_27 : decode cX8_sell 27 = .ok (.invokestatic 124, 3) := by decide +kernel
theorem dX8_sell_30 : decode cX8_sell 30 = .ok (.ireturn, 1) := by decide +kernel
theorem dX8_set_0 : decode cX8_set 0 = .ok (.iload_n 1, 1) := by decide +kernel
theorem dX8_set_1 : decode cX8_set 1 = .ok (.iconst 3, 1) := by decide +kernel
theorem dX8_set_2 : decode cX8_set 2 = .ok (.invokestatic 62, 3) := by decide +kernel
theorem dX8_set_5 : decode cX8_set 5 = .ok (.iload_n 2, 1) := by decide +kernel
theorem dX8_set_6 : decode cX8_set 6 = .ok (.iconst 0, 1) := by decide +kernel
theorem dX8_set_7 : decode cX8_set 7 = .ok (.getstatic 127, 3) := by decide +kernel
theorem dX8_set_10 : decode cX8_set 10 = .ok (.iload_n 1, 1) := by decide +kernel
theorem dX8_set_11 : decode cX8_set 11 = .ok (.iaload, 1) := by decide +kernel
theorem dX8_set_12 : decode cX8_set 12 = .ok (.invokestatic 30, 3) := by decide +kernel
theorem dX8_set_15 : decode cX8_set 15 = .ok (.aload_n 0, 1) := by decide +kernel
theorem dX8_set_16 : decode cX8_set 16 = .ok (.getfield 19, 3) := by decide +kernel
theorem dX8_set_19 : decode cX8_set 19 = .ok (.aload_n 0, 1) := by decide +kernel
theorem dX8_set_20 : decode cX8_set 20 = .ok (.getfield 10, 3) := by decide +kernel
theorem dX8_set_23 : decode cX8_set 23 = .ok (.invokevirtual 42, 3) := by decide +kernel
theorem dX8_set_26 : decode cX8_set 26 = .ok (.aload_n 0, 1) := by decide +kernel
theorem dX8_set_27 : decode cX8_set 27 = .ok (.getfield 10, 3) := by decide +kernel
theorem dX8_set_30 : decode cX8_set 30 = .ok (.getfield 130, 3) := by decide +kernel
theorem dX8_set_33 : decode cX8_set 33 = .ok (.iload_n 1, 1) := by decide +kernel
theorem dX8_set_34 : decode cX8_set 34 = .ok (.iaload, 1) := by decide +kernel
theorem dX8_set_35 : decode cX8_set 35 = .ok (.istore_n 3, 1) := by decide +kernel
theorem dX8_set_36 : decode cX8_set 36 = .ok (.aload_n 0, 1) := by decide +kernel
theorem dX8_set_37 : decode cX8_set 37 = .ok (.getfield 10, 3) := by decide +kernel
theorem dX8_set_40 : decode cX8_set 40 = .ok (.getfield 130, 3) := by decide +kernel
theorem dX8_set_43 : decode cX8_set 43 = .ok (.iload_n 1, 1) := by decide +kernel
theorem dX8_set_44 : decode cX8_set 44 = .ok (.iload_n 2, 1) := by decide +kernel
theorem dX8_set_45 : decode cX8_set 45 = .ok (.iastore, 1) := by decide +kernel
theorem dX8_set_46 : decode cX8_set 46 = .ok (.iload_n 3, 1) := by decide +kernel
theorem dX8_set_47 : decode cX8_set 47 = .ok (.ireturn, 1) := by decide +kernel
theorem dX8_append_0 : decode cX8_append 0 = .ok (.iload_n 1, 1) := by decide +kernel
theorem dX8_append_1 : decode cX8_append 1 = .ok (.bipush 33, 2) := by decide +kernel
theorem dX8_append_3 : decode cX8_append 3 = .ok (.bipush 126, 2) := by decide +kernel
theorem dX8_append_5 : decode cX8_append 5 = .ok (.invokestatic 30, 3) := by decide +kernel
theorem dX8_append_8 : decode cX8_append 8 = .ok (.aload_n 0, 1) := by decide +kernel
theorem dX8_append_9 : decode cX8_append 9 = .ok (.getfield 26, 3) := by decide +kernel
theorem dX8_append_12 : decode cX8_append 12 = .ok (.getfield 133, 3) := by decide +kernel
theorem dX8_append_15 : decode cX8_append 15 = .ok (.bipush 60, 2) := by decide +kernel
theorem dX8_append_17 : decode cX8_append 17 = .ok (.if_icmp .ge 7, 3) := by decide +kernel
theorem dX8_append_20 : decode cX8_append 20 = .ok (.iconst 0, 1) := by decide +kernel
theorem dX8_append_21 : decode cX8_append 21 = .ok (.goto 5, 3) := by decide +kernel
theorem dX8_append_24 : decode cX8_append 24 = .ok (.bipush 14, 2) := by decide +kernel
theorem dX8_append_26 : decode cX8_append 26 = .ok (.invokestatic 38, 3) := by decide +kernel
theorem dX8_append_29 : decode cX8_append 29 = .ok (.aload_n 0, 1) := by decide +kernel
theorem dX8_append_30 : decode cX8_append 30 = .ok (.getfield 26, 3) := by decide +kernel
theorem dX8_append_33 : decode cX8_append 33 = .ok (.iload_n 1, 1) := by decide +kernel
theorem dX8_append_34 : decode cX8_append 34 = .ok (.i2c, 1) := by decide +kernel
theorem dX8_append_35 : decode cX8_append 35 = .ok (.invokevirtual 136, 3) := by decide +kernel
theorem dX8_append_38 : decode cX8_append 38 = .ok (.ireturn, 1) := by decide +kernel
theorem dX8_clearBuffer_0 : decode cX8_clearBuffer 0 = .ok (.aload_n 0, 1) := by decide +kernel
theorem dX8_clearBuffer_1 : decode cX8_clearBuffer 1 = .ok (.getfield 26, 3) := by decide +kernel
theorem dX8_clearBuffer_4 : decode cX8_clearBuffer 4 = .ok (.invokevirtual 140, 3) := by decide +kernel
theorem dX8_clearBuffer_7 : decode cX8_clearBuffer 7 = .ok (.ireturn, 1) := by decide +kernel
theorem dX8_firstError_0 : decode cX8_firstError 0 = .ok (.aload_n 0, 1) := by decide +kernel
theorem dX8_firstError_1 : decode cX8_firstError 1 = .ok (.getfield 26, 3) := by decide +kernel
theorem dX8_firstError_4 : decode cX8_firstError 4 = .ok (.invokevirtual 143, 3) := by decide +kernel
theorem dX8_firstError_7 : decode cX8_firstError 7 = .ok (.ireturn, 1) := by decide +kernel
theorem dX8_obey_0 : decode cX8_obey 0 = .ok (.aload_n 0, 1) := by decide +kernel
theorem dX8_obey_1 : decode cX8_obey 1 = .ok (.getfield 26, 3) := by decide +kernel
theorem dX8_obey_4 : decode cX8_obey 4 = .ok (.invokevirtual 146, 3) := by decide +kernel
theorem dX8_obey_7 : decode cX8_obey 7 = .ok (.ifCond .ne 13, 3) := by decide +kernel
theorem dX8_obey_10 : decode cX8_obey 10 = .ok (.new 150, 3) := by decide +kernel
theorem dX8_obey_13 : decode cX8_obey 13 = .ok (.dup, 1) := by decide +kernel
theorem dX8_obey_14 : decode cX8_obey 14 = .ok (.ldc 152, 2) := by decide +kernel
theorem dX8_obey_16 : decode cX8_obey 16 = .ok (.invokespecial 154, 3) := by decide +kernel
theorem dX8_obey_19 : decode cX8_obey 19 = .ok (.athrow, 1) := by decide +kernel
theorem dX8_obey_20 : decode cX8_obey 20 = .ok (.aload_n 0, 1) := by decide +kernel
theorem dX8_obey_21 : decode cX8_obey 21 = .ok (.getfield 19, 3) := by decide +kernel
theorem dX8_obey_24 : decode cX8_obey 24 = .ok (.aload_n 0, 1) := by decide +kernel
theorem dX8_obey_25 : decode cX8_obey 25 = .ok (.getfield 10, 3) := by decide +kernel
theorem dX8_obey_28 : decode cX8_obey 28 = .ok (.invokevirtual 42, 3) := by decide +kernel
theorem dX8_obey_31 : decode cX8_obey 31 = .ok (.iconst 0, 1) := by decide +kernel
theorem dX8_obey_32 : decode cX8_obey 32 = .ok (.istore_n 1, 1) := by decide +kernel
theorem dX8_obey_33 : decode cX8_obey 33 = .ok (.iconst 0, 1) := by decide +kernel
theorem dX8_obey_34 : decode cX8_obey 34 = .ok (.istore_n 2, 1) := by decide +kernel
theorem dX8_obey_35 : decode cX8_obey 35 = .ok (.iconst 0, 1) := by decide +kernel
theorem dX8_obey_36 : decode cX8_obey 36 = .ok (.istore_n 3, 1) := by decide +kernel
theorem dX8_obey_37 : decode cX8_obey 37 = .ok (.iload_n 3, 1) := by decide +kernel
theorem dX8_obey_38 : decode cX8_obey 38 = .ok (.bipush 60, 2) := by decide +kernel
theorem dX8_obey_40 : decode cX8_obey 40 = .ok (.if_icmp .ge 42, 3) := by decide +kernel
theorem dX8_obey_43 : decode cX8_obey 43 = .ok (.iload_n 2, 1) := by decide +kernel
theorem dX8_obey_44 : decode cX8_obey 44 = .ok (.ifCond .ne 38, 3) := by decide +kernel
theorem dX8_obey_47 : decode cX8_obey 47 = .ok (.aload_n 0, 1) := by decide +kernel
theorem dX8_obey_48 : decode cX8_obey 48 = .ok (.getfield 26, 3) := by decide +kernel
theorem dX8_obey_51 : decode cX8_obey 51 = .ok (.invokevirtual 157, 3) := by decide +kernel
theorem dX8_obey_54 : decode cX8_obey 54 = .ok (.ifCond .eq 28, 3) := by decide +kernel
theorem dX8_obey_57 : decode cX8_obey 57 = .ok (.aload_n 0, 1) := by decide +kernel
theorem dX8_obey_58 : decode cX8_obey 58 = .ok (.aload_n 0, 1) := by decide +kernel
theorem dX8_obey_59 : decode cX8_obey 59 = .ok (.getfield 26, 3) := by decide +kernel
theorem dX8_obey_62 : decode cX8_obey 62 = .ok (.getfield 160, 3) := by decide +kernel
theorem dX8_obey_65 : decode cX8_obey 65 = .ok (.invokevirtual 164, 3) := by decide +kernel
theorem dX8_obey_68 : decode cX8_obey 68 = .ok (.istore_n 2, 1) := by decide +kernel
theorem dX8_obey_69 : decode cX8_obey 69 = .ok (.iload_n 2, 1) := by decide +kernel
theorem dX8_obey_70 : decode cX8_obey 70 = .ok (.ifCond .ne 6, 3) := by decide +kernel
theorem dX8_obey_73 : decode cX8_obey 73 = .ok (.iinc 1 1, 3) := by decide +kernel
theorem dX8_obey_76 : decode cX8_obey 76 = .ok (.iinc 3 1, 3) := by decide +kernel
theorem dX8_obey_79 : decode cX8_obey 79 = .ok (.goto (-42), 3) := by decide +kernel
theorem dX8_obey_82 : decode cX8_obey 82 = .ok (.aload_n 0, 1) := by decide +kernel
theorem dX8_obey_83 : decode cX8_obey 83 = .ok (.getfield 10, 3) := by decide +kernel
theorem dX8_obey_86 : decode cX8_obey 86 = .ok (.iload_n 2, 1) := by decide +kernel
theorem dX8_obey_87 : decode cX8_obey 87 = .ok (.ifCond .ne 7, 3) := by decide +kernel
theorem dX8_obey_90 : decode cX8_obey 90 = .ok (.iconst (-1), 1) := by decide +kernel
theorem dX8_obey_91 : decode cX8_obey 91 = .ok (.goto 4, 3) := by decide +kernel
theorem dX8_obey_94 : decode cX8_obey 94 = .ok (.iload_n 1, 1) := by decide +kernel
theorem dX8_obey_95 : decode cX8_obey 95 = .ok (.putfield 168, 3) := by decide +kernel
theorem dX8_obey_98 : decode cX8_obey 98 = .ok (.aload_n 0, 1) := by decide +kernel
theorem dX8_obey_99 : decode cX8_obey 99 = .ok (.getfield 10, 3) := by decide +kernel
theorem dX8_obey_102 : decode cX8_obey 102 = .ok (.iload_n 2, 1) := by decide +kernel
theorem dX8_obey_103 : decode cX8_obey 103 = .ok (.ifCond .ne 7, 3) := by decide +kernel
theorem dX8_obey_106 : decode cX8_obey 106 = .ok (.iconst (-1), 1) := by decide +kernel
theorem dX8_obey_107 : decode cX8_obey 107 = .ok (.goto 4, 3) := by decide +kernel
theorem dX8_obey_110 : decode cX8_obey 110 = .ok (.iload_n 2, 1) := by decide +kernel
theorem dX8_obey_111 : decode cX8_obey 111 = .ok (.putfield 171, 3) := by decide +kernel
theorem dX8_obey_114 : decode cX8_obey 114 = .ok (.aload_n 0, 1) := by decide +kernel
theorem dX8_obey_115 : decode cX8_obey 115 = .ok (.getfield 26, 3) := by decide +kernel
theorem dX8_obey_118 : decode cX8_obey 118 = .ok (.invokevirtual 140, 3) := by decide +kernel
theorem dX8_obey_121 : decode cX8_obey 121 = .ok (.pop, 1) := by decide +kernel
theorem dX8_obey_122 : decode cX8_obey 122 = .ok (.iload_n 1, 1) := by decide +kernel
theorem dX8_obey_123 : decode cX8_obey 123 = .ok (.ireturn, 1) := by decide +kernel
theorem dX8_stopped_0 : decode cX8_stopped 0 = .ok (.iload_n 1, 1) := by decide +kernel
theorem dX8_stopped_1 : decode cX8_stopped 1 = .ok (.iconst 0, 1) := by decide +kernel
theorem dX8_stopped_2 : decode cX8_stopped 2 = .ok (.iconst 1, 1) := by decide +kernel
theorem dX8_stopped_3 : decode cX8_stopped 3 = .ok (.invokestatic 30, 3) := by decide +kernel
theorem dX8_stopped_6 : decode cX8_stopped 6 = .ok (.iload_n 1, 1) := by decide +kernel
theorem dX8_stopped_7 : decode cX8_stopped 7 = .ok (.ifCond .ne 13, 3) := by decide +kernel
theorem dX8_stopped_10 : decode cX8_stopped 10 = .ok (.aload_n 0, 1) := by decide +kernel
theorem dX8_stopped_11 : decode cX8_stopped 11 = .ok (.getfield 10, 3) := by decide +kernel
theorem dX8_stopped_14 : decode cX8_stopped 14 = .ok (.getfield 168, 3) := by decide +kernel
theorem dX8_stopped_17 : decode cX8_stopped 17 = .ok (.goto 10, 3) := by decide +kernel
theorem dX8_stopped_20 : decode cX8_stopped 20 = .ok (.aload_n 0, 1) := by decide +kernel
theorem dX8_stopped_21 : decode cX8_stopped 21 = .ok (.getfield 10, 3) := by decide +kernel
theorem dX8_stopped_24 : decode cX8_stopped 24 = .ok (.getfield 171, 3) := by decide +kernel
theorem dX8_stopped_27 : decode cX8_stopped 27 = .ok (.ireturn, 1) := by decide +kernel
theorem dX8_undo_0 : decode cX8_undo 0 = .ok (.aload_n 0, 1) := by decide +kernel
theorem dX8_undo_1 : decode cX8_undo 1 = .ok (.getfield 19, 3) := by decide +kernel
theorem dX8_undo_4 : decode cX8_undo 4 = .ok (.getfield 174, 3) := by decide +kernel
theorem dX8_undo_7 : decode cX8_undo 7 = .ok (.ifCond .ne 13, 3) := by decide +kernel
theorem dX8_undo_10 : decode cX8_undo 10 = .ok (.new 177, 3) := by decide +kernel
theorem dX8_undo_13 : decode cX8_undo 13 = .ok (.dup, 1) := by decide +kernel
theorem dX8_undo_14 : decode cX8_undo 14 = .ok (.ldc 179, 2) := by decide +kernel
theorem dX8_undo_16 : decode cX8_undo 16 = .ok (.invokespecial 181, 3) := by decide +kernel
theorem dX8_undo_19 : decode cX8_undo 19 = .ok (.athrow, 1) := by decide +kernel
theorem dX8_undo_20 : decode cX8_undo 20 = .ok (.aload_n 0, 1) := by decide +kernel
theorem dX8_undo_21 : decode cX8_undo 21 = .ok (.getfield 19, 3) := by decide +kernel
theorem dX8_undo_24 : decode cX8_undo 24 = .ok (.aload_n 0, 1) := by decide +kernel
theorem dX8_undo_25 : decode cX8_undo 25 = .ok (.getfield 10, 3) := by decide +kernel
theorem dX8_undo_28 : decode cX8_undo 28 = .ok (.invokevirtual 182, 3) := by decide +kernel
theorem dX8_undo_31 : decode cX8_undo 31 = .ok (.aload_n 0, 1) := by decide +kernel
theorem dX8_undo_32 : decode cX8_undo 32 = .ok (.getfield 19, 3) := by decide +kernel
theorem dX8_undo_35 : decode cX8_undo 35 = .ok (.getfield 174, 3) := by decide +kernel
theorem dX8_undo_38 : decode cX8_undo 38 = .ok (.ireturn, 1) := by decide +kernel
theorem dX8_keep_0 : decode cX8_keep 0 = .ok (.aload_n 0, 1) := by decide +kernel
theorem dX8_keep_1 : decode cX8_keep 1 = .ok (.getfield 19, 3) := by decide +kernel
theorem dX8_keep_4 : decode cX8_keep 4 = .ok (.getfield 185, 3) := by decide +kernel
theorem dX8_keep_7 : decode cX8_keep 7 = .ok (.aload_n 0, 1) := by decide +kernel
theorem dX8_keep_8 : decode cX8_keep 8 = .ok (.getfield 10, 3) := by decide +kernel
theorem dX8_keep_11 : decode cX8_keep 11 = .ok (.invokevirtual 188, 3) := by decide +kernel
theorem dX8_keep_14 : decode cX8_keep 14 = .ok (.aload_n 0, 1) := by decide +kernel
theorem dX8_keep_15 : decode cX8_keep 15 = .ok (.getfield 19, 3) := by decide +kernel
theorem dX8_keep_18 : decode cX8_keep 18 = .ok (.iconst 1, 1) := by decide +kernel
theorem dX8_keep_19 : decode cX8_keep 19 = .ok (.putfield 191, 3) := by decide +kernel
theorem dX8_keep_22 : decode cX8_keep 22 = .ok (.aload_n 0, 1) := by decide +kernel
theorem dX8_keep_23 : decode cX8_keep 23 = .ok (.getfield 10, 3) := by decide +kernel
theorem dX8_keep_26 : decode cX8_keep 26 = .ok (.getfield 59, 3) := by decide +kernel
theorem dX8_keep_29 : decode cX8_keep 29 = .ok (.ireturn, 1) := by decide +kernel
theorem dX8_restore_0 : decode cX8_restore 0 = .ok (.aload_n 0, 1) := by decide +kernel
theorem dX8_restore_1 : decode cX8_restore 1 = .ok (.getfield 19, 3) := by decide +kernel
theorem dX8_restore_4 : decode cX8_restore 4 = .ok (.getfield 191, 3) := by decide +kernel
theorem dX8_restore_7 : decode cX8_restore 7 = .ok (.ifCond .ne 13, 3) := by decide +kernel
theorem dX8_restore_10 : decode cX8_restore 10 = .ok (.new 177, 3) := by decide +kernel
theorem dX8_restore_13 : decode cX8_restore 13 = .ok (.dup, 1) := by decide +kernel
theorem dX8_restore_14 : decode cX8_restore 14 = .ok (.ldc 195, 2) := by decide +kernel
theorem dX8_restore_16 : decode cX8_restore 16 = .ok (.invokespecial 181, 3) := by decide +kernel
theorem dX8_restore_19 : decode cX8_restore 19 = .ok (.athrow, 1) := by decide +kernel
theorem dX8_restore_20 : decode cX8_restore 20 = .ok (.aload_n 0, 1) := by decide +kernel
theorem dX8_restore_21 : decode cX8_restore 21 = .ok (.getfield 19, 3) := by decide +kernel
theorem dX8_restore_24 : decode cX8_restore 24 = .ok (.aload_n 0, 1) := by decide +kernel
theorem dX8_restore_25 : decode cX8_restore 25 = .ok (.getfield 10, 3) := by decide +kernel
theorem dX8_restore_28 : decode cX8_restore 28 = .ok (.invokevirtual 42, 3) := by decide +kernel
theorem dX8_restore_31 : decode cX8_restore 31 = .ok (.aload_n 0, 1) := by decide +kernel
theorem dX8_restore_32 : decode cX8_restore 32 = .ok (.getfield 10, 3) := by decide +kernel
theorem dX8_restore_35 : decode cX8_restore 35 = .ok (.aload_n 0, 1) := by decide +kernel
theorem dX8_restore_36 : decode cX8_restore 36 = .ok (.getfield 19, 3) := by decide +kernel
theorem dX8_restore_39 : decode cX8_restore 39 = .ok (.getfield 185, 3) := by decide +kernel
theorem dX8_restore_42 : decode cX8_restore 42 = .ok (.invokevirtual 188, 3) := by decide +kernel
theorem dX8_restore_45 : decode cX8_restore 45 = .ok (.aload_n 0, 1) := by decide +kernel
theorem dX8_restore_46 : decode cX8_restore 46 = .ok (.getfield 10, 3) := by decide +kernel
theorem dX8_restore_49 : decode cX8_restore 49 = .ok (.getfield 59, 3) := by decide +kernel
theorem dX8_restore_52 : decode cX8_restore 52 = .ok (.ireturn, 1) := by decide +kernel
theorem dX8_drumOf_0 : decode cX8_drumOf 0 = .ok (.iload_n 1, 1) := by decide +kernel
theorem dX8_drumOf_1 : decode cX8_drumOf 1 = .ok (.aload_n 0, 1) := by decide +kernel
theorem dX8_drumOf_2 : decode cX8_drumOf 2 = .ok (.getfield 10, 3) := by decide +kernel
theorem dX8_drumOf_5 : decode cX8_drumOf 5 = .ok (.getfield 34, 3) := by decide +kernel
theorem dX8_drumOf_8 : decode cX8_drumOf 8 = .ok (.invokestatic 62, 3) := by decide +kernel
theorem dX8_drumOf_11 : decode cX8_drumOf 11 = .ok (.iload_n 2, 1) := by decide +kernel
theorem dX8_drumOf_12 : decode cX8_drumOf 12 = .ok (.iconst 0, 1) := by decide +kernel
theorem dX8_drumOf_13 : decode cX8_drumOf 13 = .ok (.bipush 8, 2) := by decide +kernel
theorem dX8_drumOf_15 : decode cX8_drumOf 15 = .ok (.invokestatic 30, 3) := by decide +kernel
theorem dX8_drumOf_18 : decode cX8_drumOf 18 = .ok (.aload_n 0, 1) := by decide +kernel
theorem dX8_drumOf_19 : decode cX8_drumOf 19 = .ok (.getfield 10, 3) := by decide +kernel
theorem dX8_drumOf_22 : decode cX8_drumOf 22 = .ok (.iload_n 1, 1) := by decide +kernel
theorem dX8_drumOf_23 : decode cX8_drumOf 23 = .ok (.iload_n 2, 1) := by decide +kernel
theorem dX8_drumOf_24 : decode cX8_drumOf 24 = .ok (.invokestatic 197, 3) := by decide +kernel
theorem dX8_drumOf_27 : decode cX8_drumOf 27 = .ok (.ireturn, 1) := by decide +kernel
theorem dX8_sampleOf_0 : decode cX8_sampleOf 0 = .ok (.iload_n 1, 1) := by decide +kernel
theorem dX8_sampleOf_1 : decode cX8_sampleOf 1 = .ok (.aload_n 0, 1) := by decide +kernel
theorem dX8_sampleOf_2 : decode cX8_sampleOf 2 = .ok (.getfield 10, 3) := by decide +kernel
theorem dX8_sampleOf_5 : decode cX8_sampleOf 5 = .ok (.getfield 59, 3) := by decide +kernel
theorem dX8_sampleOf_8 : decode cX8_sampleOf 8 = .ok (.invokestatic 62, 3) := by decide +kernel
theorem dX8_sampleOf_11 : decode cX8_sampleOf 11 = .ok (.iload_n 2, 1) := by decide +kernel
theorem dX8_sampleOf_12 : decode cX8_sampleOf 12 = .ok (.iconst 0, 1) := by decide +kernel
theorem dX8_sampleOf_13 : decode cX8_sampleOf 13 = .ok (.bipush 8, 2) := by decide +kernel
theorem dX8_sampleOf_15 : decode cX8_sampleOf 15 = .ok (.invokestatic 30, 3) := by decide +kernel
theorem dX8_sampleOf_18 : decode cX8_sampleOf 18 = .ok (.aload_n 0, 1) := by decide +kernel
theorem dX8_sampleOf_19 : decode cX8_sampleOf 19 = .ok (.getfield 10, 3) := by decide +kernel
theorem dX8_sampleOf_22 : decode cX8_sampleOf 22 = .ok (.getfield 109, 3) := by decide +kernel
theorem dX8_sampleOf_25 : decode cX8_sampleOf 25 = .ok (.iload_n 1, 1) := by decide +kernel
theorem dX8_sampleOf_26 : decode cX8_sampleOf 26 = .ok (.aaload, 1) := by decide +kernel
theorem dX8_sampleOf_27 : decode cX8_sampleOf 27 = .ok (.iload_n 2, 1) := by decide +kernel
theorem dX8_sampleOf_28 : decode cX8_sampleOf 28 = .ok (.aload_n 0, 1) := by decide +kernel
theorem dX8_sampleOf_29 : decode cX8_sampleOf 29 = .ok (.getfield 10, 3) := by decide +kernel
theorem dX8_sampleOf_32 : decode cX8_sampleOf 32 = .ok (.getfield 130, 3) := by decide +kernel
theorem dX8_sampleOf_35 : decode cX8_sampleOf 35 = .ok (.iconst 1, 1) := by decide +kernel
theorem dX8_sampleOf_36 : decode cX8_sampleOf 36 = .ok (.iaload, 1) := by decide +kernel
theorem dX8_sampleOf_37 : decode cX8_sampleOf 37 = .ok (.invokevirtual 201, 3) := by decide +kernel
theorem dX8_sampleOf_40 : decode cX8_sampleOf 40 = .ok (.ireturn, 1) := by decide +kernel
theorem dX8_reading_0 : decode cX8_reading 0 = .ok (.iload_n 1, 1) := by decide +kernel
theorem dX8_reading_1 : decode cX8_reading 1 = .ok (.aload_n 0, 1) := by decide +kernel
theorem dX8_reading_2 : decode cX8_reading 2 = .ok (.getfield 10, 3) := by decide +kernel
theorem dX8_reading_5 : decode cX8_reading 5 = .ok (.getfield 59, 3) := by decide +kernel
theorem dX8_reading_8 : decode cX8_reading 8 = .ok (.invokestatic 62, 3) := by decide +kernel
theorem dX8_reading_11 : decode cX8_reading 11 = .ok (.iload_n 3, 1) := by decide +kernel
theorem dX8_reading_12 : decode cX8_reading 12 = .ok (.iconst 0, 1) := by decide +kernel
theorem dX8_reading_13 : decode cX8_reading 13 = .ok (.iconst 3, 1) := by decide +kernel
theorem dX8_reading_14 : decode cX8_reading 14 = .ok (.invokestatic 30, 3) := by decide +kernel
theorem dX8_reading_17 : decode cX8_reading 17 = .ok (.iload_n 2, 1) := by decide +kernel
theorem dX8_reading_18 : decode cX8_reading 18 = .ok (.ifCond .ge 13, 3) := by decide +kernel
theorem dX8_reading_21 : decode cX8_reading 21 = .ok (.new 150, 3) := by decide +kernel
theorem dX8_reading_24 : decode cX8_reading 24 = .ok (.dup, 1) := by decide +kernel
theorem dX8_reading_25 : decode cX8_reading 25 = .ok (.ldc 203, 2) := by decide +kernel
theorem dX8_reading_27 : decode cX8_reading 27 = .ok (.invokespecial 154, 3) := by decide +kernel
theorem dX8_reading_30 : decode cX8_reading 30 = .ok (.athrow, 1) := by decide +kernel
theorem dX8_reading_31 : decode cX8_reading 31 = .ok (.aload_n 0, 1) := by decide +kernel
theorem dX8_reading_32 : decode cX8_reading 32 = .ok (.getfield 10, 3) := by decide +kernel
theorem dX8_reading_35 : decode cX8_reading 35 = .ok (.getfield 109, 3) := by decide +kernel
theorem dX8_reading_38 : decode cX8_reading 38 = .ok (.iload_n 1, 1) := by decide +kernel
theorem dX8_reading_39 : decode cX8_reading 39 = .ok (.aaload, 1) := by decide +kernel
theorem dX8_reading_40 : decode cX8_reading 40 = .ok (.iload_n 2, 1) := by decide +kernel
theorem dX8_reading_41 : decode cX8_reading 41 = .ok (.iload_n 3, 1) := by decide +kernel
theorem dX8_reading_42 : decode cX8_reading 42 = .ok (.invokevirtual 205, 3) := by decide +kernel
theorem dX8_reading_45 : decode cX8_reading 45 = .ok (.ireturn, 1) := by decide +kernel
theorem dX8_needle_0 : decode cX8_needle 0 = .ok (.iload_n 1, 1) := by decide +kernel
theorem dX8_needle_1 : decode cX8_needle 1 = .ok (.iconst 3, 1) := by decide +kernel
theorem dX8_needle_2 : decode cX8_needle 2 = .ok (.invokestatic 62, 3) := by decide +kernel
theorem dX8_needle_5 : decode cX8_needle 5 = .ok (.iload_n 2, 1) := by decide +kernel
theorem dX8_needle_6 : decode cX8_needle 6 = .ok (.iconst 0, 1) := by decide +kernel
theorem dX8_needle_7 : decode cX8_needle 7 = .ok (.iconst 2, 1) := by decide +kernel
theorem dX8_needle_8 : decode cX8_needle 8 = .ok (.invokestatic 30, 3) := by decide +kernel
theorem dX8_needle_11 : decode cX8_needle 11 = .ok (.aload_n 0, 1) := by decide +kernel
theorem dX8_needle_12 : decode cX8_needle 12 = .ok (.getfield 10, 3) := by decide +kernel
theorem dX8_needle_15 : decode cX8_needle 15 = .ok (.getfield 97, 3) := by decide +kernel
theorem dX8_needle_18 : decode cX8_needle 18 = .ok (.iload_n 1, 1) := by decide +kernel
theorem dX8_needle_19 : decode cX8_needle 19 = .ok (.aaload, 1) := by decide +kernel
theorem dX8_needle_20 : decode cX8_needle 20 = .ok (.iload_n 2, 1) := by decide +kernel
theorem dX8_needle_21 : decode cX8_needle 21 = .ok (.invokevirtual 208, 3) := by decide +kernel
theorem dX8_needle_24 : decode cX8_needle 24 = .ok (.ireturn, 1) := by decide +kernel
theorem dX8_bathOf_0 : decode cX8_bathOf 0 = .ok (.iload_n 1, 1) := by decide +kernel
theorem dX8_bathOf_1 : decode cX8_bathOf 1 = .ok (.iconst 3, 1) := by decide +kernel
theorem dX8_bathOf_2 : decode cX8_bathOf 2 = .ok (.invokestatic 62, 3) := by decide +kernel
theorem dX8_bathOf_5 : decode cX8_bathOf 5 = .ok (.iload_n 2, 1) := by decide +kernel
theorem dX8_bathOf_6 : decode cX8_bathOf 6 = .ok (.iconst 0, 1) := by decide +kernel
theorem dX8_bathOf_7 : decode cX8_bathOf 7 = .ok (.iconst 2, 1) := by decide +kernel
theorem dX8_bathOf_8 : decode cX8_bathOf 8 = .ok (.invokestatic 30, 3) := by decide +kernel
theorem dX8_bathOf_11 : decode cX8_bathOf 11 = .ok (.aload_n 0, 1) := by decide +kernel
theorem dX8_bathOf_12 : decode cX8_bathOf 12 = .ok (.getfield 10, 3) := by decide +kernel
theorem dX8_bathOf_15 : decode cX8_bathOf 15 = .ok (.iload_n 1, 1) := by decide +kernel
theorem dX8_bathOf_16 : decode cX8_bathOf 16 = .ok (.iload_n 2, 1) := by decide +kernel
theorem dX8_bathOf_17 : decode cX8_bathOf 17 = .ok (.invokevirtual 210, 3) := by decide +kernel
theorem dX8_bathOf_20 : decode cX8_bathOf 20 = .ok (.ireturn, 1) := by decide +kernel
theorem dX8_count_0 : decode cX8_count 0 = .ok (.iload_n 1, 1) := by decide +kernel
theorem dX8_count_1 : decode cX8_count 1 = .ok (.iconst 0, 1) := by decide +kernel
theorem dX8_count_2 : decode cX8_count 2 = .ok (.bipush 11, 2) := by decide +kernel
theorem dX8_count_4 : decode cX8_count 4 = .ok (.invokestatic 30, 3) := by decide +kernel
theorem dX8_count_7 : decode cX8_count 7 = .ok (.iload_n 1, 1) := by decide +kernel
theorem dX8_count_8 : decode cX8_count 8 = .ok (.bipush 11, 2) := by decide +kernel
theorem dX8_count_10 : decode cX8_count 10 = .ok (.if_icmp .ne 13, 3) := by decide +kernel
theorem dX8_count_13 : decode cX8_count 13 = .ok (.aload_n 0, 1) := by decide +kernel
theorem dX8_count_14 : decode cX8_count 14 = .ok (.getfield 19, 3) := by decide +kernel
theorem dX8_count_17 : decode cX8_count 17 = .ok (.getfield 174, 3) := by decide +kernel
theorem dX8_count_20 : decode cX8_count 20 = .ok (.goto 11, 3) := by decide +kernel
theorem dX8_count_23 : decode cX8_count 23 = .ok (.aload_n 0, 1) := by decide +kernel
theorem dX8_count_24 : decode cX8_count 24 = .ok (.getfield 10, 3) := by decide +kernel
theorem dX8_count_27 : decode cX8_count 27 = .ok (.iload_n 1, 1) := by decide +kernel
theorem dX8_count_28 : decode cX8_count 28 = .ok (.invokevirtual 213, 3) := by decide +kernel
theorem dX8_count_31 : decode cX8_count 31 = .ok (.ireturn, 1) := by decide +kernel
theorem dX8_noSink_0 : decode cX8_noSink 0 = .ok (.iload_n 1, 1) := by decide +kernel
theorem dX8_noSink_1 : decode cX8_noSink 1 = .ok (.iconst 3, 1) := by decide +kernel
theorem dX8_noSink_2 : decode cX8_noSink 2 = .ok (.invokestatic 62, 3) := by decide +kernel
theorem dX8_noSink_5 : decode cX8_noSink 5 = .ok (.iload_n 2, 1) := by decide +kernel
theorem dX8_noSink_6 : decode cX8_noSink 6 = .ok (.aload_n 0, 1) := by decide +kernel
theorem dX8_noSink_7 : decode cX8_noSink 7 = .ok (.getfield 10, 3) := by decide +kernel
theorem dX8_noSink_10 : decode cX8_noSink 10 = .ok (.getfield 59, 3) := by decide +kernel
theorem dX8_noSink_13 : decode cX8_noSink 13 = .ok (.invokestatic 62, 3) := by decide +kernel
theorem dX8_noSink_16 : decode cX8_noSink 16 = .ok (.aload_n 0, 1) := by decide +kernel
theorem dX8_noSink_17 : decode cX8_noSink 17 = .ok (.getfield 10, 3) := by decide +kernel
theorem dX8_noSink_20 : decode cX8_noSink 20 = .ok (.iload_n 1, 1) := by decide +kernel
theorem dX8_noSink_21 : decode cX8_noSink 21 = .ok (.iload_n 2, 1) := by decide +kernel
theorem dX8_noSink_22 : decode cX8_noSink 22 = .ok (.invokevirtual 87, 3) := by decide +kernel
theorem dX8_noSink_25 : decode cX8_noSink 25 = .ok (.ireturn, 1) := by decide +kernel
theorem dX8_noSale_0 : decode cX8_noSale 0 = .ok (.iload_n 1, 1) := by decide +kernel
theorem dX8_noSale_1 : decode cX8_noSale 1 = .ok (.aload_n 0, 1) := by decide +kernel
theorem dX8_noSale_2 : decode cX8_noSale 2 = .ok (.getfield 10, 3) := by decide +kernel
theorem dX8_noSale_5 : decode cX8_noSale 5 = .ok (.getfield 34, 3) := by decide +kernel
theorem dX8_noSale_8 : decode cX8_noSale 8 = .ok (.invokestatic 62, 3) := by decide +kernel
theorem dX8_noSale_11 : decode cX8_noSale 11 = .ok (.aload_n 0, 1) := by decide +kernel
theorem dX8_noSale_12 : decode cX8_noSale 12 = .ok (.getfield 10, 3) := by decide +kernel
theorem dX8_noSale_15 : decode cX8_noSale 15 = .ok (.iload_n 1, 1) := by decide +kernel
theorem dX8_noSale_16 : decode cX8_noSale 16 = .ok (.invokestatic 118, 3) := by decide +kernel
theorem dX8_noSale_19 : decode cX8_noSale 19 = .ok (.ireturn, 1) := by decide +kernel
theorem dX8_ifSunk_0 : decode cX8_ifSunk 0 = .ok (.iload_n 1, 1) := by decide +kernel
theorem dX8_ifSunk_1 : decode cX8_ifSunk 1 = .ok (.iconst 3, 1) := by decide +kernel
theorem dX8_ifSunk_2 : decode cX8_ifSunk 2 = .ok (.invokestatic 62, 3) := by decide +kernel
theorem dX8_ifSunk_5 : decode cX8_ifSunk 5 = .ok (.iload_n 2, 1) := by decide +kernel
theorem dX8_ifSunk_6 : decode cX8_ifSunk 6 = .ok (.aload_n 0, 1) := by decide +kernel
theorem dX8_ifSunk_7 : decode cX8_ifSunk 7 = .ok (.getfield 10, 3) := by decide +kernel
theorem dX8_ifSunk_10 : decode cX8_ifSunk 10 = .ok (.getfield 59, 3) := by decide +kernel
theorem dX8_ifSunk_13 : decode cX8_ifSunk 13 = .ok (.invokestatic 62, 3) := by decide +kernel
theorem dX8_ifSunk_16 : decode cX8_ifSunk 16 = .ok (.iload_n 3, 1) := by decide +kernel
theorem dX8_ifSunk_17 : decode cX8_ifSunk 17 = .ok (.bipush 50, 2) := by decide +kernel
theorem dX8_ifSunk_19 : decode cX8_ifSunk 19 = .ok (.sipush 200, 3) := by decide +kernel
theorem dX8_ifSunk_22 : decode cX8_ifSunk 22 = .ok (.invokestatic 30, 3) := by decide +kernel
theorem dX8_ifSunk_25 : decode cX8_ifSunk 25 = .ok (.iload 4, 2) := by decide +kernel
theorem dX8_ifSunk_27 : decode cX8_ifSunk 27 = .ok (.iconst 1, 1) := by decide +kernel
theorem dX8_ifSunk_28 : decode cX8_ifSunk 28 = .ok (.bipush 60, 2) := by decide +kernel
theorem dX8_ifSunk_30 : decode cX8_ifSunk 30 = .ok (.invokestatic 30, 3) := by decide +kernel
theorem dX8_ifSunk_33 : decode cX8_ifSunk 33 = .ok (.aload_n 0, 1) := by decide +kernel
theorem dX8_ifSunk_34 : decode cX8_ifSunk 34 = .ok (.getfield 10, 3) := by decide +kernel
theorem dX8_ifSunk_37 : decode cX8_ifSunk 37 = .ok (.iload_n 1, 1) := by decide +kernel
theorem dX8_ifSunk_38 : decode cX8_ifSunk 38 = .ok (.iload_n 2, 1) := by decide +kernel
theorem dX8_ifSunk_39 : decode cX8_ifSunk 39 = .ok (.iload_n 3, 1) := by decide +kernel
theorem dX8_ifSunk_40 : decode cX8_ifSunk 40 = .ok (.iload 4, 2) := by decide +kernel
theorem dX8_ifSunk_42 : decode cX8_ifSunk 42 = .ok (.invokevirtual 216, 3) := by decide +kernel
theorem dX8_ifSunk_45 : decode cX8_ifSunk 45 = .ok (.ireturn, 1) := by decide +kernel
theorem dX8_secondsTo_0 : decode cX8_secondsTo 0 = .ok (.iload_n 1, 1) := by decide +kernel
theorem dX8_secondsTo_1 : decode cX8_secondsTo 1 = .ok (.iconst 3, 1) := by decide +kernel
theorem dX8_secondsTo_2 : decode cX8_secondsTo 2 = .ok (.invokestatic 62, 3) := by decide +kernel
theorem dX8_secondsTo_5 : decode cX8_secondsTo 5 = .ok (.iload_n 2, 1) := by decide +kernel
theorem dX8_secondsTo_6 : decode cX8_secondsTo 6 = .ok (.aload_n 0, 1) := by decide +kernel
theorem dX8_secondsTo_7 : decode cX8_secondsTo 7 = .ok (.getfield 10, 3) := by decide +kernel
theorem dX8_secondsTo_10 : decode cX8_secondsTo 10 = .ok (.getfield 59, 3) := by decide +kernel
theorem dX8_secondsTo_13 : decode cX8_secondsTo 13 = .ok (.invokestatic 62, 3) := by decide +kernel
theorem dX8_secondsTo_16 : decode cX8_secondsTo 16 = .ok (.iload_n 3, 1) := by decide +kernel
theorem dX8_secondsTo_17 : decode cX8_secondsTo 17 = .ok (.bipush 50, 2) := by decide +kernel
theorem dX8_secondsTo_19 : decode cX8_secondsTo 19 = .ok (.sipush 200, 3) := by decide +kernel
theorem dX8_secondsTo_22 : decode cX8_secondsTo 22 = .ok (.invokestatic 30, 3) := by decide +kernel
theorem dX8_secondsTo_25 : decode cX8_secondsTo 25 = .ok (.iload 4, 2) := by decide +kernel
theorem dX8_secondsTo_27 : decode cX8_secondsTo 27 = .ok (.iconst 1, 1) := by decide +kernel
theorem dX8_secondsTo_28 : decode cX8_secondsTo 28 = .ok (.sipush 400, 3) := by decide +kernel
theorem dX8_secondsTo_31 : decode cX8_secondsTo 31 = .ok (.invokestatic 30, 3) := by decide +kernel
theorem dX8_secondsTo_34 : decode cX8_secondsTo 34 = .ok (.iconst 1, 1) := by decide +kernel
theorem dX8_secondsTo_35 : decode cX8_secondsTo 35 = .ok (.istore 5, 2) := by decide +kernel
theorem dX8_secondsTo_37 : decode cX8_secondsTo 37 = .ok (.iload 5, 2) := by decide +kernel
theorem dX8_secondsTo_39 : decode cX8_secondsTo 39 = .ok (.bipush 60, 2) := by decide +kernel
theorem dX8_secondsTo_41 : decode cX8_secondsTo 41 = .ok (.if_icmp .gt 29, 3) := by decide +kernel
theorem dX8_secondsTo_44 : decode cX8_secondsTo 44 = .ok (.aload_n 0, 1) := by decide +kernel
theorem dX8_secondsTo_45 : decode cX8_secondsTo 45 = .ok (.getfield 10, 3) := by decide +kernel
theorem dX8_secondsTo_48 : decode cX8_secondsTo 48 = .ok (.iload_n 1, 1) := by decide +kernel
theorem dX8_secondsTo_49 : decode cX8_secondsTo 49 = .ok (.iload_n 2, 1) := by decide +kernel
theorem dX8_secondsTo_50 : decode cX8_secondsTo 50 = .ok (.iload_n 3, 1) := by decide +kernel
theorem dX8_secondsTo_51 : decode cX8_secondsTo 51 = .ok (.iload 5, 2) := by decide +kernel
theorem dX8_secondsTo_53 : decode cX8_secondsTo 53 = .ok (.invokevirtual 216, 3) := by decide +kernel
theorem dX8_secondsTo_56 : decode cX8_secondsTo 56 = .ok (.iload 4, 2) := by decide +kernel
theorem dX8_secondsTo_58 : decode cX8_secondsTo 58 = .ok (.if_icmp .lt 6, 3) := by decide +kernel
theorem dX8_secondsTo_61 : decode cX8_secondsTo 61 = .ok (.iload 5, 2) := by decide +kernel
theorem dX8_secondsTo_63 : decode cX8_secondsTo 63 = .ok (.ireturn, 1) := by decide +kernel
theorem dX8_secondsTo_64 : decode cX8_secondsTo 64 = .ok (.iinc 5 1, 3) := by decide +kernel
theorem dX8_secondsTo_67 : decode cX8_secondsTo 67 = .ok (.goto (-30), 3) := by decide +kernel
theorem dX8_secondsTo_70 : decode cX8_secondsTo 70 = .ok (.iconst (-1), 1) := by decide +kernel
theorem dX8_secondsTo_71 : decode cX8_secondsTo 71 = .ok (.ireturn, 1) := by decide +kernel
theorem dX8_readyIn_0 : decode cX8_readyIn 0 = .ok (.iload_n 1, 1) := by decide +kernel
theorem dX8_readyIn_1 : decode cX8_readyIn 1 = .ok (.aload_n 0, 1) := by decide +kernel
theorem dX8_readyIn_2 : decode cX8_readyIn 2 = .ok (.getfield 10, 3) := by decide +kernel
theorem dX8_readyIn_5 : decode cX8_readyIn 5 = .ok (.getfield 59, 3) := by decide +kernel
theorem dX8_readyIn_8 : decode cX8_readyIn 8 = .ok (.invokestatic 62, 3) := by decide +kernel
theorem dX8_readyIn_11 : decode cX8_readyIn 11 = .ok (.aload_n 0, 1) := by decide +kernel
theorem dX8_readyIn_12 : decode cX8_readyIn 12 = .ok (.getfield 10, 3) := by decide +kernel
theorem dX8_readyIn_15 : decode cX8_readyIn 15 = .ok (.iload_n 1, 1) := by decide +kernel
theorem dX8_readyIn_16 : decode cX8_readyIn 16 = .ok (.invokevirtual 219, 3) := by decide +kernel
theorem dX8_readyIn_19 : decode cX8_readyIn 19 = .ok (.ireturn, 1) := by decide +kernel
theorem dX8_bestBath_0 : decode cX8_bestBath 0 = .ok (.iload_n 1, 1) := by decide +kernel
theorem dX8_bestBath_1 : decode cX8_bestBath 1 = .ok (.aload_n 0, 1) := by decide +kernel
theorem dX8_bestBath_2 : decode cX8_bestBath 2 = .ok (.getfield 10, 3) := by decide +kernel
theorem dX8_bestBath_5 : decode cX8_bestBath 5 = .ok (.getfield 59, 3) := by decide +kernel
theorem dX8_bestBath_8 : decode cX8_bestBath 8 = .ok (.invokestatic 62, 3) := by decide +kernel
theorem dX8_bestBath_11 : decode cX8_bestBath 11 = .ok (.aload_n 0, 1) := by decide +kernel
theorem dX8_bestBath_12 : decode cX8_bestBath 12 = .ok (.getfield 10, 3) := by decide +kernel
theorem dX8_bestBath_15 : decode cX8_bestBath 15 = .ok (.iload_n 1, 1) := by decide +kernel
theorem dX8_bestBath_16 : decode cX8_bestBath 16 = .ok (.invokevirtual 222, 3) := by decide +kernel
theorem dX8_bestBath_19 : decode cX8_bestBath 19 = .ok (.ireturn, 1) := by decide +kernel
theorem dX8_readShare_0 : decode cX8_readShare 0 = .ok (.aload_n 0, 1) := by decide +kernel
theorem dX8_readShare_1 : decode cX8_readShare 1 = .ok (.getfield 10, 3) := by decide +kernel
theorem dX8_readShare_4 : decode cX8_readShare 4 = .ok (.getfield 59, 3) := by decide +kernel
theorem dX8_readShare_7 : decode cX8_readShare 7 = .ok (.ifCond .gt 5, 3) := by decide +kernel
theorem dX8_readShare_10 : decode cX8_readShare 10 = .ok (.dconst 1, 1) := by decide +kernel
theorem dX8_readShare_11 : decode cX8_readShare 11 = .ok (.dreturn, 1) := by decide +kernel
theorem dX8_readShare_12 : decode cX8_readShare 12 = .ok (.aload_n 0, 1) := by decide +kernel
theorem dX8_readShare_13 : decode cX8_readShare 13 = .ok (.getfield 10, 3) := by decide +kernel
theorem dX8_readShare_16 : decode cX8_readShare 16 = .ok (.invokevirtual 225, 3) := by decide +kernel
theorem dX8_readShare_19 : decode cX8_readShare 19 = .ok (.i2d, 1) := by decide +kernel
theorem dX8_readShare_20 : decode cX8_readShare 20 = .ok (.aload_n 0, 1) := by decide +kernel
theorem dX8_readShare_21 : decode cX8_readShare 21 = .ok (.getfield 10, 3) := by decide +kernel
theorem dX8_readShare_24 : decode cX8_readShare 24 = .ok (.getfield 59, 3) := by decide +kernel
theorem dX8_readShare_27 : decode cX8_readShare 27 = .ok (.i2d, 1) := by decide +kernel
theorem dX8_readShare_28 : decode cX8_readShare 28 = .ok (.ddiv, 1) := by decide +kernel
theorem dX8_readShare_29 : decode cX8_readShare 29 = .ok (.dreturn, 1) := by decide +kernel
theorem dX8_digest_0 : decode cX8_digest 0 = .ok (.ldc2_w 228, 3) := by decide +kernel
theorem dX8_digest_3 : decode cX8_digest 3 = .ok (.lstore_n 1, 1) := by decide +kernel
theorem dX8_digest_4 : decode cX8_digest 4 = .ok (.iconst 0, 1) := by decide +kernel
theorem dX8_digest_5 : decode cX8_digest 5 = .ok (.istore_n 3, 1) := by decide +kernel
theorem dX8_digest_6 : decode cX8_digest 6 = .ok (.iload_n 3, 1) := by decide +kernel
theorem dX8_digest_7 : decode cX8_digest 7 = .ok (.bipush 12, 2) := by decide +kernel
theorem dX8_digest_9 : decode cX8_digest 9 = .ok (.if_icmp .ge 40, 3) := by decide +kernel
theorem dX8_digest_12 : decode cX8_digest 12 = .ok (.lload_n 1, 1) := by decide +kernel
theorem dX8_digest_13 : decode cX8_digest 13 = .ok (.iload_n 3, 1) := by decide +kernel
theorem dX8_digest_14 : decode cX8_digest 14 = .ok (.bipush 11, 2) := by decide +kernel
theorem dX8_digest_16 : decode cX8_digest 16 = .ok (.if_icmp .ne 14, 3) := by decide +kernel
theorem dX8_digest_19 : decode cX8_digest 19 = .ok (.aload_n 0, 1) := by decide +kernel
theorem dX8_digest_20 : decode cX8_digest 20 = .ok (.getfield 19, 3) := by decide +kernel
theorem dX8_digest_23 : decode cX8_digest 23 = .ok (.getfield 174, 3) := by decide +kernel
theorem dX8_digest_26 : decode cX8_digest 26 = .ok (.i2l, 1) := by decide +kernel
theorem dX8_digest_27 : decode cX8_digest 27 = .ok (.goto 12, 3) := by decide +kernel
theorem dX8_digest_30 : decode cX8_digest 30 = .ok (.aload_n 0, 1) := by decide +kernel
theorem dX8_digest_31 : decode cX8_digest 31 = .ok (.getfield 10, 3) := by decide +kernel
theorem dX8_digest_34 : decode cX8_digest 34 = .ok (.iload_n 3, 1) := by decide +kernel
theorem dX8_digest_35 : decode cX8_digest 35 = .ok (.invokevirtual 213, 3) := by decide +kernel
theorem dX8_digest_38 : decode cX8_digest 38 = .ok (.i2l, 1) := by decide +kernel
theorem dX8_digest_39 : decode cX8_digest 39 = .ok (.invokestatic 230, 3) := by decide +kernel
theorem dX8_digest_42 : decode cX8_digest 42 = .ok (.lstore_n 1, 1) := by decide +kernel
theorem dX8_digest_43 : decode cX8_digest 43 = .ok (.iinc 3 1, 3) := by decide +kernel
theorem dX8_digest_46 : decode cX8_digest 46 = .ok (.goto (-40), 3) := by decide +kernel
theorem dX8_digest_49 : decode cX8_digest 49 = .ok (.iconst 0, 1) := by decide +kernel
theorem dX8_digest_50 : decode cX8_digest 50 = .ok (.istore_n 3, 1) := by decide +kernel
theorem dX8_digest_51 : decode cX8_digest 51 = .ok (.iload_n 3, 1) := by decide +kernel
theorem dX8_digest_52 : decode cX8_digest 52 = .ok (.aload_n 0, 1) := by decide +kernel
theorem dX8_digest_53 : decode cX8_digest 53 = .ok (.getfield 10, 3) := by decide +kernel
theorem dX8_digest_56 : decode cX8_digest 56 = .ok (.getfield 34, 3) := by decide +kernel
theorem dX8_digest_59 : decode cX8_digest 59 = .ok (.if_icmp .ge 55, 3) := by decide +kernel
theorem dX8_digest_62 : decode cX8_digest 62 = .ok (.iconst 0, 1) := by decide +kernel
theorem dX8_digest_63 : decode cX8_digest 63 = .ok (.istore 4, 2) := by decide +kernel
theorem dX8_digest_65 : decode cX8_digest 65 = .ok (.iload 4, 2) := by decide +kernel
theorem dX8_digest_67 : decode cX8_digest 67 = .ok (.bipush 9, 2) := by decide +kernel
theorem dX8_digest_69 : decode cX8_digest 69 = .ok (.if_icmp .ge 25, 3) := by decide +kernel
theorem dX8_digest_72 : decode cX8_digest 72 = .ok (.lload_n 1, 1) := by decide +kernel
theorem dX8_digest_73 : decode cX8_digest 73 = .ok (.aload_n 0, 1) := by decide +kernel
theorem dX8_digest_74 : decode cX8_digest 74 = .ok (.getfield 10, 3) := by decide +kernel
theorem dX8_digest_77 : decode cX8_digest 77 = .ok (.iload_n 3, 1) := by decide +kernel
theorem dX8_digest_78 : decode cX8_digest 78 = .ok (.iload 4, 2) := by decide +kernel
theorem dX8_digest_80 : decode cX8_digest 80 = .ok (.invokestatic 197, 3) := by decide +kernel
theorem dX8_digest_83 : decode cX8_digest 83 = .ok (.i2l, 1) := by decide +kernel
theorem dX8_digest_84 : decode cX8_digest 84 = .ok (.invokestatic 230, 3) := by decide +kernel
theorem dX8_digest_87 : decode cX8_digest 87 = .ok (.lstore_n 1, 1) := by decide +kernel
theorem dX8_digest_88 : decode cX8_digest 88 = .ok (.iinc 4 1, 3) := by decide +kernel
theorem dX8_digest_91 : decode cX8_digest 91 = .ok (.goto (-26), 3) := by decide +kernel
theorem dX8_digest_94 : decode cX8_digest 94 = .ok (.lload_n 1, 1) := by decide +kernel
theorem dX8_digest_95 : decode cX8_digest 95 = .ok (.aload_n 0, 1) := by decide +kernel
theorem dX8_digest_96 : decode cX8_digest 96 = .ok (.getfield 10, 3) := by decide +kernel
theorem dX8_digest_99 : decode cX8_digest 99 = .ok (.iload_n 3, 1) := by decide +kernel
theorem dX8_digest_100 : decode cX8_digest 100 = .ok (.invokestatic 118, 3) := by decide +kernel
theorem dX8_digest_103 : decode cX8_digest 103 = .ok (.i2l, 1) := by decide +kernel
theorem dX8_digest_104 : decode cX8_digest 104 = .ok (.invokestatic 230, 3) := by decide +kernel
theorem dX8_digest_107 : decode cX8_digest 107 = .ok (.lstore_n 1, 1) := by decide +kernel
theorem dX8_digest_108 : decode cX8_digest 108 = .ok (.iinc 3 1, 3) := by decide +kernel
theorem dX8_digest_111 : decode cX8_digest 111 = .ok (.goto (-60), 3) := by decide +kernel
theorem dX8_digest_114 : decode cX8_digest 114 = .ok (.iconst 0, 1) := by decide +kernel
theorem dX8_digest_115 : decode cX8_digest 115 = .ok (.istore_n 3, 1) := by decide +kernel
theorem dX8_digest_116 : decode cX8_digest 116 = .ok (.iload_n 3, 1) := by decide +kernel
theorem dX8_digest_117 : decode cX8_digest 117 = .ok (.aload_n 0, 1) := by decide +kernel
theorem dX8_digest_118 : decode cX8_digest 118 = .ok (.getfield 10, 3) := by decide +kernel
theorem dX8_digest_121 : decode cX8_digest 121 = .ok (.getfield 59, 3) := by decide +kernel
theorem dX8_digest_124 : decode cX8_digest 124 = .ok (.if_icmp .ge 16, 3) := by decide +kernel
theorem dX8_digest_127 : decode cX8_digest 127 = .ok (.aload_n 0, 1) := by decide +kernel
theorem dX8_digest_128 : decode cX8_digest 128 = .ok (.lload_n 1, 1) := by decide +kernel
theorem dX8_digest_129 : decode cX8_digest 129 = .ok (.iload_n 3, 1) := by decide +kernel
theorem dX8_digest_130 : decode cX8_digest 130 = .ok (.invokevirtual 234, 3) := by decide +kernel
theorem dX8_digest_133 : decode cX8_digest 133 = .ok (.lstore_n 1, 1) := by decide +kernel
theorem dX8_digest_134 : decode cX8_digest 134 = .ok (.iinc 3 1, 3) := by decide +kernel
theorem dX8_digest_137 : decode cX8_digest 137 = .ok (.goto (-21), 3) := by decide +kernel
theorem dX8_digest_140 : decode cX8_digest 140 = .ok (.aload_n 0, 1) := by decide +kernel
theorem dX8_digest_141 : decode cX8_digest 141 = .ok (.lload_n 1, 1) := by decide +kernel
theorem dX8_digest_142 : decode cX8_digest 142 = .ok (.invokevirtual 238, 3) := by decide +kernel
theorem dX8_digest_145 : decode cX8_digest 145 = .ok (.lstore_n 1, 1) := by decide +kernel
theorem dX8_digest_146 : decode cX8_digest 146 = .ok (.lload_n 1, 1) := by decide +kernel
theorem dX8_digest_147 : decode cX8_digest 147 = .ok (.aload_n 0, 1) := by decide +kernel
theorem dX8_digest_148 : decode cX8_digest 148 = .ok (.getfield 10, 3) := by decide +kernel
theorem dX8_digest_151 : decode cX8_digest 151 = .ok (.getfield 168, 3) := by decide +kernel
theorem dX8_digest_154 : decode cX8_digest 154 = .ok (.i2l, 1) := by decide +kernel
theorem dX8_digest_155 : decode cX8_digest 155 = .ok (.invokestatic 230, 3) := by decide +kernel
theorem dX8_digest_158 : decode cX8_digest 158 = .ok (.lstore_n 1, 1) := by decide +kernel
theorem dX8_digest_159 : decode cX8_digest 159 = .ok (.lload_n 1, 1) := by decide +kernel
theorem dX8_digest_160 : decode cX8_digest 160 = .ok (.aload_n 0, 1) := by decide +kernel
theorem dX8_digest_161 : decode cX8_digest 161 = .ok (.getfield 10, 3) := by decide +kernel
theorem dX8_digest_164 : decode cX8_digest 164 = .ok (.getfield 171, 3) := by decide +kernel
theorem dX8_digest_167 : decode cX8_digest 167 = .ok (.i2l, 1) := by decide +kernel
theorem dX8_digest_168 : decode cX8_digest 168 = .ok (.invokestatic 230, 3) := by decide +kernel
theorem dX8_digest_171 : decode cX8_digest 171 = .ok (.lstore_n 1, 1) := by decide +kernel
theorem dX8_digest_172 : decode cX8_digest 172 = .ok (.lload_n 1, 1) := by decide +kernel
theorem dX8_digest_173 : decode cX8_digest 173 = .ok (.aload_n 0, 1) := by decide +kernel
theorem dX8_digest_174 : decode cX8_digest 174 = .ok (.invokevirtual 242, 3) := by decide +kernel
theorem dX8_digest_177 : decode cX8_digest 177 = .ok (.invokestatic 246, 3) := by decide +kernel
theorem dX8_digest_180 : decode cX8_digest 180 = .ok (.invokestatic 230, 3) := by decide +kernel
theorem dX8_digest_183 : decode cX8_digest 183 = .ok (.lstore_n 1, 1) := by decide +kernel
theorem dX8_digest_184 : decode cX8_digest 184 = .ok (.lload_n 1, 1) := by decide +kernel
theorem dX8_digest_185 : decode cX8_digest 185 = .ok (.aload_n 0, 1) := by decide +kernel
theorem dX8_digest_186 : decode cX8_digest 186 = .ok (.getfield 26, 3) := by decide +kernel
theorem dX8_digest_189 : decode cX8_digest 189 = .ok (.getfield 133, 3) := by decide +kernel
theorem dX8_digest_192 : decode cX8_digest 192 = .ok (.i2l, 1) := by decide +kernel
theorem dX8_digest_193 : decode cX8_digest 193 = .ok (.invokestatic 230, 3) := by decide +kernel
theorem dX8_digest_196 : decode cX8_digest 196 = .ok (.lstore_n 1, 1) := by decide +kernel
theorem dX8_digest_197 : decode cX8_digest 197 = .ok (.iconst 0, 1) := by decide +kernel
theorem dX8_digest_198 : decode cX8_digest 198 = .ok (.istore_n 3, 1) := by decide +kernel
theorem dX8_digest_199 : decode cX8_digest 199 = .ok (.iload_n 3, 1) := by decide +kernel
theorem dX8_digest_200 : decode cX8_digest 200 = .ok (.aload_n 0, 1) := by decide +kernel
theorem dX8_digest_201 : decode cX8_digest 201 = .ok (.getfield 26, 3) := by decide +kernel
theorem dX8_digest_204 : decode cX8_digest 204 = .ok (.getfield 133, 3) := by decide +kernel
theorem dX8_digest_207 : decode cX8_digest 207 = .ok (.if_icmp .ge 24, 3) := by decide +kernel
theorem dX8_digest_210 : decode cX8_digest 210 = .ok (.lload_n 1, 1) := by decide +kernel
theorem dX8_digest_211 : decode cX8_digest 211 = .ok (.aload_n 0, 1) := by decide +kernel
theorem dX8_digest_212 : decode cX8_digest 212 = .ok (.getfield 26, 3) := by decide +kernel
theorem dX8_digest_215 : decode cX8_digest 215 = .ok (.getfield 250, 3) := by decide +kernel
theorem dX8_digest_218 : decode cX8_digest 218 = .ok (.iload_n 3, 1) := by decide +kernel
theorem dX8_digest_219 : decode cX8_digest 219 = .ok (.caload, 1) := by decide +kernel
theorem dX8_digest_220 : decode cX8_digest 220 = .ok (.i2l, 1) := by decide +kernel
theorem dX8_digest_221 : decode cX8_digest 221 = .ok (.invokestatic 230, 3) := by decide +kernel
theorem dX8_digest_224 : decode cX8_digest 224 = .ok (.lstore_n 1, 1) := by decide +kernel
theorem dX8_digest_225 : decode cX8_digest 225 = .ok (.iinc 3 1, 3) := by decide +kernel
theorem dX8_digest_228 : decode cX8_digest 228 = .ok (.goto (-29), 3) := by decide +kernel
theorem dX8_digest_231 : decode cX8_digest 231 = .ok (.lload_n 1, 1) := by decide +kernel
theorem dX8_digest_232 : decode cX8_digest 232 = .ok (.lreturn, 1) := by decide +kernel
theorem dX8_mindNumber_0 : decode cX8_mindNumber 0 = .ok (.iload_n 0, 1) := by decide +kernel
theorem dX8_mindNumber_1 : decode cX8_mindNumber 1 = .ok (.ifCond .lt 8, 3) := by decide +kernel
theorem dX8_mindNumber_4 : decode cX8_mindNumber 4 = .ok (.iload_n 0, 1) := by decide +kernel
theorem dX8_mindNumber_5 : decode cX8_mindNumber 5 = .ok (.iload_n 1, 1) := by decide +kernel
theorem dX8_mindNumber_6 : decode cX8_mindNumber 6 = .ok (.if_icmp .lt 14, 3) := by decide +kernel
theorem dX8_mindNumber_9 : decode cX8_mindNumber 9 = .ok (.new 254, 3) := by decide +kernel
theorem dX8_mindNumber_12 : decode cX8_mindNumber 12 = .ok (.dup, 1) := by decide +kernel
theorem dX8_mindNumber_13 : decode cX8_mindNumber 13 = .ok (.ldc_w 256, 3) := by decide +kernel
theorem dX8_mindNumber_16 : decode cX8_mindNumber 16 = .ok (.invokespecial 258, 3) := by decide +kernel
theorem dX8_mindNumber_19 : decode cX8_mindNumber 19 = .ok (.athrow, 1) := by decide +kernel
theorem dX8_mindNumber_20 : decode cX8_mindNumber 20 = .ok (.return_, 1) := by decide +kernel
theorem dX8_mindRange_0 : decode cX8_mindRange 0 = .ok (.iload_n 0, 1) := by decide +kernel
theorem dX8_mindRange_1 : decode cX8_mindRange 1 = .ok (.iload_n 1, 1) := by decide +kernel
theorem dX8_mindRange_2 : decode cX8_mindRange 2 = .ok (.if_icmp .lt 8, 3) := by decide +kernel
theorem dX8_mindRange_5 : decode cX8_mindRange 5 = .ok (.iload_n 0, 1) := by decide +kernel
theorem dX8_mindRange_6 : decode cX8_mindRange 6 = .ok (.iload_n 2, 1) := by decide +kernel
theorem dX8_mindRange_7 : decode cX8_mindRange 7 = .ok (.if_icmp .le 14, 3) := by decide +kernel
theorem dX8_mindRange_10 : decode cX8_mindRange 10 = .ok (.new 150, 3) := by decide +kernel
theorem dX8_mindRange_13 : decode cX8_mindRange 13 = .ok (.dup, 1) := by decide +kernel
theorem dX8_mindRange_14 : decode cX8_mindRange 14 = .ok (.ldc_w 259, 3) := by decide +kernel
theorem dX8_mindRange_17 : decode cX8_mindRange 17 = .ok (.invokespecial 154, 3) := by decide +kernel
theorem dX8_mindRange_20 : decode cX8_mindRange 20 = .ok (.athrow, 1) := by decide +kernel
theorem dX8_mindRange_21 : decode cX8_mindRange 21 = .ok (.return_, 1) := by decide +kernel
theorem dX8_refuseFor_0 : decode cX8_refuseFor 0 = .ok (.iload_n 0, 1) := by decide +kernel
theorem dX8_refuseFor_1 : decode cX8_refuseFor 1 = .ok (.bipush 13, 2) := by decide +kernel
theorem dX8_refuseFor_3 : decode cX8_refuseFor 3 = .ok (.if_icmp .ne 14, 3) := by decide +kernel
theorem dX8_refuseFor_6 : decode cX8_refuseFor 6 = .ok (.new 254, 3) := by decide +kernel
theorem dX8_refuseFor_9 : decode cX8_refuseFor 9 = .ok (.dup, 1) := by decide +kernel
theorem dX8_refuseFor_10 : decode cX8_refuseFor 10 = .ok (.ldc_w 261, 3) := by decide +kernel
theorem dX8_refuseFor_13 : decode cX8_refuseFor 13 = .ok (.invokespecial 258, 3) := by decide +kernel
theorem dX8_refuseFor_16 : decode cX8_refuseFor 16 = .ok (.athrow, 1) := by decide +kernel
theorem dX8_refuseFor_17 : decode cX8_refuseFor 17 = .ok (.iload_n 0, 1) := by decide +kernel
theorem dX8_refuseFor_18 : decode cX8_refuseFor 18 = .ok (.ifCond .eq 14, 3) := by decide +kernel
theorem dX8_refuseFor_21 : decode cX8_refuseFor 21 = .ok (.new 177, 3) := by decide +kernel
theorem dX8_refuseFor_24 : decode cX8_refuseFor 24 = .ok (.dup, 1) := by decide +kernel
theorem dX8_refuseFor_25 : decode cX8_refuseFor 25 = .ok (.ldc_w 263, 3) := by decide +kernel
theorem dX8_refuseFor_28 : decode cX8_refuseFor 28 = .ok (.invokespecial 181, 3) := by decide +kernel
theorem dX8_refuseFor_31 : decode cX8_refuseFor 31 = .ok (.athrow, 1) := by decide +kernel
theorem dX8_refuseFor_32 : decode cX8_refuseFor 32 = .ok (.return_, 1) := by decide +kernel
theorem dX8_doPart_0 : decode cX8_doPart 0 = .ok (.aload_n 1, 1) := by decide +kernel
theorem dX8_doPart_1 : decode cX8_doPart 1 = .ok (.getfield 265, 3) := by decide +kernel
theorem dX8_doPart_4 : decode cX8_doPart 4 = .ok (.iconst 0, 1) := by decide +kernel
theorem dX8_doPart_5 : decode cX8_doPart 5 = .ok (.iaload, 1) := by decide +kernel
theorem dX8_doPart_6 : decode cX8_doPart 6 = .ok (.istore_n 2, 1) := by decide +kernel
theorem dX8_doPart_7 : decode cX8_doPart 7 = .ok (.aload_n 1, 1) := by decide +kernel
theorem dX8_doPart_8 : decode cX8_doPart 8 = .ok (.getfield 265, 3) := by decide +kernel
theorem dX8_doPart_11 : decode cX8_doPart 11 = .ok (.iconst 1, 1) := by decide +kernel
theorem dX8_doPart_12 : decode cX8_doPart 12 = .ok (.iaload, 1) := by decide +kernel
theorem dX8_doPart_13 : decode cX8_doPart 13 = .ok (.istore_n 3, 1) := by decide +kernel
theorem dX8_doPart_14 : decode cX8_doPart 14 = .ok (.aload_n 0, 1) := by decide +kernel
theorem dX8_doPart_15 : decode cX8_doPart 15 = .ok (.aload_n 1, 1) := by decide +kernel
theorem dX8_doPart_16 : decode cX8_doPart 16 = .ok (.getfield 270, 3) := by decide +kernel
theorem dX8_doPart_19 : decode cX8_doPart 19 = .ok (.iload_n 2, 1) := by decide +kernel
theorem dX8_doPart_20 : decode cX8_doPart 20 = .ok (.iload_n 3, 1) := by decide +kernel
theorem dX8_doPart_21 : decode cX8_doPart 21 = .ok (.invokevirtual 273, 3) := by decide +kernel
theorem dX8_doPart_24 : decode cX8_doPart 24 = .ok (.istore 4, 2) := by decide +kernel
theorem dX8_doPart_26 : decode cX8_doPart 26 = .ok (.iload 4, 2) := by decide +kernel
theorem dX8_doPart_28 : decode cX8_doPart 28 = .ok (.ifCond .eq 6, 3) := by decide +kernel
theorem dX8_doPart_31 : decode cX8_doPart 31 = .ok (.iload 4, 2) := by decide +kernel
theorem dX8_doPart_33 : decode cX8_doPart 33 = .ok (.ireturn, 1) := by decide +kernel
theorem dX8_doPart_34 : decode cX8_doPart 34 = .ok (.aload_n 1, 1) := by decide +kernel
theorem dX8_doPart_35 : decode cX8_doPart 35 = .ok (.getfield 270, 3) := by decide +kernel
theorem dX8_doPart_38 : decode cX8_doPart 38 = .ok (.lookupswitch 128 #[(36, 116), (98, 62), (110, 75), (111, 100), (115, 50)], 50) := by decide +kernel
theorem dX8_doPart_88 : decode cX8_doPart 88 = .ok (.aload_n 0, 1) := by decide +kernel
theorem dX8_doPart_89 : decode cX8_doPart 89 = .ok (.getfield 10, 3) := by decide +kernel
theorem dX8_doPart_92 : decode cX8_doPart 92 = .ok (.iload_n 2, 1) := by decide +kernel
theorem dX8_doPart_93 : decode cX8_doPart 93 = .ok (.invokevirtual 56, 3) := by decide +kernel
theorem dX8_doPart_96 : decode cX8_doPart 96 = .ok (.pop, 1) := by decide +kernel
theorem dX8_doPart_97 : decode cX8_doPart 97 = .ok (.goto 77, 3) := by decide +kernel
theorem dX8_doPart_100 : decode cX8_doPart 100 = .ok (.aload_n 0, 1) := by decide +kernel
theorem dX8_doPart_101 : decode cX8_doPart 101 = .ok (.getfield 10, 3) := by decide +kernel
theorem dX8_doPart_104 : decode cX8_doPart 104 = .ok (.iload_n 2, 1) := by decide +kernel
theorem dX8_doPart_105 : decode cX8_doPart 105 = .ok (.iload_n 3, 1) := by decide +kernel
theorem dX8_doPart_106 : decode cX8_doPart 106 = .ok (.invokevirtual 73, 3) := by decide +kernel
theorem dX8_doPart_109 : decode cX8_doPart 109 = .ok (.pop, 1) := by decide +kernel
theorem dX8_doPart_110 : decode cX8_doPart 110 = .ok (.goto 64, 3) := by decide +kernel
theorem dX8_doPart_113 : decode cX8_doPart 113 = .ok (.aload_n 0, 1) := by decide +kernel
theorem dX8_doPart_114 : decode cX8_doPart 114 = .ok (.getfield 10, 3) := by decide +kernel
theorem dX8_doPart_117 : decode cX8_doPart 117 = .ok (.iload_n 2, 1) := by decide +kernel
theorem dX8_doPart_118 : decode cX8_doPart 118 = .ok (.iload_n 3, 1) := by decide +kernel
theorem dX8_doPart_119 : decode cX8_doPart 119 = .ok (.aload_n 1, 1) := by decide +kernel
theorem dX8_doPart_120 : decode cX8_doPart 120 = .ok (.getfield 265, 3) := by decide +kernel
theorem dX8_doPart_123 : decode cX8_doPart 123 = .ok (.iconst 3, 1) := by decide +kernel
theorem dX8_doPart_124 : decode cX8_doPart 124 = .ok (.iaload, 1) := by decide +kernel
theorem dX8_doPart_125 : decode cX8_doPart 125 = .ok (.aload_n 1, 1) := by decide +kernel
theorem dX8_doPart_126 : decode cX8_doPart 126 = .ok (.getfield 265, 3) := by decide +kernel
theorem dX8_doPart_129 : decode cX8_doPart 129 = .ok (.iconst 5, 1) := by decide +kernel
theorem dX8_doPart_130 : decode cX8_doPart 130 = .ok (.iaload, 1) := by decide +kernel
theorem dX8_doPart_131 : decode cX8_doPart 131 = .ok (.invokevirtual 90, 3) := by decide +kernel
theorem dX8_doPart_134 : decode cX8_doPart 134 = .ok (.pop, 1) := by decide +kernel
theorem dX8_doPart_135 : decode cX8_doPart 135 = .ok (.goto 39, 3) := by decide +kernel
theorem dX8_doPart_138 : decode cX8_doPart 138 = .ok (.aload_n 0, 1) := by decide +kernel
theorem dX8_doPart_139 : decode cX8_doPart 139 = .ok (.getfield 10, 3) := by decide +kernel
theorem dX8_doPart_142 : decode cX8_doPart 142 = .ok (.getfield 109, 3) := by decide +kernel
theorem dX8_doPart_145 : decode cX8_doPart 145 = .ok (.iload_n 2, 1) := by decide +kernel
theorem dX8_doPart_146 : decode cX8_doPart 146 = .ok (.aaload, 1) := by decide +kernel
theorem dX8_doPart_147 : decode cX8_doPart 147 = .ok (.invokevirtual 113, 3) := by decide +kernel
theorem dX8_doPart_150 : decode cX8_doPart 150 = .ok (.pop, 1) := by decide +kernel
theorem dX8_doPart_151 : decode cX8_doPart 151 = .ok (.goto 23, 3) := by decide +kernel
theorem dX8_doPart_154 : decode cX8_doPart 154 = .ok (.aload_n 0, 1) := by decide +kernel
theorem dX8_doPart_155 : decode cX8_doPart 155 = .ok (.getfield 10, 3) := by decide +kernel
theorem dX8_doPart_158 : decode cX8_doPart 158 = .ok (.iload_n 2, 1) := by decide +kernel
theorem dX8_doPart_159 : decode cX8_doPart 159 = .ok (.invokestatic 124, 3) := by decide +kernel
theorem dX8_doPart_162 : decode cX8_doPart 162 = .ok (.pop, 1) := by decide +kernel
theorem dX8_doPart_163 : decode cX8_doPart 163 = .ok (.goto 11, 3) := by decide +kernel
theorem dX8_doPart_166 : decode cX8_doPart 166 = .ok (.aload_n 0, 1) := by decide +kernel
theorem dX8_doPart_167 : decode cX8_doPart 167 = .ok (.getfield 10, 3) := by decide +kernel
theorem dX8_doPart_170 : decode cX8_doPart 170 = .ok (.iload_n 2, 1) := by decide +kernel
theorem dX8_doPart_171 : decode cX8_doPart 171 = .ok (.invokevirtual 80, 3) := by decide +kernel
theorem dX8_doPart_174 : decode cX8_doPart 174 = .ok (.iconst 0, 1) := by decide +kernel
theorem dX8_doPart_175 : decode cX8_doPart 175 = .ok (.ireturn, 1) := by decide +kernel
theorem dX8_whyNotDone_0 : decode cX8_whyNotDone 0 = .ok (.iload_n 1, 1) := by decide +kernel
theorem dX8_whyNotDone_1 : decode cX8_whyNotDone 1 = .ok (.lookupswitch 114 #[(36, 105), (98, 60), (110, 70), (111, 96), (115, 51)], 51) := by decide +kernel
theorem dX8_whyNotDone_52 : decode cX8_whyNotDone 52 = .ok (.aload_n 0, 1) := by decide +kernel
theorem dX8_whyNotDone_53 : decode cX8_whyNotDone 53 = .ok (.getfield 10, 3) := by decide +kernel
theorem dX8_whyNotDone_56 : decode cX8_whyNotDone 56 = .ok (.iload_n 2, 1) := by decide +kernel
theorem dX8_whyNotDone_57 : decode cX8_whyNotDone 57 = .ok (.invokevirtual 53, 3) := by decide +kernel
theorem dX8_whyNotDone_60 : decode cX8_whyNotDone 60 = .ok (.ireturn, 1) := by decide +kernel
theorem dX8_whyNotDone_61 : decode cX8_whyNotDone 61 = .ok (.aload_n 0, 1) := by decide +kernel
theorem dX8_whyNotDone_62 : decode cX8_whyNotDone 62 = .ok (.getfield 10, 3) := by decide +kernel
theorem dX8_whyNotDone_65 : decode cX8_whyNotDone 65 = .ok (.iload_n 2, 1) := by decide +kernel
theorem dX8_whyNotDone_66 : decode cX8_whyNotDone 66 = .ok (.iload_n 3, 1) := by decide +kernel
theorem dX8_whyNotDone_67 : decode cX8_whyNotDone 67 = .ok (.invokevirtual 69, 3) := by decide +kernel
theorem dX8_whyNotDone_70 : decode cX8_whyNotDone 70 = .ok (.ireturn, 1) := by decide +kernel
theorem dX8_whyNotDone_71 : decode cX8_whyNotDone 71 = .ok (.aload_n 0, 1) := by decide +kernel
theorem dX8_whyNotDone_72 : decode cX8_whyNotDone 72 = .ok (.getfield 10, 3) := by decide +kernel
theorem dX8_whyNotDone_75 : decode cX8_whyNotDone 75 = .ok (.iload_n 3, 1) := by decide +kernel
theorem dX8_whyNotDone_76 : decode cX8_whyNotDone 76 = .ok (.invokevirtual 277, 3) := by decide +kernel
theorem dX8_whyNotDone_79 : decode cX8_whyNotDone 79 = .ok (.ifCond .eq 15, 3) := by decide +kernel
theorem dX8_whyNotDone_82 : decode cX8_whyNotDone 82 = .ok (.aload_n 0, 1) := by decide +kernel
theorem dX8_whyNotDone_83 : decode cX8_whyNotDone 83 = .ok (.getfield 10, 3) := by decide +kernel
theorem dX8_whyNotDone_86 : decode cX8_whyNotDone 86 = .ok (.iload_n 2, 1) := by decide +kernel
theorem dX8_whyNotDone_87 : decode cX8_whyNotDone 87 = .ok (.iload_n 3, 1) := by decide +kernel
theorem dX8_whyNotDone_88 : decode cX8_whyNotDone 88 = .ok (.invokevirtual 87, 3) := by decide +kernel
theorem dX8_whyNotDone_91 : decode cX8_whyNotDone 91 = .ok (.goto 5, 3) := by decide +kernel
theorem dX8_whyNotDone_94 : decode cX8_whyNotDone 94 = .ok (.bipush 13, 2) := by decide +kernel
theorem dX8_whyNotDone_96 : decode cX8_whyNotDone 96 = .ok (.ireturn, 1) := by decide +kernel
theorem dX8_whyNotDone_97 : decode cX8_whyNotDone 97 = .ok (.aload_n 0, 1) := by decide +kernel
theorem dX8_whyNotDone_98 : decode cX8_whyNotDone 98 = .ok (.getfield 10, 3) := by decide +kernel
theorem dX8_whyNotDone_101 : decode cX8_whyNotDone 101 = .ok (.iload_n 2, 1) := by decide +kernel
theorem dX8_whyNotDone_102 : decode cX8_whyNotDone 102 = .ok (.invokevirtual 106, 3) := by decide +kernel
theorem dX8_whyNotDone_105 : decode cX8_whyNotDone 105 = .ok (.ireturn, 1) := by decide +kernel
theorem dX8_whyNotDone_106 : decode cX8_whyNotDone 106 = .ok (.aload_n 0, 1) := by decide +kernel
theorem dX8_whyNotDone_107 : decode cX8_whyNotDone 107 = .ok (.getfield 10, 3) := by decide +kernel
theorem dX8_whyNotDone_110 : decode cX8_whyNotDone 110 = .ok (.iload_n 2, 1) := by decide +kernel
theorem dX8_whyNotDone_111 : decode cX8_whyNotDone 111 = .ok (.invokestatic 118, 3) := by decide +kernel
theorem dX8_whyNotDone_114 : decode cX8_whyNotDone 114 = .ok (.ireturn, 1) := by decide +kernel
theorem dX8_whyNotDone_115 : decode cX8_whyNotDone 115 = .ok (.iconst 0, 1) := by decide +kernel
theorem dX8_whyNotDone_116 : decode cX8_whyNotDone 116 = .ok (.ireturn, 1) := by decide +kernel
theorem dX8_mixedWithSample_0 : decode cX8_mixedWithSample 0 = .ok (.aload_n 0, 1) := by decide +kernel
theorem dX8_mixedWithSample_1 : decode cX8_mixedWithSample 1 = .ok (.getfield 10, 3) := by decide +kernel
theorem dX8_mixedWithSample_4 : decode cX8_mixedWithSample 4 = .ok (.getfield 109, 3) := by decide +kernel
theorem dX8_mixedWithSample_7 : decode cX8_mixedWithSample 7 = .ok (.iload_n 3, 1) := by decide +kernel
theorem dX8_mixedWithSample_8 : decode cX8_mixedWithSample 8 = .ok (.aaload, 1) := by decide +kernel
theorem dX8_mixedWithSample_9 : decode cX8_mixedWithSample 9 = .ok (.astore 4, 2) := by decide +kernel
theorem dX8_mixedWithSample_11 : decode cX8_mixedWithSample 11 = .ok (.lload_n 1, 1) := by decide +kernel
theorem dX8_mixedWithSample_12 : decode cX8_mixedWithSample 12 = .ok (.lstore 5, 2) := by decide +kernel
theorem dX8_mixedWithSample_14 : decode cX8_mixedWithSample 14 = .ok (.iconst 0, 1) := by decide +kernel
theorem dX8_mixedWithSample_15 : decode cX8_mixedWithSample 15 = .ok (.istore 7, 2) := by decide +kernel
theorem dX8_mixedWithSample_17 : decode cX8_mixedWithSample 17 = .ok (.iload 7, 2) := by decide +kernel
theorem dX8_mixedWithSample_19 : decode cX8_mixedWithSample 19 = .ok (.bipush 9, 2) := by decide +kernel
theorem dX8_mixedWithSample_21 : decode cX8_mixedWithSample 21 = .ok (.if_icmp .ge 33, 3) := by decide +kernel
theorem dX8_mixedWithSample_24 : decode cX8_mixedWithSample 24 = .ok (.lload 5, 2) := by decide +kernel
theorem dX8_mixedWithSample_26 : decode cX8_mixedWithSample 26 = .ok (.aload 4, 2) := by decide +kernel
theorem dX8_mixedWithSample_28 : decode cX8_mixedWithSample 28 = .ok (.iload 7, 2) := by decide +kernel
theorem dX8_mixedWithSample_30 : decode cX8_mixedWithSample 30 = .ok (.aload_n 0, 1) := by decide +kernel
theorem dX8_mixedWithSample_31 : decode cX8_mixedWithSample 31 = .ok (.getfield 10, 3) := by decide +kernel
theorem dX8_mixedWithSample_34 : decode cX8_mixedWithSample 34 = .ok (.getfield 130, 3) := by decide +kernel
theorem dX8_mixedWithSample_37 : decode cX8_mixedWithSample 37 = .ok (.iconst 1, 1) := by decide +kernel
theorem dX8_mixedWithSample_38 : decode cX8_mixedWithSample 38 = .ok (.iaload, 1) := by decide +kernel
theorem dX8_mixedWithSample_39 : decode cX8_mixedWithSample 39 = .ok (.invokevirtual 201, 3) := by decide +kernel
theorem dX8_mixedWithSample_42 : decode cX8_mixedWithSample 42 = .ok (.i2l, 1) := by decide +kernel
theorem dX8_mixedWithSample_43 : decode cX8_mixedWithSample 43 = .ok (.invokestatic 230, 3) := by decide +kernel
theorem dX8_mixedWithSample_46 : decode cX8_mixedWithSample 46 = .ok (.lstore 5, 2) := by decide +kernel
theorem dX8_mixedWithSample_48 : decode cX8_mixedWithSample 48 = .ok (.iinc 7 1, 3) := by decide +kernel
theorem dX8_mixedWithSample_51 : decode cX8_mixedWithSample 51 = .ok (.goto (-34), 3) := by decide +kernel
theorem dX8_mixedWithSample_54 : decode cX8_mixedWithSample 54 = .ok (.iconst 0, 1) := by decide +kernel
theorem dX8_mixedWithSample_55 : decode cX8_mixedWithSample 55 = .ok (.istore 7, 2) := by decide +kernel
theorem dX8_mixedWithSample_57 : decode cX8_mixedWithSample 57 = .ok (.iload 7, 2) := by decide +kernel
theorem dX8_mixedWithSample_59 : decode cX8_mixedWithSample 59 = .ok (.aload 4, 2) := by decide +kernel
theorem dX8_mixedWithSample_61 : decode cX8_mixedWithSample 61 = .ok (.getfield 281, 3) := by decide +kernel
theorem dX8_mixedWithSample_64 : decode cX8_mixedWithSample 64 = .ok (.if_icmp .ge 41, 3) := by decide +kernel
theorem dX8_mixedWithSample_67 : decode cX8_mixedWithSample 67 = .ok (.iconst 0, 1) := by decide +kernel
theorem dX8_mixedWithSample_68 : decode cX8_mixedWithSample 68 = .ok (.istore 8, 2) := by decide +kernel
theorem dX8_mixedWithSample_70 : decode cX8_mixedWithSample 70 = .ok (.iload 8, 2) := by decide +kernel
theorem dX8_mixedWithSample_72 : decode cX8_mixedWithSample 72 = .ok (.iconst 4, 1) := by decide +kernel
theorem dX8_mixedWithSample_73 : decode cX8_mixedWithSample 73 = .ok (.if_icmp .ge 26, 3) := by decide +kernel
theorem dX8_mixedWithSample_76 : decode cX8_mixedWithSample 76 = .ok (.lload 5, 2) := by decide +kernel
theorem dX8_mixedWithSample_78 : decode cX8_mixedWithSample 78 = .ok (.aload 4, 2) := by decide +kernel
theorem dX8_mixedWithSample_80 : decode cX8_mixedWithSample 80 = .ok (.iload 7, 2) := by decide +kernel
theorem dX8_mixedWithSample_82 : decode cX8_mixedWithSample 82 = .ok (.iload 8, 2) := by decide +kernel
theorem dX8_mixedWithSample_84 : decode cX8_mixedWithSample 84 = .ok (.invokevirtual 205, 3) := by decide +kernel
theorem dX8_mixedWithSample_87 : decode cX8_mixedWithSample 87 = .ok (.i2l, 1) := by decide +kernel
theorem dX8_mixedWithSample_88 : decode cX8_mixedWithSample 88 = .ok (.invokestatic 230, 3) := by decide +kernel
theorem dX8_mixedWithSample_91 : decode cX8_mixedWithSample 91 = .ok (.lstore 5, 2) := by decide +kernel
theorem dX8_mixedWithSample_93 : decode cX8_mixedWithSample 93 = .ok (.iinc 8 1, 3) := by decide +kernel
theorem dX8_mixedWithSample_96 : decode cX8_mixedWithSample 96 = .ok (.goto (-26), 3) := by decide +kernel
theorem dX8_mixedWithSample_99 : decode cX8_mixedWithSample 99 = .ok (.iinc 7 1, 3) := by decide +kernel
theorem dX8_mixedWithSample_102 : decode cX8_mixedWithSample 102 = .ok (.goto (-45), 3) := by decide +kernel
theorem dX8_mixedWithSample_105 : decode cX8_mixedWithSample 105 = .ok (.lload 5, 2) := by decide +kernel
theorem dX8_mixedWithSample_107 : decode cX8_mixedWithSample 107 = .ok (.aload_n 0, 1) := by decide +kernel
theorem dX8_mixedWithSample_108 : decode cX8_mixedWithSample 108 = .ok (.getfield 10, 3) := by decide +kernel
theorem dX8_mixedWithSample_111 : decode cX8_mixedWithSample 111 = .ok (.iload_n 3, 1) := by decide +kernel
theorem dX8_mixedWithSample_112 : decode cX8_mixedWithSample 112 = .ok (.invokevirtual 219, 3) := by decide +kernel
theorem dX8_mixedWithSample_115 : decode cX8_mixedWithSample 115 = .ok (.i2l, 1) := by decide +kernel
theorem dX8_mixedWithSample_116 : decode cX8_mixedWithSample 116 = .ok (.invokestatic 230, 3) := by decide +kernel
theorem dX8_mixedWithSample_119 : decode cX8_mixedWithSample 119 = .ok (.lstore 5, 2) := by decide +kernel
theorem dX8_mixedWithSample_121 : decode cX8_mixedWithSample 121 = .ok (.lload 5, 2) := by decide +kernel
theorem dX8_mixedWithSample_123 : decode cX8_mixedWithSample 123 = .ok (.aload_n 0, 1) := by decide +kernel
theorem dX8_mixedWithSample_124 : decode cX8_mixedWithSample 124 = .ok (.getfield 10, 3) := by decide +kernel
theorem dX8_mixedWithSample_127 : decode cX8_mixedWithSample 127 = .ok (.iload_n 3, 1) := by decide +kernel
theorem dX8_mixedWithSample_128 : decode cX8_mixedWithSample 128 = .ok (.invokevirtual 222, 3) := by decide +kernel
theorem dX8_mixedWithSample_131 : decode cX8_mixedWithSample 131 = .ok (.i2l, 1) := by decide +kernel
theorem dX8_mixedWithSample_132 : decode cX8_mixedWithSample 132 = .ok (.invokestatic 230, 3) := by decide +kernel
theorem dX8_mixedWithSample_135 : decode cX8_mixedWithSample 135 = .ok (.lstore 5, 2) := by decide +kernel
theorem dX8_mixedWithSample_137 : decode cX8_mixedWithSample 137 = .ok (.iconst 0, 1) := by decide +kernel
theorem dX8_mixedWithSample_138 : decode cX8_mixedWithSample 138 = .ok (.istore 7, 2) := by decide +kernel
theorem dX8_mixedWithSample_140 : decode cX8_mixedWithSample 140 = .ok (.iload 7, 2) := by decide +kernel
theorem dX8_mixedWithSample_142 : decode cX8_mixedWithSample 142 = .ok (.iconst 3, 1) := by decide +kernel
theorem dX8_mixedWithSample_143 : decode cX8_mixedWithSample 143 = .ok (.if_icmp .ge 27, 3) := by decide +kernel
theorem dX8_mixedWithSample_146 : decode cX8_mixedWithSample 146 = .ok (.lload 5, 2) := by decide +kernel
theorem dX8_mixedWithSample_148 : decode cX8_mixedWithSample 148 = .ok (.aload_n 0, 1) := by decide +kernel
theorem dX8_mixedWithSample_149 : decode cX8_mixedWithSample 149 = .ok (.getfield 10, 3) := by decide +kernel
theorem dX8_mixedWithSample_152 : decode cX8_mixedWithSample 152 = .ok (.iload 7, 2) := by decide +kernel
theorem dX8_mixedWithSample_154 : decode cX8_mixedWithSample 154 = .ok (.iload_n 3, 1) := by decide +kernel
theorem dX8_mixedWithSample_155 : decode cX8_mixedWithSample 155 = .ok (.invokevirtual 87, 3) := by decide +kernel
theorem dX8_mixedWithSample_158 : decode cX8_mixedWithSample 158 = .ok (.i2l, 1) := by decide +kernel
theorem dX8_mixedWithSample_159 : decode cX8_mixedWithSample 159 = .ok (.invokestatic 230, 3) := by decide +kernel
theorem dX8_mixedWithSample_162 : decode cX8_mixedWithSample 162 = .ok (.lstore 5, 2) := by decide +kernel
theorem dX8_mixedWithSample_164 : decode cX8_mixedWithSample 164 = .ok (.iinc 7 1, 3) := by decide +kernel
theorem dX8_mixedWithSample_167 : decode cX8_mixedWithSample 167 = .ok (.goto (-27), 3) := by decide +kernel
theorem dX8_mixedWithSample_170 : decode cX8_mixedWithSample 170 = .ok (.lload 5, 2) := by decide +kernel
theorem dX8_mixedWithSample_172 : decode cX8_mixedWithSample 172 = .ok (.lreturn, 1) := by decide +kernel
theorem dX8_mixedWithTools_0 : decode cX8_mixedWithTools 0 = .ok (.lload_n 1, 1) := by decide +kernel
theorem dX8_mixedWithTools_1 : decode cX8_mixedWithTools 1 = .ok (.lstore_n 3, 1) := by decide +kernel
theorem dX8_mixedWithTools_2 : decode cX8_mixedWithTools 2 = .ok (.iconst 0, 1) := by decide +kernel
theorem dX8_mixedWithTools_3 : decode cX8_mixedWithTools 3 = .ok (.istore 5, 2) := by decide +kernel
theorem dX8_mixedWithTools_5 : decode cX8_mixedWithTools 5 = .ok (.iload 5, 2) := by decide +kernel
theorem dX8_mixedWithTools_7 : decode cX8_mixedWithTools 7 = .ok (.iconst 3, 1) := by decide +kernel
theorem dX8_mixedWithTools_8 : decode cX8_mixedWithTools 8 = .ok (.if_icmp .ge 45, 3) := by decide +kernel
theorem dX8_mixedWithTools_11 : decode cX8_mixedWithTools 11 = .ok (.iconst 0, 1) := by decide +kernel
theorem dX8_mixedWithTools_12 : decode cX8_mixedWithTools 12 = .ok (.istore 6, 2) := by decide +kernel
theorem dX8_mixedWithTools_14 : decode cX8_mixedWithTools 14 = .ok (.iload 6, 2) := by decide +kernel
theorem dX8_mixedWithTools_16 : decode cX8_mixedWithTools 16 = .ok (.iconst 3, 1) := by decide +kernel
theorem dX8_mixedWithTools_17 : decode cX8_mixedWithTools 17 = .ok (.if_icmp .ge 30, 3) := by decide +kernel
theorem dX8_mixedWithTools_20 : decode cX8_mixedWithTools 20 = .ok (.lload_n 3, 1) := by decide +kernel
theorem dX8_mixedWithTools_21 : decode cX8_mixedWithTools 21 = .ok (.aload_n 0, 1) := by decide +kernel
theorem dX8_mixedWithTools_22 : decode cX8_mixedWithTools 22 = .ok (.getfield 10, 3) := by decide +kernel
theorem dX8_mixedWithTools_25 : decode cX8_mixedWithTools 25 = .ok (.getfield 97, 3) := by decide +kernel
theorem dX8_mixedWithTools_28 : decode cX8_mixedWithTools 28 = .ok (.iload 5, 2) := by decide +kernel
theorem dX8_mixedWithTools_30 : decode cX8_mixedWithTools 30 = .ok (.aaload, 1) := by decide +kernel
theorem dX8_mixedWithTools_31 : decode cX8_mixedWithTools 31 = .ok (.iload 6, 2) := by decide +kernel
theorem dX8_mixedWithTools_33 : decode cX8_mixedWithTools 33 = .ok (.invokevirtual 208, 3) := by decide +kernel
theorem dX8_mixedWithTools_36 : decode cX8_mixedWithTools 36 = .ok (.i2l, 1) := by decide +kernel
theorem dX8_mixedWithTools_37 : decode cX8_mixedWithTools 37 = .ok (.invokestatic 230, 3) := by decide +kernel
theorem dX8_mixedWithTools_40 : decode cX8_mixedWithTools 40 = .ok (.lstore_n 3, 1) := by decide +kernel
theorem dX8_mixedWithTools_41 : decode cX8_mixedWithTools 41 = .ok (.iinc 6 1, 3) := by decide +kernel
theorem dX8_mixedWithTools_44 : decode cX8_mixedWithTools 44 = .ok (.goto (-30), 3) := by decide +kernel
theorem dX8_mixedWithTools_47 : decode cX8_mixedWithTools 47 = .ok (.iinc 5 1, 3) := by decide +kernel
theorem dX8_mixedWithTools_50 : decode cX8_mixedWithTools 50 = .ok (.goto (-45), 3) := by decide +kernel
theorem dX8_mixedWithTools_53 : decode cX8_mixedWithTools 53 = .ok (.iconst 0, 1) := by decide +kernel
theorem dX8_mixedWithTools_54 : decode cX8_mixedWithTools 54 = .ok (.istore 5, 2) := by decide +kernel
theorem dX8_mixedWithTools_56 : decode cX8_mixedWithTools 56 = .ok (.iload 5, 2) := by decide +kernel
theorem dX8_mixedWithTools_58 : decode cX8_mixedWithTools 58 = .ok (.iconst 3, 1) := by decide +kernel
theorem dX8_mixedWithTools_59 : decode cX8_mixedWithTools 59 = .ok (.if_icmp .ge 41, 3) := by decide +kernel
theorem dX8_mixedWithTools_62 : decode cX8_mixedWithTools 62 = .ok (.iconst 0, 1) := by decide +kernel
theorem dX8_mixedWithTools_63 : decode cX8_mixedWithTools 63 = .ok (.istore 6, 2) := by decide +kernel
theorem dX8_mixedWithTools_65 : decode cX8_mixedWithTools 65 = .ok (.iload 6, 2) := by decide +kernel
theorem dX8_mixedWithTools_67 : decode cX8_mixedWithTools 67 = .ok (.iconst 3, 1) := by decide +kernel
theorem dX8_mixedWithTools_68 : decode cX8_mixedWithTools 68 = .ok (.if_icmp .ge 26, 3) := by decide +kernel
theorem dX8_mixedWithTools_71 : decode cX8_mixedWithTools 71 = .ok (.lload_n 3, 1) := by decide +kernel
theorem dX8_mixedWithTools_72 : decode cX8_mixedWithTools 72 = .ok (.aload_n 0, 1) := by decide +kernel
theorem dX8_mixedWithTools_73 : decode cX8_mixedWithTools 73 = .ok (.getfield 10, 3) := by decide +kernel
theorem dX8_mixedWithTools_76 : decode cX8_mixedWithTools 76 = .ok (.iload 5, 2) := by decide +kernel
theorem dX8_mixedWithTools_78 : decode cX8_mixedWithTools 78 = .ok (.iload 6, 2) := by decide +kernel
theorem dX8_mixedWithTools_80 : decode cX8_mixedWithTools 80 = .ok (.invokevirtual 210, 3) := by decide +kernel
theorem dX8_mixedWithTools_83 : decode cX8_mixedWithTools 83 = .ok (.i2l, 1) := by decide +kernel
theorem dX8_mixedWithTools_84 : decode cX8_mixedWithTools 84 = .ok (.invokestatic 230, 3) := by decide +kernel
theorem dX8_mixedWithTools_87 : decode cX8_mixedWithTools 87 = .ok (.lstore_n 3, 1) := by decide +kernel
theorem dX8_mixedWithTools_88 : decode cX8_mixedWithTools 88 = .ok (.iinc 6 1, 3) := by decide +kernel
theorem dX8_mixedWithTools_91 : decode cX8_mixedWithTools 91 = .ok (.goto (-26), 3) := by decide +kernel
theorem dX8_mixedWithTools_94 : decode cX8_mixedWithTools 94 = .ok (.iinc 5 1, 3) := by decide +kernel
theorem dX8_mixedWithTools_97 : decode cX8_mixedWithTools 97 = .ok (.goto (-41), 3) := by decide +kernel
theorem dX8_mixedWithTools_100 : decode cX8_mixedWithTools 100 = .ok (.lload_n 3, 1) := by decide +kernel
theorem dX8_mixedWithTools_101 : decode cX8_mixedWithTools 101 = .ok (.lreturn, 1) := by decide +kernel
theorem dX8_mixed_0 : decode cX8_mixed 0 = .ok (.ldc2_w 284, 3) := by decide +kernel
theorem dX8_mixed_3 : decode cX8_mixed 3 = .ok (.lload_n 0, 1) := by decide +kernel
theorem dX8_mixed_4 : decode cX8_mixed 4 = .ok (.lmul, 1) := by decide +kernel
theorem dX8_mixed_5 : decode cX8_mixed 5 = .ok (.lload_n 2, 1) := by decide +kernel
theorem dX8_mixed_6 : decode cX8_mixed 6 = .ok (.ladd, 1) := by decide +kernel
theorem dX8_mixed_7 : decode cX8_mixed 7 = .ok (.lreturn, 1) := by decide +kernel
theorem dX8_bitsOf_0 : decode cX8_bitsOf 0 = .ok (.dload_n 0, 1) := by decide +kernel
theorem dX8_bitsOf_1 : decode cX8_bitsOf 1 = .ok (.dconst 0, 1) := by decide +kernel
theorem dX8_bitsOf_2 : decode cX8_bitsOf 2 = .ok (.dcmp .g, 1) := by decide +kernel
theorem dX8_bitsOf_3 : decode cX8_bitsOf 3 = .ok (.ifCond .gt 5, 3) := by decide +kernel
theorem dX8_bitsOf_6 : decode cX8_bitsOf 6 = .ok (.lconst 0, 1) := by decide +kernel
theorem dX8_bitsOf_7 : decode cX8_bitsOf 7 = .ok (.lreturn, 1) := by decide +kernel
theorem dX8_bitsOf_8 : decode cX8_bitsOf 8 = .ok (.dload_n 0, 1) := by decide +kernel
theorem dX8_bitsOf_9 : decode cX8_bitsOf 9 = .ok (.dstore_n 2, 1) := by decide +kernel
theorem dX8_bitsOf_10 : decode cX8_bitsOf 10 = .ok (.ldc2_w 286, 3) := by decide +kernel
theorem dX8_bitsOf_13 : decode cX8_bitsOf 13 = .ok (.lstore 4, 2) := by decide +kernel
theorem dX8_bitsOf_15 : decode cX8_bitsOf 15 = .ok (.iconst 0, 1) := by decide +kernel
theorem dX8_bitsOf_16 : decode cX8_bitsOf 16 = .ok (.istore 6, 2) := by decide +kernel
theorem dX8_bitsOf_18 : decode cX8_bitsOf 18 = .ok (.iload 6, 2) := by decide +kernel
theorem dX8_bitsOf_20 : decode cX8_bitsOf 20 = .ok (.bipush 64, 2) := by decide +kernel
theorem dX8_bitsOf_22 : decode cX8_bitsOf 22 = .ok (.if_icmp .ge 27, 3) := by decide +kernel
theorem dX8_bitsOf_25 : decode cX8_bitsOf 25 = .ok (.dload_n 2, 1) := by decide +kernel
theorem dX8_bitsOf_26 : decode cX8_bitsOf 26 = .ok (.dconst 1, 1) := by decide +kernel
theorem dX8_bitsOf_27 : decode cX8_bitsOf 27 = .ok (.dcmp .g, 1) := by decide +kernel
theorem dX8_bitsOf_28 : decode cX8_bitsOf 28 = .ok (.ifCond .ge 21, 3) := by decide +kernel
theorem dX8_bitsOf_31 : decode cX8_bitsOf 31 = .ok (.dload_n 2, 1) := by decide +kernel
theorem dX8_bitsOf_32 : decode cX8_bitsOf 32 = .ok (.ldc2_w 288, 3) := by decide +kernel
theorem dX8_bitsOf_35 : decode cX8_bitsOf 35 = .ok (.dmul, 1) := by decide +kernel
theorem dX8_bitsOf_36 : decode cX8_bitsOf 36 = .ok (.dstore_n 2, 1) := by decide +kernel
theorem dX8_bitsOf_37 : decode cX8_bitsOf 37 = .ok (.lload 4, 2) := by decide +kernel
theorem dX8_bitsOf_39 : decode cX8_bitsOf 39 = .ok (.lconst 1, 1) := by decide +kernel
theorem dX8_bitsOf_40 : decode cX8_bitsOf 40 = .ok (.lsub, 1) := by decide +kernel
theorem dX8_bitsOf_41 : decode cX8_bitsOf 41 = .ok (.lstore 4, 2) := by decide +kernel
theorem dX8_bitsOf_43 : decode cX8_bitsOf 43 = .ok (.iinc 6 1, 3) := by decide +kernel
theorem dX8_bitsOf_46 : decode cX8_bitsOf 46 = .ok (.goto (-28), 3) := by decide +kernel
theorem dX8_bitsOf_49 : decode cX8_bitsOf 49 = .ok (.lload 4, 2) := by decide +kernel
theorem dX8_bitsOf_51 : decode cX8_bitsOf 51 = .ok (.bipush 52, 2) := by decide +kernel
theorem dX8_bitsOf_53 : decode cX8_bitsOf 53 = .ok (.lshl, 1) := by decide +kernel
theorem dX8_bitsOf_54 : decode cX8_bitsOf 54 = .ok (.dload_n 2, 1) := by decide +kernel
theorem dX8_bitsOf_55 : decode cX8_bitsOf 55 = .ok (.dconst 1, 1) := by decide +kernel
theorem dX8_bitsOf_56 : decode cX8_bitsOf 56 = .ok (.dsub, 1) := by decide +kernel
theorem dX8_bitsOf_57 : decode cX8_bitsOf 57 = .ok (.ldc2_w 290, 3) := by decide +kernel
theorem dX8_bitsOf_60 : decode cX8_bitsOf 60 = .ok (.dmul, 1) := by decide +kernel
theorem dX8_bitsOf_61 : decode cX8_bitsOf 61 = .ok (.d2l, 1) := by decide +kernel
theorem dX8_bitsOf_62 : decode cX8_bitsOf 62 = .ok (.ladd, 1) := by decide +kernel
theorem dX8_bitsOf_63 : decode cX8_bitsOf 63 = .ok (.lreturn, 1) := by decide +kernel
theorem dX8_divided_0 : decode cX8_divided 0 = .ok (.iload_n 1, 1) := by decide +kernel
theorem dX8_divided_1 : decode cX8_divided 1 = .ok (.ifCond .le 11, 3) := by decide +kernel
theorem dX8_divided_4 : decode cX8_divided 4 = .ok (.iload_n 0, 1) := by decide +kernel
theorem dX8_divided_5 : decode cX8_divided 5 = .ok (.iload_n 1, 1) := by decide +kernel
theorem dX8_divided_6 : decode cX8_divided 6 = .ok (.invokestatic 292, 3) := by decide +kernel
theorem dX8_divided_9 : decode cX8_divided 9 = .ok (.goto 4, 3) := by decide +kernel
theorem dX8_divided_12 : decode cX8_divided 12 = .ok (.iconst 0, 1) := by decide +kernel
theorem dX8_divided_13 : decode cX8_divided 13 = .ok (.ireturn, 1) := by decide +kernel
theorem dX8_degreeNext_0 : decode cX8_degreeNext 0 = .ok (.iload_n 1, 1) := by decide +kernel
theorem dX8_degreeNext_1 : decode cX8_degreeNext 1 = .ok (.iload_n 0, 1) := by decide +kernel
theorem dX8_degreeNext_2 : decode cX8_degreeNext 2 = .ok (.isub, 1) := by decide +kernel
theorem dX8_degreeNext_3 : decode cX8_degreeNext 3 = .ok (.iconst 4, 1) := by decide +kernel
theorem dX8_degreeNext_4 : decode cX8_degreeNext 4 = .ok (.invokestatic 292, 3) := by decide +kernel
theorem dX8_degreeNext_7 : decode cX8_degreeNext 7 = .ok (.istore_n 2, 1) := by decide +kernel
theorem dX8_degreeNext_8 : decode cX8_degreeNext 8 = .ok (.iload_n 2, 1) := by decide +kernel
theorem dX8_degreeNext_9 : decode cX8_degreeNext 9 = .ok (.ifCond .ne 10, 3) := by decide +kernel
theorem dX8_degreeNext_12 : decode cX8_degreeNext 12 = .ok (.iload_n 1, 1) := by decide +kernel
theorem dX8_degreeNext_13 : decode cX8_degreeNext 13 = .ok (.iload_n 0, 1) := by decide +kernel
theorem dX8_degreeNext_14 : decode cX8_degreeNext 14 = .ok (.if_icmp .le 5, 3) := by decide +kernel
theorem dX8_degreeNext_17 : decode cX8_degreeNext 17 = .ok (.iconst 1, 1) := by decide +kernel
theorem dX8_degreeNext_18 : decode cX8_degreeNext 18 = .ok (.istore_n 2, 1) := by decide +kernel
theorem dX8_degreeNext_19 : decode cX8_degreeNext 19 = .ok (.iload_n 0, 1) := by decide +kernel
theorem dX8_degreeNext_20 : decode cX8_degreeNext 20 = .ok (.iload_n 2, 1) := by decide +kernel
theorem dX8_degreeNext_21 : decode cX8_degreeNext 21 = .ok (.iadd, 1) := by decide +kernel
theorem dX8_degreeNext_22 : decode cX8_degreeNext 22 = .ok (.ireturn, 1) := by decide +kernel
