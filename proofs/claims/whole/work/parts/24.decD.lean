theorem dX9_set_7 : decode cX9_set 7 = .ok (.aload_n 0, 1) := by decide +kernel
theorem dX9_set_8 : decode cX9_set 8 = .ok (.iload_n 3, 1) := by decide +kernel
theorem dX9_set_9 : decode cX9_set 9 = .ok (.ifCond .ne 7, 3) := by decide +kernel
theorem dX9_set_12 : decode cX9_set 12 = .ok (.iconst 1, 1) := by decide +kernel
theorem dX9_set_13 : decode cX9_set 13 = .ok (.goto 37, 3) := by decide +kernel
theorem dX9_set_16 : decode cX9_set 16 = .ok (.iload_n 2, 1) := by decide +kernel
theorem dX9_set_17 : decode cX9_set 17 = .ok (.iconst 0, 1) := by decide +kernel
theorem dX9_set_18 : decode cX9_set 18 = .ok (.iload_n 1, 1) := by decide +kernel
theorem dX9_set_19 : decode cX9_set 19 = .ok (.ifCond .ne 8, 3) := by decide +kernel
theorem dX9_set_22 : decode cX9_set 22 = .ok (.bipush 50, 2) := by decide +kernel
theorem dX9_set_24 : decode cX9_set 24 = .ok (.goto 15, 3) := by decide +kernel
theorem dX9_set_27 : decode cX9_set 27 = .ok (.iload_n 1, 1) := by decide +kernel
theorem dX9_set_28 : decode cX9_set 28 = .ok (.iconst 1, 1) := by decide +kernel
theorem dX9_set_29 : decode cX9_set 29 = .ok (.if_icmp .ne 8, 3) := by decide +kernel
theorem dX9_set_32 : decode cX9_set 32 = .ok (.bipush 100, 2) := by decide +kernel
theorem dX9_set_34 : decode cX9_set 34 = .ok (.goto 5, 3) := by decide +kernel
theorem dX9_set_37 : decode cX9_set 37 = .ok (.bipush 60, 2) := by decide +kernel
theorem dX9_set_39 : decode cX9_set 39 = .ok (.invokestatic 23, 3) := by decide +kernel
theorem dX9_set_42 : decode cX9_set 42 = .ok (.ifCond .ne 7, 3) := by decide +kernel
theorem dX9_set_45 : decode cX9_set 45 = .ok (.iconst 2, 1) := by decide +kernel
theorem dX9_set_46 : decode cX9_set 46 = .ok (.goto 4, 3) := by decide +kernel
theorem dX9_set_49 : decode cX9_set 49 = .ok (.iconst 0, 1) := by decide +kernel
theorem dX9_set_50 : decode cX9_set 50 = .ok (.invokevirtual 94, 3) := by decide +kernel
theorem dX9_set_53 : decode cX9_set 53 = .ok (.ifCond .eq 14, 3) := by decide +kernel
theorem dX9_set_56 : decode cX9_set 56 = .ok (.aload_n 0, 1) := by decide +kernel
theorem dX9_set_57 : decode cX9_set 57 = .ok (.iconst 5, 1) := by decide +kernel
theorem dX9_set_58 : decode cX9_set 58 = .ok (.iload_n 1, 1) := by decide +kernel
theorem dX9_set_59 : decode cX9_set 59 = .ok (.iadd, 1) := by decide +kernel
theorem dX9_set_60 : decode cX9_set 60 = .ok (.iload_n 2, 1) := by decide +kernel
theorem dX9_set_61 : decode cX9_set 61 = .ok (.invokevirtual 114, 3) := by decide +kernel
theorem dX9_set_64 : decode cX9_set 64 = .ok (.goto 4, 3) := by decide +kernel
theorem dX9_set_67 : decode cX9_set 67 = .ok (.iconst 0, 1) := by decide +kernel
theorem dX9_set_68 : decode cX9_set 68 = .ok (.ireturn, 1) := by decide +kernel
theorem dX9_append_0 : decode cX9_append 0 = .ok (.aload_n 0, 1) := by decide +kernel
theorem dX9_append_1 : decode cX9_append 1 = .ok (.iload_n 1, 1) := by decide +kernel
theorem dX9_append_2 : decode cX9_append 2 = .ok (.bipush 33, 2) := by decide +kernel
theorem dX9_append_4 : decode cX9_append 4 = .ok (.bipush 126, 2) := by decide +kernel
theorem dX9_append_6 : decode cX9_append 6 = .ok (.invokestatic 23, 3) := by decide +kernel
theorem dX9_append_9 : decode cX9_append 9 = .ok (.ifCond .ne 7, 3) := by decide +kernel
theorem dX9_append_12 : decode cX9_append 12 = .ok (.iconst 1, 1) := by decide +kernel
theorem dX9_append_13 : decode cX9_append 13 = .ok (.goto 17, 3) := by decide +kernel
theorem dX9_append_16 : decode cX9_append 16 = .ok (.aload_n 0, 1) := by decide +kernel
theorem dX9_append_17 : decode cX9_append 17 = .ok (.getfield 135, 3) := by decide +kernel
theorem dX9_append_20 : decode cX9_append 20 = .ok (.bipush 60, 2) := by decide +kernel
theorem dX9_append_22 : decode cX9_append 22 = .ok (.if_icmp .ne 7, 3) := by decide +kernel
theorem dX9_append_25 : decode cX9_append 25 = .ok (.iconst 2, 1) := by decide +kernel
theorem dX9_append_26 : decode cX9_append 26 = .ok (.goto 4, 3) := by decide +kernel
theorem dX9_append_29 : decode cX9_append 29 = .ok (.iconst 0, 1) := by decide +kernel
theorem dX9_append_30 : decode cX9_append 30 = .ok (.invokevirtual 94, 3) := by decide +kernel
theorem dX9_append_33 : decode cX9_append 33 = .ok (.ifCond .ne 5, 3) := by decide +kernel
theorem dX9_append_36 : decode cX9_append 36 = .ok (.iconst 0, 1) := by decide +kernel
theorem dX9_append_37 : decode cX9_append 37 = .ok (.ireturn, 1) := by decide +kernel
theorem dX9_append_38 : decode cX9_append 38 = .ok (.aload_n 0, 1) := by decide +kernel
theorem dX9_append_39 : decode cX9_append 39 = .ok (.getfield 13, 3) := by decide +kernel
theorem dX9_append_42 : decode cX9_append 42 = .ok (.aload_n 0, 1) := by decide +kernel
theorem dX9_append_43 : decode cX9_append 43 = .ok (.getfield 135, 3) := by decide +kernel
theorem dX9_append_46 : decode cX9_append 46 = .ok (.iload_n 1, 1) := by decide +kernel
theorem dX9_append_47 : decode cX9_append 47 = .ok (.iastore, 1) := by decide +kernel
theorem dX9_append_48 : decode cX9_append 48 = .ok (.aload_n 0, 1) := by decide +kernel
theorem dX9_append_49 : decode cX9_append 49 = .ok (.dup, 1) := by decide +kernel
theorem dX9_append_50 : decode cX9_append 50 = .ok (.getfield 135, 3) := by decide +kernel
theorem dX9_append_53 : decode cX9_append 53 = .ok (.iconst 1, 1) := by decide +kernel
theorem dX9_append_54 : decode cX9_append 54 = .ok (.iadd, 1) := by decide +kernel
theorem dX9_append_55 : decode cX9_append 55 = .ok (.putfield 135, 3) := by decide +kernel
theorem dX9_append_58 : decode cX9_append 58 = .ok (.aload_n 0, 1) := by decide +kernel
theorem dX9_append_59 : decode cX9_append 59 = .ok (.getfield 135, 3) := by decide +kernel
theorem dX9_append_62 : decode cX9_append 62 = .ok (.ireturn, 1) := by decide +kernel
theorem dX9_clearBuffer_0 : decode cX9_clearBuffer 0 = .ok (.aload_n 0, 1) := by decide +kernel
theorem dX9_clearBuffer_1 : decode cX9_clearBuffer 1 = .ok (.iconst 0, 1) := by decide +kernel
theorem dX9_clearBuffer_2 : decode cX9_clearBuffer 2 = .ok (.putfield 19, 3) := by decide +kernel
theorem dX9_clearBuffer_5 : decode cX9_clearBuffer 5 = .ok (.aload_n 0, 1) := by decide +kernel
theorem dX9_clearBuffer_6 : decode cX9_clearBuffer 6 = .ok (.getfield 135, 3) := by decide +kernel
theorem dX9_clearBuffer_9 : decode cX9_clearBuffer 9 = .ok (.istore_n 1, 1) := by decide +kernel
theorem dX9_clearBuffer_10 : decode cX9_clearBuffer 10 = .ok (.aload_n 0, 1) := by decide +kernel
theorem dX9_clearBuffer_11 : decode cX9_clearBuffer 11 = .ok (.iconst 0, 1) := by decide +kernel
theorem dX9_clearBuffer_12 : decode cX9_clearBuffer 12 = .ok (.putfield 135, 3) := by decide +kernel
theorem dX9_clearBuffer_15 : decode cX9_clearBuffer 15 = .ok (.iload_n 1, 1) := by decide +kernel
theorem dX9_clearBuffer_16 : decode cX9_clearBuffer 16 = .ok (.ireturn, 1) := by decide +kernel
theorem dX9_sign_0 : decode cX9_sign 0 = .ok (.aload_n 0, 1) := by decide +kernel
theorem dX9_sign_1 : decode cX9_sign 1 = .ok (.getfield 138, 3) := by decide +kernel
theorem dX9_sign_4 : decode cX9_sign 4 = .ok (.aload_n 0, 1) := by decide +kernel
theorem dX9_sign_5 : decode cX9_sign 5 = .ok (.getfield 135, 3) := by decide +kernel
theorem dX9_sign_8 : decode cX9_sign 8 = .ok (.if_icmp .ge 15, 3) := by decide +kernel
theorem dX9_sign_11 : decode cX9_sign 11 = .ok (.aload_n 0, 1) := by decide +kernel
theorem dX9_sign_12 : decode cX9_sign 12 = .ok (.getfield 13, 3) := by decide +kernel
theorem dX9_sign_15 : decode cX9_sign 15 = .ok (.aload_n 0, 1) := by decide +kernel
theorem dX9_sign_16 : decode cX9_sign 16 = .ok (.getfield 138, 3) := by decide +kernel
theorem dX9_sign_19 : decode cX9_sign 19 = .ok (.iaload, 1) := by decide +kernel
theorem dX9_sign_20 : decode cX9_sign 20 = .ok (.goto 4, 3) := by decide +kernel
theorem dX9_sign_23 : decode cX9_sign 23 = .ok (.iconst 0, 1) := by decide +kernel
theorem dX9_sign_24 : decode cX9_sign 24 = .ok (.ireturn, 1) := by decide +kernel
theorem dX9_takesSign_0 : decode cX9_takesSign 0 = .ok (.aload_n 0, 1) := by decide +kernel
theorem dX9_takesSign_1 : decode cX9_takesSign 1 = .ok (.invokevirtual 141, 3) := by decide +kernel
theorem dX9_takesSign_4 : decode cX9_takesSign 4 = .ok (.iload_n 1, 1) := by decide +kernel
theorem dX9_takesSign_5 : decode cX9_takesSign 5 = .ok (.if_icmp .ne 7, 3) := by decide +kernel
theorem dX9_takesSign_8 : decode cX9_takesSign 8 = .ok (.iconst 1, 1) := by decide +kernel
theorem dX9_takesSign_9 : decode cX9_takesSign 9 = .ok (.goto 4, 3) := by decide +kernel
theorem dX9_takesSign_12 : decode cX9_takesSign 12 = .ok (.iconst 0, 1) := by decide +kernel
theorem dX9_takesSign_13 : decode cX9_takesSign 13 = .ok (.istore_n 2, 1) := by decide +kernel
theorem dX9_takesSign_14 : decode cX9_takesSign 14 = .ok (.aload_n 0, 1) := by decide +kernel
theorem dX9_takesSign_15 : decode cX9_takesSign 15 = .ok (.dup, 1) := by decide +kernel
theorem dX9_takesSign_16 : decode cX9_takesSign 16 = .ok (.getfield 138, 3) := by decide +kernel
theorem dX9_takesSign_19 : decode cX9_takesSign 19 = .ok (.iload_n 2, 1) := by decide +kernel
theorem dX9_takesSign_20 : decode cX9_takesSign 20 = .ok (.ifCond .eq 7, 3) := by decide +kernel
theorem dX9_takesSign_23 : decode cX9_takesSign 23 = .ok (.iconst 1, 1) := by decide +kernel
theorem dX9_takesSign_24 : decode cX9_takesSign 24 = .ok (.goto 4, 3) := by decide +kernel
theorem dX9_takesSign_27 : decode cX9_takesSign 27 = .ok (.iconst 0, 1) := by decide +kernel
theorem dX9_takesSign_28 : decode cX9_takesSign 28 = .ok (.iadd, 1) := by decide +kernel
theorem dX9_takesSign_29 : decode cX9_takesSign 29 = .ok (.putfield 138, 3) := by decide +kernel
theorem dX9_takesSign_32 : decode cX9_takesSign 32 = .ok (.iload_n 2, 1) := by decide +kernel
theorem dX9_takesSign_33 : decode cX9_takesSign 33 = .ok (.ireturn, 1) := by decide +kernel
theorem dX9_readsDigit_0 : decode cX9_readsDigit 0 = .ok (.aload_n 0, 1) := by decide +kernel
theorem dX9_readsDigit_1 : decode cX9_readsDigit 1 = .ok (.invokevirtual 141, 3) := by decide +kernel
theorem dX9_readsDigit_4 : decode cX9_readsDigit 4 = .ok (.bipush 48, 2) := by decide +kernel
theorem dX9_readsDigit_6 : decode cX9_readsDigit 6 = .ok (.bipush 48, 2) := by decide +kernel
theorem dX9_readsDigit_8 : decode cX9_readsDigit 8 = .ok (.iload_n 2, 1) := by decide +kernel
theorem dX9_readsDigit_9 : decode cX9_readsDigit 9 = .ok (.iadd, 1) := by decide +kernel
theorem dX9_readsDigit_10 : decode cX9_readsDigit 10 = .ok (.invokestatic 23, 3) := by decide +kernel
theorem dX9_readsDigit_13 : decode cX9_readsDigit 13 = .ok (.istore_n 3, 1) := by decide +kernel
theorem dX9_readsDigit_14 : decode cX9_readsDigit 14 = .ok (.aload_n 0, 1) := by decide +kernel
theorem dX9_readsDigit_15 : decode cX9_readsDigit 15 = .ok (.getfield 16, 3) := by decide +kernel
theorem dX9_readsDigit_18 : decode cX9_readsDigit 18 = .ok (.iload_n 1, 1) := by decide +kernel
theorem dX9_readsDigit_19 : decode cX9_readsDigit 19 = .ok (.iload_n 3, 1) := by decide +kernel
theorem dX9_readsDigit_20 : decode cX9_readsDigit 20 = .ok (.ifCond .eq 13, 3) := by decide +kernel
theorem dX9_readsDigit_23 : decode cX9_readsDigit 23 = .ok (.aload_n 0, 1) := by decide +kernel
theorem dX9_readsDigit_24 : decode cX9_readsDigit 24 = .ok (.invokevirtual 141, 3) := by decide +kernel
theorem dX9_readsDigit_27 : decode cX9_readsDigit 27 = .ok (.bipush 48, 2) := by decide +kernel
theorem dX9_readsDigit_29 : decode cX9_readsDigit 29 = .ok (.isub, 1) := by decide +kernel
theorem dX9_readsDigit_30 : decode cX9_readsDigit 30 = .ok (.goto 4, 3) := by decide +kernel
theorem dX9_readsDigit_33 : decode cX9_readsDigit 33 = .ok (.iconst (-1), 1) := by decide +kernel
theorem dX9_readsDigit_34 : decode cX9_readsDigit 34 = .ok (.iastore, 1) := by decide +kernel
theorem dX9_readsDigit_35 : decode cX9_readsDigit 35 = .ok (.aload_n 0, 1) := by decide +kernel
theorem dX9_readsDigit_36 : decode cX9_readsDigit 36 = .ok (.dup, 1) := by decide +kernel
theorem dX9_readsDigit_37 : decode cX9_readsDigit 37 = .ok (.getfield 138, 3) := by decide +kernel
theorem dX9_readsDigit_40 : decode cX9_readsDigit 40 = .ok (.iload_n 3, 1) := by decide +kernel
theorem dX9_readsDigit_41 : decode cX9_readsDigit 41 = .ok (.ifCond .eq 7, 3) := by decide +kernel
theorem dX9_readsDigit_44 : decode cX9_readsDigit 44 = .ok (.iconst 1, 1) := by decide +kernel
theorem dX9_readsDigit_45 : decode cX9_readsDigit 45 = .ok (.goto 4, 3) := by decide +kernel
theorem dX9_readsDigit_48 : decode cX9_readsDigit 48 = .ok (.iconst 0, 1) := by decide +kernel
theorem dX9_readsDigit_49 : decode cX9_readsDigit 49 = .ok (.iadd, 1) := by decide +kernel
theorem dX9_readsDigit_50 : decode cX9_readsDigit 50 = .ok (.putfield 138, 3) := by decide +kernel
theorem dX9_readsDigit_53 : decode cX9_readsDigit 53 = .ok (.iload_n 3, 1) := by decide +kernel
theorem dX9_readsDigit_54 : decode cX9_readsDigit 54 = .ok (.ireturn, 1) := by decide +kernel
theorem dX9_begins_0 : decode cX9_begins 0 = .ok (.iload_n 0, 1) := by decide +kernel
theorem dX9_begins_1 : decode cX9_begins 1 = .ok (.istore_n 3, 1) := by decide +kernel
theorem dX9_begins_2 : decode cX9_begins 2 = .ok (.iload_n 0, 1) := by decide +kernel
theorem dX9_begins_3 : decode cX9_begins 3 = .ok (.istore 4, 2) := by decide +kernel
theorem dX9_begins_5 : decode cX9_begins 5 = .ok (.iconst 0, 1) := by decide +kernel
theorem dX9_begins_6 : decode cX9_begins 6 = .ok (.istore 5, 2) := by decide +kernel
theorem dX9_begins_8 : decode cX9_begins 8 = .ok (.iload_n 3, 1) := by decide +kernel
theorem dX9_begins_9 : decode cX9_begins 9 = .ok (.ifCond .le 44, 3) := by decide +kernel
theorem dX9_begins_12 : decode cX9_begins 12 = .ok (.iload_n 3, 1) := by decide +kernel
theorem dX9_begins_13 : decode cX9_begins 13 = .ok (.iload_n 2, 1) := by decide +kernel
theorem dX9_begins_14 : decode cX9_begins 14 = .ok (.if_icmp .gt 39, 3) := by decide +kernel
theorem dX9_begins_17 : decode cX9_begins 17 = .ok (.iload 5, 2) := by decide +kernel
theorem dX9_begins_19 : decode cX9_begins 19 = .ok (.ifCond .ne 9, 3) := by decide +kernel
theorem dX9_begins_22 : decode cX9_begins 22 = .ok (.iload 4, 2) := by decide +kernel
theorem dX9_begins_24 : decode cX9_begins 24 = .ok (.iload_n 1, 1) := by decide +kernel
theorem dX9_begins_25 : decode cX9_begins 25 = .ok (.if_icmp .lt 7, 3) := by decide +kernel
theorem dX9_begins_28 : decode cX9_begins 28 = .ok (.iconst 1, 1) := by decide +kernel
theorem dX9_begins_29 : decode cX9_begins 29 = .ok (.goto 4, 3) := by decide +kernel
theorem dX9_begins_32 : decode cX9_begins 32 = .ok (.iconst 0, 1) := by decide +kernel
theorem dX9_begins_33 : decode cX9_begins 33 = .ok (.istore 5, 2) := by decide +kernel
theorem dX9_begins_35 : decode cX9_begins 35 = .ok (.bipush 10, 2) := by decide +kernel
theorem dX9_begins_37 : decode cX9_begins 37 = .ok (.iload_n 3, 1) := by decide +kernel
theorem dX9_begins_38 : decode cX9_begins 38 = .ok (.imul, 1) := by decide +kernel
theorem dX9_begins_39 : decode cX9_begins 39 = .ok (.istore_n 3, 1) := by decide +kernel
theorem dX9_begins_40 : decode cX9_begins 40 = .ok (.bipush 10, 2) := by decide +kernel
theorem dX9_begins_42 : decode cX9_begins 42 = .ok (.iload 4, 2) := by decide +kernel
theorem dX9_begins_44 : decode cX9_begins 44 = .ok (.imul, 1) := by decide +kernel
theorem dX9_begins_45 : decode cX9_begins 45 = .ok (.bipush 9, 2) := by decide +kernel
theorem dX9_begins_47 : decode cX9_begins 47 = .ok (.iadd, 1) := by decide +kernel
theorem dX9_begins_48 : decode cX9_begins 48 = .ok (.istore 4, 2) := by decide +kernel
theorem dX9_begins_50 : decode cX9_begins 50 = .ok (.goto (-42), 3) := by decide +kernel
theorem dX9_begins_53 : decode cX9_begins 53 = .ok (.iload 5, 2) := by decide +kernel
theorem dX9_begins_55 : decode cX9_begins 55 = .ok (.ireturn, 1) := by decide +kernel
theorem dX9_readsNumber_0 : decode cX9_readsNumber 0 = .ok (.iconst 0, 1) := by decide +kernel
theorem dX9_readsNumber_1 : decode cX9_readsNumber 1 = .ok (.istore 4, 2) := by decide +kernel
theorem dX9_readsNumber_3 : decode cX9_readsNumber 3 = .ok (.aload_n 0, 1) := by decide +kernel
theorem dX9_readsNumber_4 : decode cX9_readsNumber 4 = .ok (.invokevirtual 141, 3) := by decide +kernel
theorem dX9_readsNumber_7 : decode cX9_readsNumber 7 = .ok (.bipush 48, 2) := by decide +kernel
theorem dX9_readsNumber_9 : decode cX9_readsNumber 9 = .ok (.bipush 57, 2) := by decide +kernel
theorem dX9_readsNumber_11 : decode cX9_readsNumber 11 = .ok (.invokestatic 23, 3) := by decide +kernel
theorem dX9_readsNumber_14 : decode cX9_readsNumber 14 = .ok (.ifCond .eq 52, 3) := by decide +kernel
theorem dX9_readsNumber_17 : decode cX9_readsNumber 17 = .ok (.bipush 10, 2) := by decide +kernel
theorem dX9_readsNumber_19 : decode cX9_readsNumber 19 = .ok (.iload 4, 2) := by decide +kernel
theorem dX9_readsNumber_21 : decode cX9_readsNumber 21 = .ok (.imul, 1) := by decide +kernel
theorem dX9_readsNumber_22 : decode cX9_readsNumber 22 = .ok (.aload_n 0, 1) := by decide +kernel
theorem dX9_readsNumber_23 : decode cX9_readsNumber 23 = .ok (.invokevirtual 141, 3) := by decide +kernel
theorem dX9_readsNumber_26 : decode cX9_readsNumber 26 = .ok (.iadd, 1) := by decide +kernel
theorem dX9_readsNumber_27 : decode cX9_readsNumber 27 = .ok (.bipush 48, 2) := by decide +kernel
theorem dX9_readsNumber_29 : decode cX9_readsNumber 29 = .ok (.isub, 1) := by decide +kernel
theorem dX9_readsNumber_30 : decode cX9_readsNumber 30 = .ok (.iload_n 2, 1) := by decide +kernel
theorem dX9_readsNumber_31 : decode cX9_readsNumber 31 = .ok (.iload_n 3, 1) := by decide +kernel
theorem dX9_readsNumber_32 : decode cX9_readsNumber 32 = .ok (.invokestatic 145, 3) := by decide +kernel
theorem dX9_readsNumber_35 : decode cX9_readsNumber 35 = .ok (.ifCond .eq 31, 3) := by decide +kernel
theorem dX9_readsNumber_38 : decode cX9_readsNumber 38 = .ok (.bipush 10, 2) := by decide +kernel
theorem dX9_readsNumber_40 : decode cX9_readsNumber 40 = .ok (.iload 4, 2) := by decide +kernel
theorem dX9_readsNumber_42 : decode cX9_readsNumber 42 = .ok (.imul, 1) := by decide +kernel
theorem dX9_readsNumber_43 : decode cX9_readsNumber 43 = .ok (.aload_n 0, 1) := by decide +kernel
theorem dX9_readsNumber_44 : decode cX9_readsNumber 44 = .ok (.invokevirtual 141, 3) := by decide +kernel
theorem dX9_readsNumber_47 : decode cX9_readsNumber 47 = .ok (.iadd, 1) := by decide +kernel
theorem dX9_readsNumber_48 : decode cX9_readsNumber 48 = .ok (.bipush 48, 2) := by decide +kernel
theorem dX9_readsNumber_50 : decode cX9_readsNumber 50 = .ok (.isub, 1) := by decide +kernel
theorem dX9_readsNumber_51 : decode cX9_readsNumber 51 = .ok (.istore 4, 2) := by decide +kernel
theorem dX9_readsNumber_53 : decode cX9_readsNumber 53 = .ok (.aload_n 0, 1) := by decide +kernel
theorem dX9_readsNumber_54 : decode cX9_readsNumber 54 = .ok (.dup, 1) := by decide +kernel
theorem dX9_readsNumber_55 : decode cX9_readsNumber 55 = .ok (.getfield 138, 3) := by decide +kernel
theorem dX9_readsNumber_58 : decode cX9_readsNumber 58 = .ok (.iconst 1, 1) := by decide +kernel
theorem dX9_readsNumber_59 : decode cX9_readsNumber 59 = .ok (.iadd, 1) := by decide +kernel
theorem dX9_readsNumber_60 : decode cX9_readsNumber 60 = .ok (.putfield 138, 3) := by decide +kernel
theorem dX9_readsNumber_63 : decode cX9_readsNumber 63 = .ok (.goto (-60), 3) := by decide +kernel
theorem dX9_readsNumber_66 : decode cX9_readsNumber 66 = .ok (.aload_n 0, 1) := by decide +kernel
theorem dX9_readsNumber_67 : decode cX9_readsNumber 67 = .ok (.getfield 16, 3) := by decide +kernel
theorem dX9_readsNumber_70 : decode cX9_readsNumber 70 = .ok (.iload_n 1, 1) := by decide +kernel
theorem dX9_readsNumber_71 : decode cX9_readsNumber 71 = .ok (.iload 4, 2) := by decide +kernel
theorem dX9_readsNumber_73 : decode cX9_readsNumber 73 = .ok (.iastore, 1) := by decide +kernel
theorem dX9_readsNumber_74 : decode cX9_readsNumber 74 = .ok (.iload 4, 2) := by decide +kernel
theorem dX9_readsNumber_76 : decode cX9_readsNumber 76 = .ok (.iload_n 2, 1) := by decide +kernel
theorem dX9_readsNumber_77 : decode cX9_readsNumber 77 = .ok (.if_icmp .lt 7, 3) := by decide +kernel
theorem dX9_readsNumber_80 : decode cX9_readsNumber 80 = .ok (.iconst 1, 1) := by decide +kernel
theorem dX9_readsNumber_81 : decode cX9_readsNumber 81 = .ok (.goto 4, 3) := by decide +kernel
theorem dX9_readsNumber_84 : decode cX9_readsNumber 84 = .ok (.iconst 0, 1) := by decide +kernel
theorem dX9_readsNumber_85 : decode cX9_readsNumber 85 = .ok (.ireturn, 1) := by decide +kernel
theorem dX9_readsPart_0 : decode cX9_readsPart 0 = .ok (.aload_n 0, 1) := by decide +kernel
theorem dX9_readsPart_1 : decode cX9_readsPart 1 = .ok (.aload_n 0, 1) := by decide +kernel
theorem dX9_readsPart_2 : decode cX9_readsPart 2 = .ok (.invokevirtual 141, 3) := by decide +kernel
theorem dX9_readsPart_5 : decode cX9_readsPart 5 = .ok (.putfield 148, 3) := by decide +kernel
theorem dX9_readsPart_8 : decode cX9_readsPart 8 = .ok (.aload_n 0, 1) := by decide +kernel
theorem dX9_readsPart_9 : decode cX9_readsPart 9 = .ok (.dup, 1) := by decide +kernel
theorem dX9_readsPart_10 : decode cX9_readsPart 10 = .ok (.getfield 138, 3) := by decide +kernel
theorem dX9_readsPart_13 : decode cX9_readsPart 13 = .ok (.aload_n 0, 1) := by decide +kernel
theorem dX9_readsPart_14 : decode cX9_readsPart 14 = .ok (.getfield 148, 3) := by decide +kernel
theorem dX9_readsPart_17 : decode cX9_readsPart 17 = .ok (.ifCond .ne 7, 3) := by decide +kernel
theorem dX9_readsPart_20 : decode cX9_readsPart 20 = .ok (.iconst 0, 1) := by decide +kernel
theorem dX9_readsPart_21 : decode cX9_readsPart 21 = .ok (.goto 4, 3) := by decide +kernel
theorem dX9_readsPart_24 : decode cX9_readsPart 24 = .ok (.iconst 1, 1) := by decide +kernel
theorem dX9_readsPart_25 : decode cX9_readsPart 25 = .ok (.iadd, 1) := by decide +kernel
theorem dX9_readsPart_26 : decode cX9_readsPart 26 = .ok (.putfield 138, 3) := by decide +kernel
theorem dX9_readsPart_29 : decode cX9_readsPart 29 = .ok (.aload_n 0, 1) := by decide +kernel
theorem dX9_readsPart_30 : decode cX9_readsPart 30 = .ok (.getfield 148, 3) := by decide +kernel
theorem dX9_readsPart_33 : decode cX9_readsPart 33 = .ok (.lookupswitch 184 #[(36, 59), (43, 108), (98, 74), (110, 117), (111, 66), (115, 59)], 59) := by decide +kernel
theorem dX9_readsPart_92 : decode cX9_readsPart 92 = .ok (.aload_n 0, 1) := by decide +kernel
theorem dX9_readsPart_93 : decode cX9_readsPart 93 = .ok (.iconst 0, 1) := by decide +kernel
theorem dX9_readsPart_94 : decode cX9_readsPart 94 = .ok (.iconst 5, 1) := by decide +kernel
theorem dX9_readsPart_95 : decode cX9_readsPart 95 = .ok (.invokevirtual 151, 3) := by decide +kernel
theorem dX9_readsPart_98 : decode cX9_readsPart 98 = .ok (.ireturn, 1) := by decide +kernel
theorem dX9_readsPart_99 : decode cX9_readsPart 99 = .ok (.aload_n 0, 1) := by decide +kernel
theorem dX9_readsPart_100 : decode cX9_readsPart 100 = .ok (.iconst 0, 1) := by decide +kernel
theorem dX9_readsPart_101 : decode cX9_readsPart 101 = .ok (.bipush 7, 2) := by decide +kernel
theorem dX9_readsPart_103 : decode cX9_readsPart 103 = .ok (.invokevirtual 151, 3) := by decide +kernel
theorem dX9_readsPart_106 : decode cX9_readsPart 106 = .ok (.ireturn, 1) := by decide +kernel
theorem dX9_readsPart_107 : decode cX9_readsPart 107 = .ok (.aload_n 0, 1) := by decide +kernel
theorem dX9_readsPart_108 : decode cX9_readsPart 108 = .ok (.iconst 0, 1) := by decide +kernel
theorem dX9_readsPart_109 : decode cX9_readsPart 109 = .ok (.bipush 7, 2) := by decide +kernel
theorem dX9_readsPart_111 : decode cX9_readsPart 111 = .ok (.invokevirtual 151, 3) := by decide +kernel
theorem dX9_readsPart_114 : decode cX9_readsPart 114 = .ok (.ifCond .eq 25, 3) := by decide +kernel
theorem dX9_readsPart_117 : decode cX9_readsPart 117 = .ok (.aload_n 0, 1) := by decide +kernel
theorem dX9_readsPart_118 : decode cX9_readsPart 118 = .ok (.iconst 1, 1) := by decide +kernel
theorem dX9_readsPart_119 : decode cX9_readsPart 119 = .ok (.iconst 2, 1) := by decide +kernel
theorem dX9_readsPart_120 : decode cX9_readsPart 120 = .ok (.invokevirtual 151, 3) := by decide +kernel
theorem dX9_readsPart_123 : decode cX9_readsPart 123 = .ok (.ifCond .ne 12, 3) := by decide +kernel
theorem dX9_readsPart_126 : decode cX9_readsPart 126 = .ok (.aload_n 0, 1) := by decide +kernel
theorem dX9_readsPart_127 : decode cX9_readsPart 127 = .ok (.bipush 45, 2) := by decide +kernel
theorem dX9_readsPart_129 : decode cX9_readsPart 129 = .ok (.invokevirtual 154, 3) := by decide +kernel
theorem dX9_readsPart_132 : decode cX9_readsPart 132 = .ok (.ifCond .eq 7, 3) := by decide +kernel
theorem dX9_readsPart_135 : decode cX9_readsPart 135 = .ok (.iconst 1, 1) := by decide +kernel
theorem dX9_readsPart_136 : decode cX9_readsPart 136 = .ok (.goto 4, 3) := by decide +kernel
theorem dX9_readsPart_139 : decode cX9_readsPart 139 = .ok (.iconst 0, 1) := by decide +kernel
theorem dX9_readsPart_140 : decode cX9_readsPart 140 = .ok (.ireturn, 1) := by decide +kernel
theorem dX9_readsPart_141 : decode cX9_readsPart 141 = .ok (.aload_n 0, 1) := by decide +kernel
theorem dX9_readsPart_142 : decode cX9_readsPart 142 = .ok (.iconst 0, 1) := by decide +kernel
theorem dX9_readsPart_143 : decode cX9_readsPart 143 = .ok (.iconst 1, 1) := by decide +kernel
theorem dX9_readsPart_144 : decode cX9_readsPart 144 = .ok (.bipush 99, 2) := by decide +kernel
theorem dX9_readsPart_146 : decode cX9_readsPart 146 = .ok (.invokevirtual 157, 3) := by decide +kernel
theorem dX9_readsPart_149 : decode cX9_readsPart 149 = .ok (.ireturn, 1) := by decide +kernel
theorem dX9_readsPart_150 : decode cX9_readsPart 150 = .ok (.aload_n 0, 1) := by decide +kernel
theorem dX9_readsPart_151 : decode cX9_readsPart 151 = .ok (.iconst 0, 1) := by decide +kernel
theorem dX9_readsPart_152 : decode cX9_readsPart 152 = .ok (.iconst 2, 1) := by decide +kernel
theorem dX9_readsPart_153 : decode cX9_readsPart 153 = .ok (.invokevirtual 151, 3) := by decide +kernel
theorem dX9_readsPart_156 : decode cX9_readsPart 156 = .ok (.ifCond .eq 59, 3) := by decide +kernel
theorem dX9_readsPart_159 : decode cX9_readsPart 159 = .ok (.aload_n 0, 1) := by decide +kernel
theorem dX9_readsPart_160 : decode cX9_readsPart 160 = .ok (.iconst 1, 1) := by decide +kernel
theorem dX9_readsPart_161 : decode cX9_readsPart 161 = .ok (.bipush 7, 2) := by decide +kernel
theorem dX9_readsPart_163 : decode cX9_readsPart 163 = .ok (.invokevirtual 151, 3) := by decide +kernel
theorem dX9_readsPart_166 : decode cX9_readsPart 166 = .ok (.ifCond .eq 49, 3) := by decide +kernel
theorem dX9_readsPart_169 : decode cX9_readsPart 169 = .ok (.aload_n 0, 1) := by decide +kernel
theorem dX9_readsPart_170 : decode cX9_readsPart 170 = .ok (.bipush 42, 2) := by decide +kernel
theorem dX9_readsPart_172 : decode cX9_readsPart 172 = .ok (.invokevirtual 154, 3) := by decide +kernel
theorem dX9_readsPart_175 : decode cX9_readsPart 175 = .ok (.ifCond .eq 40, 3) := by decide +kernel
theorem dX9_readsPart_178 : decode cX9_readsPart 178 = .ok (.aload_n 0, 1) := by decide +kernel
theorem dX9_readsPart_179 : decode cX9_readsPart 179 = .ok (.iconst 2, 1) := by decide +kernel
theorem dX9_readsPart_180 : decode cX9_readsPart 180 = .ok (.bipush 50, 2) := by decide +kernel
theorem dX9_readsPart_182 : decode cX9_readsPart 182 = .ok (.sipush 200, 3) := by decide +kernel
theorem dX9_readsPart_185 : decode cX9_readsPart 185 = .ok (.invokevirtual 157, 3) := by decide +kernel
theorem dX9_readsPart_188 : decode cX9_readsPart 188 = .ok (.ifCond .eq 27, 3) := by decide +kernel
theorem dX9_readsPart_191 : decode cX9_readsPart 191 = .ok (.aload_n 0, 1) := by decide +kernel
theorem dX9_readsPart_192 : decode cX9_readsPart 192 = .ok (.bipush 47, 2) := by decide +kernel
theorem dX9_readsPart_194 : decode cX9_readsPart 194 = .ok (.invokevirtual 154, 3) := by decide +kernel
theorem dX9_readsPart_197 : decode cX9_readsPart 197 = .ok (.ifCond .eq 18, 3) := by decide +kernel
theorem dX9_readsPart_200 : decode cX9_readsPart 200 = .ok (.aload_n 0, 1) := by decide +kernel
theorem dX9_readsPart_201 : decode cX9_readsPart 201 = .ok (.iconst 3, 1) := by decide +kernel
theorem dX9_readsPart_202 : decode cX9_readsPart 202 = .ok (.iconst 1, 1) := by decide +kernel
theorem dX9_readsPart_203 : decode cX9_readsPart 203 = .ok (.bipush 60, 2) := by decide +kernel
theorem dX9_readsPart_205 : decode cX9_readsPart 205 = .ok (.invokevirtual 157, 3) := by decide +kernel
theorem dX9_readsPart_208 : decode cX9_readsPart 208 = .ok (.ifCond .eq 7, 3) := by decide +kernel
theorem dX9_readsPart_211 : decode cX9_readsPart 211 = .ok (.iconst 1, 1) := by decide +kernel
theorem dX9_readsPart_212 : decode cX9_readsPart 212 = .ok (.goto 4, 3) := by decide +kernel
theorem dX9_readsPart_215 : decode cX9_readsPart 215 = .ok (.iconst 0, 1) := by decide +kernel
theorem dX9_readsPart_216 : decode cX9_readsPart 216 = .ok (.ireturn, 1) := by decide +kernel
theorem dX9_readsPart_217 : decode cX9_readsPart 217 = .ok (.aload_n 0, 1) := by decide +kernel
theorem dX9_readsPart_218 : decode cX9_readsPart 218 = .ok (.dup, 1) := by decide +kernel
theorem dX9_readsPart_219 : decode cX9_readsPart 219 = .ok (.getfield 138, 3) := by decide +kernel
theorem dX9_readsPart_222 : decode cX9_readsPart 222 = .ok (.aload_n 0, 1) := by decide +kernel
theorem dX9_readsPart_223 : decode cX9_readsPart 223 = .ok (.getfield 148, 3) := by decide +kernel
theorem dX9_readsPart_226 : decode cX9_readsPart 226 = .ok (.ifCond .ne 7, 3) := by decide +kernel
theorem dX9_readsPart_229 : decode cX9_readsPart 229 = .ok (.iconst 0, 1) := by decide +kernel
theorem dX9_readsPart_230 : decode cX9_readsPart 230 = .ok (.goto 4, 3) := by decide +kernel
theorem dX9_readsPart_233 : decode cX9_readsPart 233 = .ok (.iconst 1, 1) := by decide +kernel
theorem dX9_readsPart_234 : decode cX9_readsPart 234 = .ok (.isub, 1) := by decide +kernel
theorem dX9_readsPart_235 : decode cX9_readsPart 235 = .ok (.putfield 138, 3) := by decide +kernel
theorem dX9_readsPart_238 : decode cX9_readsPart 238 = .ok (.iconst 0, 1) := by decide +kernel
theorem dX9_readsPart_239 : decode cX9_readsPart 239 = .ok (.ireturn, 1) := by decide +kernel
theorem dX9_areOrders_0 : decode cX9_areOrders 0 = .ok (.aload_n 0, 1) := by decide +kernel
theorem dX9_areOrders_1 : decode cX9_areOrders 1 = .ok (.iconst 0, 1) := by decide +kernel
theorem dX9_areOrders_2 : decode cX9_areOrders 2 = .ok (.putfield 138, 3) := by decide +kernel
theorem dX9_areOrders_5 : decode cX9_areOrders 5 = .ok (.aload_n 0, 1) := by decide +kernel
theorem dX9_areOrders_6 : decode cX9_areOrders 6 = .ok (.invokevirtual 160, 3) := by decide +kernel
theorem dX9_areOrders_9 : decode cX9_areOrders 9 = .ok (.ifCond .eq 27, 3) := by decide +kernel
theorem dX9_areOrders_12 : decode cX9_areOrders 12 = .ok (.aload_n 0, 1) := by decide +kernel
theorem dX9_areOrders_13 : decode cX9_areOrders 13 = .ok (.getfield 138, 3) := by decide +kernel
theorem dX9_areOrders_16 : decode cX9_areOrders 16 = .ok (.aload_n 0, 1) := by decide +kernel
theorem dX9_areOrders_17 : decode cX9_areOrders 17 = .ok (.getfield 135, 3) := by decide +kernel
theorem dX9_areOrders_20 : decode cX9_areOrders 20 = .ok (.if_icmp .ne 5, 3) := by decide +kernel
theorem dX9_areOrders_23 : decode cX9_areOrders 23 = .ok (.iconst 1, 1) := by decide +kernel
theorem dX9_areOrders_24 : decode cX9_areOrders 24 = .ok (.ireturn, 1) := by decide +kernel
theorem dX9_areOrders_25 : decode cX9_areOrders 25 = .ok (.aload_n 0, 1) := by decide +kernel
theorem dX9_areOrders_26 : decode cX9_areOrders 26 = .ok (.bipush 59, 2) := by decide +kernel
theorem dX9_areOrders_28 : decode cX9_areOrders 28 = .ok (.invokevirtual 154, 3) := by decide +kernel
theorem dX9_areOrders_31 : decode cX9_areOrders 31 = .ok (.ifCond .ne (-26), 3) := by decide +kernel
theorem dX9_areOrders_34 : decode cX9_areOrders 34 = .ok (.iconst 0, 1) := by decide +kernel
theorem dX9_areOrders_35 : decode cX9_areOrders 35 = .ok (.ireturn, 1) := by decide +kernel
theorem dX9_areOrders_36 : decode cX9_areOrders 36 = .ok (.iconst 0, 1) := by decide +kernel
theorem dX9_areOrders_37 : decode cX9_areOrders 37 = .ok (.ireturn, 1) := by decide +kernel
theorem dX9_firstError_0 : decode cX9_firstError 0 = .ok (.aload_n 0, 1) := by decide +kernel
theorem dX9_firstError_1 : decode cX9_firstError 1 = .ok (.iconst 0, 1) := by decide +kernel
theorem dX9_firstError_2 : decode cX9_firstError 2 = .ok (.putfield 19, 3) := by decide +kernel
theorem dX9_firstError_5 : decode cX9_firstError 5 = .ok (.aload_n 0, 1) := by decide +kernel
theorem dX9_firstError_6 : decode cX9_firstError 6 = .ok (.invokevirtual 164, 3) := by decide +kernel
theorem dX9_firstError_9 : decode cX9_firstError 9 = .ok (.pop, 1) := by decide +kernel
theorem dX9_firstError_10 : decode cX9_firstError 10 = .ok (.aload_n 0, 1) := by decide +kernel
theorem dX9_firstError_11 : decode cX9_firstError 11 = .ok (.getfield 138, 3) := by decide +kernel
theorem dX9_firstError_14 : decode cX9_firstError 14 = .ok (.ireturn, 1) := by decide +kernel
theorem dX9_stops_0 : decode cX9_stops 0 = .ok (.aload_n 0, 1) := by decide +kernel
theorem dX9_stops_1 : decode cX9_stops 1 = .ok (.getfield 148, 3) := by decide +kernel
theorem dX9_stops_4 : decode cX9_stops 4 = .ok (.lookupswitch 246 #[(36, 88), (98, 157), (110, 211), (111, 117), (115, 52)], 52) := by decide +kernel
theorem dX9_stops_56 : decode cX9_stops 56 = .ok (.aload_n 0, 1) := by decide +kernel
theorem dX9_stops_57 : decode cX9_stops 57 = .ok (.aload_n 0, 1) := by decide +kernel
theorem dX9_stops_58 : decode cX9_stops 58 = .ok (.getfield 16, 3) := by decide +kernel
theorem dX9_stops_61 : decode cX9_stops 61 = .ok (.iconst 0, 1) := by decide +kernel
theorem dX9_stops_62 : decode cX9_stops 62 = .ok (.iaload, 1) := by decide +kernel
theorem dX9_stops_63 : decode cX9_stops 63 = .ok (.invokevirtual 98, 3) := by decide +kernel
theorem dX9_stops_66 : decode cX9_stops 66 = .ok (.ifCond .ne 8, 3) := by decide +kernel
theorem dX9_stops_69 : decode cX9_stops 69 = .ok (.bipush 13, 2) := by decide +kernel
theorem dX9_stops_71 : decode cX9_stops 71 = .ok (.goto 20, 3) := by decide +kernel
theorem dX9_stops_74 : decode cX9_stops 74 = .ok (.aload_n 0, 1) := by decide +kernel
theorem dX9_stops_75 : decode cX9_stops 75 = .ok (.getfield 7, 3) := by decide +kernel
theorem dX9_stops_78 : decode cX9_stops 78 = .ok (.iconst 1, 1) := by decide +kernel
theorem dX9_stops_79 : decode cX9_stops 79 = .ok (.iaload, 1) := by decide +kernel
theorem dX9_stops_80 : decode cX9_stops 80 = .ok (.bipush 8, 2) := by decide +kernel
theorem dX9_stops_82 : decode cX9_stops 82 = .ok (.if_icmp .ne 8, 3) := by decide +kernel
theorem dX9_stops_85 : decode cX9_stops 85 = .ok (.bipush 14, 2) := by decide +kernel
theorem dX9_stops_87 : decode cX9_stops 87 = .ok (.goto 4, 3) := by decide +kernel
theorem dX9_stops_90 : decode cX9_stops 90 = .ok (.iconst 0, 1) := by decide +kernel
theorem dX9_stops_91 : decode cX9_stops 91 = .ok (.ireturn, 1) := by decide +kernel
theorem dX9_stops_92 : decode cX9_stops 92 = .ok (.aload_n 0, 1) := by decide +kernel
theorem dX9_stops_93 : decode cX9_stops 93 = .ok (.aload_n 0, 1) := by decide +kernel
theorem dX9_stops_94 : decode cX9_stops 94 = .ok (.getfield 16, 3) := by decide +kernel
theorem dX9_stops_97 : decode cX9_stops 97 = .ok (.iconst 0, 1) := by decide +kernel
theorem dX9_stops_98 : decode cX9_stops 98 = .ok (.iaload, 1) := by decide +kernel
theorem dX9_stops_99 : decode cX9_stops 99 = .ok (.invokevirtual 98, 3) := by decide +kernel
theorem dX9_stops_102 : decode cX9_stops 102 = .ok (.ifCond .ne 8, 3) := by decide +kernel
theorem dX9_stops_105 : decode cX9_stops 105 = .ok (.bipush 13, 2) := by decide +kernel
theorem dX9_stops_107 : decode cX9_stops 107 = .ok (.goto 13, 3) := by decide +kernel
theorem dX9_stops_110 : decode cX9_stops 110 = .ok (.aload_n 0, 1) := by decide +kernel
theorem dX9_stops_111 : decode cX9_stops 111 = .ok (.aload_n 0, 1) := by decide +kernel
theorem dX9_stops_112 : decode cX9_stops 112 = .ok (.getfield 16, 3) := by decide +kernel
theorem dX9_stops_115 : decode cX9_stops 115 = .ok (.iconst 0, 1) := by decide +kernel
theorem dX9_stops_116 : decode cX9_stops 116 = .ok (.iaload, 1) := by decide +kernel
theorem dX9_stops_117 : decode cX9_stops 117 = .ok (.invokevirtual 129, 3) := by decide +kernel
theorem dX9_stops_120 : decode cX9_stops 120 = .ok (.ireturn, 1) := by decide +kernel
theorem dX9_stops_121 : decode cX9_stops 121 = .ok (.aload_n 0, 1) := by decide +kernel
theorem dX9_stops_122 : decode cX9_stops 122 = .ok (.aload_n 0, 1) := by decide +kernel
theorem dX9_stops_123 : decode cX9_stops 123 = .ok (.getfield 16, 3) := by decide +kernel
theorem dX9_stops_126 : decode cX9_stops 126 = .ok (.iconst 0, 1) := by decide +kernel
theorem dX9_stops_127 : decode cX9_stops 127 = .ok (.iaload, 1) := by decide +kernel
theorem dX9_stops_128 : decode cX9_stops 128 = .ok (.invokevirtual 104, 3) := by decide +kernel
theorem dX9_stops_131 : decode cX9_stops 131 = .ok (.ifCond .ne 8, 3) := by decide +kernel
theorem dX9_stops_134 : decode cX9_stops 134 = .ok (.bipush 13, 2) := by decide +kernel
theorem dX9_stops_136 : decode cX9_stops 136 = .ok (.goto 24, 3) := by decide +kernel
theorem dX9_stops_139 : decode cX9_stops 139 = .ok (.aload_n 0, 1) := by decide +kernel
theorem dX9_stops_140 : decode cX9_stops 140 = .ok (.aload_n 0, 1) := by decide +kernel
theorem dX9_stops_141 : decode cX9_stops 141 = .ok (.getfield 16, 3) := by decide +kernel
theorem dX9_stops_144 : decode cX9_stops 144 = .ok (.iconst 0, 1) := by decide +kernel
theorem dX9_stops_145 : decode cX9_stops 145 = .ok (.iaload, 1) := by decide +kernel
theorem dX9_stops_146 : decode cX9_stops 146 = .ok (.iconst 3, 1) := by decide +kernel
theorem dX9_stops_147 : decode cX9_stops 147 = .ok (.invokevirtual 31, 3) := by decide +kernel
theorem dX9_stops_150 : decode cX9_stops 150 = .ok (.iconst (-1), 1) := by decide +kernel
theorem dX9_stops_151 : decode cX9_stops 151 = .ok (.if_icmp .eq 8, 3) := by decide +kernel
theorem dX9_stops_154 : decode cX9_stops 154 = .ok (.bipush 8, 2) := by decide +kernel
theorem dX9_stops_156 : decode cX9_stops 156 = .ok (.goto 4, 3) := by decide +kernel
theorem dX9_stops_159 : decode cX9_stops 159 = .ok (.iconst 0, 1) := by decide +kernel
theorem dX9_stops_160 : decode cX9_stops 160 = .ok (.ireturn, 1) := by decide +kernel
theorem dX9_stops_161 : decode cX9_stops 161 = .ok (.aload_n 0, 1) := by decide +kernel
theorem dX9_stops_162 : decode cX9_stops 162 = .ok (.aload_n 0, 1) := by decide +kernel
theorem dX9_stops_163 : decode cX9_stops 163 = .ok (.getfield 16, 3) := by decide +kernel
theorem dX9_stops_166 : decode cX9_stops 166 = .ok (.iconst 0, 1) := by decide +kernel
theorem dX9_stops_167 : decode cX9_stops 167 = .ok (.iaload, 1) := by decide +kernel
theorem dX9_stops_168 : decode cX9_stops 168 = .ok (.invokevirtual 104, 3) := by decide +kernel
theorem dX9_stops_171 : decode cX9_stops 171 = .ok (.ifCond .ne 8, 3) := by decide +kernel
theorem dX9_stops_174 : decode cX9_stops 174 = .ok (.bipush 13, 2) := by decide +kernel
theorem dX9_stops_176 : decode cX9_stops 176 = .ok (.goto 38, 3) := by decide +kernel
theorem dX9_stops_179 : decode cX9_stops 179 = .ok (.aload_n 0, 1) := by decide +kernel
theorem dX9_stops_180 : decode cX9_stops 180 = .ok (.getfield 16, 3) := by decide +kernel
theorem dX9_stops_183 : decode cX9_stops 183 = .ok (.iconst 1, 1) := by decide +kernel
theorem dX9_stops_184 : decode cX9_stops 184 = .ok (.iaload, 1) := by decide +kernel
theorem dX9_stops_185 : decode cX9_stops 185 = .ok (.iconst (-1), 1) := by decide +kernel
theorem dX9_stops_186 : decode cX9_stops 186 = .ok (.if_icmp .eq 27, 3) := by decide +kernel
theorem dX9_stops_189 : decode cX9_stops 189 = .ok (.aload_n 0, 1) := by decide +kernel
theorem dX9_stops_190 : decode cX9_stops 190 = .ok (.aload_n 0, 1) := by decide +kernel
theorem dX9_stops_191 : decode cX9_stops 191 = .ok (.getfield 16, 3) := by decide +kernel
theorem dX9_stops_194 : decode cX9_stops 194 = .ok (.iconst 0, 1) := by decide +kernel
theorem dX9_stops_195 : decode cX9_stops 195 = .ok (.iaload, 1) := by decide +kernel
theorem dX9_stops_196 : decode cX9_stops 196 = .ok (.aload_n 0, 1) := by decide +kernel
theorem dX9_stops_197 : decode cX9_stops 197 = .ok (.getfield 16, 3) := by decide +kernel
theorem dX9_stops_200 : decode cX9_stops 200 = .ok (.iconst 1, 1) := by decide +kernel
theorem dX9_stops_201 : decode cX9_stops 201 = .ok (.iaload, 1) := by decide +kernel
theorem dX9_stops_202 : decode cX9_stops 202 = .ok (.invokevirtual 110, 3) := by decide +kernel
theorem dX9_stops_205 : decode cX9_stops 205 = .ok (.ifCond .ne 8, 3) := by decide +kernel
theorem dX9_stops_208 : decode cX9_stops 208 = .ok (.bipush 14, 2) := by decide +kernel
theorem dX9_stops_210 : decode cX9_stops 210 = .ok (.goto 4, 3) := by decide +kernel
theorem dX9_stops_213 : decode cX9_stops 213 = .ok (.iconst 0, 1) := by decide +kernel
theorem dX9_stops_214 : decode cX9_stops 214 = .ok (.ireturn, 1) := by decide +kernel
theorem dX9_stops_215 : decode cX9_stops 215 = .ok (.aload_n 0, 1) := by decide +kernel
theorem dX9_stops_216 : decode cX9_stops 216 = .ok (.aload_n 0, 1) := by decide +kernel
theorem dX9_stops_217 : decode cX9_stops 217 = .ok (.getfield 16, 3) := by decide +kernel
theorem dX9_stops_220 : decode cX9_stops 220 = .ok (.iconst 1, 1) := by decide +kernel
theorem dX9_stops_221 : decode cX9_stops 221 = .ok (.iaload, 1) := by decide +kernel
theorem dX9_stops_222 : decode cX9_stops 222 = .ok (.invokevirtual 104, 3) := by decide +kernel
theorem dX9_stops_225 : decode cX9_stops 225 = .ok (.ifCond .ne 8, 3) := by decide +kernel
theorem dX9_stops_228 : decode cX9_stops 228 = .ok (.bipush 13, 2) := by decide +kernel
theorem dX9_stops_230 : decode cX9_stops 230 = .ok (.goto 19, 3) := by decide +kernel
theorem dX9_stops_233 : decode cX9_stops 233 = .ok (.aload_n 0, 1) := by decide +kernel
theorem dX9_stops_234 : decode cX9_stops 234 = .ok (.aload_n 0, 1) := by decide +kernel
theorem dX9_stops_235 : decode cX9_stops 235 = .ok (.getfield 16, 3) := by decide +kernel
theorem dX9_stops_238 : decode cX9_stops 238 = .ok (.iconst 0, 1) := by decide +kernel
theorem dX9_stops_239 : decode cX9_stops 239 = .ok (.iaload, 1) := by decide +kernel
theorem dX9_stops_240 : decode cX9_stops 240 = .ok (.aload_n 0, 1) := by decide +kernel
theorem dX9_stops_241 : decode cX9_stops 241 = .ok (.getfield 16, 3) := by decide +kernel
theorem dX9_stops_244 : decode cX9_stops 244 = .ok (.iconst 1, 1) := by decide +kernel
theorem dX9_stops_245 : decode cX9_stops 245 = .ok (.iaload, 1) := by decide +kernel
theorem dX9_stops_246 : decode cX9_stops 246 = .ok (.invokevirtual 120, 3) := by decide +kernel
theorem dX9_stops_249 : decode cX9_stops 249 = .ok (.ireturn, 1) := by decide +kernel
theorem dX9_stops_250 : decode cX9_stops 250 = .ok (.iconst 0, 1) := by decide +kernel
theorem dX9_stops_251 : decode cX9_stops 251 = .ok (.ireturn, 1) := by decide +kernel
theorem dX9_does_0 : decode cX9_does 0 = .ok (.aload_n 0, 1) := by decide +kernel
theorem dX9_does_1 : decode cX9_does 1 = .ok (.getfield 148, 3) := by decide +kernel
theorem dX9_does_4 : decode cX9_does 4 = .ok (.lookupswitch 146 #[(36, 66), (98, 94), (110, 114), (111, 80), (115, 52)], 52) := by decide +kernel
theorem dX9_does_56 : decode cX9_does 56 = .ok (.aload_n 0, 1) := by decide +kernel
theorem dX9_does_57 : decode cX9_does 57 = .ok (.aload_n 0, 1) := by decide +kernel
theorem dX9_does_58 : decode cX9_does 58 = .ok (.getfield 16, 3) := by decide +kernel
theorem dX9_does_61 : decode cX9_does 61 = .ok (.iconst 0, 1) := by decide +kernel
theorem dX9_does_62 : decode cX9_does 62 = .ok (.iaload, 1) := by decide +kernel
theorem dX9_does_63 : decode cX9_does 63 = .ok (.invokevirtual 101, 3) := by decide +kernel
theorem dX9_does_66 : decode cX9_does 66 = .ok (.pop, 1) := by decide +kernel
theorem dX9_does_67 : decode cX9_does 67 = .ok (.goto 94, 3) := by decide +kernel
theorem dX9_does_70 : decode cX9_does 70 = .ok (.aload_n 0, 1) := by decide +kernel
theorem dX9_does_71 : decode cX9_does 71 = .ok (.aload_n 0, 1) := by decide +kernel
theorem dX9_does_72 : decode cX9_does 72 = .ok (.getfield 16, 3) := by decide +kernel
theorem dX9_does_75 : decode cX9_does 75 = .ok (.iconst 0, 1) := by decide +kernel
theorem dX9_does_76 : decode cX9_does 76 = .ok (.iaload, 1) := by decide +kernel
theorem dX9_does_77 : decode cX9_does 77 = .ok (.invokevirtual 132, 3) := by decide +kernel
theorem dX9_does_80 : decode cX9_does 80 = .ok (.pop, 1) := by decide +kernel
theorem dX9_does_81 : decode cX9_does 81 = .ok (.goto 80, 3) := by decide +kernel
theorem dX9_does_84 : decode cX9_does 84 = .ok (.aload_n 0, 1) := by decide +kernel
theorem dX9_does_85 : decode cX9_does 85 = .ok (.aload_n 0, 1) := by decide +kernel
theorem dX9_does_86 : decode cX9_does 86 = .ok (.getfield 16, 3) := by decide +kernel
theorem dX9_does_89 : decode cX9_does 89 = .ok (.iconst 0, 1) := by decide +kernel
theorem dX9_does_90 : decode cX9_does 90 = .ok (.iaload, 1) := by decide +kernel
theorem dX9_does_91 : decode cX9_does 91 = .ok (.invokevirtual 126, 3) := by decide +kernel
theorem dX9_does_94 : decode cX9_does 94 = .ok (.pop, 1) := by decide +kernel
theorem dX9_does_95 : decode cX9_does 95 = .ok (.goto 66, 3) := by decide +kernel
theorem dX9_does_98 : decode cX9_does 98 = .ok (.aload_n 0, 1) := by decide +kernel
theorem dX9_does_99 : decode cX9_does 99 = .ok (.aload_n 0, 1) := by decide +kernel
theorem dX9_does_100 : decode cX9_does 100 = .ok (.getfield 16, 3) := by decide +kernel
theorem dX9_does_103 : decode cX9_does 103 = .ok (.iconst 0, 1) := by decide +kernel
theorem dX9_does_104 : decode cX9_does 104 = .ok (.iaload, 1) := by decide +kernel
theorem dX9_does_105 : decode cX9_does 105 = .ok (.iconst 3, 1) := by decide +kernel
theorem dX9_does_106 : decode cX9_does 106 = .ok (.aload_n 0, 1) := by decide +kernel
theorem dX9_does_107 : decode cX9_does 107 = .ok (.getfield 16, 3) := by decide +kernel
theorem dX9_does_110 : decode cX9_does 110 = .ok (.iconst 1, 1) := by decide +kernel
theorem dX9_does_111 : decode cX9_does 111 = .ok (.iaload, 1) := by decide +kernel
theorem dX9_does_112 : decode cX9_does 112 = .ok (.invokevirtual 41, 3) := by decide +kernel
theorem dX9_does_115 : decode cX9_does 115 = .ok (.goto 46, 3) := by decide +kernel
theorem dX9_does_118 : decode cX9_does 118 = .ok (.aload_n 0, 1) := by decide +kernel
theorem dX9_does_119 : decode cX9_does 119 = .ok (.aload_n 0, 1) := by decide +kernel
theorem dX9_does_120 : decode cX9_does 120 = .ok (.getfield 16, 3) := by decide +kernel
theorem dX9_does_123 : decode cX9_does 123 = .ok (.iconst 0, 1) := by decide +kernel
theorem dX9_does_124 : decode cX9_does 124 = .ok (.iaload, 1) := by decide +kernel
theorem dX9_does_125 : decode cX9_does 125 = .ok (.aload_n 0, 1) := by decide +kernel
theorem dX9_does_126 : decode cX9_does 126 = .ok (.getfield 16, 3) := by decide +kernel
theorem dX9_does_129 : decode cX9_does 129 = .ok (.iconst 1, 1) := by decide +kernel
theorem dX9_does_130 : decode cX9_does 130 = .ok (.iaload, 1) := by decide +kernel
theorem dX9_does_131 : decode cX9_does 131 = .ok (.aload_n 0, 1) := by decide +kernel
theorem dX9_does_132 : decode cX9_does 132 = .ok (.getfield 16, 3) := by decide +kernel
theorem dX9_does_135 : decode cX9_does 135 = .ok (.iconst 2, 1) := by decide +kernel
theorem dX9_does_136 : decode cX9_does 136 = .ok (.iaload, 1) := by decide +kernel
theorem dX9_does_137 : decode cX9_does 137 = .ok (.aload_n 0, 1) := by decide +kernel
theorem dX9_does_138 : decode cX9_does 138 = .ok (.getfield 16, 3) := by decide +kernel
theorem dX9_does_141 : decode cX9_does 141 = .ok (.iconst 3, 1) := by decide +kernel
theorem dX9_does_142 : decode cX9_does 142 = .ok (.iaload, 1) := by decide +kernel
theorem dX9_does_143 : decode cX9_does 143 = .ok (.invokevirtual 123, 3) := by decide +kernel
theorem dX9_does_146 : decode cX9_does 146 = .ok (.pop, 1) := by decide +kernel
theorem dX9_does_147 : decode cX9_does 147 = .ok (.goto 14, 3) := by decide +kernel
theorem dX9_does_150 : decode cX9_does 150 = .ok (.aload_n 0, 1) := by decide +kernel
theorem dX9_does_151 : decode cX9_does 151 = .ok (.aload_n 0, 1) := by decide +kernel
theorem dX9_does_152 : decode cX9_does 152 = .ok (.getfield 16, 3) := by decide +kernel
theorem dX9_does_155 : decode cX9_does 155 = .ok (.iconst 0, 1) := by decide +kernel
theorem dX9_does_156 : decode cX9_does 156 = .ok (.iaload, 1) := by decide +kernel
theorem dX9_does_157 : decode cX9_does 157 = .ok (.invokevirtual 117, 3) := by decide +kernel
theorem dX9_does_160 : decode cX9_does 160 = .ok (.pop, 1) := by decide +kernel
theorem dX9_does_161 : decode cX9_does 161 = .ok (.return_, 1) := by decide +kernel
theorem dX9_obey_0 : decode cX9_obey 0 = .ok (.aload_n 0, 1) := by decide +kernel
theorem dX9_obey_1 : decode cX9_obey 1 = .ok (.aload_n 0, 1) := by decide +kernel
theorem dX9_obey_2 : decode cX9_obey 2 = .ok (.invokevirtual 164, 3) := by decide +kernel
theorem dX9_obey_5 : decode cX9_obey 5 = .ok (.ifCond .eq 7, 3) := by decide +kernel
theorem dX9_obey_8 : decode cX9_obey 8 = .ok (.iconst 0, 1) := by decide +kernel
theorem dX9_obey_9 : decode cX9_obey 9 = .ok (.goto 4, 3) := by decide +kernel
theorem dX9_obey_12 : decode cX9_obey 12 = .ok (.iconst 1, 1) := by decide +kernel
theorem dX9_obey_13 : decode cX9_obey 13 = .ok (.invokevirtual 94, 3) := by decide +kernel
theorem dX9_obey_16 : decode cX9_obey 16 = .ok (.ifCond .ne 5, 3) := by decide +kernel
theorem dX9_obey_19 : decode cX9_obey 19 = .ok (.iconst 0, 1) := by decide +kernel
theorem dX9_obey_20 : decode cX9_obey 20 = .ok (.ireturn, 1) := by decide +kernel
theorem dX9_obey_21 : decode cX9_obey 21 = .ok (.aload_n 0, 1) := by decide +kernel
theorem dX9_obey_22 : decode cX9_obey 22 = .ok (.invokevirtual 91, 3) := by decide +kernel
theorem dX9_obey_25 : decode cX9_obey 25 = .ok (.aload_n 0, 1) := by decide +kernel
theorem dX9_obey_26 : decode cX9_obey 26 = .ok (.getfield 7, 3) := by decide +kernel
theorem dX9_obey_29 : decode cX9_obey 29 = .ok (.bipush 8, 2) := by decide +kernel
theorem dX9_obey_31 : decode cX9_obey 31 = .ok (.iconst (-1), 1) := by decide +kernel
theorem dX9_obey_32 : decode cX9_obey 32 = .ok (.iastore, 1) := by decide +kernel
theorem dX9_obey_33 : decode cX9_obey 33 = .ok (.aload_n 0, 1) := by decide +kernel
theorem dX9_obey_34 : decode cX9_obey 34 = .ok (.getfield 7, 3) := by decide +kernel
theorem dX9_obey_37 : decode cX9_obey 37 = .ok (.bipush 9, 2) := by decide +kernel
theorem dX9_obey_39 : decode cX9_obey 39 = .ok (.iconst (-1), 1) := by decide +kernel
theorem dX9_obey_40 : decode cX9_obey 40 = .ok (.iastore, 1) := by decide +kernel
theorem dX9_obey_41 : decode cX9_obey 41 = .ok (.aload_n 0, 1) := by decide +kernel
theorem dX9_obey_42 : decode cX9_obey 42 = .ok (.iconst 0, 1) := by decide +kernel
theorem dX9_obey_43 : decode cX9_obey 43 = .ok (.putfield 138, 3) := by decide +kernel
theorem dX9_obey_46 : decode cX9_obey 46 = .ok (.iconst 0, 1) := by decide +kernel
theorem dX9_obey_47 : decode cX9_obey 47 = .ok (.istore_n 1, 1) := by decide +kernel
theorem dX9_obey_48 : decode cX9_obey 48 = .ok (.aload_n 0, 1) := by decide +kernel
theorem dX9_obey_49 : decode cX9_obey 49 = .ok (.getfield 7, 3) := by decide +kernel
theorem dX9_obey_52 : decode cX9_obey 52 = .ok (.bipush 8, 2) := by decide +kernel
theorem dX9_obey_54 : decode cX9_obey 54 = .ok (.iaload, 1) := by decide +kernel
theorem dX9_obey_55 : decode cX9_obey 55 = .ok (.iconst (-1), 1) := by decide +kernel
theorem dX9_obey_56 : decode cX9_obey 56 = .ok (.if_icmp .ne 55, 3) := by decide +kernel
theorem dX9_obey_59 : decode cX9_obey 59 = .ok (.aload_n 0, 1) := by decide +kernel
theorem dX9_obey_60 : decode cX9_obey 60 = .ok (.invokevirtual 160, 3) := by decide +kernel
theorem dX9_obey_63 : decode cX9_obey 63 = .ok (.ifCond .eq 48, 3) := by decide +kernel
theorem dX9_obey_66 : decode cX9_obey 66 = .ok (.aload_n 0, 1) := by decide +kernel
theorem dX9_obey_67 : decode cX9_obey 67 = .ok (.invokevirtual 167, 3) := by decide +kernel
theorem dX9_obey_70 : decode cX9_obey 70 = .ok (.istore_n 2, 1) := by decide +kernel
theorem dX9_obey_71 : decode cX9_obey 71 = .ok (.iload_n 2, 1) := by decide +kernel
theorem dX9_obey_72 : decode cX9_obey 72 = .ok (.ifCond .le 22, 3) := by decide +kernel
theorem dX9_obey_75 : decode cX9_obey 75 = .ok (.aload_n 0, 1) := by decide +kernel
theorem dX9_obey_76 : decode cX9_obey 76 = .ok (.getfield 7, 3) := by decide +kernel
theorem dX9_obey_79 : decode cX9_obey 79 = .ok (.bipush 8, 2) := by decide +kernel
theorem dX9_obey_81 : decode cX9_obey 81 = .ok (.iload_n 1, 1) := by decide +kernel
theorem dX9_obey_82 : decode cX9_obey 82 = .ok (.iastore, 1) := by decide +kernel
theorem dX9_obey_83 : decode cX9_obey 83 = .ok (.aload_n 0, 1) := by decide +kernel
theorem dX9_obey_84 : decode cX9_obey 84 = .ok (.getfield 7, 3) := by decide +kernel
theorem dX9_obey_87 : decode cX9_obey 87 = .ok (.bipush 9, 2) := by decide +kernel
theorem dX9_obey_89 : decode cX9_obey 89 = .ok (.iload_n 2, 1) := by decide +kernel
theorem dX9_obey_90 : decode cX9_obey 90 = .ok (.iastore, 1) := by decide +kernel
theorem dX9_obey_91 : decode cX9_obey 91 = .ok (.goto 17, 3) := by decide +kernel
theorem dX9_obey_94 : decode cX9_obey 94 = .ok (.aload_n 0, 1) := by decide +kernel
theorem dX9_obey_95 : decode cX9_obey 95 = .ok (.invokevirtual 170, 3) := by decide +kernel
theorem dX9_obey_98 : decode cX9_obey 98 = .ok (.iinc 1 1, 3) := by decide +kernel
theorem dX9_obey_101 : decode cX9_obey 101 = .ok (.aload_n 0, 1) := by decide +kernel
theorem dX9_obey_102 : decode cX9_obey 102 = .ok (.bipush 59, 2) := by decide +kernel
theorem dX9_obey_104 : decode cX9_obey 104 = .ok (.invokevirtual 154, 3) := by decide +kernel
theorem dX9_obey_107 : decode cX9_obey 107 = .ok (.pop, 1) := by decide +kernel
theorem dX9_obey_108 : decode cX9_obey 108 = .ok (.goto (-60), 3) := by decide +kernel
theorem dX9_obey_111 : decode cX9_obey 111 = .ok (.aload_n 0, 1) := by decide +kernel
theorem dX9_obey_112 : decode cX9_obey 112 = .ok (.iconst 0, 1) := by decide +kernel
theorem dX9_obey_113 : decode cX9_obey 113 = .ok (.putfield 135, 3) := by decide +kernel
theorem dX9_obey_116 : decode cX9_obey 116 = .ok (.iload_n 1, 1) := by decide +kernel
theorem dX9_obey_117 : decode cX9_obey 117 = .ok (.ireturn, 1) := by decide +kernel
theorem dX9_stopped_0 : decode cX9_stopped 0 = .ok (.aload_n 0, 1) := by decide +kernel
theorem dX9_stopped_1 : decode cX9_stopped 1 = .ok (.iload_n 1, 1) := by decide +kernel
theorem dX9_stopped_2 : decode cX9_stopped 2 = .ok (.iconst 0, 1) := by decide +kernel
theorem dX9_stopped_3 : decode cX9_stopped 3 = .ok (.iconst 1, 1) := by decide +kernel
theorem dX9_stopped_4 : decode cX9_stopped 4 = .ok (.invokestatic 23, 3) := by decide +kernel
theorem dX9_stopped_7 : decode cX9_stopped 7 = .ok (.ifCond .eq 7, 3) := by decide +kernel
theorem dX9_stopped_10 : decode cX9_stopped 10 = .ok (.iconst 0, 1) := by decide +kernel
theorem dX9_stopped_11 : decode cX9_stopped 11 = .ok (.goto 4, 3) := by decide +kernel
theorem dX9_stopped_14 : decode cX9_stopped 14 = .ok (.iconst 1, 1) := by decide +kernel
theorem dX9_stopped_15 : decode cX9_stopped 15 = .ok (.invokevirtual 94, 3) := by decide +kernel
theorem dX9_stopped_18 : decode cX9_stopped 18 = .ok (.ifCond .eq 15, 3) := by decide +kernel
theorem dX9_stopped_21 : decode cX9_stopped 21 = .ok (.aload_n 0, 1) := by decide +kernel
theorem dX9_stopped_22 : decode cX9_stopped 22 = .ok (.getfield 7, 3) := by decide +kernel
theorem dX9_stopped_25 : decode cX9_stopped 25 = .ok (.bipush 8, 2) := by decide +kernel
theorem dX9_stopped_27 : decode cX9_stopped 27 = .ok (.iload_n 1, 1) := by decide +kernel
theorem dX9_stopped_28 : decode cX9_stopped 28 = .ok (.iadd, 1) := by decide +kernel
theorem dX9_stopped_29 : decode cX9_stopped 29 = .ok (.iaload, 1) := by decide +kernel
theorem dX9_stopped_30 : decode cX9_stopped 30 = .ok (.goto 4, 3) := by decide +kernel
theorem dX9_stopped_33 : decode cX9_stopped 33 = .ok (.iconst 0, 1) := by decide +kernel
theorem dX9_stopped_34 : decode cX9_stopped 34 = .ok (.ireturn, 1) := by decide +kernel
theorem dX9_undo_0 : decode cX9_undo 0 = .ok (.aload_n 0, 1) := by decide +kernel
theorem dX9_undo_1 : decode cX9_undo 1 = .ok (.aload_n 0, 1) := by decide +kernel
theorem dX9_undo_2 : decode cX9_undo 2 = .ok (.getfield 84, 3) := by decide +kernel
theorem dX9_undo_5 : decode cX9_undo 5 = .ok (.ifCond .le 7, 3) := by decide +kernel
theorem dX9_undo_8 : decode cX9_undo 8 = .ok (.iconst 0, 1) := by decide +kernel
theorem dX9_undo_9 : decode cX9_undo 9 = .ok (.goto 4, 3) := by decide +kernel
theorem dX9_undo_12 : decode cX9_undo 12 = .ok (.iconst 1, 1) := by decide +kernel
theorem dX9_undo_13 : decode cX9_undo 13 = .ok (.invokevirtual 94, 3) := by decide +kernel
theorem dX9_undo_16 : decode cX9_undo 16 = .ok (.ifCond .ne 5, 3) := by decide +kernel
theorem dX9_undo_19 : decode cX9_undo 19 = .ok (.iconst 0, 1) := by decide +kernel
theorem dX9_undo_20 : decode cX9_undo 20 = .ok (.ireturn, 1) := by decide +kernel
theorem dX9_undo_21 : decode cX9_undo 21 = .ok (.aload_n 0, 1) := by decide +kernel
theorem dX9_undo_22 : decode cX9_undo 22 = .ok (.aload_n 0, 1) := by decide +kernel
theorem dX9_undo_23 : decode cX9_undo 23 = .ok (.getfield 84, 3) := by decide +kernel
theorem dX9_undo_26 : decode cX9_undo 26 = .ok (.iconst 0, 1) := by decide +kernel
theorem dX9_undo_27 : decode cX9_undo 27 = .ok (.invokevirtual 87, 3) := by decide +kernel
theorem dX9_undo_30 : decode cX9_undo 30 = .ok (.aload_n 0, 1) := by decide +kernel
theorem dX9_undo_31 : decode cX9_undo 31 = .ok (.dup, 1) := by decide +kernel
theorem dX9_undo_32 : decode cX9_undo 32 = .ok (.getfield 84, 3) := by decide +kernel
theorem dX9_undo_35 : decode cX9_undo 35 = .ok (.iconst 1, 1) := by decide +kernel
theorem dX9_undo_36 : decode cX9_undo 36 = .ok (.isub, 1) := by decide +kernel
theorem dX9_undo_37 : decode cX9_undo 37 = .ok (.putfield 84, 3) := by decide +kernel
theorem dX9_undo_40 : decode cX9_undo 40 = .ok (.aload_n 0, 1) := by decide +kernel
theorem dX9_undo_41 : decode cX9_undo 41 = .ok (.getfield 84, 3) := by decide +kernel
theorem dX9_undo_44 : decode cX9_undo 44 = .ok (.ireturn, 1) := by decide +kernel
theorem dX9_keep_0 : decode cX9_keep 0 = .ok (.aload_n 0, 1) := by decide +kernel
theorem dX9_keep_1 : decode cX9_keep 1 = .ok (.iconst 0, 1) := by decide +kernel
theorem dX9_keep_2 : decode cX9_keep 2 = .ok (.putfield 19, 3) := by decide +kernel
theorem dX9_keep_5 : decode cX9_keep 5 = .ok (.aload_n 0, 1) := by decide +kernel
theorem dX9_keep_6 : decode cX9_keep 6 = .ok (.iconst 0, 1) := by decide +kernel
theorem dX9_keep_7 : decode cX9_keep 7 = .ok (.bipush 7, 2) := by decide +kernel
theorem dX9_keep_9 : decode cX9_keep 9 = .ok (.invokevirtual 87, 3) := by decide +kernel
theorem dX9_keep_12 : decode cX9_keep 12 = .ok (.aload_n 0, 1) := by decide +kernel
theorem dX9_keep_13 : decode cX9_keep 13 = .ok (.iconst 1, 1) := by decide +kernel
theorem dX9_keep_14 : decode cX9_keep 14 = .ok (.putfield 173, 3) := by decide +kernel
theorem dX9_keep_17 : decode cX9_keep 17 = .ok (.aload_n 0, 1) := by decide +kernel
theorem dX9_keep_18 : decode cX9_keep 18 = .ok (.getfield 7, 3) := by decide +kernel
theorem dX9_keep_21 : decode cX9_keep 21 = .ok (.iconst 1, 1) := by decide +kernel
theorem dX9_keep_22 : decode cX9_keep 22 = .ok (.iaload, 1) := by decide +kernel
theorem dX9_keep_23 : decode cX9_keep 23 = .ok (.ireturn, 1) := by decide +kernel
theorem dX9_restore_0 : decode cX9_restore 0 = .ok (.aload_n 0, 1) := by decide +kernel
theorem dX9_restore_1 : decode cX9_restore 1 = .ok (.aload_n 0, 1) := by decide +kernel
theorem dX9_restore_2 : decode cX9_restore 2 = .ok (.getfield 173, 3) := by decide +kernel
theorem dX9_restore_5 : decode cX9_restore 5 = .ok (.ifCond .eq 7, 3) := by decide +kernel
theorem dX9_restore_8 : decode cX9_restore 8 = .ok (.iconst 0, 1) := by decide +kernel
theorem dX9_restore_9 : decode cX9_restore 9 = .ok (.goto 4, 3) := by decide +kernel
theorem dX9_restore_12 : decode cX9_restore 12 = .ok (.iconst 1, 1) := by decide +kernel
theorem dX9_restore_13 : decode cX9_restore 13 = .ok (.invokevirtual 94, 3) := by decide +kernel
theorem dX9_restore_16 : decode cX9_restore 16 = .ok (.ifCond .ne 5, 3) := by decide +kernel
theorem dX9_restore_19 : decode cX9_restore 19 = .ok (.iconst 0, 1) := by decide +kernel
theorem dX9_restore_20 : decode cX9_restore 20 = .ok (.ireturn, 1) := by decide +kernel
theorem dX9_restore_21 : decode cX9_restore 21 = .ok (.aload_n 0, 1) := by decide +kernel
theorem dX9_restore_22 : decode cX9_restore 22 = .ok (.invokevirtual 91, 3) := by decide +kernel
theorem dX9_restore_25 : decode cX9_restore 25 = .ok (.aload_n 0, 1) := by decide +kernel
theorem dX9_restore_26 : decode cX9_restore 26 = .ok (.bipush 7, 2) := by decide +kernel
theorem dX9_restore_28 : decode cX9_restore 28 = .ok (.iconst 0, 1) := by decide +kernel
theorem dX9_restore_29 : decode cX9_restore 29 = .ok (.invokevirtual 87, 3) := by decide +kernel
theorem dX9_restore_32 : decode cX9_restore 32 = .ok (.aload_n 0, 1) := by decide +kernel
theorem dX9_restore_33 : decode cX9_restore 33 = .ok (.getfield 7, 3) := by decide +kernel
theorem dX9_restore_36 : decode cX9_restore 36 = .ok (.iconst 1, 1) := by decide +kernel
theorem dX9_restore_37 : decode cX9_restore 37 = .ok (.iaload, 1) := by decide +kernel
theorem dX9_restore_38 : decode cX9_restore 38 = .ok (.ireturn, 1) := by decide +kernel
theorem dX9_ofDrum_0 : decode cX9_ofDrum 0 = .ok (.iload_n 2, 1) := by decide +kernel
theorem dX9_ofDrum_1 : decode cX9_ofDrum 1 = .ok (.tableswitch 82 2 8 #[43, 49, 55, 62, 69, 69, 75], 43) := by decide +kernel
theorem dX9_ofDrum_44 : decode cX9_ofDrum 44 = .ok (.aload_n 0, 1) := by decide +kernel
theorem dX9_ofDrum_45 : decode cX9_ofDrum 45 = .ok (.iload_n 1, 1) := by decide +kernel
theorem dX9_ofDrum_46 : decode cX9_ofDrum 46 = .ok (.invokevirtual 81, 3) := by decide +kernel
theorem dX9_ofDrum_49 : decode cX9_ofDrum 49 = .ok (.ireturn, 1) := by decide +kernel
theorem dX9_ofDrum_50 : decode cX9_ofDrum 50 = .ok (.aload_n 0, 1) := by decide +kernel
theorem dX9_ofDrum_51 : decode cX9_ofDrum 51 = .ok (.iload_n 1, 1) := by decide +kernel
theorem dX9_ofDrum_52 : decode cX9_ofDrum 52 = .ok (.invokevirtual 177, 3) := by decide +kernel
theorem dX9_ofDrum_55 : decode cX9_ofDrum 55 = .ok (.ireturn, 1) := by decide +kernel
theorem dX9_ofDrum_56 : decode cX9_ofDrum 56 = .ok (.aload_n 0, 1) := by decide +kernel
theorem dX9_ofDrum_57 : decode cX9_ofDrum 57 = .ok (.iload_n 1, 1) := by decide +kernel
theorem dX9_ofDrum_58 : decode cX9_ofDrum 58 = .ok (.iconst 1, 1) := by decide +kernel
theorem dX9_ofDrum_59 : decode cX9_ofDrum 59 = .ok (.invokevirtual 72, 3) := by decide +kernel
theorem dX9_ofDrum_62 : decode cX9_ofDrum 62 = .ok (.ireturn, 1) := by decide +kernel
theorem dX9_ofDrum_63 : decode cX9_ofDrum 63 = .ok (.aload_n 0, 1) := by decide +kernel
theorem dX9_ofDrum_64 : decode cX9_ofDrum 64 = .ok (.iload_n 1, 1) := by decide +kernel
theorem dX9_ofDrum_65 : decode cX9_ofDrum 65 = .ok (.iconst 0, 1) := by decide +kernel
theorem dX9_ofDrum_66 : decode cX9_ofDrum 66 = .ok (.invokevirtual 72, 3) := by decide +kernel
theorem dX9_ofDrum_69 : decode cX9_ofDrum 69 = .ok (.ireturn, 1) := by decide +kernel
theorem dX9_ofDrum_70 : decode cX9_ofDrum 70 = .ok (.aload_n 0, 1) := by decide +kernel
theorem dX9_ofDrum_71 : decode cX9_ofDrum 71 = .ok (.iload_n 1, 1) := by decide +kernel
theorem dX9_ofDrum_72 : decode cX9_ofDrum 72 = .ok (.invokevirtual 78, 3) := by decide +kernel
theorem dX9_ofDrum_75 : decode cX9_ofDrum 75 = .ok (.ireturn, 1) := by decide +kernel
theorem dX9_ofDrum_76 : decode cX9_ofDrum 76 = .ok (.aload_n 0, 1) := by decide +kernel
theorem dX9_ofDrum_77 : decode cX9_ofDrum 77 = .ok (.iload_n 1, 1) := by decide +kernel
theorem dX9_ofDrum_78 : decode cX9_ofDrum 78 = .ok (.iconst 2, 1) := by decide +kernel
theorem dX9_ofDrum_79 : decode cX9_ofDrum 79 = .ok (.invokevirtual 62, 3) := by decide +kernel
theorem dX9_ofDrum_82 : decode cX9_ofDrum 82 = .ok (.ireturn, 1) := by decide +kernel
theorem dX9_ofDrum_83 : decode cX9_ofDrum 83 = .ok (.aload_n 0, 1) := by decide +kernel
theorem dX9_ofDrum_84 : decode cX9_ofDrum 84 = .ok (.iload_n 1, 1) := by decide +kernel
theorem dX9_ofDrum_85 : decode cX9_ofDrum 85 = .ok (.iload_n 2, 1) := by decide +kernel
theorem dX9_ofDrum_86 : decode cX9_ofDrum 86 = .ok (.invokevirtual 62, 3) := by decide +kernel
theorem dX9_ofDrum_89 : decode cX9_ofDrum 89 = .ok (.ireturn, 1) := by decide +kernel
theorem dX9_drumOf_0 : decode cX9_drumOf 0 = .ok (.aload_n 0, 1) := by decide +kernel
theorem dX9_drumOf_1 : decode cX9_drumOf 1 = .ok (.aload_n 0, 1) := by decide +kernel
theorem dX9_drumOf_2 : decode cX9_drumOf 2 = .ok (.iload_n 1, 1) := by decide +kernel
theorem dX9_drumOf_3 : decode cX9_drumOf 3 = .ok (.invokevirtual 98, 3) := by decide +kernel
theorem dX9_drumOf_6 : decode cX9_drumOf 6 = .ok (.ifCond .ne 7, 3) := by decide +kernel
theorem dX9_drumOf_9 : decode cX9_drumOf 9 = .ok (.iconst 1, 1) := by decide +kernel
theorem dX9_drumOf_10 : decode cX9_drumOf 10 = .ok (.goto 18, 3) := by decide +kernel
theorem dX9_drumOf_13 : decode cX9_drumOf 13 = .ok (.iload_n 2, 1) := by decide +kernel
theorem dX9_drumOf_14 : decode cX9_drumOf 14 = .ok (.iconst 0, 1) := by decide +kernel
theorem dX9_drumOf_15 : decode cX9_drumOf 15 = .ok (.bipush 8, 2) := by decide +kernel
theorem dX9_drumOf_17 : decode cX9_drumOf 17 = .ok (.invokestatic 23, 3) := by decide +kernel
theorem dX9_drumOf_20 : decode cX9_drumOf 20 = .ok (.ifCond .ne 7, 3) := by decide +kernel
theorem dX9_drumOf_23 : decode cX9_drumOf 23 = .ok (.iconst 2, 1) := by decide +kernel
theorem dX9_drumOf_24 : decode cX9_drumOf 24 = .ok (.goto 4, 3) := by decide +kernel
theorem dX9_drumOf_27 : decode cX9_drumOf 27 = .ok (.iconst 0, 1) := by decide +kernel
theorem dX9_drumOf_28 : decode cX9_drumOf 28 = .ok (.invokevirtual 94, 3) := by decide +kernel
theorem dX9_drumOf_31 : decode cX9_drumOf 31 = .ok (.ifCond .eq 12, 3) := by decide +kernel
theorem dX9_drumOf_34 : decode cX9_drumOf 34 = .ok (.aload_n 0, 1) := by decide +kernel
theorem dX9_drumOf_35 : decode cX9_drumOf 35 = .ok (.iload_n 1, 1) := by decide +kernel
theorem dX9_drumOf_36 : decode cX9_drumOf 36 = .ok (.iload_n 2, 1) := by decide +kernel
theorem dX9_drumOf_37 : decode cX9_drumOf 37 = .ok (.invokevirtual 180, 3) := by decide +kernel
theorem dX9_drumOf_40 : decode cX9_drumOf 40 = .ok (.goto 4, 3) := by decide +kernel
theorem dX9_drumOf_43 : decode cX9_drumOf 43 = .ok (.iconst 0, 1) := by decide +kernel
theorem dX9_drumOf_44 : decode cX9_drumOf 44 = .ok (.ireturn, 1) := by decide +kernel
theorem dX9_ofSample_0 : decode cX9_ofSample 0 = .ok (.iload_n 2, 1) := by decide +kernel
theorem dX9_ofSample_1 : decode cX9_ofSample 1 = .ok (.tableswitch 67 4 8 #[35, 42, 48, 54, 61], 35) := by decide +kernel
theorem dX9_ofSample_36 : decode cX9_ofSample 36 = .ok (.aload_n 0, 1) := by decide +kernel
theorem dX9_ofSample_37 : decode cX9_ofSample 37 = .ok (.iload_n 1, 1) := by decide +kernel
theorem dX9_ofSample_38 : decode cX9_ofSample 38 = .ok (.iconst 5, 1) := by decide +kernel
theorem dX9_ofSample_39 : decode cX9_ofSample 39 = .ok (.invokevirtual 31, 3) := by decide +kernel
theorem dX9_ofSample_42 : decode cX9_ofSample 42 = .ok (.ireturn, 1) := by decide +kernel
theorem dX9_ofSample_43 : decode cX9_ofSample 43 = .ok (.aload_n 0, 1) := by decide +kernel
theorem dX9_ofSample_44 : decode cX9_ofSample 44 = .ok (.iload_n 1, 1) := by decide +kernel
theorem dX9_ofSample_45 : decode cX9_ofSample 45 = .ok (.invokevirtual 65, 3) := by decide +kernel
theorem dX9_ofSample_48 : decode cX9_ofSample 48 = .ok (.ireturn, 1) := by decide +kernel
theorem dX9_ofSample_49 : decode cX9_ofSample 49 = .ok (.aload_n 0, 1) := by decide +kernel
theorem dX9_ofSample_50 : decode cX9_ofSample 50 = .ok (.iload_n 1, 1) := by decide +kernel
theorem dX9_ofSample_51 : decode cX9_ofSample 51 = .ok (.invokevirtual 59, 3) := by decide +kernel
theorem dX9_ofSample_54 : decode cX9_ofSample 54 = .ok (.ireturn, 1) := by decide +kernel
theorem dX9_ofSample_55 : decode cX9_ofSample 55 = .ok (.aload_n 0, 1) := by decide +kernel
theorem dX9_ofSample_56 : decode cX9_ofSample 56 = .ok (.iload_n 1, 1) := by decide +kernel
theorem dX9_ofSample_57 : decode cX9_ofSample 57 = .ok (.iconst 4, 1) := by decide +kernel
theorem dX9_ofSample_58 : decode cX9_ofSample 58 = .ok (.invokevirtual 31, 3) := by decide +kernel
theorem dX9_ofSample_61 : decode cX9_ofSample 61 = .ok (.ireturn, 1) := by decide +kernel
theorem dX9_ofSample_62 : decode cX9_ofSample 62 = .ok (.aload_n 0, 1) := by decide +kernel
theorem dX9_ofSample_63 : decode cX9_ofSample 63 = .ok (.iload_n 1, 1) := by decide +kernel
theorem dX9_ofSample_64 : decode cX9_ofSample 64 = .ok (.invokevirtual 75, 3) := by decide +kernel
theorem dX9_ofSample_67 : decode cX9_ofSample 67 = .ok (.ireturn, 1) := by decide +kernel
theorem dX9_ofSample_68 : decode cX9_ofSample 68 = .ok (.aload_n 0, 1) := by decide +kernel
theorem dX9_ofSample_69 : decode cX9_ofSample 69 = .ok (.iload_n 1, 1) := by decide +kernel
theorem dX9_ofSample_70 : decode cX9_ofSample 70 = .ok (.iload_n 2, 1) := by decide +kernel
theorem dX9_ofSample_71 : decode cX9_ofSample 71 = .ok (.invokevirtual 31, 3) := by decide +kernel
theorem dX9_ofSample_74 : decode cX9_ofSample 74 = .ok (.ireturn, 1) := by decide +kernel
theorem dX9_sampleOf_0 : decode cX9_sampleOf 0 = .ok (.aload_n 0, 1) := by decide +kernel
theorem dX9_sampleOf_1 : decode cX9_sampleOf 1 = .ok (.aload_n 0, 1) := by decide +kernel
theorem dX9_sampleOf_2 : decode cX9_sampleOf 2 = .ok (.iload_n 1, 1) := by decide +kernel
theorem dX9_sampleOf_3 : decode cX9_sampleOf 3 = .ok (.invokevirtual 104, 3) := by decide +kernel
theorem dX9_sampleOf_6 : decode cX9_sampleOf 6 = .ok (.ifCond .ne 7, 3) := by decide +kernel
theorem dX9_sampleOf_9 : decode cX9_sampleOf 9 = .ok (.iconst 1, 1) := by decide +kernel
theorem dX9_sampleOf_10 : decode cX9_sampleOf 10 = .ok (.goto 18, 3) := by decide +kernel
theorem dX9_sampleOf_13 : decode cX9_sampleOf 13 = .ok (.iload_n 2, 1) := by decide +kernel
theorem dX9_sampleOf_14 : decode cX9_sampleOf 14 = .ok (.iconst 0, 1) := by decide +kernel
theorem dX9_sampleOf_15 : decode cX9_sampleOf 15 = .ok (.bipush 8, 2) := by decide +kernel
theorem dX9_sampleOf_17 : decode cX9_sampleOf 17 = .ok (.invokestatic 23, 3) := by decide +kernel
theorem dX9_sampleOf_20 : decode cX9_sampleOf 20 = .ok (.ifCond .ne 7, 3) := by decide +kernel
theorem dX9_sampleOf_23 : decode cX9_sampleOf 23 = .ok (.iconst 2, 1) := by decide +kernel
theorem dX9_sampleOf_24 : decode cX9_sampleOf 24 = .ok (.goto 4, 3) := by decide +kernel
theorem dX9_sampleOf_27 : decode cX9_sampleOf 27 = .ok (.iconst 0, 1) := by decide +kernel
theorem dX9_sampleOf_28 : decode cX9_sampleOf 28 = .ok (.invokevirtual 94, 3) := by decide +kernel
theorem dX9_sampleOf_31 : decode cX9_sampleOf 31 = .ok (.ifCond .eq 12, 3) := by decide +kernel
theorem dX9_sampleOf_34 : decode cX9_sampleOf 34 = .ok (.aload_n 0, 1) := by decide +kernel
theorem dX9_sampleOf_35 : decode cX9_sampleOf 35 = .ok (.iload_n 1, 1) := by decide +kernel
theorem dX9_sampleOf_36 : decode cX9_sampleOf 36 = .ok (.iload_n 2, 1) := by decide +kernel
theorem dX9_sampleOf_37 : decode cX9_sampleOf 37 = .ok (.invokevirtual 183, 3) := by decide +kernel
theorem dX9_sampleOf_40 : decode cX9_sampleOf 40 = .ok (.goto 4, 3) := by decide +kernel
theorem dX9_sampleOf_43 : decode cX9_sampleOf 43 = .ok (.iconst 0, 1) := by decide +kernel
theorem dX9_sampleOf_44 : decode cX9_sampleOf 44 = .ok (.ireturn, 1) := by decide +kernel
theorem dX9_reading_0 : decode cX9_reading 0 = .ok (.aload_n 0, 1) := by decide +kernel
theorem dX9_reading_1 : decode cX9_reading 1 = .ok (.aload_n 0, 1) := by decide +kernel
theorem dX9_reading_2 : decode cX9_reading 2 = .ok (.iload_n 1, 1) := by decide +kernel
theorem dX9_reading_3 : decode cX9_reading 3 = .ok (.invokevirtual 104, 3) := by decide +kernel
theorem dX9_reading_6 : decode cX9_reading 6 = .ok (.ifCond .ne 7, 3) := by decide +kernel
theorem dX9_reading_9 : decode cX9_reading 9 = .ok (.iconst 1, 1) := by decide +kernel
theorem dX9_reading_10 : decode cX9_reading 10 = .ok (.goto 21, 3) := by decide +kernel
theorem dX9_reading_13 : decode cX9_reading 13 = .ok (.iload_n 2, 1) := by decide +kernel
theorem dX9_reading_14 : decode cX9_reading 14 = .ok (.ifCond .lt 12, 3) := by decide +kernel
theorem dX9_reading_17 : decode cX9_reading 17 = .ok (.iload_n 3, 1) := by decide +kernel
theorem dX9_reading_18 : decode cX9_reading 18 = .ok (.iconst 0, 1) := by decide +kernel
theorem dX9_reading_19 : decode cX9_reading 19 = .ok (.iconst 3, 1) := by decide +kernel
theorem dX9_reading_20 : decode cX9_reading 20 = .ok (.invokestatic 23, 3) := by decide +kernel
theorem dX9_reading_23 : decode cX9_reading 23 = .ok (.ifCond .ne 7, 3) := by decide +kernel
theorem dX9_reading_26 : decode cX9_reading 26 = .ok (.iconst 2, 1) := by decide +kernel
theorem dX9_reading_27 : decode cX9_reading 27 = .ok (.goto 4, 3) := by decide +kernel
theorem dX9_reading_30 : decode cX9_reading 30 = .ok (.iconst 0, 1) := by decide +kernel
theorem dX9_reading_31 : decode cX9_reading 31 = .ok (.invokevirtual 94, 3) := by decide +kernel
theorem dX9_reading_34 : decode cX9_reading 34 = .ok (.ifCond .ne 5, 3) := by decide +kernel
theorem dX9_reading_37 : decode cX9_reading 37 = .ok (.iconst 0, 1) := by decide +kernel
theorem dX9_reading_38 : decode cX9_reading 38 = .ok (.ireturn, 1) := by decide +kernel
theorem dX9_reading_39 : decode cX9_reading 39 = .ok (.iload_n 2, 1) := by decide +kernel
theorem dX9_reading_40 : decode cX9_reading 40 = .ok (.aload_n 0, 1) := by decide +kernel
theorem dX9_reading_41 : decode cX9_reading 41 = .ok (.iload_n 1, 1) := by decide +kernel
theorem dX9_reading_42 : decode cX9_reading 42 = .ok (.iconst 5, 1) := by decide +kernel
theorem dX9_reading_43 : decode cX9_reading 43 = .ok (.invokevirtual 31, 3) := by decide +kernel
theorem dX9_reading_46 : decode cX9_reading 46 = .ok (.if_icmp .ge 19, 3) := by decide +kernel
theorem dX9_reading_49 : decode cX9_reading 49 = .ok (.aload_n 0, 1) := by decide +kernel
theorem dX9_reading_50 : decode cX9_reading 50 = .ok (.iload_n 1, 1) := by decide +kernel
theorem dX9_reading_51 : decode cX9_reading 51 = .ok (.bipush 6, 2) := by decide +kernel
theorem dX9_reading_53 : decode cX9_reading 53 = .ok (.iconst 4, 1) := by decide +kernel
theorem dX9_reading_54 : decode cX9_reading 54 = .ok (.iload_n 2, 1) := by decide +kernel
theorem dX9_reading_55 : decode cX9_reading 55 = .ok (.imul, 1) := by decide +kernel
theorem dX9_reading_56 : decode cX9_reading 56 = .ok (.iadd, 1) := by decide +kernel
theorem dX9_reading_57 : decode cX9_reading 57 = .ok (.iload_n 3, 1) := by decide +kernel
theorem dX9_reading_58 : decode cX9_reading 58 = .ok (.iadd, 1) := by decide +kernel
theorem dX9_reading_59 : decode cX9_reading 59 = .ok (.invokevirtual 31, 3) := by decide +kernel
theorem dX9_reading_62 : decode cX9_reading 62 = .ok (.goto 4, 3) := by decide +kernel
theorem dX9_reading_65 : decode cX9_reading 65 = .ok (.iconst (-1), 1) := by decide +kernel
theorem dX9_reading_66 : decode cX9_reading 66 = .ok (.ireturn, 1) := by decide +kernel
theorem dX9_needle_0 : decode cX9_needle 0 = .ok (.aload_n 0, 1) := by decide +kernel
theorem dX9_needle_1 : decode cX9_needle 1 = .ok (.iload_n 1, 1) := by decide +kernel
theorem dX9_needle_2 : decode cX9_needle 2 = .ok (.invokestatic 107, 3) := by decide +kernel
theorem dX9_needle_5 : decode cX9_needle 5 = .ok (.ifCond .ne 7, 3) := by decide +kernel
theorem dX9_needle_8 : decode cX9_needle 8 = .ok (.iconst 1, 1) := by decide +kernel
theorem dX9_needle_9 : decode cX9_needle 9 = .ok (.goto 17, 3) := by decide +kernel
theorem dX9_needle_12 : decode cX9_needle 12 = .ok (.iload_n 2, 1) := by decide +kernel
theorem dX9_needle_13 : decode cX9_needle 13 = .ok (.iconst 0, 1) := by decide +kernel
theorem dX9_needle_14 : decode cX9_needle 14 = .ok (.iconst 2, 1) := by decide +kernel
theorem dX9_needle_15 : decode cX9_needle 15 = .ok (.invokestatic 23, 3) := by decide +kernel
theorem dX9_needle_18 : decode cX9_needle 18 = .ok (.ifCond .ne 7, 3) := by decide +kernel
theorem dX9_needle_21 : decode cX9_needle 21 = .ok (.iconst 2, 1) := by decide +kernel
theorem dX9_needle_22 : decode cX9_needle 22 = .ok (.goto 4, 3) := by decide +kernel
theorem dX9_needle_25 : decode cX9_needle 25 = .ok (.iconst 0, 1) := by decide +kernel
theorem dX9_needle_26 : decode cX9_needle 26 = .ok (.invokevirtual 94, 3) := by decide +kernel
theorem dX9_needle_29 : decode cX9_needle 29 = .ok (.ifCond .eq 12, 3) := by decide +kernel
theorem dX9_needle_32 : decode cX9_needle 32 = .ok (.aload_n 0, 1) := by decide +kernel
theorem dX9_needle_33 : decode cX9_needle 33 = .ok (.iload_n 1, 1) := by decide +kernel
theorem dX9_needle_34 : decode cX9_needle 34 = .ok (.iload_n 2, 1) := by decide +kernel
theorem dX9_needle_35 : decode cX9_needle 35 = .ok (.invokevirtual 48, 3) := by decide +kernel
theorem dX9_needle_38 : decode cX9_needle 38 = .ok (.goto 4, 3) := by decide +kernel
theorem dX9_needle_41 : decode cX9_needle 41 = .ok (.iconst 0, 1) := by decide +kernel
theorem dX9_needle_42 : decode cX9_needle 42 = .ok (.ireturn, 1) := by decide +kernel
theorem dX9_farthest_0 : decode cX9_farthest 0 = .ok (.iconst (-1), 1) := by decide +kernel
theorem dX9_farthest_1 : decode cX9_farthest 1 = .ok (.istore_n 2, 1) := by decide +kernel
theorem dX9_farthest_2 : decode cX9_farthest 2 = .ok (.iconst 0, 1) := by decide +kernel
theorem dX9_farthest_3 : decode cX9_farthest 3 = .ok (.istore_n 3, 1) := by decide +kernel
theorem dX9_farthest_4 : decode cX9_farthest 4 = .ok (.iload_n 3, 1) := by decide +kernel
theorem dX9_farthest_5 : decode cX9_farthest 5 = .ok (.aload_n 0, 1) := by decide +kernel
theorem dX9_farthest_6 : decode cX9_farthest 6 = .ok (.getfield 7, 3) := by decide +kernel
theorem dX9_farthest_9 : decode cX9_farthest 9 = .ok (.iconst 1, 1) := by decide +kernel
theorem dX9_farthest_10 : decode cX9_farthest 10 = .ok (.iaload, 1) := by decide +kernel
theorem dX9_farthest_11 : decode cX9_farthest 11 = .ok (.if_icmp .ge 53, 3) := by decide +kernel
theorem dX9_farthest_14 : decode cX9_farthest 14 = .ok (.aload_n 0, 1) := by decide +kernel
theorem dX9_farthest_15 : decode cX9_farthest 15 = .ok (.iload_n 3, 1) := by decide +kernel
theorem dX9_farthest_16 : decode cX9_farthest 16 = .ok (.iconst 2, 1) := by decide +kernel
theorem dX9_farthest_17 : decode cX9_farthest 17 = .ok (.invokevirtual 31, 3) := by decide +kernel
theorem dX9_farthest_20 : decode cX9_farthest 20 = .ok (.aload_n 0, 1) := by decide +kernel
theorem dX9_farthest_21 : decode cX9_farthest 21 = .ok (.getfield 7, 3) := by decide +kernel
theorem dX9_farthest_24 : decode cX9_farthest 24 = .ok (.bipush 28, 2) := by decide +kernel
theorem dX9_farthest_26 : decode cX9_farthest 26 = .ok (.iload_n 1, 1) := by decide +kernel
theorem dX9_farthest_27 : decode cX9_farthest 27 = .ok (.iadd, 1) := by decide +kernel
theorem dX9_farthest_28 : decode cX9_farthest 28 = .ok (.iaload, 1) := by decide +kernel
theorem dX9_farthest_29 : decode cX9_farthest 29 = .ok (.isub, 1) := by decide +kernel
theorem dX9_farthest_30 : decode cX9_farthest 30 = .ok (.invokestatic 45, 3) := by decide +kernel
theorem dX9_farthest_33 : decode cX9_farthest 33 = .ok (.istore 4, 2) := by decide +kernel
theorem dX9_farthest_35 : decode cX9_farthest 35 = .ok (.aload_n 0, 1) := by decide +kernel
theorem dX9_farthest_36 : decode cX9_farthest 36 = .ok (.iload_n 3, 1) := by decide +kernel
theorem dX9_farthest_37 : decode cX9_farthest 37 = .ok (.iconst 3, 1) := by decide +kernel
theorem dX9_farthest_38 : decode cX9_farthest 38 = .ok (.invokevirtual 31, 3) := by decide +kernel
theorem dX9_farthest_41 : decode cX9_farthest 41 = .ok (.iload_n 1, 1) := by decide +kernel
theorem dX9_farthest_42 : decode cX9_farthest 42 = .ok (.if_icmp .ne 14, 3) := by decide +kernel
theorem dX9_farthest_45 : decode cX9_farthest 45 = .ok (.iload 4, 2) := by decide +kernel
theorem dX9_farthest_47 : decode cX9_farthest 47 = .ok (.iload_n 2, 1) := by decide +kernel
theorem dX9_farthest_48 : decode cX9_farthest 48 = .ok (.if_icmp .le 8, 3) := by decide +kernel
theorem dX9_farthest_51 : decode cX9_farthest 51 = .ok (.iload 4, 2) := by decide +kernel
theorem dX9_farthest_53 : decode cX9_farthest 53 = .ok (.goto 4, 3) := by decide +kernel
theorem dX9_farthest_56 : decode cX9_farthest 56 = .ok (.iload_n 2, 1) := by decide +kernel
theorem dX9_farthest_57 : decode cX9_farthest 57 = .ok (.istore_n 2, 1) := by decide +kernel
theorem dX9_farthest_58 : decode cX9_farthest 58 = .ok (.iinc 3 1, 3) := by decide +kernel
theorem dX9_farthest_61 : decode cX9_farthest 61 = .ok (.goto (-57), 3) := by decide +kernel
theorem dX9_farthest_64 : decode cX9_farthest 64 = .ok (.iload_n 2, 1) := by decide +kernel
theorem dX9_farthest_65 : decode cX9_farthest 65 = .ok (.ireturn, 1) := by decide +kernel
theorem dX9_ofBath_0 : decode cX9_ofBath 0 = .ok (.iload_n 2, 1) := by decide +kernel
theorem dX9_ofBath_1 : decode cX9_ofBath 1 = .ok (.ifCond .ne 15, 3) := by decide +kernel
theorem dX9_ofBath_4 : decode cX9_ofBath 4 = .ok (.aload_n 0, 1) := by decide +kernel
theorem dX9_ofBath_5 : decode cX9_ofBath 5 = .ok (.getfield 7, 3) := by decide +kernel
theorem dX9_ofBath_8 : decode cX9_ofBath 8 = .ok (.bipush 28, 2) := by decide +kernel
theorem dX9_ofBath_10 : decode cX9_ofBath 10 = .ok (.iload_n 1, 1) := by decide +kernel
theorem dX9_ofBath_11 : decode cX9_ofBath 11 = .ok (.iadd, 1) := by decide +kernel
theorem dX9_ofBath_12 : decode cX9_ofBath 12 = .ok (.iaload, 1) := by decide +kernel
theorem dX9_ofBath_13 : decode cX9_ofBath 13 = .ok (.goto 21, 3) := by decide +kernel
theorem dX9_ofBath_16 : decode cX9_ofBath 16 = .ok (.iload_n 2, 1) := by decide +kernel
theorem dX9_ofBath_17 : decode cX9_ofBath 17 = .ok (.iconst 1, 1) := by decide +kernel
theorem dX9_ofBath_18 : decode cX9_ofBath 18 = .ok (.if_icmp .ne 11, 3) := by decide +kernel
theorem dX9_ofBath_21 : decode cX9_ofBath 21 = .ok (.aload_n 0, 1) := by decide +kernel
theorem dX9_ofBath_22 : decode cX9_ofBath 22 = .ok (.iload_n 1, 1) := by decide +kernel
theorem dX9_ofBath_23 : decode cX9_ofBath 23 = .ok (.invokevirtual 34, 3) := by decide +kernel
theorem dX9_ofBath_26 : decode cX9_ofBath 26 = .ok (.goto 8, 3) := by decide +kernel
theorem dX9_ofBath_29 : decode cX9_ofBath 29 = .ok (.aload_n 0, 1) := by decide +kernel
theorem dX9_ofBath_30 : decode cX9_ofBath 30 = .ok (.iload_n 1, 1) := by decide +kernel
theorem dX9_ofBath_31 : decode cX9_ofBath 31 = .ok (.invokevirtual 186, 3) := by decide +kernel
theorem dX9_ofBath_34 : decode cX9_ofBath 34 = .ok (.ireturn, 1) := by decide +kernel
theorem dX9_bathOf_0 : decode cX9_bathOf 0 = .ok (.aload_n 0, 1) := by decide +kernel
theorem dX9_bathOf_1 : decode cX9_bathOf 1 = .ok (.iload_n 1, 1) := by decide +kernel
theorem dX9_bathOf_2 : decode cX9_bathOf 2 = .ok (.invokestatic 107, 3) := by decide +kernel
theorem dX9_bathOf_5 : decode cX9_bathOf 5 = .ok (.ifCond .ne 7, 3) := by decide +kernel
theorem dX9_bathOf_8 : decode cX9_bathOf 8 = .ok (.iconst 1, 1) := by decide +kernel
theorem dX9_bathOf_9 : decode cX9_bathOf 9 = .ok (.goto 17, 3) := by decide +kernel
theorem dX9_bathOf_12 : decode cX9_bathOf 12 = .ok (.iload_n 2, 1) := by decide +kernel
theorem dX9_bathOf_13 : decode cX9_bathOf 13 = .ok (.iconst 0, 1) := by decide +kernel
theorem dX9_bathOf_14 : decode cX9_bathOf 14 = .ok (.iconst 2, 1) := by decide +kernel
theorem dX9_bathOf_15 : decode cX9_bathOf 15 = .ok (.invokestatic 23, 3) := by decide +kernel
theorem dX9_bathOf_18 : decode cX9_bathOf 18 = .ok (.ifCond .ne 7, 3) := by decide +kernel
theorem dX9_bathOf_21 : decode cX9_bathOf 21 = .ok (.iconst 2, 1) := by decide +kernel
theorem dX9_bathOf_22 : decode cX9_bathOf 22 = .ok (.goto 4, 3) := by decide +kernel
theorem dX9_bathOf_25 : decode cX9_bathOf 25 = .ok (.iconst 0, 1) := by decide +kernel
theorem dX9_bathOf_26 : decode cX9_bathOf 26 = .ok (.invokevirtual 94, 3) := by decide +kernel
theorem dX9_bathOf_29 : decode cX9_bathOf 29 = .ok (.ifCond .eq 12, 3) := by decide +kernel
theorem dX9_bathOf_32 : decode cX9_bathOf 32 = .ok (.aload_n 0, 1) := by decide +kernel
theorem dX9_bathOf_33 : decode cX9_bathOf 33 = .ok (.iload_n 1, 1) := by decide +kernel
theorem dX9_bathOf_34 : decode cX9_bathOf 34 = .ok (.iload_n 2, 1) := by decide +kernel
theorem dX9_bathOf_35 : decode cX9_bathOf 35 = .ok (.invokevirtual 189, 3) := by decide +kernel
theorem dX9_bathOf_38 : decode cX9_bathOf 38 = .ok (.goto 4, 3) := by decide +kernel
theorem dX9_bathOf_41 : decode cX9_bathOf 41 = .ok (.iconst 0, 1) := by decide +kernel
theorem dX9_bathOf_42 : decode cX9_bathOf 42 = .ok (.ireturn, 1) := by decide +kernel
theorem dX9_soldDrums_0 : decode cX9_soldDrums 0 = .ok (.iconst 0, 1) := by decide +kernel
theorem dX9_soldDrums_1 : decode cX9_soldDrums 1 = .ok (.istore_n 1, 1) := by decide +kernel
theorem dX9_soldDrums_2 : decode cX9_soldDrums 2 = .ok (.iconst 0, 1) := by decide +kernel
theorem dX9_soldDrums_3 : decode cX9_soldDrums 3 = .ok (.istore_n 2, 1) := by decide +kernel
theorem dX9_soldDrums_4 : decode cX9_soldDrums 4 = .ok (.iload_n 2, 1) := by decide +kernel
theorem dX9_soldDrums_5 : decode cX9_soldDrums 5 = .ok (.aload_n 0, 1) := by decide +kernel
theorem dX9_soldDrums_6 : decode cX9_soldDrums 6 = .ok (.getfield 7, 3) := by decide +kernel
theorem dX9_soldDrums_9 : decode cX9_soldDrums 9 = .ok (.iconst 0, 1) := by decide +kernel
theorem dX9_soldDrums_10 : decode cX9_soldDrums 10 = .ok (.iaload, 1) := by decide +kernel
theorem dX9_soldDrums_11 : decode cX9_soldDrums 11 = .ok (.if_icmp .ge 27, 3) := by decide +kernel
theorem dX9_soldDrums_14 : decode cX9_soldDrums 14 = .ok (.iload_n 1, 1) := by decide +kernel
theorem dX9_soldDrums_15 : decode cX9_soldDrums 15 = .ok (.aload_n 0, 1) := by decide +kernel
theorem dX9_soldDrums_16 : decode cX9_soldDrums 16 = .ok (.iload_n 2, 1) := by decide +kernel
theorem dX9_soldDrums_17 : decode cX9_soldDrums 17 = .ok (.iconst 2, 1) := by decide +kernel
theorem dX9_soldDrums_18 : decode cX9_soldDrums 18 = .ok (.invokevirtual 62, 3) := by decide +kernel
theorem dX9_soldDrums_21 : decode cX9_soldDrums 21 = .ok (.iconst (-1), 1) := by decide +kernel
theorem dX9_soldDrums_22 : decode cX9_soldDrums 22 = .ok (.if_icmp .eq 7, 3) := by decide +kernel
theorem dX9_soldDrums_25 : decode cX9_soldDrums 25 = .ok (.iconst 1, 1) := by decide +kernel
theorem dX9_soldDrums_26 : decode cX9_soldDrums 26 = .ok (.goto 4, 3) := by decide +kernel
theorem dX9_soldDrums_29 : decode cX9_soldDrums 29 = .ok (.iconst 0, 1) := by decide +kernel
theorem dX9_soldDrums_30 : decode cX9_soldDrums 30 = .ok (.iadd, 1) := by decide +kernel
theorem dX9_soldDrums_31 : decode cX9_soldDrums 31 = .ok (.istore_n 1, 1) := by decide +kernel
theorem dX9_soldDrums_32 : decode cX9_soldDrums 32 = .ok (.iinc 2 1, 3) := by decide +kernel
theorem dX9_soldDrums_35 : decode cX9_soldDrums 35 = .ok (.goto (-31), 3) := by decide +kernel
theorem dX9_soldDrums_38 : decode cX9_soldDrums 38 = .ok (.iload_n 1, 1) := by decide +kernel
theorem dX9_soldDrums_39 : decode cX9_soldDrums 39 = .ok (.ireturn, 1) := by decide +kernel
theorem dX9_penetrated_0 : decode cX9_penetrated 0 = .ok (.iconst 0, 1) := by decide +kernel
theorem dX9_penetrated_1 : decode cX9_penetrated 1 = .ok (.istore_n 1, 1) := by decide +kernel
theorem dX9_penetrated_2 : decode cX9_penetrated 2 = .ok (.iconst 0, 1) := by decide +kernel
theorem dX9_penetrated_3 : decode cX9_penetrated 3 = .ok (.istore_n 2, 1) := by decide +kernel
theorem dX9_penetrated_4 : decode cX9_penetrated 4 = .ok (.iload_n 2, 1) := by decide +kernel
theorem dX9_penetrated_5 : decode cX9_penetrated 5 = .ok (.aload_n 0, 1) := by decide +kernel
theorem dX9_penetrated_6 : decode cX9_penetrated 6 = .ok (.getfield 7, 3) := by decide +kernel
theorem dX9_penetrated_9 : decode cX9_penetrated 9 = .ok (.iconst 1, 1) := by decide +kernel
theorem dX9_penetrated_10 : decode cX9_penetrated 10 = .ok (.iaload, 1) := by decide +kernel
theorem dX9_penetrated_11 : decode cX9_penetrated 11 = .ok (.if_icmp .ge 25, 3) := by decide +kernel
theorem dX9_penetrated_14 : decode cX9_penetrated 14 = .ok (.iload_n 1, 1) := by decide +kernel
theorem dX9_penetrated_15 : decode cX9_penetrated 15 = .ok (.aload_n 0, 1) := by decide +kernel
theorem dX9_penetrated_16 : decode cX9_penetrated 16 = .ok (.iload_n 2, 1) := by decide +kernel
theorem dX9_penetrated_17 : decode cX9_penetrated 17 = .ok (.invokevirtual 59, 3) := by decide +kernel
theorem dX9_penetrated_20 : decode cX9_penetrated 20 = .ok (.ifCond .ne 7, 3) := by decide +kernel
theorem dX9_penetrated_23 : decode cX9_penetrated 23 = .ok (.iconst 1, 1) := by decide +kernel
theorem dX9_penetrated_24 : decode cX9_penetrated 24 = .ok (.goto 4, 3) := by decide +kernel
theorem dX9_penetrated_27 : decode cX9_penetrated 27 = .ok (.iconst 0, 1) := by decide +kernel
theorem dX9_penetrated_28 : decode cX9_penetrated 28 = .ok (.iadd, 1) := by decide +kernel
theorem dX9_penetrated_29 : decode cX9_penetrated 29 = .ok (.istore_n 1, 1) := by decide +kernel
theorem dX9_penetrated_30 : decode cX9_penetrated 30 = .ok (.iinc 2 1, 3) := by decide +kernel
theorem dX9_penetrated_33 : decode cX9_penetrated 33 = .ok (.goto (-29), 3) := by decide +kernel
theorem dX9_penetrated_36 : decode cX9_penetrated 36 = .ok (.iload_n 1, 1) := by decide +kernel
theorem dX9_penetrated_37 : decode cX9_penetrated 37 = .ok (.ireturn, 1) := by decide +kernel
theorem dX9_counted_0 : decode cX9_counted 0 = .ok (.iload_n 1, 1) := by decide +kernel
theorem dX9_counted_1 : decode cX9_counted 1 = .ok (.tableswitch 101 3 11 #[51, 72, 77, 84, 89, 101, 101, 101, 96], 51) := by decide +kernel
theorem dX9_counted_52 : decode cX9_counted 52 = .ok (.aload_n 0, 1) := by decide +kernel
theorem dX9_counted_53 : decode cX9_counted 53 = .ok (.iconst 0, 1) := by decide +kernel
theorem dX9_counted_54 : decode cX9_counted 54 = .ok (.iconst 1, 1) := by decide +kernel
theorem dX9_counted_55 : decode cX9_counted 55 = .ok (.invokevirtual 48, 3) := by decide +kernel
theorem dX9_counted_58 : decode cX9_counted 58 = .ok (.aload_n 0, 1) := by decide +kernel
theorem dX9_counted_59 : decode cX9_counted 59 = .ok (.iconst 1, 1) := by decide +kernel
theorem dX9_counted_60 : decode cX9_counted 60 = .ok (.iconst 1, 1) := by decide +kernel
theorem dX9_counted_61 : decode cX9_counted 61 = .ok (.invokevirtual 48, 3) := by decide +kernel
theorem dX9_counted_64 : decode cX9_counted 64 = .ok (.iadd, 1) := by decide +kernel
theorem dX9_counted_65 : decode cX9_counted 65 = .ok (.aload_n 0, 1) := by decide +kernel
theorem dX9_counted_66 : decode cX9_counted 66 = .ok (.iconst 2, 1) := by decide +kernel
theorem dX9_counted_67 : decode cX9_counted 67 = .ok (.iconst 1, 1) := by decide +kernel
theorem dX9_counted_68 : decode cX9_counted 68 = .ok (.invokevirtual 48, 3) := by decide +kernel
theorem dX9_counted_71 : decode cX9_counted 71 = .ok (.iadd, 1) := by decide +kernel
theorem dX9_counted_72 : decode cX9_counted 72 = .ok (.ireturn, 1) := by decide +kernel
theorem dX9_counted_73 : decode cX9_counted 73 = .ok (.aload_n 0, 1) := by decide +kernel
theorem dX9_counted_74 : decode cX9_counted 74 = .ok (.invokevirtual 192, 3) := by decide +kernel
theorem dX9_counted_77 : decode cX9_counted 77 = .ok (.ireturn, 1) := by decide +kernel
theorem dX9_counted_78 : decode cX9_counted 78 = .ok (.aload_n 0, 1) := by decide +kernel
theorem dX9_counted_79 : decode cX9_counted 79 = .ok (.getfield 7, 3) := by decide +kernel
theorem dX9_counted_82 : decode cX9_counted 82 = .ok (.iconst 3, 1) := by decide +kernel
theorem dX9_counted_83 : decode cX9_counted 83 = .ok (.iaload, 1) := by decide +kernel
theorem dX9_counted_84 : decode cX9_counted 84 = .ok (.ireturn, 1) := by decide +kernel
theorem dX9_counted_85 : decode cX9_counted 85 = .ok (.aload_n 0, 1) := by decide +kernel
theorem dX9_counted_86 : decode cX9_counted 86 = .ok (.invokevirtual 195, 3) := by decide +kernel
theorem dX9_counted_89 : decode cX9_counted 89 = .ok (.ireturn, 1) := by decide +kernel
theorem dX9_counted_90 : decode cX9_counted 90 = .ok (.aload_n 0, 1) := by decide +kernel
theorem dX9_counted_91 : decode cX9_counted 91 = .ok (.getfield 7, 3) := by decide +kernel
theorem dX9_counted_94 : decode cX9_counted 94 = .ok (.iconst 4, 1) := by decide +kernel
theorem dX9_counted_95 : decode cX9_counted 95 = .ok (.iaload, 1) := by decide +kernel
theorem dX9_counted_96 : decode cX9_counted 96 = .ok (.ireturn, 1) := by decide +kernel
theorem dX9_counted_97 : decode cX9_counted 97 = .ok (.aload_n 0, 1) := by decide +kernel
theorem dX9_counted_98 : decode cX9_counted 98 = .ok (.getfield 84, 3) := by decide +kernel
theorem dX9_counted_101 : decode cX9_counted 101 = .ok (.ireturn, 1) := by decide +kernel
theorem dX9_counted_102 : decode cX9_counted 102 = .ok (.iload_n 1, 1) := by decide +kernel
theorem dX9_counted_103 : decode cX9_counted 103 = .ok (.iconst 3, 1) := by decide +kernel
theorem dX9_counted_104 : decode cX9_counted 104 = .ok (.if_icmp .ge 12, 3) := by decide +kernel
theorem dX9_counted_107 : decode cX9_counted 107 = .ok (.aload_n 0, 1) := by decide +kernel
theorem dX9_counted_108 : decode cX9_counted 108 = .ok (.getfield 7, 3) := by decide +kernel
theorem dX9_counted_111 : decode cX9_counted 111 = .ok (.iload_n 1, 1) := by decide +kernel
theorem dX9_counted_112 : decode cX9_counted 112 = .ok (.iaload, 1) := by decide +kernel
theorem dX9_counted_113 : decode cX9_counted 113 = .ok (.goto 14, 3) := by decide +kernel
theorem dX9_counted_116 : decode cX9_counted 116 = .ok (.aload_n 0, 1) := by decide +kernel
theorem dX9_counted_117 : decode cX9_counted 117 = .ok (.getfield 7, 3) := by decide +kernel
theorem dX9_counted_120 : decode cX9_counted 120 = .ok (.iconst 5, 1) := by decide +kernel
theorem dX9_counted_121 : decode cX9_counted 121 = .ok (.iload_n 1, 1) := by decide +kernel
theorem dX9_counted_122 : decode cX9_counted 122 = .ok (.iadd, 1) := by decide +kernel
theorem dX9_counted_123 : decode cX9_counted 123 = .ok (.bipush 8, 2) := by decide +kernel
theorem dX9_counted_125 : decode cX9_counted 125 = .ok (.isub, 1) := by decide +kernel
theorem dX9_counted_126 : decode cX9_counted 126 = .ok (.iaload, 1) := by decide +kernel
theorem dX9_counted_127 : decode cX9_counted 127 = .ok (.ireturn, 1) := by decide +kernel
theorem dX9_count_0 : decode cX9_count 0 = .ok (.aload_n 0, 1) := by decide +kernel
theorem dX9_count_1 : decode cX9_count 1 = .ok (.iload_n 1, 1) := by decide +kernel
theorem dX9_count_2 : decode cX9_count 2 = .ok (.iconst 0, 1) := by decide +kernel
theorem dX9_count_3 : decode cX9_count 3 = .ok (.bipush 11, 2) := by decide +kernel
theorem dX9_count_5 : decode cX9_count 5 = .ok (.invokestatic 23, 3) := by decide +kernel
theorem dX9_count_8 : decode cX9_count 8 = .ok (.ifCond .eq 7, 3) := by decide +kernel
theorem dX9_count_11 : decode cX9_count 11 = .ok (.iconst 0, 1) := by decide +kernel
theorem dX9_count_12 : decode cX9_count 12 = .ok (.goto 4, 3) := by decide +kernel
theorem dX9_count_15 : decode cX9_count 15 = .ok (.iconst 1, 1) := by decide +kernel
theorem dX9_count_16 : decode cX9_count 16 = .ok (.invokevirtual 94, 3) := by decide +kernel
theorem dX9_count_19 : decode cX9_count 19 = .ok (.ifCond .eq 11, 3) := by decide +kernel
theorem dX9_count_22 : decode cX9_count 22 = .ok (.aload_n 0, 1) := by decide +kernel
theorem dX9_count_23 : decode cX9_count 23 = .ok (.iload_n 1, 1) := by decide +kernel
theorem dX9_count_24 : decode cX9_count 24 = .ok (.invokevirtual 198, 3) := by decide +kernel
theorem dX9_count_27 : decode cX9_count 27 = .ok (.goto 4, 3) := by decide +kernel
theorem dX9_count_30 : decode cX9_count 30 = .ok (.iconst 0, 1) := by decide +kernel
theorem dX9_count_31 : decode cX9_count 31 = .ok (.ireturn, 1) := by decide +kernel
theorem dX9_noSink_0 : decode cX9_noSink 0 = .ok (.aload_n 0, 1) := by decide +kernel
theorem dX9_noSink_1 : decode cX9_noSink 1 = .ok (.iload_n 1, 1) := by decide +kernel
theorem dX9_noSink_2 : decode cX9_noSink 2 = .ok (.invokestatic 107, 3) := by decide +kernel
theorem dX9_noSink_5 : decode cX9_noSink 5 = .ok (.ifCond .eq 15, 3) := by decide +kernel
theorem dX9_noSink_8 : decode cX9_noSink 8 = .ok (.aload_n 0, 1) := by decide +kernel
theorem dX9_noSink_9 : decode cX9_noSink 9 = .ok (.iload_n 2, 1) := by decide +kernel
theorem dX9_noSink_10 : decode cX9_noSink 10 = .ok (.invokevirtual 104, 3) := by decide +kernel
theorem dX9_noSink_13 : decode cX9_noSink 13 = .ok (.ifCond .eq 7, 3) := by decide +kernel
theorem dX9_noSink_16 : decode cX9_noSink 16 = .ok (.iconst 0, 1) := by decide +kernel
theorem dX9_noSink_17 : decode cX9_noSink 17 = .ok (.goto 4, 3) := by decide +kernel
theorem dX9_noSink_20 : decode cX9_noSink 20 = .ok (.iconst 1, 1) := by decide +kernel
theorem dX9_noSink_21 : decode cX9_noSink 21 = .ok (.invokevirtual 94, 3) := by decide +kernel
theorem dX9_noSink_24 : decode cX9_noSink 24 = .ok (.ifCond .eq 12, 3) := by decide +kernel
theorem dX9_noSink_27 : decode cX9_noSink 27 = .ok (.aload_n 0, 1) := by decide +kernel
theorem dX9_noSink_28 : decode cX9_noSink 28 = .ok (.iload_n 1, 1) := by decide +kernel
theorem dX9_noSink_29 : decode cX9_noSink 29 = .ok (.iload_n 2, 1) := by decide +kernel
theorem dX9_noSink_30 : decode cX9_noSink 30 = .ok (.invokevirtual 120, 3) := by decide +kernel
theorem dX9_noSink_33 : decode cX9_noSink 33 = .ok (.goto 4, 3) := by decide +kernel
theorem dX9_noSink_36 : decode cX9_noSink 36 = .ok (.iconst 0, 1) := by decide +kernel
theorem dX9_noSink_37 : decode cX9_noSink 37 = .ok (.ireturn, 1) := by decide +kernel
theorem dX9_noSale_0 : decode cX9_noSale 0 = .ok (.aload_n 0, 1) := by decide +kernel
theorem dX9_noSale_1 : decode cX9_noSale 1 = .ok (.aload_n 0, 1) := by decide +kernel
theorem dX9_noSale_2 : decode cX9_noSale 2 = .ok (.iload_n 1, 1) := by decide +kernel
theorem dX9_noSale_3 : decode cX9_noSale 3 = .ok (.invokevirtual 98, 3) := by decide +kernel
theorem dX9_noSale_6 : decode cX9_noSale 6 = .ok (.ifCond .eq 7, 3) := by decide +kernel
theorem dX9_noSale_9 : decode cX9_noSale 9 = .ok (.iconst 0, 1) := by decide +kernel
theorem dX9_noSale_10 : decode cX9_noSale 10 = .ok (.goto 4, 3) := by decide +kernel
theorem dX9_noSale_13 : decode cX9_noSale 13 = .ok (.iconst 1, 1) := by decide +kernel
theorem dX9_noSale_14 : decode cX9_noSale 14 = .ok (.invokevirtual 94, 3) := by decide +kernel
theorem dX9_noSale_17 : decode cX9_noSale 17 = .ok (.ifCond .eq 11, 3) := by decide +kernel
theorem dX9_noSale_20 : decode cX9_noSale 20 = .ok (.aload_n 0, 1) := by decide +kernel
theorem dX9_noSale_21 : decode cX9_noSale 21 = .ok (.iload_n 1, 1) := by decide +kernel
theorem dX9_noSale_22 : decode cX9_noSale 22 = .ok (.invokevirtual 129, 3) := by decide +kernel
theorem dX9_noSale_25 : decode cX9_noSale 25 = .ok (.goto 4, 3) := by decide +kernel
theorem dX9_noSale_28 : decode cX9_noSale 28 = .ok (.iconst 0, 1) := by decide +kernel
theorem dX9_noSale_29 : decode cX9_noSale 29 = .ok (.ireturn, 1) := by decide +kernel
theorem dX9_ifSunk_0 : decode cX9_ifSunk 0 = .ok (.iload_n 1, 1) := by decide +kernel
theorem dX9_ifSunk_1 : decode cX9_ifSunk 1 = .ok (.invokestatic 107, 3) := by decide +kernel
theorem dX9_ifSunk_4 : decode cX9_ifSunk 4 = .ok (.ifCond .eq 15, 3) := by decide +kernel
theorem dX9_ifSunk_7 : decode cX9_ifSunk 7 = .ok (.aload_n 0, 1) := by decide +kernel
theorem dX9_ifSunk_8 : decode cX9_ifSunk 8 = .ok (.iload_n 2, 1) := by decide +kernel
theorem dX9_ifSunk_9 : decode cX9_ifSunk 9 = .ok (.invokevirtual 104, 3) := by decide +kernel
theorem dX9_ifSunk_12 : decode cX9_ifSunk 12 = .ok (.ifCond .eq 7, 3) := by decide +kernel
theorem dX9_ifSunk_15 : decode cX9_ifSunk 15 = .ok (.iconst 1, 1) := by decide +kernel
theorem dX9_ifSunk_16 : decode cX9_ifSunk 16 = .ok (.goto 4, 3) := by decide +kernel
theorem dX9_ifSunk_19 : decode cX9_ifSunk 19 = .ok (.iconst 0, 1) := by decide +kernel
theorem dX9_ifSunk_20 : decode cX9_ifSunk 20 = .ok (.istore 5, 2) := by decide +kernel
theorem dX9_ifSunk_22 : decode cX9_ifSunk 22 = .ok (.iload_n 3, 1) := by decide +kernel
theorem dX9_ifSunk_23 : decode cX9_ifSunk 23 = .ok (.bipush 50, 2) := by decide +kernel
theorem dX9_ifSunk_25 : decode cX9_ifSunk 25 = .ok (.sipush 200, 3) := by decide +kernel
theorem dX9_ifSunk_28 : decode cX9_ifSunk 28 = .ok (.invokestatic 23, 3) := by decide +kernel
theorem dX9_ifSunk_31 : decode cX9_ifSunk 31 = .ok (.ifCond .eq 18, 3) := by decide +kernel
theorem dX9_ifSunk_34 : decode cX9_ifSunk 34 = .ok (.iload 4, 2) := by decide +kernel
theorem dX9_ifSunk_36 : decode cX9_ifSunk 36 = .ok (.iconst 1, 1) := by decide +kernel
theorem dX9_ifSunk_37 : decode cX9_ifSunk 37 = .ok (.bipush 60, 2) := by decide +kernel
theorem dX9_ifSunk_39 : decode cX9_ifSunk 39 = .ok (.invokestatic 23, 3) := by decide +kernel
theorem dX9_ifSunk_42 : decode cX9_ifSunk 42 = .ok (.ifCond .eq 7, 3) := by decide +kernel
theorem dX9_ifSunk_45 : decode cX9_ifSunk 45 = .ok (.iconst 1, 1) := by decide +kernel
theorem dX9_ifSunk_46 : decode cX9_ifSunk 46 = .ok (.goto 4, 3) := by decide +kernel
theorem dX9_ifSunk_49 : decode cX9_ifSunk 49 = .ok (.iconst 0, 1) := by decide +kernel
theorem dX9_ifSunk_50 : decode cX9_ifSunk 50 = .ok (.istore 6, 2) := by decide +kernel
theorem dX9_ifSunk_52 : decode cX9_ifSunk 52 = .ok (.aload_n 0, 1) := by decide +kernel
theorem dX9_ifSunk_53 : decode cX9_ifSunk 53 = .ok (.iload 5, 2) := by decide +kernel
theorem dX9_ifSunk_55 : decode cX9_ifSunk 55 = .ok (.ifCond .ne 7, 3) := by decide +kernel
theorem dX9_ifSunk_58 : decode cX9_ifSunk 58 = .ok (.iconst 1, 1) := by decide +kernel
theorem dX9_ifSunk_59 : decode cX9_ifSunk 59 = .ok (.goto 13, 3) := by decide +kernel
theorem dX9_ifSunk_62 : decode cX9_ifSunk 62 = .ok (.iload 6, 2) := by decide +kernel
theorem dX9_ifSunk_64 : decode cX9_ifSunk 64 = .ok (.ifCond .ne 7, 3) := by decide +kernel
theorem dX9_ifSunk_67 : decode cX9_ifSunk 67 = .ok (.iconst 2, 1) := by decide +kernel
theorem dX9_ifSunk_68 : decode cX9_ifSunk 68 = .ok (.goto 4, 3) := by decide +kernel
theorem dX9_ifSunk_71 : decode cX9_ifSunk 71 = .ok (.iconst 0, 1) := by decide +kernel
theorem dX9_ifSunk_72 : decode cX9_ifSunk 72 = .ok (.invokevirtual 94, 3) := by decide +kernel
theorem dX9_ifSunk_75 : decode cX9_ifSunk 75 = .ok (.ifCond .eq 15, 3) := by decide +kernel
theorem dX9_ifSunk_78 : decode cX9_ifSunk 78 = .ok (.aload_n 0, 1) := by decide +kernel
theorem dX9_ifSunk_79 : decode cX9_ifSunk 79 = .ok (.iload_n 1, 1) := by decide +kernel
theorem dX9_ifSunk_80 : decode cX9_ifSunk 80 = .ok (.iload_n 2, 1) := by decide +kernel
theorem dX9_ifSunk_81 : decode cX9_ifSunk 81 = .ok (.iload_n 3, 1) := by decide +kernel
theorem dX9_ifSunk_82 : decode cX9_ifSunk 82 = .ok (.iload 4, 2) := by decide +kernel
theorem dX9_ifSunk_84 : decode cX9_ifSunk 84 = .ok (.invokevirtual 51, 3) := by decide +kernel
theorem dX9_ifSunk_87 : decode cX9_ifSunk 87 = .ok (.goto 4, 3) := by decide +kernel
theorem dX9_ifSunk_90 : decode cX9_ifSunk 90 = .ok (.iconst 0, 1) := by decide +kernel
theorem dX9_ifSunk_91 : decode cX9_ifSunk 91 = .ok (.ireturn, 1) := by decide +kernel
theorem dX9_secondsTo_0 : decode cX9_secondsTo 0 = .ok (.iload_n 1, 1) := by decide +kernel
theorem dX9_secondsTo_1 : decode cX9_secondsTo 1 = .ok (.invokestatic 107, 3) := by decide +kernel
theorem dX9_secondsTo_4 : decode cX9_secondsTo 4 = .ok (.ifCond .eq 15, 3) := by decide +kernel
theorem dX9_secondsTo_7 : decode cX9_secondsTo 7 = .ok (.aload_n 0, 1) := by decide +kernel
theorem dX9_secondsTo_8 : decode cX9_secondsTo 8 = .ok (.iload_n 2, 1) := by decide +kernel
theorem dX9_secondsTo_9 : decode cX9_secondsTo 9 = .ok (.invokevirtual 104, 3) := by decide +kernel
theorem dX9_secondsTo_12 : decode cX9_secondsTo 12 = .ok (.ifCond .eq 7, 3) := by decide +kernel
theorem dX9_secondsTo_15 : decode cX9_secondsTo 15 = .ok (.iconst 1, 1) := by decide +kernel
theorem dX9_secondsTo_16 : decode cX9_secondsTo 16 = .ok (.goto 4, 3) := by decide +kernel
theorem dX9_secondsTo_19 : decode cX9_secondsTo 19 = .ok (.iconst 0, 1) := by decide +kernel
theorem dX9_secondsTo_20 : decode cX9_secondsTo 20 = .ok (.istore 5, 2) := by decide +kernel
theorem dX9_secondsTo_22 : decode cX9_secondsTo 22 = .ok (.iload_n 3, 1) := by decide +kernel
theorem dX9_secondsTo_23 : decode cX9_secondsTo 23 = .ok (.bipush 50, 2) := by decide +kernel
theorem dX9_secondsTo_25 : decode cX9_secondsTo 25 = .ok (.sipush 200, 3) := by decide +kernel
theorem dX9_secondsTo_28 : decode cX9_secondsTo 28 = .ok (.invokestatic 23, 3) := by decide +kernel
theorem dX9_secondsTo_31 : decode cX9_secondsTo 31 = .ok (.ifCond .eq 19, 3) := by decide +kernel
theorem dX9_secondsTo_34 : decode cX9_secondsTo 34 = .ok (.iload 4, 2) := by decide +kernel
theorem dX9_secondsTo_36 : decode cX9_secondsTo 36 = .ok (.iconst 1, 1) := by decide +kernel
theorem dX9_secondsTo_37 : decode cX9_secondsTo 37 = .ok (.sipush 400, 3) := by decide +kernel
theorem dX9_secondsTo_40 : decode cX9_secondsTo 40 = .ok (.invokestatic 23, 3) := by decide +kernel
theorem dX9_secondsTo_43 : decode cX9_secondsTo 43 = .ok (.ifCond .eq 7, 3) := by decide +kernel
theorem dX9_secondsTo_46 : decode cX9_secondsTo 46 = .ok (.iconst 1, 1) := by decide +kernel
theorem dX9_secondsTo_47 : decode cX9_secondsTo 47 = .ok (.goto 4, 3) := by decide +kernel
theorem dX9_secondsTo_50 : decode cX9_secondsTo 50 = .ok (.iconst 0, 1) := by decide +kernel
theorem dX9_secondsTo_51 : decode cX9_secondsTo 51 = .ok (.istore 6, 2) := by decide +kernel
theorem dX9_secondsTo_53 : decode cX9_secondsTo 53 = .ok (.aload_n 0, 1) := by decide +kernel
theorem dX9_secondsTo_54 : decode cX9_secondsTo 54 = .ok (.iload 5, 2) := by decide +kernel
theorem dX9_secondsTo_56 : decode cX9_secondsTo 56 = .ok (.ifCond .ne 7, 3) := by decide +kernel
theorem dX9_secondsTo_59 : decode cX9_secondsTo 59 = .ok (.iconst 1, 1) := by decide +kernel
theorem dX9_secondsTo_60 : decode cX9_secondsTo 60 = .ok (.goto 13, 3) := by decide +kernel
theorem dX9_secondsTo_63 : decode cX9_secondsTo 63 = .ok (.iload 6, 2) := by decide +kernel
theorem dX9_secondsTo_65 : decode cX9_secondsTo 65 = .ok (.ifCond .ne 7, 3) := by decide +kernel
theorem dX9_secondsTo_68 : decode cX9_secondsTo 68 = .ok (.iconst 2, 1) := by decide +kernel
theorem dX9_secondsTo_69 : decode cX9_secondsTo 69 = .ok (.goto 4, 3) := by decide +kernel
theorem dX9_secondsTo_72 : decode cX9_secondsTo 72 = .ok (.iconst 0, 1) := by decide +kernel
theorem dX9_secondsTo_73 : decode cX9_secondsTo 73 = .ok (.invokevirtual 94, 3) := by decide +kernel
theorem dX9_secondsTo_76 : decode cX9_secondsTo 76 = .ok (.ifCond .ne 5, 3) := by decide +kernel
theorem dX9_secondsTo_79 : decode cX9_secondsTo 79 = .ok (.iconst 0, 1) := by decide +kernel
theorem dX9_secondsTo_80 : decode cX9_secondsTo 80 = .ok (.ireturn, 1) := by decide +kernel
theorem dX9_secondsTo_81 : decode cX9_secondsTo 81 = .ok (.iconst 1, 1) := by decide +kernel
theorem dX9_secondsTo_82 : decode cX9_secondsTo 82 = .ok (.istore 7, 2) := by decide +kernel
theorem dX9_secondsTo_84 : decode cX9_secondsTo 84 = .ok (.iload 7, 2) := by decide +kernel
theorem dX9_secondsTo_86 : decode cX9_secondsTo 86 = .ok (.bipush 60, 2) := by decide +kernel
theorem dX9_secondsTo_88 : decode cX9_secondsTo 88 = .ok (.if_icmp .gt 26, 3) := by decide +kernel
theorem dX9_secondsTo_91 : decode cX9_secondsTo 91 = .ok (.aload_n 0, 1) := by decide +kernel
theorem dX9_secondsTo_92 : decode cX9_secondsTo 92 = .ok (.iload_n 1, 1) := by decide +kernel
theorem dX9_secondsTo_93 : decode cX9_secondsTo 93 = .ok (.iload_n 2, 1) := by decide +kernel
theorem dX9_secondsTo_94 : decode cX9_secondsTo 94 = .ok (.iload_n 3, 1) := by decide +kernel
theorem dX9_secondsTo_95 : decode cX9_secondsTo 95 = .ok (.iload 7, 2) := by decide +kernel
theorem dX9_secondsTo_97 : decode cX9_secondsTo 97 = .ok (.invokevirtual 51, 3) := by decide +kernel
theorem dX9_secondsTo_100 : decode cX9_secondsTo 100 = .ok (.iload 4, 2) := by decide +kernel
theorem dX9_secondsTo_102 : decode cX9_secondsTo 102 = .ok (.if_icmp .lt 6, 3) := by decide +kernel
theorem dX9_secondsTo_105 : decode cX9_secondsTo 105 = .ok (.iload 7, 2) := by decide +kernel
theorem dX9_secondsTo_107 : decode cX9_secondsTo 107 = .ok (.ireturn, 1) := by decide +kernel
theorem dX9_secondsTo_108 : decode cX9_secondsTo 108 = .ok (.iinc 7 1, 3) := by decide +kernel
theorem dX9_secondsTo_111 : decode cX9_secondsTo 111 = .ok (.goto (-27), 3) := by decide +kernel
theorem dX9_secondsTo_114 : decode cX9_secondsTo 114 = .ok (.iconst (-1), 1) := by decide +kernel
theorem dX9_secondsTo_115 : decode cX9_secondsTo 115 = .ok (.ireturn, 1) := by decide +kernel
theorem dX9_readyNow_0 : decode cX9_readyNow 0 = .ok (.aload_n 0, 1) := by decide +kernel
theorem dX9_readyNow_1 : decode cX9_readyNow 1 = .ok (.iload_n 1, 1) := by decide +kernel
theorem dX9_readyNow_2 : decode cX9_readyNow 2 = .ok (.iconst 3, 1) := by decide +kernel
theorem dX9_readyNow_3 : decode cX9_readyNow 3 = .ok (.invokevirtual 31, 3) := by decide +kernel
theorem dX9_readyNow_6 : decode cX9_readyNow 6 = .ok (.iconst (-1), 1) := by decide +kernel
theorem dX9_readyNow_7 : decode cX9_readyNow 7 = .ok (.if_icmp .ne 7, 3) := by decide +kernel
theorem dX9_readyNow_10 : decode cX9_readyNow 10 = .ok (.iconst (-1), 1) := by decide +kernel
theorem dX9_readyNow_11 : decode cX9_readyNow 11 = .ok (.goto 14, 3) := by decide +kernel
theorem dX9_readyNow_14 : decode cX9_readyNow 14 = .ok (.aload_n 0, 1) := by decide +kernel
theorem dX9_readyNow_15 : decode cX9_readyNow 15 = .ok (.iload_n 1, 1) := by decide +kernel
theorem dX9_readyNow_16 : decode cX9_readyNow 16 = .ok (.aload_n 0, 1) := by decide +kernel
theorem dX9_readyNow_17 : decode cX9_readyNow 17 = .ok (.iload_n 1, 1) := by decide +kernel
theorem dX9_readyNow_18 : decode cX9_readyNow 18 = .ok (.iconst 3, 1) := by decide +kernel
theorem dX9_readyNow_19 : decode cX9_readyNow 19 = .ok (.invokevirtual 31, 3) := by decide +kernel
theorem dX9_readyNow_22 : decode cX9_readyNow 22 = .ok (.invokevirtual 201, 3) := by decide +kernel
theorem dX9_readyNow_25 : decode cX9_readyNow 25 = .ok (.ireturn, 1) := by decide +kernel
theorem dX9_readyIn_0 : decode cX9_readyIn 0 = .ok (.aload_n 0, 1) := by decide +kernel
theorem dX9_readyIn_1 : decode cX9_readyIn 1 = .ok (.aload_n 0, 1) := by decide +kernel
theorem dX9_readyIn_2 : decode cX9_readyIn 2 = .ok (.iload_n 1, 1) := by decide +kernel
theorem dX9_readyIn_3 : decode cX9_readyIn 3 = .ok (.invokevirtual 104, 3) := by decide +kernel
theorem dX9_readyIn_6 : decode cX9_readyIn 6 = .ok (.ifCond .eq 7, 3) := by decide +kernel
theorem dX9_readyIn_9 : decode cX9_readyIn 9 = .ok (.iconst 0, 1) := by decide +kernel
theorem dX9_readyIn_10 : decode cX9_readyIn 10 = .ok (.goto 4, 3) := by decide +kernel
theorem dX9_readyIn_13 : decode cX9_readyIn 13 = .ok (.iconst 1, 1) := by decide +kernel
theorem dX9_readyIn_14 : decode cX9_readyIn 14 = .ok (.invokevirtual 94, 3) := by decide +kernel
theorem dX9_readyIn_17 : decode cX9_readyIn 17 = .ok (.ifCond .eq 11, 3) := by decide +kernel
theorem dX9_readyIn_20 : decode cX9_readyIn 20 = .ok (.aload_n 0, 1) := by decide +kernel
theorem dX9_readyIn_21 : decode cX9_readyIn 21 = .ok (.iload_n 1, 1) := by decide +kernel
theorem dX9_readyIn_22 : decode cX9_readyIn 22 = .ok (.invokevirtual 204, 3) := by decide +kernel
theorem dX9_readyIn_25 : decode cX9_readyIn 25 = .ok (.goto 4, 3) := by decide +kernel
theorem dX9_readyIn_28 : decode cX9_readyIn 28 = .ok (.iconst 0, 1) := by decide +kernel
theorem dX9_readyIn_29 : decode cX9_readyIn 29 = .ok (.ireturn, 1) := by decide +kernel
theorem dX9_best_0 : decode cX9_best 0 = .ok (.iconst (-1), 1) := by decide +kernel
theorem dX9_best_1 : decode cX9_best 1 = .ok (.istore_n 2, 1) := by decide +kernel
theorem dX9_best_2 : decode cX9_best 2 = .ok (.sipush 201, 3) := by decide +kernel
theorem dX9_best_5 : decode cX9_best 5 = .ok (.istore_n 3, 1) := by decide +kernel
theorem dX9_best_6 : decode cX9_best 6 = .ok (.iconst 0, 1) := by decide +kernel
theorem dX9_best_7 : decode cX9_best 7 = .ok (.istore 4, 2) := by decide +kernel
theorem dX9_best_9 : decode cX9_best 9 = .ok (.iload 4, 2) := by decide +kernel
theorem dX9_best_11 : decode cX9_best 11 = .ok (.iconst 3, 1) := by decide +kernel
theorem dX9_best_12 : decode cX9_best 12 = .ok (.if_icmp .ge 75, 3) := by decide +kernel
theorem dX9_best_15 : decode cX9_best 15 = .ok (.aload_n 0, 1) := by decide +kernel
theorem dX9_best_16 : decode cX9_best 16 = .ok (.iload_n 1, 1) := by decide +kernel
theorem dX9_best_17 : decode cX9_best 17 = .ok (.iload 4, 2) := by decide +kernel
theorem dX9_best_19 : decode cX9_best 19 = .ok (.invokevirtual 110, 3) := by decide +kernel
theorem dX9_best_22 : decode cX9_best 22 = .ok (.ifCond .eq 13, 3) := by decide +kernel
theorem dX9_best_25 : decode cX9_best 25 = .ok (.aload_n 0, 1) := by decide +kernel
theorem dX9_best_26 : decode cX9_best 26 = .ok (.iload_n 1, 1) := by decide +kernel
theorem dX9_best_27 : decode cX9_best 27 = .ok (.iload 4, 2) := by decide +kernel
theorem dX9_best_29 : decode cX9_best 29 = .ok (.invokevirtual 201, 3) := by decide +kernel
theorem dX9_best_32 : decode cX9_best 32 = .ok (.goto 4, 3) := by decide +kernel
theorem dX9_best_35 : decode cX9_best 35 = .ok (.iconst (-1), 1) := by decide +kernel
theorem dX9_best_36 : decode cX9_best 36 = .ok (.istore 5, 2) := by decide +kernel
theorem dX9_best_38 : decode cX9_best 38 = .ok (.iload 5, 2) := by decide +kernel
theorem dX9_best_40 : decode cX9_best 40 = .ok (.iconst (-1), 1) := by decide +kernel
theorem dX9_best_41 : decode cX9_best 41 = .ok (.if_icmp .eq 13, 3) := by decide +kernel
theorem dX9_best_44 : decode cX9_best 44 = .ok (.iload 5, 2) := by decide +kernel
theorem dX9_best_46 : decode cX9_best 46 = .ok (.iload_n 3, 1) := by decide +kernel
theorem dX9_best_47 : decode cX9_best 47 = .ok (.if_icmp .ge 7, 3) := by decide +kernel
theorem dX9_best_50 : decode cX9_best 50 = .ok (.iconst 1, 1) := by decide +kernel
theorem dX9_best_51 : decode cX9_best 51 = .ok (.goto 4, 3) := by decide +kernel
theorem dX9_best_54 : decode cX9_best 54 = .ok (.iconst 0, 1) := by decide +kernel
theorem dX9_best_55 : decode cX9_best 55 = .ok (.istore 6, 2) := by decide +kernel
theorem dX9_best_57 : decode cX9_best 57 = .ok (.iload 6, 2) := by decide +kernel
theorem dX9_best_59 : decode cX9_best 59 = .ok (.ifCond .eq 8, 3) := by decide +kernel
theorem dX9_best_62 : decode cX9_best 62 = .ok (.iload 4, 2) := by decide +kernel
theorem dX9_best_64 : decode cX9_best 64 = .ok (.goto 4, 3) := by decide +kernel
theorem dX9_best_67 : decode cX9_best 67 = .ok (.iload_n 2, 1) := by decide +kernel
theorem dX9_best_68 : decode cX9_best 68 = .ok (.istore_n 2, 1) := by decide +kernel
theorem dX9_best_69 : decode cX9_best 69 = .ok (.iload 6, 2) := by decide +kernel
theorem dX9_best_71 : decode cX9_best 71 = .ok (.ifCond .eq 8, 3) := by decide +kernel
theorem dX9_best_74 : decode cX9_best 74 = .ok (.iload 5, 2) := by decide +kernel
theorem dX9_best_76 : decode cX9_best 76 = .ok (.goto 4, 3) := by decide +kernel
theorem dX9_best_79 : decode cX9_best 79 = .ok (.iload_n 3, 1) := by decide +kernel
theorem dX9_best_80 : decode cX9_best 80 = .ok (.istore_n 3, 1) := by decide +kernel
theorem dX9_best_81 : decode cX9_best 81 = .ok (.iinc 4 1, 3) := by decide +kernel
theorem dX9_best_84 : decode cX9_best 84 = .ok (.goto (-75), 3) := by decide +kernel
theorem dX9_best_87 : decode cX9_best 87 = .ok (.iload_n 2, 1) := by decide +kernel
theorem dX9_best_88 : decode cX9_best 88 = .ok (.ireturn, 1) := by decide +kernel
theorem dX9_bestBath_0 : decode cX9_bestBath 0 = .ok (.aload_n 0, 1) := by decide +kernel
theorem dX9_bestBath_1 : decode cX9_bestBath 1 = .ok (.aload_n 0, 1) := by decide +kernel
theorem dX9_bestBath_2 : decode cX9_bestBath 2 = .ok (.iload_n 1, 1) := by decide +kernel
theorem dX9_bestBath_3 : decode cX9_bestBath 3 = .ok (.invokevirtual 104, 3) := by decide +kernel
theorem dX9_bestBath_6 : decode cX9_bestBath 6 = .ok (.ifCond .eq 7, 3) := by decide +kernel
theorem dX9_bestBath_9 : decode cX9_bestBath 9 = .ok (.iconst 0, 1) := by decide +kernel
theorem dX9_bestBath_10 : decode cX9_bestBath 10 = .ok (.goto 4, 3) := by decide +kernel
theorem dX9_bestBath_13 : decode cX9_bestBath 13 = .ok (.iconst 1, 1) := by decide +kernel
theorem dX9_bestBath_14 : decode cX9_bestBath 14 = .ok (.invokevirtual 94, 3) := by decide +kernel
theorem dX9_bestBath_17 : decode cX9_bestBath 17 = .ok (.ifCond .eq 11, 3) := by decide +kernel
theorem dX9_bestBath_20 : decode cX9_bestBath 20 = .ok (.aload_n 0, 1) := by decide +kernel
theorem dX9_bestBath_21 : decode cX9_bestBath 21 = .ok (.iload_n 1, 1) := by decide +kernel
theorem dX9_bestBath_22 : decode cX9_bestBath 22 = .ok (.invokevirtual 207, 3) := by decide +kernel
theorem dX9_bestBath_25 : decode cX9_bestBath 25 = .ok (.goto 4, 3) := by decide +kernel
theorem dX9_bestBath_28 : decode cX9_bestBath 28 = .ok (.iconst 0, 1) := by decide +kernel
theorem dX9_bestBath_29 : decode cX9_bestBath 29 = .ok (.ireturn, 1) := by decide +kernel
theorem dX9_share_0 : decode cX9_share 0 = .ok (.aload_n 0, 1) := by decide +kernel
theorem dX9_share_1 : decode cX9_share 1 = .ok (.getfield 7, 3) := by decide +kernel
theorem dX9_share_4 : decode cX9_share 4 = .ok (.iconst 1, 1) := by decide +kernel
theorem dX9_share_5 : decode cX9_share 5 = .ok (.iaload, 1) := by decide +kernel
theorem dX9_share_6 : decode cX9_share 6 = .ok (.ifCond .ne 7, 3) := by decide +kernel
theorem dX9_share_9 : decode cX9_share 9 = .ok (.dconst 1, 1) := by decide +kernel
theorem dX9_share_10 : decode cX9_share 10 = .ok (.goto 16, 3) := by decide +kernel
theorem dX9_share_13 : decode cX9_share 13 = .ok (.aload_n 0, 1) := by decide +kernel
theorem dX9_share_14 : decode cX9_share 14 = .ok (.invokevirtual 195, 3) := by decide +kernel
theorem dX9_share_17 : decode cX9_share 17 = .ok (.i2d, 1) := by decide +kernel
theorem dX9_share_18 : decode cX9_share 18 = .ok (.aload_n 0, 1) := by decide +kernel
theorem dX9_share_19 : decode cX9_share 19 = .ok (.getfield 7, 3) := by decide +kernel
theorem dX9_share_22 : decode cX9_share 22 = .ok (.iconst 1, 1) := by decide +kernel
theorem dX9_share_23 : decode cX9_share 23 = .ok (.iaload, 1) := by decide +kernel
theorem dX9_share_24 : decode cX9_share 24 = .ok (.i2d, 1) := by decide +kernel
theorem dX9_share_25 : decode cX9_share 25 = .ok (.ddiv, 1) := by decide +kernel
theorem dX9_share_26 : decode cX9_share 26 = .ok (.dreturn, 1) := by decide +kernel
theorem dX9_readShare_0 : decode cX9_readShare 0 = .ok (.aload_n 0, 1) := by decide +kernel
theorem dX9_readShare_1 : decode cX9_readShare 1 = .ok (.iconst 0, 1) := by decide +kernel
theorem dX9_readShare_2 : decode cX9_readShare 2 = .ok (.putfield 19, 3) := by decide +kernel
theorem dX9_readShare_5 : decode cX9_readShare 5 = .ok (.aload_n 0, 1) := by decide +kernel
theorem dX9_readShare_6 : decode cX9_readShare 6 = .ok (.invokevirtual 210, 3) := by decide +kernel
theorem dX9_readShare_9 : decode cX9_readShare 9 = .ok (.dreturn, 1) := by decide +kernel
theorem dX9_mix_0 : decode cX9_mix 0 = .ok (.aload_n 0, 1) := by decide +kernel
theorem dX9_mix_1 : decode cX9_mix 1 = .ok (.ldc2_w 214, 3) := by decide +kernel
theorem dX9_mix_4 : decode cX9_mix 4 = .ok (.aload_n 0, 1) := by decide +kernel
theorem dX9_mix_5 : decode cX9_mix 5 = .ok (.getfield 216, 3) := by decide +kernel
theorem dX9_mix_8 : decode cX9_mix 8 = .ok (.lmul, 1) := by decide +kernel
theorem dX9_mix_9 : decode cX9_mix 9 = .ok (.lload_n 1, 1) := by decide +kernel
theorem dX9_mix_10 : decode cX9_mix 10 = .ok (.ladd, 1) := by decide +kernel
theorem dX9_mix_11 : decode cX9_mix 11 = .ok (.putfield 216, 3) := by decide +kernel
theorem dX9_mix_14 : decode cX9_mix 14 = .ok (.return_, 1) := by decide +kernel
theorem dX9_bits_0 : decode cX9_bits 0 = .ok (.dload_n 0, 1) := by decide +kernel
theorem dX9_bits_1 : decode cX9_bits 1 = .ok (.dconst 0, 1) := by decide +kernel
theorem dX9_bits_2 : decode cX9_bits 2 = .ok (.dcmp .l, 1) := by decide +kernel
theorem dX9_bits_3 : decode cX9_bits 3 = .ok (.ifCond .ne 5, 3) := by decide +kernel
theorem dX9_bits_6 : decode cX9_bits 6 = .ok (.lconst 0, 1) := by decide +kernel
theorem dX9_bits_7 : decode cX9_bits 7 = .ok (.lreturn, 1) := by decide +kernel
theorem dX9_bits_8 : decode cX9_bits 8 = .ok (.dload_n 0, 1) := by decide +kernel
theorem dX9_bits_9 : decode cX9_bits 9 = .ok (.dstore_n 2, 1) := by decide +kernel
theorem dX9_bits_10 : decode cX9_bits 10 = .ok (.ldc2_w 220, 3) := by decide +kernel
theorem dX9_bits_13 : decode cX9_bits 13 = .ok (.lstore 4, 2) := by decide +kernel
theorem dX9_bits_15 : decode cX9_bits 15 = .ok (.dload_n 2, 1) := by decide +kernel
theorem dX9_bits_16 : decode cX9_bits 16 = .ok (.dconst 1, 1) := by decide +kernel
theorem dX9_bits_17 : decode cX9_bits 17 = .ok (.dcmp .g, 1) := by decide +kernel
theorem dX9_bits_18 : decode cX9_bits 18 = .ok (.ifCond .ge 18, 3) := by decide +kernel
theorem dX9_bits_21 : decode cX9_bits 21 = .ok (.dload_n 2, 1) := by decide +kernel
theorem dX9_bits_22 : decode cX9_bits 22 = .ok (.ldc2_w 222, 3) := by decide +kernel
theorem dX9_bits_25 : decode cX9_bits 25 = .ok (.dmul, 1) := by decide +kernel
theorem dX9_bits_26 : decode cX9_bits 26 = .ok (.dstore_n 2, 1) := by decide +kernel
theorem dX9_bits_27 : decode cX9_bits 27 = .ok (.lload 4, 2) := by decide +kernel
theorem dX9_bits_29 : decode cX9_bits 29 = .ok (.lconst 1, 1) := by decide +kernel
theorem dX9_bits_30 : decode cX9_bits 30 = .ok (.lsub, 1) := by decide +kernel
theorem dX9_bits_31 : decode cX9_bits 31 = .ok (.lstore 4, 2) := by decide +kernel
theorem dX9_bits_33 : decode cX9_bits 33 = .ok (.goto (-18), 3) := by decide +kernel
theorem dX9_bits_36 : decode cX9_bits 36 = .ok (.lload 4, 2) := by decide +kernel
theorem dX9_bits_38 : decode cX9_bits 38 = .ok (.ldc2_w 224, 3) := by decide +kernel
theorem dX9_bits_41 : decode cX9_bits 41 = .ok (.lmul, 1) := by decide +kernel
theorem dX9_bits_42 : decode cX9_bits 42 = .ok (.dload_n 2, 1) := by decide +kernel
theorem dX9_bits_43 : decode cX9_bits 43 = .ok (.dconst 1, 1) := by decide +kernel
theorem dX9_bits_44 : decode cX9_bits 44 = .ok (.dsub, 1) := by decide +kernel
theorem dX9_bits_45 : decode cX9_bits 45 = .ok (.ldc2_w 226, 3) := by decide +kernel
theorem dX9_bits_48 : decode cX9_bits 48 = .ok (.dmul, 1) := by decide +kernel
theorem dX9_bits_49 : decode cX9_bits 49 = .ok (.d2l, 1) := by decide +kernel
theorem dX9_bits_50 : decode cX9_bits 50 = .ok (.ladd, 1) := by decide +kernel
theorem dX9_bits_51 : decode cX9_bits 51 = .ok (.lreturn, 1) := by decide +kernel
theorem dX9_mixSample_0 : decode cX9_mixSample 0 = .ok (.iconst 0, 1) := by decide +kernel
theorem dX9_mixSample_1 : decode cX9_mixSample 1 = .ok (.istore_n 2, 1) := by decide +kernel
theorem dX9_mixSample_2 : decode cX9_mixSample 2 = .ok (.iload_n 2, 1) := by decide +kernel
theorem dX9_mixSample_3 : decode cX9_mixSample 3 = .ok (.bipush 9, 2) := by decide +kernel
theorem dX9_mixSample_5 : decode cX9_mixSample 5 = .ok (.if_icmp .ge 20, 3) := by decide +kernel
theorem dX9_mixSample_8 : decode cX9_mixSample 8 = .ok (.aload_n 0, 1) := by decide +kernel
theorem dX9_mixSample_9 : decode cX9_mixSample 9 = .ok (.aload_n 0, 1) := by decide +kernel
theorem dX9_mixSample_10 : decode cX9_mixSample 10 = .ok (.iload_n 1, 1) := by decide +kernel
theorem dX9_mixSample_11 : decode cX9_mixSample 11 = .ok (.iload_n 2, 1) := by decide +kernel
theorem dX9_mixSample_12 : decode cX9_mixSample 12 = .ok (.invokevirtual 183, 3) := by decide +kernel
theorem dX9_mixSample_15 : decode cX9_mixSample 15 = .ok (.i2l, 1) := by decide +kernel
theorem dX9_mixSample_16 : decode cX9_mixSample 16 = .ok (.invokevirtual 228, 3) := by decide +kernel
theorem dX9_mixSample_19 : decode cX9_mixSample 19 = .ok (.iinc 2 1, 3) := by decide +kernel
theorem dX9_mixSample_22 : decode cX9_mixSample 22 = .ok (.goto (-20), 3) := by decide +kernel
theorem dX9_mixSample_25 : decode cX9_mixSample 25 = .ok (.iconst 0, 1) := by decide +kernel
theorem dX9_mixSample_26 : decode cX9_mixSample 26 = .ok (.istore_n 2, 1) := by decide +kernel
theorem dX9_mixSample_27 : decode cX9_mixSample 27 = .ok (.iload_n 2, 1) := by decide +kernel
theorem dX9_mixSample_28 : decode cX9_mixSample 28 = .ok (.iconst 4, 1) := by decide +kernel
theorem dX9_mixSample_29 : decode cX9_mixSample 29 = .ok (.aload_n 0, 1) := by decide +kernel
theorem dX9_mixSample_30 : decode cX9_mixSample 30 = .ok (.iload_n 1, 1) := by decide +kernel
theorem dX9_mixSample_31 : decode cX9_mixSample 31 = .ok (.iconst 5, 1) := by decide +kernel
theorem dX9_mixSample_32 : decode cX9_mixSample 32 = .ok (.invokevirtual 31, 3) := by decide +kernel
theorem dX9_mixSample_35 : decode cX9_mixSample 35 = .ok (.imul, 1) := by decide +kernel
theorem dX9_mixSample_36 : decode cX9_mixSample 36 = .ok (.if_icmp .ge 23, 3) := by decide +kernel
theorem dX9_mixSample_39 : decode cX9_mixSample 39 = .ok (.aload_n 0, 1) := by decide +kernel
theorem dX9_mixSample_40 : decode cX9_mixSample 40 = .ok (.aload_n 0, 1) := by decide +kernel
theorem dX9_mixSample_41 : decode cX9_mixSample 41 = .ok (.iload_n 1, 1) := by decide +kernel
theorem dX9_mixSample_42 : decode cX9_mixSample 42 = .ok (.bipush 6, 2) := by decide +kernel
theorem dX9_mixSample_44 : decode cX9_mixSample 44 = .ok (.iload_n 2, 1) := by decide +kernel
theorem dX9_mixSample_45 : decode cX9_mixSample 45 = .ok (.iadd, 1) := by decide +kernel
theorem dX9_mixSample_46 : decode cX9_mixSample 46 = .ok (.invokevirtual 31, 3) := by decide +kernel
theorem dX9_mixSample_49 : decode cX9_mixSample 49 = .ok (.i2l, 1) := by decide +kernel
theorem dX9_mixSample_50 : decode cX9_mixSample 50 = .ok (.invokevirtual 228, 3) := by decide +kernel
theorem dX9_mixSample_53 : decode cX9_mixSample 53 = .ok (.iinc 2 1, 3) := by decide +kernel
theorem dX9_mixSample_56 : decode cX9_mixSample 56 = .ok (.goto (-29), 3) := by decide +kernel
theorem dX9_mixSample_59 : decode cX9_mixSample 59 = .ok (.aload_n 0, 1) := by decide +kernel
theorem dX9_mixSample_60 : decode cX9_mixSample 60 = .ok (.aload_n 0, 1) := by decide +kernel
theorem dX9_mixSample_61 : decode cX9_mixSample 61 = .ok (.iload_n 1, 1) := by decide +kernel
theorem dX9_mixSample_62 : decode cX9_mixSample 62 = .ok (.invokevirtual 204, 3) := by decide +kernel
theorem dX9_mixSample_65 : decode cX9_mixSample 65 = .ok (.i2l, 1) := by decide +kernel
theorem dX9_mixSample_66 : decode cX9_mixSample 66 = .ok (.invokevirtual 228, 3) := by decide +kernel
theorem dX9_mixSample_69 : decode cX9_mixSample 69 = .ok (.aload_n 0, 1) := by decide +kernel
theorem dX9_mixSample_70 : decode cX9_mixSample 70 = .ok (.aload_n 0, 1) := by decide +kernel
theorem dX9_mixSample_71 : decode cX9_mixSample 71 = .ok (.iload_n 1, 1) := by decide +kernel
theorem dX9_mixSample_72 : decode cX9_mixSample 72 = .ok (.invokevirtual 207, 3) := by decide +kernel
theorem dX9_mixSample_75 : decode cX9_mixSample 75 = .ok (.i2l, 1) := by decide +kernel
theorem dX9_mixSample_76 : decode cX9_mixSample 76 = .ok (.invokevirtual 228, 3) := by decide +kernel
theorem dX9_mixSample_79 : decode cX9_mixSample 79 = .ok (.iconst 0, 1) := by decide +kernel
theorem dX9_mixSample_80 : decode cX9_mixSample 80 = .ok (.istore_n 2, 1) := by decide +kernel
theorem dX9_mixSample_81 : decode cX9_mixSample 81 = .ok (.iload_n 2, 1) := by decide +kernel
theorem dX9_mixSample_82 : decode cX9_mixSample 82 = .ok (.iconst 3, 1) := by decide +kernel
theorem dX9_mixSample_83 : decode cX9_mixSample 83 = .ok (.if_icmp .ge 20, 3) := by decide +kernel
theorem dX9_mixSample_86 : decode cX9_mixSample 86 = .ok (.aload_n 0, 1) := by decide +kernel
theorem dX9_mixSample_87 : decode cX9_mixSample 87 = .ok (.aload_n 0, 1) := by decide +kernel
theorem dX9_mixSample_88 : decode cX9_mixSample 88 = .ok (.iload_n 2, 1) := by decide +kernel
theorem dX9_mixSample_89 : decode cX9_mixSample 89 = .ok (.iload_n 1, 1) := by decide +kernel
theorem dX9_mixSample_90 : decode cX9_mixSample 90 = .ok (.invokevirtual 120, 3) := by decide +kernel
theorem dX9_mixSample_93 : decode cX9_mixSample 93 = .ok (.i2l, 1) := by decide +kernel
theorem dX9_mixSample_94 : decode cX9_mixSample 94 = .ok (.invokevirtual 228, 3) := by decide +kernel
theorem dX9_mixSample_97 : decode cX9_mixSample 97 = .ok (.iinc 2 1, 3) := by decide +kernel
theorem dX9_mixSample_100 : decode cX9_mixSample 100 = .ok (.goto (-19), 3) := by decide +kernel
theorem dX9_mixSample_103 : decode cX9_mixSample 103 = .ok (.return_, 1) := by decide +kernel
theorem dX9_digest_0 : decode cX9_digest 0 = .ok (.aload_n 0, 1) := by decide +kernel
theorem dX9_digest_1 : decode cX9_digest 1 = .ok (.iconst 0, 1) := by decide +kernel
theorem dX9_digest_2 : decode cX9_digest 2 = .ok (.putfield 19, 3) := by decide +kernel
theorem dX9_digest_5 : decode cX9_digest 5 = .ok (.aload_n 0, 1) := by decide +kernel
theorem dX9_digest_6 : decode cX9_digest 6 = .ok (.ldc2_w 232, 3) := by decide +kernel
theorem dX9_digest_9 : decode cX9_digest 9 = .ok (.putfield 216, 3) := by decide +kernel
theorem dX9_digest_12 : decode cX9_digest 12 = .ok (.iconst 0, 1) := by decide +kernel
theorem dX9_digest_13 : decode cX9_digest 13 = .ok (.istore_n 1, 1) := by decide +kernel
theorem dX9_digest_14 : decode cX9_digest 14 = .ok (.iload_n 1, 1) := by decide +kernel
theorem dX9_digest_15 : decode cX9_digest 15 = .ok (.bipush 12, 2) := by decide +kernel
theorem dX9_digest_17 : decode cX9_digest 17 = .ok (.if_icmp .ge 19, 3) := by decide +kernel
theorem dX9_digest_20 : decode cX9_digest 20 = .ok (.aload_n 0, 1) := by decide +kernel
theorem dX9_digest_21 : decode cX9_digest 21 = .ok (.aload_n 0, 1) := by decide +kernel
theorem dX9_digest_22 : decode cX9_digest 22 = .ok (.iload_n 1, 1) := by decide +kernel
theorem dX9_digest_23 : decode cX9_digest 23 = .ok (.invokevirtual 198, 3) := by decide +kernel
theorem dX9_digest_26 : decode cX9_digest 26 = .ok (.i2l, 1) := by decide +kernel
theorem dX9_digest_27 : decode cX9_digest 27 = .ok (.invokevirtual 228, 3) := by decide +kernel
theorem dX9_digest_30 : decode cX9_digest 30 = .ok (.iinc 1 1, 3) := by decide +kernel
theorem dX9_digest_33 : decode cX9_digest 33 = .ok (.goto (-19), 3) := by decide +kernel
theorem dX9_digest_36 : decode cX9_digest 36 = .ok (.iconst 0, 1) := by decide +kernel
theorem dX9_digest_37 : decode cX9_digest 37 = .ok (.istore_n 1, 1) := by decide +kernel
theorem dX9_digest_38 : decode cX9_digest 38 = .ok (.iload_n 1, 1) := by decide +kernel
theorem dX9_digest_39 : decode cX9_digest 39 = .ok (.aload_n 0, 1) := by decide +kernel
theorem dX9_digest_40 : decode cX9_digest 40 = .ok (.getfield 7, 3) := by decide +kernel
theorem dX9_digest_43 : decode cX9_digest 43 = .ok (.iconst 0, 1) := by decide +kernel
theorem dX9_digest_44 : decode cX9_digest 44 = .ok (.iaload, 1) := by decide +kernel
theorem dX9_digest_45 : decode cX9_digest 45 = .ok (.if_icmp .ge 44, 3) := by decide +kernel
theorem dX9_digest_48 : decode cX9_digest 48 = .ok (.iconst 0, 1) := by decide +kernel
theorem dX9_digest_49 : decode cX9_digest 49 = .ok (.istore_n 2, 1) := by decide +kernel
theorem dX9_digest_50 : decode cX9_digest 50 = .ok (.iload_n 2, 1) := by decide +kernel
theorem dX9_digest_51 : decode cX9_digest 51 = .ok (.bipush 9, 2) := by decide +kernel
theorem dX9_digest_53 : decode cX9_digest 53 = .ok (.if_icmp .ge 20, 3) := by decide +kernel
theorem dX9_digest_56 : decode cX9_digest 56 = .ok (.aload_n 0, 1) := by decide +kernel
theorem dX9_digest_57 : decode cX9_digest 57 = .ok (.aload_n 0, 1) := by decide +kernel
theorem dX9_digest_58 : decode cX9_digest 58 = .ok (.iload_n 1, 1) := by decide +kernel
theorem dX9_digest_59 : decode cX9_digest 59 = .ok (.iload_n 2, 1) := by decide +kernel
theorem dX9_digest_60 : decode cX9_digest 60 = .ok (.invokevirtual 180, 3) := by decide +kernel
theorem dX9_digest_63 : decode cX9_digest 63 = .ok (.i2l, 1) := by decide +kernel
theorem dX9_digest_64 : decode cX9_digest 64 = .ok (.invokevirtual 228, 3) := by decide +kernel
theorem dX9_digest_67 : decode cX9_digest 67 = .ok (.iinc 2 1, 3) := by decide +kernel
theorem dX9_digest_70 : decode cX9_digest 70 = .ok (.goto (-20), 3) := by decide +kernel
theorem dX9_digest_73 : decode cX9_digest 73 = .ok (.aload_n 0, 1) := by decide +kernel
theorem dX9_digest_74 : decode cX9_digest 74 = .ok (.aload_n 0, 1) := by decide +kernel
theorem dX9_digest_75 : decode cX9_digest 75 = .ok (.iload_n 1, 1) := by decide +kernel
theorem dX9_digest_76 : decode cX9_digest 76 = .ok (.invokevirtual 129, 3) := by decide +kernel
theorem dX9_digest_79 : decode cX9_digest 79 = .ok (.i2l, 1) := by decide +kernel
theorem dX9_digest_80 : decode cX9_digest 80 = .ok (.invokevirtual 228, 3) := by decide +kernel
theorem dX9_digest_83 : decode cX9_digest 83 = .ok (.iinc 1 1, 3) := by decide +kernel
theorem dX9_digest_86 : decode cX9_digest 86 = .ok (.goto (-48), 3) := by decide +kernel
theorem dX9_digest_89 : decode cX9_digest 89 = .ok (.iconst 0, 1) := by decide +kernel
theorem dX9_digest_90 : decode cX9_digest 90 = .ok (.istore_n 1, 1) := by decide +kernel
theorem dX9_digest_91 : decode cX9_digest 91 = .ok (.iload_n 1, 1) := by decide +kernel
theorem dX9_digest_92 : decode cX9_digest 92 = .ok (.aload_n 0, 1) := by decide +kernel
theorem dX9_digest_93 : decode cX9_digest 93 = .ok (.getfield 7, 3) := by decide +kernel
theorem dX9_digest_96 : decode cX9_digest 96 = .ok (.iconst 1, 1) := by decide +kernel
theorem dX9_digest_97 : decode cX9_digest 97 = .ok (.iaload, 1) := by decide +kernel
theorem dX9_digest_98 : decode cX9_digest 98 = .ok (.if_icmp .ge 14, 3) := by decide +kernel
theorem dX9_digest_101 : decode cX9_digest 101 = .ok (.aload_n 0, 1) := by decide +kernel
theorem dX9_digest_102 : decode cX9_digest 102 = .ok (.iload_n 1, 1) := by decide +kernel
theorem dX9_digest_103 : decode cX9_digest 103 = .ok (.invokevirtual 234, 3) := by decide +kernel
theorem dX9_digest_106 : decode cX9_digest 106 = .ok (.iinc 1 1, 3) := by decide +kernel
theorem dX9_digest_109 : decode cX9_digest 109 = .ok (.goto (-18), 3) := by decide +kernel
theorem dX9_digest_112 : decode cX9_digest 112 = .ok (.iconst 0, 1) := by decide +kernel
theorem dX9_digest_113 : decode cX9_digest 113 = .ok (.istore_n 1, 1) := by decide +kernel
theorem dX9_digest_114 : decode cX9_digest 114 = .ok (.iload_n 1, 1) := by decide +kernel
theorem dX9_digest_115 : decode cX9_digest 115 = .ok (.bipush 9, 2) := by decide +kernel
theorem dX9_digest_117 : decode cX9_digest 117 = .ok (.if_icmp .ge 23, 3) := by decide +kernel
theorem dX9_digest_120 : decode cX9_digest 120 = .ok (.aload_n 0, 1) := by decide +kernel
theorem dX9_digest_121 : decode cX9_digest 121 = .ok (.aload_n 0, 1) := by decide +kernel
theorem dX9_digest_122 : decode cX9_digest 122 = .ok (.getfield 7, 3) := by decide +kernel
theorem dX9_digest_125 : decode cX9_digest 125 = .ok (.bipush 31, 2) := by decide +kernel
theorem dX9_digest_127 : decode cX9_digest 127 = .ok (.iload_n 1, 1) := by decide +kernel
theorem dX9_digest_128 : decode cX9_digest 128 = .ok (.iadd, 1) := by decide +kernel
theorem dX9_digest_129 : decode cX9_digest 129 = .ok (.iaload, 1) := by decide +kernel
theorem dX9_digest_130 : decode cX9_digest 130 = .ok (.i2l, 1) := by decide +kernel
theorem dX9_digest_131 : decode cX9_digest 131 = .ok (.invokevirtual 228, 3) := by decide +kernel
theorem dX9_digest_134 : decode cX9_digest 134 = .ok (.iinc 1 1, 3) := by decide +kernel
theorem dX9_digest_137 : decode cX9_digest 137 = .ok (.goto (-23), 3) := by decide +kernel
theorem dX9_digest_140 : decode cX9_digest 140 = .ok (.iconst 0, 1) := by decide +kernel
theorem dX9_digest_141 : decode cX9_digest 141 = .ok (.istore_n 1, 1) := by decide +kernel
theorem dX9_digest_142 : decode cX9_digest 142 = .ok (.iload_n 1, 1) := by decide +kernel
theorem dX9_digest_143 : decode cX9_digest 143 = .ok (.bipush 9, 2) := by decide +kernel
theorem dX9_digest_145 : decode cX9_digest 145 = .ok (.if_icmp .ge 24, 3) := by decide +kernel
theorem dX9_digest_148 : decode cX9_digest 148 = .ok (.aload_n 0, 1) := by decide +kernel
theorem dX9_digest_149 : decode cX9_digest 149 = .ok (.aload_n 0, 1) := by decide +kernel
theorem dX9_digest_150 : decode cX9_digest 150 = .ok (.iload_n 1, 1) := by decide +kernel
theorem dX9_digest_151 : decode cX9_digest 151 = .ok (.iconst 3, 1) := by decide +kernel
theorem dX9_digest_152 : decode cX9_digest 152 = .ok (.idiv, 1) := by decide +kernel
theorem dX9_digest_153 : decode cX9_digest 153 = .ok (.iload_n 1, 1) := by decide +kernel
theorem dX9_digest_154 : decode cX9_digest 154 = .ok (.iconst 3, 1) := by decide +kernel
theorem dX9_digest_155 : decode cX9_digest 155 = .ok (.irem, 1) := by decide +kernel
theorem dX9_digest_156 : decode cX9_digest 156 = .ok (.invokevirtual 189, 3) := by decide +kernel
theorem dX9_digest_159 : decode cX9_digest 159 = .ok (.i2l, 1) := by decide +kernel
theorem dX9_digest_160 : decode cX9_digest 160 = .ok (.invokevirtual 228, 3) := by decide +kernel
theorem dX9_digest_163 : decode cX9_digest 163 = .ok (.iinc 1 1, 3) := by decide +kernel
theorem dX9_digest_166 : decode cX9_digest 166 = .ok (.goto (-24), 3) := by decide +kernel
theorem dX9_digest_169 : decode cX9_digest 169 = .ok (.aload_n 0, 1) := by decide +kernel
theorem dX9_digest_170 : decode cX9_digest 170 = .ok (.aload_n 0, 1) := by decide +kernel
theorem dX9_digest_171 : decode cX9_digest 171 = .ok (.getfield 7, 3) := by decide +kernel
theorem dX9_digest_174 : decode cX9_digest 174 = .ok (.bipush 8, 2) := by decide +kernel
theorem dX9_digest_176 : decode cX9_digest 176 = .ok (.iaload, 1) := by decide +kernel
theorem dX9_digest_177 : decode cX9_digest 177 = .ok (.i2l, 1) := by decide +kernel
theorem dX9_digest_178 : decode cX9_digest 178 = .ok (.invokevirtual 228, 3) := by decide +kernel
theorem dX9_digest_181 : decode cX9_digest 181 = .ok (.aload_n 0, 1) := by decide +kernel
theorem dX9_digest_182 : decode cX9_digest 182 = .ok (.aload_n 0, 1) := by decide +kernel
theorem dX9_digest_183 : decode cX9_digest 183 = .ok (.getfield 7, 3) := by decide +kernel
theorem dX9_digest_186 : decode cX9_digest 186 = .ok (.bipush 9, 2) := by decide +kernel
theorem dX9_digest_188 : decode cX9_digest 188 = .ok (.iaload, 1) := by decide +kernel
theorem dX9_digest_189 : decode cX9_digest 189 = .ok (.i2l, 1) := by decide +kernel
theorem dX9_digest_190 : decode cX9_digest 190 = .ok (.invokevirtual 228, 3) := by decide +kernel
theorem dX9_digest_193 : decode cX9_digest 193 = .ok (.aload_n 0, 1) := by decide +kernel
theorem dX9_digest_194 : decode cX9_digest 194 = .ok (.aload_n 0, 1) := by decide +kernel
theorem dX9_digest_195 : decode cX9_digest 195 = .ok (.invokevirtual 210, 3) := by decide +kernel
theorem dX9_digest_198 : decode cX9_digest 198 = .ok (.invokestatic 238, 3) := by decide +kernel
theorem dX9_digest_201 : decode cX9_digest 201 = .ok (.invokevirtual 228, 3) := by decide +kernel
theorem dX9_digest_204 : decode cX9_digest 204 = .ok (.aload_n 0, 1) := by decide +kernel
theorem dX9_digest_205 : decode cX9_digest 205 = .ok (.aload_n 0, 1) := by decide +kernel
theorem dX9_digest_206 : decode cX9_digest 206 = .ok (.getfield 135, 3) := by decide +kernel
theorem dX9_digest_209 : decode cX9_digest 209 = .ok (.i2l, 1) := by decide +kernel
theorem dX9_digest_210 : decode cX9_digest 210 = .ok (.invokevirtual 228, 3) := by decide +kernel
theorem dX9_digest_213 : decode cX9_digest 213 = .ok (.iconst 0, 1) := by decide +kernel
theorem dX9_digest_214 : decode cX9_digest 214 = .ok (.istore_n 1, 1) := by decide +kernel
theorem dX9_digest_215 : decode cX9_digest 215 = .ok (.iload_n 1, 1) := by decide +kernel
theorem dX9_digest_216 : decode cX9_digest 216 = .ok (.aload_n 0, 1) := by decide +kernel
theorem dX9_digest_217 : decode cX9_digest 217 = .ok (.getfield 135, 3) := by decide +kernel
theorem dX9_digest_220 : decode cX9_digest 220 = .ok (.if_icmp .ge 20, 3) := by decide +kernel
theorem dX9_digest_223 : decode cX9_digest 223 = .ok (.aload_n 0, 1) := by decide +kernel
theorem dX9_digest_224 : decode cX9_digest 224 = .ok (.aload_n 0, 1) := by decide +kernel
theorem dX9_digest_225 : decode cX9_digest 225 = .ok (.getfield 13, 3) := by decide +kernel
theorem dX9_digest_228 : decode cX9_digest 228 = .ok (.iload_n 1, 1) := by decide +kernel
theorem dX9_digest_229 : decode cX9_digest 229 = .ok (.iaload, 1) := by decide +kernel
theorem dX9_digest_230 : decode cX9_digest 230 = .ok (.i2l, 1) := by decide +kernel
theorem dX9_digest_231 : decode cX9_digest 231 = .ok (.invokevirtual 228, 3) := by decide +kernel
theorem dX9_digest_234 : decode cX9_digest 234 = .ok (.iinc 1 1, 3) := by decide +kernel
theorem dX9_digest_237 : decode cX9_digest 237 = .ok (.goto (-22), 3) := by decide +kernel
theorem dX9_digest_240 : decode cX9_digest 240 = .ok (.aload_n 0, 1) := by decide +kernel
theorem dX9_digest_241 : decode cX9_digest 241 = .ok (.getfield 216, 3) := by decide +kernel
theorem dX9_digest_244 : decode cX9_digest 244 = .ok (.lreturn, 1) := by decide +kernel
