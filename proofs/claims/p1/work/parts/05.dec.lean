theorem dX0_init_0 : decode cX0_init 0 = .ok (.aload_n 0, 1) := by decide +kernel
theorem dX0_init_1 : decode cX0_init 1 = .ok (.invokespecial 3, 3) := by decide +kernel
theorem dX0_init_4 : decode cX0_init 4 = .ok (.aload_n 0, 1) := by decide +kernel
theorem dX0_init_5 : decode cX0_init 5 = .ok (.iconst 0, 1) := by decide +kernel
theorem dX0_init_6 : decode cX0_init 6 = .ok (.putfield 9, 3) := by decide +kernel
theorem dX0_init_9 : decode cX0_init 9 = .ok (.aload_n 0, 1) := by decide +kernel
theorem dX0_init_10 : decode cX0_init 10 = .ok (.iconst 0, 1) := by decide +kernel
theorem dX0_init_11 : decode cX0_init 11 = .ok (.putfield 15, 3) := by decide +kernel
theorem dX0_init_14 : decode cX0_init 14 = .ok (.aload_n 0, 1) := by decide +kernel
theorem dX0_init_15 : decode cX0_init 15 = .ok (.bipush 20, 2) := by decide +kernel
theorem dX0_init_17 : decode cX0_init 17 = .ok (.newarray .int, 2) := by decide +kernel
theorem dX0_init_19 : decode cX0_init 19 = .ok (.putfield 18, 3) := by decide +kernel
theorem dX0_init_22 : decode cX0_init 22 = .ok (.aload_n 0, 1) := by decide +kernel
theorem dX0_init_23 : decode cX0_init 23 = .ok (.bipush 20, 2) := by decide +kernel
theorem dX0_init_25 : decode cX0_init 25 = .ok (.newarray .int, 2) := by decide +kernel
theorem dX0_init_27 : decode cX0_init 27 = .ok (.putfield 22, 3) := by decide +kernel
theorem dX0_init_30 : decode cX0_init 30 = .ok (.aload_n 0, 1) := by decide +kernel
theorem dX0_init_31 : decode cX0_init 31 = .ok (.bipush 20, 2) := by decide +kernel
theorem dX0_init_33 : decode cX0_init 33 = .ok (.newarray .int, 2) := by decide +kernel
theorem dX0_init_35 : decode cX0_init 35 = .ok (.putfield 25, 3) := by decide +kernel
theorem dX0_init_38 : decode cX0_init 38 = .ok (.return_, 1) := by decide +kernel
theorem dX10_at_0 : decode cX10_at 0 = .ok (.iconst 0, 1) := by decide +kernel
theorem dX10_at_1 : decode cX10_at 1 = .ok (.istore_n 2, 1) := by decide +kernel
theorem dX10_at_2 : decode cX10_at 2 = .ok (.iload_n 2, 1) := by decide +kernel
theorem dX10_at_3 : decode cX10_at 3 = .ok (.aload_n 0, 1) := by decide +kernel
theorem dX10_at_4 : decode cX10_at 4 = .ok (.getfield 123, 3) := by decide +kernel
theorem dX10_at_7 : decode cX10_at 7 = .ok (.if_icmp .ge 46, 3) := by decide +kernel
theorem dX10_at_53 : decode cX10_at 53 = .ok (.iconst (-1), 1) := by decide +kernel
theorem dX10_at_54 : decode cX10_at 54 = .ok (.ireturn, 1) := by decide +kernel
theorem dX10_attempt_0 : decode cX10_attempt 0 = .ok (.aload_n 0, 1) := by decide +kernel
theorem dX10_attempt_1 : decode cX10_attempt 1 = .ok (.iload_n 1, 1) := by decide +kernel
theorem dX10_attempt_2 : decode cX10_attempt 2 = .ok (.iload_n 2, 1) := by decide +kernel
theorem dX10_attempt_3 : decode cX10_attempt 3 = .ok (.invokevirtual 271, 3) := by decide +kernel
theorem dX10_attempt_6 : decode cX10_attempt 6 = .ok (.ifCond .eq 32, 3) := by decide +kernel
theorem dX10_attempt_9 : decode cX10_attempt 9 = .ok (.iload_n 3, 1) := by decide +kernel
theorem dX10_attempt_10 : decode cX10_attempt 10 = .ok (.iconst 0, 1) := by decide +kernel
theorem dX10_attempt_11 : decode cX10_attempt 11 = .ok (.aload_n 0, 1) := by decide +kernel
theorem dX10_attempt_12 : decode cX10_attempt 12 = .ok (.getfield 174, 3) := by decide +kernel
theorem dX10_attempt_15 : decode cX10_attempt 15 = .ok (.iconst 1, 1) := by decide +kernel
theorem dX10_attempt_16 : decode cX10_attempt 16 = .ok (.isub, 1) := by decide +kernel
theorem dX10_attempt_17 : decode cX10_attempt 17 = .ok (.invokestatic 126, 3) := by decide +kernel
theorem dX10_attempt_20 : decode cX10_attempt 20 = .ok (.ifCond .eq 18, 3) := by decide +kernel
theorem dX10_attempt_38 : decode cX10_attempt 38 = .ok (.iconst (-1), 1) := by decide +kernel
theorem dX10_attempt_39 : decode cX10_attempt 39 = .ok (.ireturn, 1) := by decide +kernel
theorem dX10_best_0 : decode cX10_best 0 = .ok (.aload_n 0, 1) := by decide +kernel
theorem dX10_best_1 : decode cX10_best 1 = .ok (.iload_n 1, 1) := by decide +kernel
theorem dX10_best_2 : decode cX10_best 2 = .ok (.iload_n 2, 1) := by decide +kernel
theorem dX10_best_3 : decode cX10_best 3 = .ok (.invokevirtual 271, 3) := by decide +kernel
theorem dX10_best_6 : decode cX10_best 6 = .ok (.ifCond .ne 5, 3) := by decide +kernel
theorem dX10_best_9 : decode cX10_best 9 = .ok (.iconst (-1), 1) := by decide +kernel
theorem dX10_best_10 : decode cX10_best 10 = .ok (.ireturn, 1) := by decide +kernel
theorem dX10_best_11 : decode cX10_best 11 = .ok (.iconst (-1), 1) := by decide +kernel
theorem dX10_best_12 : decode cX10_best 12 = .ok (.istore 5, 2) := by decide +kernel
theorem dX10_best_14 : decode cX10_best 14 = .ok (.iconst (-1), 1) := by decide +kernel
theorem dX10_best_15 : decode cX10_best 15 = .ok (.istore 6, 2) := by decide +kernel
theorem dX10_best_17 : decode cX10_best 17 = .ok (.iconst 0, 1) := by decide +kernel
theorem dX10_best_18 : decode cX10_best 18 = .ok (.istore 7, 2) := by decide +kernel
theorem dX10_best_20 : decode cX10_best 20 = .ok (.iload 7, 2) := by decide +kernel
theorem dX10_best_22 : decode cX10_best 22 = .ok (.aload_n 0, 1) := by decide +kernel
theorem dX10_best_23 : decode cX10_best 23 = .ok (.getfield 174, 3) := by decide +kernel
theorem dX10_best_26 : decode cX10_best 26 = .ok (.if_icmp .ge 73, 3) := by decide +kernel
theorem dX10_best_99 : decode cX10_best 99 = .ok (.iload 6, 2) := by decide +kernel
theorem dX10_best_101 : decode cX10_best 101 = .ok (.ireturn, 1) := by decide +kernel
theorem dX10_byteOf_0 : decode cX10_byteOf 0 = .ok (.iload 5, 2) := by decide +kernel
theorem dX10_byteOf_2 : decode cX10_byteOf 2 = .ok (.iconst 4, 1) := by decide +kernel
theorem dX10_byteOf_3 : decode cX10_byteOf 3 = .ok (.if_icmp .ge 7, 3) := by decide +kernel
theorem dX10_byteOf_6 : decode cX10_byteOf 6 = .ok (.iload_n 0, 1) := by decide +kernel
theorem dX10_byteOf_7 : decode cX10_byteOf 7 = .ok (.goto 38, 3) := by decide +kernel
theorem dX10_byteOf_10 : decode cX10_byteOf 10 = .ok (.iload 5, 2) := by decide +kernel
theorem dX10_byteOf_12 : decode cX10_byteOf 12 = .ok (.bipush 8, 2) := by decide +kernel
theorem dX10_byteOf_14 : decode cX10_byteOf 14 = .ok (.if_icmp .ge 7, 3) := by decide +kernel
theorem dX10_byteOf_17 : decode cX10_byteOf 17 = .ok (.iload_n 1, 1) := by decide +kernel
theorem dX10_byteOf_18 : decode cX10_byteOf 18 = .ok (.goto 27, 3) := by decide +kernel
theorem dX10_byteOf_21 : decode cX10_byteOf 21 = .ok (.iload 5, 2) := by decide +kernel
theorem dX10_byteOf_23 : decode cX10_byteOf 23 = .ok (.bipush 12, 2) := by decide +kernel
theorem dX10_byteOf_25 : decode cX10_byteOf 25 = .ok (.if_icmp .ge 7, 3) := by decide +kernel
theorem dX10_byteOf_28 : decode cX10_byteOf 28 = .ok (.iload_n 2, 1) := by decide +kernel
theorem dX10_byteOf_29 : decode cX10_byteOf 29 = .ok (.goto 16, 3) := by decide +kernel
theorem dX10_byteOf_32 : decode cX10_byteOf 32 = .ok (.iload 5, 2) := by decide +kernel
theorem dX10_byteOf_34 : decode cX10_byteOf 34 = .ok (.bipush 16, 2) := by decide +kernel
theorem dX10_byteOf_36 : decode cX10_byteOf 36 = .ok (.if_icmp .ge 7, 3) := by decide +kernel
theorem dX10_byteOf_39 : decode cX10_byteOf 39 = .ok (.iload_n 3, 1) := by decide +kernel
theorem dX10_byteOf_40 : decode cX10_byteOf 40 = .ok (.goto 5, 3) := by decide +kernel
theorem dX10_byteOf_43 : decode cX10_byteOf 43 = .ok (.iload 4, 2) := by decide +kernel
theorem dX10_byteOf_45 : decode cX10_byteOf 45 = .ok (.istore 6, 2) := by decide +kernel
theorem dX10_byteOf_47 : decode cX10_byteOf 47 = .ok (.iload 6, 2) := by decide +kernel
theorem dX10_byteOf_49 : decode cX10_byteOf 49 = .ok (.bipush 24, 2) := by decide +kernel
theorem dX10_byteOf_51 : decode cX10_byteOf 51 = .ok (.bipush 8, 2) := by decide +kernel
theorem dX10_byteOf_53 : decode cX10_byteOf 53 = .ok (.iload 5, 2) := by decide +kernel
theorem dX10_byteOf_55 : decode cX10_byteOf 55 = .ok (.iconst 4, 1) := by decide +kernel
theorem dX10_byteOf_56 : decode cX10_byteOf 56 = .ok (.irem, 1) := by decide +kernel
theorem dX10_byteOf_57 : decode cX10_byteOf 57 = .ok (.imul, 1) := by decide +kernel
theorem dX10_byteOf_58 : decode cX10_byteOf 58 = .ok (.isub, 1) := by decide +kernel
theorem dX10_byteOf_59 : decode cX10_byteOf 59 = .ok (.ishr, 1) := by decide +kernel
theorem dX10_byteOf_60 : decode cX10_byteOf 60 = .ok (.sipush 255, 3) := by decide +kernel
theorem dX10_byteOf_63 : decode cX10_byteOf 63 = .ok (.iand, 1) := by decide +kernel
theorem dX10_byteOf_64 : decode cX10_byteOf 64 = .ok (.ireturn, 1) := by decide +kernel
theorem dX10_choice_0 : decode cX10_choice 0 = .ok (.aload_n 0, 1) := by decide +kernel
theorem dX10_choice_1 : decode cX10_choice 1 = .ok (.getfield 174, 3) := by decide +kernel
theorem dX10_choice_4 : decode cX10_choice 4 = .ok (.iconst 4, 1) := by decide +kernel
theorem dX10_choice_5 : decode cX10_choice 5 = .ok (.if_icmp .eq 11, 3) := by decide +kernel
theorem dX10_choice_8 : decode cX10_choice 8 = .ok (.aload_n 0, 1) := by decide +kernel
theorem dX10_choice_9 : decode cX10_choice 9 = .ok (.invokevirtual 167, 3) := by decide +kernel
theorem dX10_choice_12 : decode cX10_choice 12 = .ok (.iconst (-1), 1) := by decide +kernel
theorem dX10_choice_13 : decode cX10_choice 13 = .ok (.if_icmp .eq 5, 3) := by decide +kernel
theorem dX10_choice_18 : decode cX10_choice 18 = .ok (.aload_n 0, 1) := by decide +kernel
theorem dX10_choice_19 : decode cX10_choice 19 = .ok (.iconst 5, 1) := by decide +kernel
theorem dX10_choice_20 : decode cX10_choice 20 = .ok (.aload_n 0, 1) := by decide +kernel
theorem dX10_choice_21 : decode cX10_choice 21 = .ok (.getfield 174, 3) := by decide +kernel
theorem dX10_choice_24 : decode cX10_choice 24 = .ok (.iadd, 1) := by decide +kernel
theorem dX10_choice_25 : decode cX10_choice 25 = .ok (.invokevirtual 170, 3) := by decide +kernel
theorem dX10_choice_28 : decode cX10_choice 28 = .ok (.aload_n 0, 1) := by decide +kernel
theorem dX10_choice_29 : decode cX10_choice 29 = .ok (.dup, 1) := by decide +kernel
theorem dX10_choice_30 : decode cX10_choice 30 = .ok (.getfield 174, 3) := by decide +kernel
theorem dX10_choice_33 : decode cX10_choice 33 = .ok (.iconst 1, 1) := by decide +kernel
theorem dX10_choice_34 : decode cX10_choice 34 = .ok (.iadd, 1) := by decide +kernel
theorem dX10_choice_35 : decode cX10_choice 35 = .ok (.putfield 174, 3) := by decide +kernel
theorem dX10_choice_38 : decode cX10_choice 38 = .ok (.aload_n 0, 1) := by decide +kernel
theorem dX10_choice_39 : decode cX10_choice 39 = .ok (.getfield 174, 3) := by decide +kernel
theorem dX10_choice_42 : decode cX10_choice 42 = .ok (.iconst 1, 1) := by decide +kernel
theorem dX10_choice_43 : decode cX10_choice 43 = .ok (.isub, 1) := by decide +kernel
theorem dX10_choice_44 : decode cX10_choice 44 = .ok (.ireturn, 1) := by decide +kernel
theorem dX10_count_0 : decode cX10_count 0 = .ok (.iconst 0, 1) := by decide +kernel
theorem dX10_count_1 : decode cX10_count 1 = .ok (.istore_n 2, 1) := by decide +kernel
theorem dX10_count_2 : decode cX10_count 2 = .ok (.iconst 0, 1) := by decide +kernel
theorem dX10_count_3 : decode cX10_count 3 = .ok (.istore_n 3, 1) := by decide +kernel
theorem dX10_count_4 : decode cX10_count 4 = .ok (.iload_n 3, 1) := by decide +kernel
theorem dX10_count_5 : decode cX10_count 5 = .ok (.aload_n 0, 1) := by decide +kernel
theorem dX10_count_6 : decode cX10_count 6 = .ok (.getfield 123, 3) := by decide +kernel
theorem dX10_count_9 : decode cX10_count 9 = .ok (.if_icmp .ge 26, 3) := by decide +kernel
theorem dX10_count_35 : decode cX10_count 35 = .ok (.iload_n 1, 1) := by decide +kernel
theorem dX10_count_36 : decode cX10_count 36 = .ok (.tableswitch 96 0 7 #[48, 53, 58, 63, 68, 73, 78, 80], 48) := by decide +kernel
theorem dX10_count_84 : decode cX10_count 84 = .ok (.aload_n 0, 1) := by decide +kernel
theorem dX10_count_85 : decode cX10_count 85 = .ok (.getfield 123, 3) := by decide +kernel
theorem dX10_count_88 : decode cX10_count 88 = .ok (.ireturn, 1) := by decide +kernel
theorem dX10_count_89 : decode cX10_count 89 = .ok (.aload_n 0, 1) := by decide +kernel
theorem dX10_count_90 : decode cX10_count 90 = .ok (.getfield 9, 3) := by decide +kernel
theorem dX10_count_93 : decode cX10_count 93 = .ok (.ireturn, 1) := by decide +kernel
theorem dX10_count_94 : decode cX10_count 94 = .ok (.aload_n 0, 1) := by decide +kernel
theorem dX10_count_95 : decode cX10_count 95 = .ok (.getfield 133, 3) := by decide +kernel
theorem dX10_count_98 : decode cX10_count 98 = .ok (.ireturn, 1) := by decide +kernel
theorem dX10_count_99 : decode cX10_count 99 = .ok (.aload_n 0, 1) := by decide +kernel
theorem dX10_count_100 : decode cX10_count 100 = .ok (.getfield 130, 3) := by decide +kernel
theorem dX10_count_103 : decode cX10_count 103 = .ok (.ireturn, 1) := by decide +kernel
theorem dX10_count_104 : decode cX10_count 104 = .ok (.aload_n 0, 1) := by decide +kernel
theorem dX10_count_105 : decode cX10_count 105 = .ok (.getfield 174, 3) := by decide +kernel
theorem dX10_count_108 : decode cX10_count 108 = .ok (.ireturn, 1) := by decide +kernel
theorem dX10_count_109 : decode cX10_count 109 = .ok (.aload_n 0, 1) := by decide +kernel
theorem dX10_count_110 : decode cX10_count 110 = .ok (.getfield 147, 3) := by decide +kernel
theorem dX10_count_113 : decode cX10_count 113 = .ok (.ireturn, 1) := by decide +kernel
theorem dX10_count_114 : decode cX10_count 114 = .ok (.iload_n 2, 1) := by decide +kernel
theorem dX10_count_115 : decode cX10_count 115 = .ok (.ireturn, 1) := by decide +kernel
theorem dX10_count_116 : decode cX10_count 116 = .ok (.aload_n 0, 1) := by decide +kernel
theorem dX10_count_117 : decode cX10_count 117 = .ok (.getfield 243, 3) := by decide +kernel
theorem dX10_count_120 : decode cX10_count 120 = .ok (.ifCond .eq 10, 3) := by decide +kernel
theorem dX10_count_130 : decode cX10_count 130 = .ok (.iconst (-1), 1) := by decide +kernel
theorem dX10_count_131 : decode cX10_count 131 = .ok (.ireturn, 1) := by decide +kernel
theorem dX10_count_132 : decode cX10_count 132 = .ok (.iconst (-1), 1) := by decide +kernel
theorem dX10_count_133 : decode cX10_count 133 = .ok (.ireturn, 1) := by decide +kernel
theorem dX10_crash_0 : decode cX10_crash 0 = .ok (.aload_n 0, 1) := by decide +kernel
theorem dX10_crash_1 : decode cX10_crash 1 = .ok (.iload_n 1, 1) := by decide +kernel
theorem dX10_crash_2 : decode cX10_crash 2 = .ok (.invokevirtual 136, 3) := by decide +kernel
theorem dX10_crash_5 : decode cX10_crash 5 = .ok (.ifCond .eq 13, 3) := by decide +kernel
theorem dX10_crash_8 : decode cX10_crash 8 = .ok (.iload_n 2, 1) := by decide +kernel
theorem dX10_crash_9 : decode cX10_crash 9 = .ok (.iconst 0, 1) := by decide +kernel
theorem dX10_crash_10 : decode cX10_crash 10 = .ok (.bipush 100, 2) := by decide +kernel
theorem dX10_crash_12 : decode cX10_crash 12 = .ok (.invokestatic 126, 3) := by decide +kernel
theorem dX10_crash_15 : decode cX10_crash 15 = .ok (.ifCond .ne 5, 3) := by decide +kernel
theorem dX10_crash_18 : decode cX10_crash 18 = .ok (.iconst 0, 1) := by decide +kernel
theorem dX10_crash_19 : decode cX10_crash 19 = .ok (.ireturn, 1) := by decide +kernel
theorem dX10_crash_20 : decode cX10_crash 20 = .ok (.aload_n 0, 1) := by decide +kernel
theorem dX10_crash_21 : decode cX10_crash 21 = .ok (.iload_n 1, 1) := by decide +kernel
theorem dX10_crash_22 : decode cX10_crash 22 = .ok (.putfield 13, 3) := by decide +kernel
theorem dX10_crash_25 : decode cX10_crash 25 = .ok (.aload_n 0, 1) := by decide +kernel
theorem dX10_crash_26 : decode cX10_crash 26 = .ok (.iload_n 2, 1) := by decide +kernel
theorem dX10_crash_27 : decode cX10_crash 27 = .ok (.putfield 140, 3) := by decide +kernel
theorem dX10_crash_30 : decode cX10_crash 30 = .ok (.iconst 1, 1) := by decide +kernel
theorem dX10_crash_31 : decode cX10_crash 31 = .ok (.ireturn, 1) := by decide +kernel
theorem dX10_end_0 : decode cX10_end 0 = .ok (.iload_n 1, 1) := by decide +kernel
theorem dX10_end_1 : decode cX10_end 1 = .ok (.ifCond .lt 11, 3) := by decide +kernel
theorem dX10_end_4 : decode cX10_end 4 = .ok (.iload_n 1, 1) := by decide +kernel
theorem dX10_end_5 : decode cX10_end 5 = .ok (.aload_n 0, 1) := by decide +kernel
theorem dX10_end_6 : decode cX10_end 6 = .ok (.getfield 147, 3) := by decide +kernel
theorem dX10_end_9 : decode cX10_end 9 = .ok (.if_icmp .le 5, 3) := by decide +kernel
theorem dX10_end_12 : decode cX10_end 12 = .ok (.iconst 0, 1) := by decide +kernel
theorem dX10_end_13 : decode cX10_end 13 = .ok (.ireturn, 1) := by decide +kernel
theorem dX10_end_14 : decode cX10_end 14 = .ok (.aload_n 0, 1) := by decide +kernel
theorem dX10_end_15 : decode cX10_end 15 = .ok (.iload_n 1, 1) := by decide +kernel
theorem dX10_end_16 : decode cX10_end 16 = .ok (.putfield 147, 3) := by decide +kernel
theorem dX10_end_19 : decode cX10_end 19 = .ok (.iconst 1, 1) := by decide +kernel
theorem dX10_end_20 : decode cX10_end 20 = .ok (.ireturn, 1) := by decide +kernel
theorem dX10_fault_0 : decode cX10_fault 0 = .ok (.aload_n 0, 1) := by decide +kernel
theorem dX10_fault_1 : decode cX10_fault 1 = .ok (.iconst 0, 1) := by decide +kernel
theorem dX10_fault_2 : decode cX10_fault 2 = .ok (.putfield 150, 3) := by decide +kernel
theorem dX10_fault_5 : decode cX10_fault 5 = .ok (.aload_n 0, 1) := by decide +kernel
theorem dX10_fault_6 : decode cX10_fault 6 = .ok (.iconst 0, 1) := by decide +kernel
theorem dX10_fault_7 : decode cX10_fault 7 = .ok (.putfield 160, 3) := by decide +kernel
theorem dX10_fault_10 : decode cX10_fault 10 = .ok (.aload_n 0, 1) := by decide +kernel
theorem dX10_fault_11 : decode cX10_fault 11 = .ok (.invokevirtual 153, 3) := by decide +kernel
theorem dX10_fault_14 : decode cX10_fault 14 = .ok (.iconst (-1), 1) := by decide +kernel
theorem dX10_fault_15 : decode cX10_fault 15 = .ok (.if_icmp .ne 5, 3) := by decide +kernel
theorem dX10_fault_18 : decode cX10_fault 18 = .ok (.iconst (-1), 1) := by decide +kernel
theorem dX10_fault_19 : decode cX10_fault 19 = .ok (.ireturn, 1) := by decide +kernel
theorem dX10_feed_0 : decode cX10_feed 0 = .ok (.iconst 0, 1) := by decide +kernel
theorem dX10_feed_1 : decode cX10_feed 1 = .ok (.istore 6, 2) := by decide +kernel
theorem dX10_feed_3 : decode cX10_feed 3 = .ok (.iconst 0, 1) := by decide +kernel
theorem dX10_feed_4 : decode cX10_feed 4 = .ok (.istore 7, 2) := by decide +kernel
theorem dX10_feed_6 : decode cX10_feed 6 = .ok (.iload 7, 2) := by decide +kernel
theorem dX10_feed_8 : decode cX10_feed 8 = .ok (.bipush 20, 2) := by decide +kernel
theorem dX10_feed_10 : decode cX10_feed 10 = .ok (.if_icmp .ge 34, 3) := by decide +kernel
theorem dX10_feed_13 : decode cX10_feed 13 = .ok (.iload 6, 2) := by decide +kernel
theorem dX10_feed_15 : decode cX10_feed 15 = .ok (.iload_n 1, 1) := by decide +kernel
theorem dX10_feed_16 : decode cX10_feed 16 = .ok (.iload_n 2, 1) := by decide +kernel
theorem dX10_feed_17 : decode cX10_feed 17 = .ok (.iload_n 3, 1) := by decide +kernel
theorem dX10_feed_18 : decode cX10_feed 18 = .ok (.iload 4, 2) := by decide +kernel
theorem dX10_feed_20 : decode cX10_feed 20 = .ok (.iload 5, 2) := by decide +kernel
theorem dX10_feed_22 : decode cX10_feed 22 = .ok (.iload 7, 2) := by decide +kernel
theorem dX10_feed_24 : decode cX10_feed 24 = .ok (.invokestatic 143, 3) := by decide +kernel
theorem dX10_feed_27 : decode cX10_feed 27 = .ok (.ifCond .eq 7, 3) := by decide +kernel
theorem dX10_feed_30 : decode cX10_feed 30 = .ok (.iconst 1, 1) := by decide +kernel
theorem dX10_feed_31 : decode cX10_feed 31 = .ok (.goto 4, 3) := by decide +kernel
theorem dX10_feed_34 : decode cX10_feed 34 = .ok (.iconst 0, 1) := by decide +kernel
theorem dX10_feed_35 : decode cX10_feed 35 = .ok (.iadd, 1) := by decide +kernel
theorem dX10_feed_36 : decode cX10_feed 36 = .ok (.istore 6, 2) := by decide +kernel
theorem dX10_feed_38 : decode cX10_feed 38 = .ok (.iinc 7 1, 3) := by decide +kernel
theorem dX10_feed_41 : decode cX10_feed 41 = .ok (.goto (-35), 3) := by decide +kernel
theorem dX10_feed_44 : decode cX10_feed 44 = .ok (.aload_n 0, 1) := by decide +kernel
theorem dX10_feed_45 : decode cX10_feed 45 = .ok (.getfield 147, 3) := by decide +kernel
theorem dX10_feed_48 : decode cX10_feed 48 = .ok (.iload 6, 2) := by decide +kernel
theorem dX10_feed_50 : decode cX10_feed 50 = .ok (.iadd, 1) := by decide +kernel
theorem dX10_feed_51 : decode cX10_feed 51 = .ok (.bipush 100, 2) := by decide +kernel
theorem dX10_feed_53 : decode cX10_feed 53 = .ok (.if_icmp .le 5, 3) := by decide +kernel
theorem dX10_feed_58 : decode cX10_feed 58 = .ok (.iconst 0, 1) := by decide +kernel
theorem dX10_feed_59 : decode cX10_feed 59 = .ok (.istore 7, 2) := by decide +kernel
theorem dX10_feed_61 : decode cX10_feed 61 = .ok (.iload 7, 2) := by decide +kernel
theorem dX10_feed_63 : decode cX10_feed 63 = .ok (.bipush 20, 2) := by decide +kernel
theorem dX10_feed_65 : decode cX10_feed 65 = .ok (.if_icmp .ge 49, 3) := by decide +kernel
theorem dX10_feed_68 : decode cX10_feed 68 = .ok (.iload_n 1, 1) := by decide +kernel
theorem dX10_feed_69 : decode cX10_feed 69 = .ok (.iload_n 2, 1) := by decide +kernel
theorem dX10_feed_70 : decode cX10_feed 70 = .ok (.iload_n 3, 1) := by decide +kernel
theorem dX10_feed_71 : decode cX10_feed 71 = .ok (.iload 4, 2) := by decide +kernel
theorem dX10_feed_73 : decode cX10_feed 73 = .ok (.iload 5, 2) := by decide +kernel
theorem dX10_feed_75 : decode cX10_feed 75 = .ok (.iload 7, 2) := by decide +kernel
theorem dX10_feed_77 : decode cX10_feed 77 = .ok (.invokestatic 143, 3) := by decide +kernel
theorem dX10_feed_80 : decode cX10_feed 80 = .ok (.istore 8, 2) := by decide +kernel
theorem dX10_feed_82 : decode cX10_feed 82 = .ok (.iload 8, 2) := by decide +kernel
theorem dX10_feed_84 : decode cX10_feed 84 = .ok (.ifCond .eq 24, 3) := by decide +kernel
theorem dX10_feed_87 : decode cX10_feed 87 = .ok (.aload_n 0, 1) := by decide +kernel
theorem dX10_feed_88 : decode cX10_feed 88 = .ok (.getfield 41, 3) := by decide +kernel
theorem dX10_feed_91 : decode cX10_feed 91 = .ok (.aload_n 0, 1) := by decide +kernel
theorem dX10_feed_92 : decode cX10_feed 92 = .ok (.getfield 147, 3) := by decide +kernel
theorem dX10_feed_95 : decode cX10_feed 95 = .ok (.iload 8, 2) := by decide +kernel
theorem dX10_feed_97 : decode cX10_feed 97 = .ok (.iastore, 1) := by decide +kernel
theorem dX10_feed_98 : decode cX10_feed 98 = .ok (.aload_n 0, 1) := by decide +kernel
theorem dX10_feed_99 : decode cX10_feed 99 = .ok (.dup, 1) := by decide +kernel
theorem dX10_feed_100 : decode cX10_feed 100 = .ok (.getfield 147, 3) := by decide +kernel
theorem dX10_feed_103 : decode cX10_feed 103 = .ok (.iconst 1, 1) := by decide +kernel
theorem dX10_feed_104 : decode cX10_feed 104 = .ok (.iadd, 1) := by decide +kernel
theorem dX10_feed_105 : decode cX10_feed 105 = .ok (.putfield 147, 3) := by decide +kernel
theorem dX10_feed_108 : decode cX10_feed 108 = .ok (.iinc 7 1, 3) := by decide +kernel
theorem dX10_feed_111 : decode cX10_feed 111 = .ok (.goto (-50), 3) := by decide +kernel
theorem dX10_feed_114 : decode cX10_feed 114 = .ok (.aload_n 0, 1) := by decide +kernel
theorem dX10_feed_115 : decode cX10_feed 115 = .ok (.getfield 147, 3) := by decide +kernel
theorem dX10_feed_118 : decode cX10_feed 118 = .ok (.ireturn, 1) := by decide +kernel
theorem dX10_groups_0 : decode cX10_groups 0 = .ok (.aload_n 0, 1) := by decide +kernel
theorem dX10_groups_1 : decode cX10_groups 1 = .ok (.getfield 243, 3) := by decide +kernel
theorem dX10_groups_4 : decode cX10_groups 4 = .ok (.ifCond .eq 24, 3) := by decide +kernel
theorem dX10_groups_28 : decode cX10_groups 28 = .ok (.iconst (-1), 1) := by decide +kernel
theorem dX10_groups_29 : decode cX10_groups 29 = .ok (.ireturn, 1) := by decide +kernel
theorem dX10_in_0 : decode cX10_in 0 = .ok (.iload_n 0, 1) := by decide +kernel
theorem dX10_in_1 : decode cX10_in 1 = .ok (.iload_n 1, 1) := by decide +kernel
theorem dX10_in_2 : decode cX10_in 2 = .ok (.if_icmp .lt 12, 3) := by decide +kernel
theorem dX10_in_5 : decode cX10_in 5 = .ok (.iload_n 0, 1) := by decide +kernel
theorem dX10_in_6 : decode cX10_in 6 = .ok (.iload_n 2, 1) := by decide +kernel
theorem dX10_in_7 : decode cX10_in 7 = .ok (.if_icmp .gt 7, 3) := by decide +kernel
theorem dX10_in_10 : decode cX10_in 10 = .ok (.iconst 1, 1) := by decide +kernel
theorem dX10_in_11 : decode cX10_in 11 = .ok (.goto 4, 3) := by decide +kernel
theorem dX10_in_14 : decode cX10_in 14 = .ok (.iconst 0, 1) := by decide +kernel
theorem dX10_in_15 : decode cX10_in 15 = .ok (.ireturn, 1) := by decide +kernel
theorem dX10_init_0 : decode cX10_init 0 = .ok (.aload_n 0, 1) := by decide +kernel
theorem dX10_init_1 : decode cX10_init 1 = .ok (.invokespecial 3, 3) := by decide +kernel
theorem dX10_init_4 : decode cX10_init 4 = .ok (.aload_n 0, 1) := by decide +kernel
theorem dX10_init_5 : decode cX10_init 5 = .ok (.iconst 1, 1) := by decide +kernel
theorem dX10_init_6 : decode cX10_init 6 = .ok (.putfield 9, 3) := by decide +kernel
theorem dX10_init_9 : decode cX10_init 9 = .ok (.aload_n 0, 1) := by decide +kernel
theorem dX10_init_10 : decode cX10_init 10 = .ok (.iconst (-1), 1) := by decide +kernel
theorem dX10_init_11 : decode cX10_init 11 = .ok (.putfield 13, 3) := by decide +kernel
theorem dX10_init_14 : decode cX10_init 14 = .ok (.aload_n 0, 1) := by decide +kernel
theorem dX10_init_15 : decode cX10_init 15 = .ok (.bipush 20, 2) := by decide +kernel
theorem dX10_init_17 : decode cX10_init 17 = .ok (.putfield 16, 3) := by decide +kernel
theorem dX10_init_20 : decode cX10_init 20 = .ok (.aload_n 0, 1) := by decide +kernel
theorem dX10_init_21 : decode cX10_init 21 = .ok (.bipush 20, 2) := by decide +kernel
theorem dX10_init_23 : decode cX10_init 23 = .ok (.newarray .int, 2) := by decide +kernel
theorem dX10_init_25 : decode cX10_init 25 = .ok (.putfield 19, 3) := by decide +kernel
theorem dX10_init_28 : decode cX10_init 28 = .ok (.aload_n 0, 1) := by decide +kernel
theorem dX10_init_29 : decode cX10_init 29 = .ok (.bipush 20, 2) := by decide +kernel
theorem dX10_init_31 : decode cX10_init 31 = .ok (.newarray .int, 2) := by decide +kernel
theorem dX10_init_33 : decode cX10_init 33 = .ok (.putfield 23, 3) := by decide +kernel
theorem dX10_init_36 : decode cX10_init 36 = .ok (.aload_n 0, 1) := by decide +kernel
theorem dX10_init_37 : decode cX10_init 37 = .ok (.bipush 20, 2) := by decide +kernel
theorem dX10_init_39 : decode cX10_init 39 = .ok (.newarray .int, 2) := by decide +kernel
theorem dX10_init_41 : decode cX10_init 41 = .ok (.putfield 26, 3) := by decide +kernel
theorem dX10_init_44 : decode cX10_init 44 = .ok (.aload_n 0, 1) := by decide +kernel
theorem dX10_init_45 : decode cX10_init 45 = .ok (.bipush 20, 2) := by decide +kernel
theorem dX10_init_47 : decode cX10_init 47 = .ok (.newarray .int, 2) := by decide +kernel
theorem dX10_init_49 : decode cX10_init 49 = .ok (.putfield 29, 3) := by decide +kernel
theorem dX10_init_52 : decode cX10_init 52 = .ok (.aload_n 0, 1) := by decide +kernel
theorem dX10_init_53 : decode cX10_init 53 = .ok (.bipush 30, 2) := by decide +kernel
theorem dX10_init_55 : decode cX10_init 55 = .ok (.newarray .int, 2) := by decide +kernel
theorem dX10_init_57 : decode cX10_init 57 = .ok (.putfield 32, 3) := by decide +kernel
theorem dX10_init_60 : decode cX10_init 60 = .ok (.aload_n 0, 1) := by decide +kernel
theorem dX10_init_61 : decode cX10_init 61 = .ok (.bipush 30, 2) := by decide +kernel
theorem dX10_init_63 : decode cX10_init 63 = .ok (.newarray .int, 2) := by decide +kernel
theorem dX10_init_65 : decode cX10_init 65 = .ok (.putfield 35, 3) := by decide +kernel
theorem dX10_init_68 : decode cX10_init 68 = .ok (.aload_n 0, 1) := by decide +kernel
theorem dX10_init_69 : decode cX10_init 69 = .ok (.iconst 5, 1) := by decide +kernel
theorem dX10_init_70 : decode cX10_init 70 = .ok (.newarray .int, 2) := by decide +kernel
theorem dX10_init_72 : decode cX10_init 72 = .ok (.putfield 38, 3) := by decide +kernel
theorem dX10_init_75 : decode cX10_init 75 = .ok (.aload_n 0, 1) := by decide +kernel
theorem dX10_init_76 : decode cX10_init 76 = .ok (.bipush 100, 2) := by decide +kernel
theorem dX10_init_78 : decode cX10_init 78 = .ok (.newarray .int, 2) := by decide +kernel
theorem dX10_init_80 : decode cX10_init 80 = .ok (.putfield 41, 3) := by decide +kernel
theorem dX10_init_83 : decode cX10_init 83 = .ok (.aload_n 0, 1) := by decide +kernel
theorem dX10_init_84 : decode cX10_init 84 = .ok (.bipush 10, 2) := by decide +kernel
theorem dX10_init_86 : decode cX10_init 86 = .ok (.newarray .int, 2) := by decide +kernel
theorem dX10_init_88 : decode cX10_init 88 = .ok (.putfield 44, 3) := by decide +kernel
theorem dX10_init_91 : decode cX10_init 91 = .ok (.aload_n 0, 1) := by decide +kernel
theorem dX10_init_92 : decode cX10_init 92 = .ok (.sipush 240, 3) := by decide +kernel
theorem dX10_init_95 : decode cX10_init 95 = .ok (.newarray .int, 2) := by decide +kernel
theorem dX10_init_97 : decode cX10_init 97 = .ok (.putfield 47, 3) := by decide +kernel
theorem dX10_init_100 : decode cX10_init 100 = .ok (.aload_n 0, 1) := by decide +kernel
theorem dX10_init_101 : decode cX10_init 101 = .ok (.sipush 240, 3) := by decide +kernel
theorem dX10_init_104 : decode cX10_init 104 = .ok (.newarray .int, 2) := by decide +kernel
theorem dX10_init_106 : decode cX10_init 106 = .ok (.putfield 50, 3) := by decide +kernel
theorem dX10_init_109 : decode cX10_init 109 = .ok (.aload_n 0, 1) := by decide +kernel
theorem dX10_init_110 : decode cX10_init 110 = .ok (.sipush 240, 3) := by decide +kernel
theorem dX10_init_113 : decode cX10_init 113 = .ok (.newarray .int, 2) := by decide +kernel
theorem dX10_init_115 : decode cX10_init 115 = .ok (.putfield 53, 3) := by decide +kernel
theorem dX10_init_118 : decode cX10_init 118 = .ok (.aload_n 0, 1) := by decide +kernel
theorem dX10_init_119 : decode cX10_init 119 = .ok (.sipush 240, 3) := by decide +kernel
theorem dX10_init_122 : decode cX10_init 122 = .ok (.newarray .int, 2) := by decide +kernel
theorem dX10_init_124 : decode cX10_init 124 = .ok (.putfield 56, 3) := by decide +kernel
theorem dX10_init_127 : decode cX10_init 127 = .ok (.aload_n 0, 1) := by decide +kernel
theorem dX10_init_128 : decode cX10_init 128 = .ok (.bipush 20, 2) := by decide +kernel
theorem dX10_init_130 : decode cX10_init 130 = .ok (.newarray .boolean, 2) := by decide +kernel
theorem dX10_init_132 : decode cX10_init 132 = .ok (.putfield 59, 3) := by decide +kernel
theorem dX10_init_135 : decode cX10_init 135 = .ok (.aload_n 0, 1) := by decide +kernel
theorem dX10_init_136 : decode cX10_init 136 = .ok (.bipush 20, 2) := by decide +kernel
theorem dX10_init_138 : decode cX10_init 138 = .ok (.newarray .boolean, 2) := by decide +kernel
theorem dX10_init_140 : decode cX10_init 140 = .ok (.putfield 63, 3) := by decide +kernel
theorem dX10_init_143 : decode cX10_init 143 = .ok (.aload_n 0, 1) := by decide +kernel
theorem dX10_init_144 : decode cX10_init 144 = .ok (.bipush 20, 2) := by decide +kernel
theorem dX10_init_146 : decode cX10_init 146 = .ok (.newarray .int, 2) := by decide +kernel
theorem dX10_init_148 : decode cX10_init 148 = .ok (.putfield 66, 3) := by decide +kernel
theorem dX10_init_151 : decode cX10_init 151 = .ok (.aload_n 0, 1) := by decide +kernel
theorem dX10_init_152 : decode cX10_init 152 = .ok (.bipush 20, 2) := by decide +kernel
theorem dX10_init_154 : decode cX10_init 154 = .ok (.newarray .int, 2) := by decide +kernel
theorem dX10_init_156 : decode cX10_init 156 = .ok (.putfield 69, 3) := by decide +kernel
theorem dX10_init_159 : decode cX10_init 159 = .ok (.aload_n 0, 1) := by decide +kernel
theorem dX10_init_160 : decode cX10_init 160 = .ok (.bipush 20, 2) := by decide +kernel
theorem dX10_init_162 : decode cX10_init 162 = .ok (.newarray .int, 2) := by decide +kernel
theorem dX10_init_164 : decode cX10_init 164 = .ok (.putfield 72, 3) := by decide +kernel
theorem dX10_init_167 : decode cX10_init 167 = .ok (.aload_n 0, 1) := by decide +kernel
theorem dX10_init_168 : decode cX10_init 168 = .ok (.bipush 20, 2) := by decide +kernel
theorem dX10_init_170 : decode cX10_init 170 = .ok (.newarray .int, 2) := by decide +kernel
theorem dX10_init_172 : decode cX10_init 172 = .ok (.putfield 75, 3) := by decide +kernel
theorem dX10_init_175 : decode cX10_init 175 = .ok (.aload_n 0, 1) := by decide +kernel
theorem dX10_init_176 : decode cX10_init 176 = .ok (.bipush 20, 2) := by decide +kernel
theorem dX10_init_178 : decode cX10_init 178 = .ok (.newarray .int, 2) := by decide +kernel
theorem dX10_init_180 : decode cX10_init 180 = .ok (.putfield 78, 3) := by decide +kernel
theorem dX10_init_183 : decode cX10_init 183 = .ok (.aload_n 0, 1) := by decide +kernel
theorem dX10_init_184 : decode cX10_init 184 = .ok (.bipush 20, 2) := by decide +kernel
theorem dX10_init_186 : decode cX10_init 186 = .ok (.newarray .int, 2) := by decide +kernel
theorem dX10_init_188 : decode cX10_init 188 = .ok (.putfield 81, 3) := by decide +kernel
theorem dX10_init_191 : decode cX10_init 191 = .ok (.aload_n 0, 1) := by decide +kernel
theorem dX10_init_192 : decode cX10_init 192 = .ok (.bipush 100, 2) := by decide +kernel
theorem dX10_init_194 : decode cX10_init 194 = .ok (.newarray .int, 2) := by decide +kernel
theorem dX10_init_196 : decode cX10_init 196 = .ok (.putfield 84, 3) := by decide +kernel
theorem dX10_init_199 : decode cX10_init 199 = .ok (.aload_n 0, 1) := by decide +kernel
theorem dX10_init_200 : decode cX10_init 200 = .ok (.bipush 20, 2) := by decide +kernel
theorem dX10_init_202 : decode cX10_init 202 = .ok (.newarray .int, 2) := by decide +kernel
theorem dX10_init_204 : decode cX10_init 204 = .ok (.putfield 87, 3) := by decide +kernel
theorem dX10_init_207 : decode cX10_init 207 = .ok (.aload_n 0, 1) := by decide +kernel
theorem dX10_init_208 : decode cX10_init 208 = .ok (.bipush 20, 2) := by decide +kernel
theorem dX10_init_210 : decode cX10_init 210 = .ok (.newarray .int, 2) := by decide +kernel
theorem dX10_init_212 : decode cX10_init 212 = .ok (.putfield 90, 3) := by decide +kernel
theorem dX10_init_215 : decode cX10_init 215 = .ok (.aload_n 0, 1) := by decide +kernel
theorem dX10_init_216 : decode cX10_init 216 = .ok (.bipush 20, 2) := by decide +kernel
theorem dX10_init_218 : decode cX10_init 218 = .ok (.newarray .int, 2) := by decide +kernel
theorem dX10_init_220 : decode cX10_init 220 = .ok (.putfield 93, 3) := by decide +kernel
theorem dX10_init_223 : decode cX10_init 223 = .ok (.aload_n 0, 1) := by decide +kernel
theorem dX10_init_224 : decode cX10_init 224 = .ok (.bipush 20, 2) := by decide +kernel
theorem dX10_init_226 : decode cX10_init 226 = .ok (.newarray .int, 2) := by decide +kernel
theorem dX10_init_228 : decode cX10_init 228 = .ok (.putfield 96, 3) := by decide +kernel
theorem dX10_init_231 : decode cX10_init 231 = .ok (.aload_n 0, 1) := by decide +kernel
theorem dX10_init_232 : decode cX10_init 232 = .ok (.sipush 8020, 3) := by decide +kernel
theorem dX10_init_235 : decode cX10_init 235 = .ok (.newarray .int, 2) := by decide +kernel
theorem dX10_init_237 : decode cX10_init 237 = .ok (.putfield 99, 3) := by decide +kernel
theorem dX10_init_240 : decode cX10_init 240 = .ok (.aload_n 0, 1) := by decide +kernel
theorem dX10_init_241 : decode cX10_init 241 = .ok (.sipush 401, 3) := by decide +kernel
theorem dX10_init_244 : decode cX10_init 244 = .ok (.newarray .int, 2) := by decide +kernel
theorem dX10_init_246 : decode cX10_init 246 = .ok (.putfield 102, 3) := by decide +kernel
theorem dX10_init_249 : decode cX10_init 249 = .ok (.aload_n 0, 1) := by decide +kernel
theorem dX10_init_250 : decode cX10_init 250 = .ok (.bipush 20, 2) := by decide +kernel
theorem dX10_init_252 : decode cX10_init 252 = .ok (.newarray .boolean, 2) := by decide +kernel
theorem dX10_init_254 : decode cX10_init 254 = .ok (.putfield 105, 3) := by decide +kernel
theorem dX10_init_257 : decode cX10_init 257 = .ok (.aload_n 0, 1) := by decide +kernel
theorem dX10_init_258 : decode cX10_init 258 = .ok (.sipush 160, 3) := by decide +kernel
theorem dX10_init_261 : decode cX10_init 261 = .ok (.newarray .int, 2) := by decide +kernel
theorem dX10_init_263 : decode cX10_init 263 = .ok (.putfield 108, 3) := by decide +kernel
theorem dX10_init_266 : decode cX10_init 266 = .ok (.aload_n 0, 1) := by decide +kernel
theorem dX10_init_267 : decode cX10_init 267 = .ok (.bipush 15, 2) := by decide +kernel
theorem dX10_init_269 : decode cX10_init 269 = .ok (.newarray .int, 2) := by decide +kernel
theorem dX10_init_271 : decode cX10_init 271 = .ok (.putfield 111, 3) := by decide +kernel
theorem dX10_init_274 : decode cX10_init 274 = .ok (.aload_n 0, 1) := by decide +kernel
theorem dX10_init_275 : decode cX10_init 275 = .ok (.bipush 20, 2) := by decide +kernel
theorem dX10_init_277 : decode cX10_init 277 = .ok (.newarray .int, 2) := by decide +kernel
theorem dX10_init_279 : decode cX10_init 279 = .ok (.putfield 114, 3) := by decide +kernel
theorem dX10_init_282 : decode cX10_init 282 = .ok (.aload_n 0, 1) := by decide +kernel
theorem dX10_init_283 : decode cX10_init 283 = .ok (.bipush 20, 2) := by decide +kernel
theorem dX10_init_285 : decode cX10_init 285 = .ok (.newarray .int, 2) := by decide +kernel
theorem dX10_init_287 : decode cX10_init 287 = .ok (.putfield 117, 3) := by decide +kernel
theorem dX10_init_290 : decode cX10_init 290 = .ok (.aload_n 0, 1) := by decide +kernel
theorem dX10_init_291 : decode cX10_init 291 = .ok (.bipush 20, 2) := by decide +kernel
theorem dX10_init_293 : decode cX10_init 293 = .ok (.newarray .boolean, 2) := by decide +kernel
theorem dX10_init_295 : decode cX10_init 295 = .ok (.putfield 120, 3) := by decide +kernel
theorem dX10_init_298 : decode cX10_init 298 = .ok (.return_, 1) := by decide +kernel
theorem dX10_isMetre_0 : decode cX10_isMetre 0 = .ok (.iload_n 1, 1) := by decide +kernel
theorem dX10_isMetre_1 : decode cX10_isMetre 1 = .ok (.iconst 1, 1) := by decide +kernel
theorem dX10_isMetre_2 : decode cX10_isMetre 2 = .ok (.sipush 1000, 3) := by decide +kernel
theorem dX10_isMetre_5 : decode cX10_isMetre 5 = .ok (.aload_n 0, 1) := by decide +kernel
theorem dX10_isMetre_6 : decode cX10_isMetre 6 = .ok (.getfield 9, 3) := by decide +kernel
theorem dX10_isMetre_9 : decode cX10_isMetre 9 = .ok (.imul, 1) := by decide +kernel
theorem dX10_isMetre_10 : decode cX10_isMetre 10 = .ok (.iconst 1, 1) := by decide +kernel
theorem dX10_isMetre_11 : decode cX10_isMetre 11 = .ok (.isub, 1) := by decide +kernel
theorem dX10_isMetre_12 : decode cX10_isMetre 12 = .ok (.invokestatic 126, 3) := by decide +kernel
theorem dX10_isMetre_15 : decode cX10_isMetre 15 = .ok (.ireturn, 1) := by decide +kernel
theorem dX10_isRider_0 : decode cX10_isRider 0 = .ok (.iload_n 1, 1) := by decide +kernel
theorem dX10_isRider_1 : decode cX10_isRider 1 = .ok (.iconst 0, 1) := by decide +kernel
theorem dX10_isRider_2 : decode cX10_isRider 2 = .ok (.aload_n 0, 1) := by decide +kernel
theorem dX10_isRider_3 : decode cX10_isRider 3 = .ok (.getfield 123, 3) := by decide +kernel
theorem dX10_isRider_6 : decode cX10_isRider 6 = .ok (.iconst 1, 1) := by decide +kernel
theorem dX10_isRider_7 : decode cX10_isRider 7 = .ok (.isub, 1) := by decide +kernel
theorem dX10_isRider_8 : decode cX10_isRider 8 = .ok (.invokestatic 126, 3) := by decide +kernel
theorem dX10_isRider_11 : decode cX10_isRider 11 = .ok (.ireturn, 1) := by decide +kernel
theorem dX10_keep_0 : decode cX10_keep 0 = .ok (.aload_n 0, 1) := by decide +kernel
theorem dX10_keep_1 : decode cX10_keep 1 = .ok (.getfield 243, 3) := by decide +kernel
theorem dX10_keep_4 : decode cX10_keep 4 = .ok (.ifCond .eq 19, 3) := by decide +kernel
theorem dX10_keep_23 : decode cX10_keep 23 = .ok (.iconst (-1), 1) := by decide +kernel
theorem dX10_keep_24 : decode cX10_keep 24 = .ok (.ireturn, 1) := by decide +kernel
theorem dX10_limit_0 : decode cX10_limit 0 = .ok (.iload_n 1, 1) := by decide +kernel
theorem dX10_limit_1 : decode cX10_limit 1 = .ok (.iconst 1, 1) := by decide +kernel
theorem dX10_limit_2 : decode cX10_limit 2 = .ok (.bipush 100, 2) := by decide +kernel
theorem dX10_limit_4 : decode cX10_limit 4 = .ok (.invokestatic 126, 3) := by decide +kernel
theorem dX10_limit_7 : decode cX10_limit 7 = .ok (.ifCond .ne 5, 3) := by decide +kernel
theorem dX10_limit_10 : decode cX10_limit 10 = .ok (.iconst 0, 1) := by decide +kernel
theorem dX10_limit_11 : decode cX10_limit 11 = .ok (.ireturn, 1) := by decide +kernel
theorem dX10_limit_12 : decode cX10_limit 12 = .ok (.aload_n 0, 1) := by decide +kernel
theorem dX10_limit_13 : decode cX10_limit 13 = .ok (.iload_n 1, 1) := by decide +kernel
theorem dX10_limit_14 : decode cX10_limit 14 = .ok (.putfield 16, 3) := by decide +kernel
theorem dX10_limit_17 : decode cX10_limit 17 = .ok (.iconst 1, 1) := by decide +kernel
theorem dX10_limit_18 : decode cX10_limit 18 = .ok (.ireturn, 1) := by decide +kernel
theorem dX10_look_0 : decode cX10_look 0 = .ok (.aload_n 0, 1) := by decide +kernel
theorem dX10_look_1 : decode cX10_look 1 = .ok (.getfield 150, 3) := by decide +kernel
theorem dX10_look_4 : decode cX10_look 4 = .ok (.aload_n 0, 1) := by decide +kernel
theorem dX10_look_5 : decode cX10_look 5 = .ok (.getfield 147, 3) := by decide +kernel
theorem dX10_look_8 : decode cX10_look 8 = .ok (.if_icmp .ge 30, 3) := by decide +kernel
theorem dX10_look_38 : decode cX10_look 38 = .ok (.aload_n 0, 1) := by decide +kernel
theorem dX10_look_39 : decode cX10_look 39 = .ok (.getfield 150, 3) := by decide +kernel
theorem dX10_look_42 : decode cX10_look 42 = .ok (.aload_n 0, 1) := by decide +kernel
theorem dX10_look_43 : decode cX10_look 43 = .ok (.getfield 147, 3) := by decide +kernel
theorem dX10_look_46 : decode cX10_look 46 = .ok (.if_icmp .ge 15, 3) := by decide +kernel
theorem dX10_look_61 : decode cX10_look 61 = .ok (.iconst (-1), 1) := by decide +kernel
theorem dX10_look_62 : decode cX10_look 62 = .ok (.ireturn, 1) := by decide +kernel
theorem dX10_mayTry_0 : decode cX10_mayTry 0 = .ok (.iload_n 1, 1) := by decide +kernel
theorem dX10_mayTry_1 : decode cX10_mayTry 1 = .ok (.iconst 0, 1) := by decide +kernel
theorem dX10_mayTry_2 : decode cX10_mayTry 2 = .ok (.iconst 4, 1) := by decide +kernel
theorem dX10_mayTry_3 : decode cX10_mayTry 3 = .ok (.invokestatic 126, 3) := by decide +kernel
theorem dX10_mayTry_6 : decode cX10_mayTry 6 = .ok (.ifCond .eq 15, 3) := by decide +kernel
theorem dX10_mayTry_9 : decode cX10_mayTry 9 = .ok (.aload_n 0, 1) := by decide +kernel
theorem dX10_mayTry_10 : decode cX10_mayTry 10 = .ok (.iload_n 2, 1) := by decide +kernel
theorem dX10_mayTry_11 : decode cX10_mayTry 11 = .ok (.invokevirtual 136, 3) := by decide +kernel
theorem dX10_mayTry_14 : decode cX10_mayTry 14 = .ok (.ifCond .eq 7, 3) := by decide +kernel
theorem dX10_mayTry_17 : decode cX10_mayTry 17 = .ok (.iconst 1, 1) := by decide +kernel
theorem dX10_mayTry_18 : decode cX10_mayTry 18 = .ok (.goto 4, 3) := by decide +kernel
theorem dX10_mayTry_21 : decode cX10_mayTry 21 = .ok (.iconst 0, 1) := by decide +kernel
theorem dX10_mayTry_22 : decode cX10_mayTry 22 = .ok (.ireturn, 1) := by decide +kernel
theorem dX10_metres_0 : decode cX10_metres 0 = .ok (.aload_n 0, 1) := by decide +kernel
theorem dX10_metres_1 : decode cX10_metres 1 = .ok (.getfield 243, 3) := by decide +kernel
theorem dX10_metres_4 : decode cX10_metres 4 = .ok (.ifCond .eq 47, 3) := by decide +kernel
theorem dX10_metres_51 : decode cX10_metres 51 = .ok (.iconst (-1), 1) := by decide +kernel
theorem dX10_metres_52 : decode cX10_metres 52 = .ok (.ireturn, 1) := by decide +kernel
theorem dX10_orders_0 : decode cX10_orders 0 = .ok (.iload_n 1, 1) := by decide +kernel
theorem dX10_orders_1 : decode cX10_orders 1 = .ok (.iconst 0, 1) := by decide +kernel
theorem dX10_orders_2 : decode cX10_orders 2 = .ok (.iconst 4, 1) := by decide +kernel
theorem dX10_orders_3 : decode cX10_orders 3 = .ok (.invokestatic 126, 3) := by decide +kernel
theorem dX10_orders_6 : decode cX10_orders 6 = .ok (.ifCond .eq 11, 3) := by decide +kernel
theorem dX10_orders_9 : decode cX10_orders 9 = .ok (.aload_n 0, 1) := by decide +kernel
theorem dX10_orders_10 : decode cX10_orders 10 = .ok (.invokevirtual 167, 3) := by decide +kernel
theorem dX10_orders_13 : decode cX10_orders 13 = .ok (.iconst (-1), 1) := by decide +kernel
theorem dX10_orders_14 : decode cX10_orders 14 = .ok (.if_icmp .eq 5, 3) := by decide +kernel
theorem dX10_orders_17 : decode cX10_orders 17 = .ok (.iconst 0, 1) := by decide +kernel
theorem dX10_orders_18 : decode cX10_orders 18 = .ok (.ireturn, 1) := by decide +kernel
theorem dX10_orders_19 : decode cX10_orders 19 = .ok (.aload_n 0, 1) := by decide +kernel
theorem dX10_orders_20 : decode cX10_orders 20 = .ok (.iload_n 1, 1) := by decide +kernel
theorem dX10_orders_21 : decode cX10_orders 21 = .ok (.invokevirtual 170, 3) := by decide +kernel
theorem dX10_orders_24 : decode cX10_orders 24 = .ok (.iconst 1, 1) := by decide +kernel
theorem dX10_orders_25 : decode cX10_orders 25 = .ok (.ireturn, 1) := by decide +kernel
theorem dX10_passed_0 : decode cX10_passed 0 = .ok (.aload_n 0, 1) := by decide +kernel
theorem dX10_passed_1 : decode cX10_passed 1 = .ok (.getfield 243, 3) := by decide +kernel
theorem dX10_passed_4 : decode cX10_passed 4 = .ok (.ifCond .eq 41, 3) := by decide +kernel
theorem dX10_passed_45 : decode cX10_passed 45 = .ok (.iconst (-1), 1) := by decide +kernel
theorem dX10_passed_46 : decode cX10_passed 46 = .ok (.ireturn, 1) := by decide +kernel
theorem dX10_prime_0 : decode cX10_prime 0 = .ok (.aload_n 0, 1) := by decide +kernel
theorem dX10_prime_1 : decode cX10_prime 1 = .ok (.iload_n 1, 1) := by decide +kernel
theorem dX10_prime_2 : decode cX10_prime 2 = .ok (.invokevirtual 136, 3) := by decide +kernel
theorem dX10_prime_5 : decode cX10_prime 5 = .ok (.ifCond .eq 11, 3) := by decide +kernel
theorem dX10_prime_8 : decode cX10_prime 8 = .ok (.aload_n 0, 1) := by decide +kernel
theorem dX10_prime_9 : decode cX10_prime 9 = .ok (.getfield 133, 3) := by decide +kernel
theorem dX10_prime_12 : decode cX10_prime 12 = .ok (.iconst 5, 1) := by decide +kernel
theorem dX10_prime_13 : decode cX10_prime 13 = .ok (.if_icmp .ne 5, 3) := by decide +kernel
theorem dX10_prime_16 : decode cX10_prime 16 = .ok (.iconst (-1), 1) := by decide +kernel
theorem dX10_prime_17 : decode cX10_prime 17 = .ok (.ireturn, 1) := by decide +kernel
theorem dX10_prime_18 : decode cX10_prime 18 = .ok (.aload_n 0, 1) := by decide +kernel
theorem dX10_prime_19 : decode cX10_prime 19 = .ok (.getfield 38, 3) := by decide +kernel
theorem dX10_prime_22 : decode cX10_prime 22 = .ok (.aload_n 0, 1) := by decide +kernel
theorem dX10_prime_23 : decode cX10_prime 23 = .ok (.getfield 133, 3) := by decide +kernel
theorem dX10_prime_26 : decode cX10_prime 26 = .ok (.iload_n 1, 1) := by decide +kernel
theorem dX10_prime_27 : decode cX10_prime 27 = .ok (.iastore, 1) := by decide +kernel
theorem dX10_prime_28 : decode cX10_prime 28 = .ok (.aload_n 0, 1) := by decide +kernel
theorem dX10_prime_29 : decode cX10_prime 29 = .ok (.dup, 1) := by decide +kernel
theorem dX10_prime_30 : decode cX10_prime 30 = .ok (.getfield 133, 3) := by decide +kernel
theorem dX10_prime_33 : decode cX10_prime 33 = .ok (.iconst 1, 1) := by decide +kernel
theorem dX10_prime_34 : decode cX10_prime 34 = .ok (.iadd, 1) := by decide +kernel
theorem dX10_prime_35 : decode cX10_prime 35 = .ok (.putfield 133, 3) := by decide +kernel
theorem dX10_prime_38 : decode cX10_prime 38 = .ok (.aload_n 0, 1) := by decide +kernel
theorem dX10_prime_39 : decode cX10_prime 39 = .ok (.getfield 133, 3) := by decide +kernel
theorem dX10_prime_42 : decode cX10_prime 42 = .ok (.iconst 1, 1) := by decide +kernel
theorem dX10_prime_43 : decode cX10_prime 43 = .ok (.isub, 1) := by decide +kernel
theorem dX10_prime_44 : decode cX10_prime 44 = .ok (.ireturn, 1) := by decide +kernel
theorem dX10_race_0 : decode cX10_race 0 = .ok (.aload_n 0, 1) := by decide +kernel
theorem dX10_race_1 : decode cX10_race 1 = .ok (.lload_n 1, 1) := by decide +kernel
theorem dX10_race_2 : decode cX10_race 2 = .ok (.iconst (-1), 1) := by decide +kernel
theorem dX10_race_3 : decode cX10_race 3 = .ok (.iconst 0, 1) := by decide +kernel
theorem dX10_race_4 : decode cX10_race 4 = .ok (.iconst 0, 1) := by decide +kernel
theorem dX10_race_5 : decode cX10_race 5 = .ok (.iconst 0, 1) := by decide +kernel
theorem dX10_race_6 : decode cX10_race 6 = .ok (.iconst 1, 1) := by decide +kernel
theorem dX10_race_7 : decode cX10_race 7 = .ok (.invokevirtual 239, 3) := by decide +kernel
theorem dX10_race_10 : decode cX10_race 10 = .ok (.ifCond .ne 5, 3) := by decide +kernel
theorem dX10_race_13 : decode cX10_race 13 = .ok (.iconst (-1), 1) := by decide +kernel
theorem dX10_race_14 : decode cX10_race 14 = .ok (.ireturn, 1) := by decide +kernel
theorem dX10_rider_0 : decode cX10_rider 0 = .ok (.aload_n 0, 1) := by decide +kernel
theorem dX10_rider_1 : decode cX10_rider 1 = .ok (.getfield 130, 3) := by decide +kernel
theorem dX10_rider_4 : decode cX10_rider 4 = .ok (.ifCond .gt 53, 3) := by decide +kernel
theorem dX10_rider_7 : decode cX10_rider 7 = .ok (.aload_n 0, 1) := by decide +kernel
theorem dX10_rider_8 : decode cX10_rider 8 = .ok (.getfield 123, 3) := by decide +kernel
theorem dX10_rider_11 : decode cX10_rider 11 = .ok (.bipush 20, 2) := by decide +kernel
theorem dX10_rider_13 : decode cX10_rider 13 = .ok (.if_icmp .eq 44, 3) := by decide +kernel
theorem dX10_rider_16 : decode cX10_rider 16 = .ok (.iload_n 1, 1) := by decide +kernel
theorem dX10_rider_17 : decode cX10_rider 17 = .ok (.iconst 0, 1) := by decide +kernel
theorem dX10_rider_18 : decode cX10_rider 18 = .ok (.iconst 4, 1) := by decide +kernel
theorem dX10_rider_19 : decode cX10_rider 19 = .ok (.invokestatic 126, 3) := by decide +kernel
theorem dX10_rider_22 : decode cX10_rider 22 = .ok (.ifCond .eq 35, 3) := by decide +kernel
theorem dX10_rider_25 : decode cX10_rider 25 = .ok (.iload_n 2, 1) := by decide +kernel
theorem dX10_rider_26 : decode cX10_rider 26 = .ok (.iconst 1, 1) := by decide +kernel
theorem dX10_rider_27 : decode cX10_rider 27 = .ok (.bipush 60, 2) := by decide +kernel
theorem dX10_rider_29 : decode cX10_rider 29 = .ok (.invokestatic 126, 3) := by decide +kernel
theorem dX10_rider_32 : decode cX10_rider 32 = .ok (.ifCond .eq 25, 3) := by decide +kernel
theorem dX10_rider_35 : decode cX10_rider 35 = .ok (.iload_n 3, 1) := by decide +kernel
theorem dX10_rider_36 : decode cX10_rider 36 = .ok (.iconst 0, 1) := by decide +kernel
theorem dX10_rider_37 : decode cX10_rider 37 = .ok (.sipush 2000, 3) := by decide +kernel
theorem dX10_rider_40 : decode cX10_rider 40 = .ok (.invokestatic 126, 3) := by decide +kernel
theorem dX10_rider_43 : decode cX10_rider 43 = .ok (.ifCond .eq 14, 3) := by decide +kernel
theorem dX10_rider_46 : decode cX10_rider 46 = .ok (.iload 4, 2) := by decide +kernel
theorem dX10_rider_48 : decode cX10_rider 48 = .ok (.iconst 0, 1) := by decide +kernel
theorem dX10_rider_49 : decode cX10_rider 49 = .ok (.bipush 50, 2) := by decide +kernel
theorem dX10_rider_51 : decode cX10_rider 51 = .ok (.invokestatic 126, 3) := by decide +kernel
theorem dX10_rider_54 : decode cX10_rider 54 = .ok (.ifCond .ne 5, 3) := by decide +kernel
theorem dX10_rider_57 : decode cX10_rider 57 = .ok (.iconst (-1), 1) := by decide +kernel
theorem dX10_rider_58 : decode cX10_rider 58 = .ok (.ireturn, 1) := by decide +kernel
theorem dX10_rider_59 : decode cX10_rider 59 = .ok (.aload_n 0, 1) := by decide +kernel
theorem dX10_rider_60 : decode cX10_rider 60 = .ok (.getfield 19, 3) := by decide +kernel
theorem dX10_rider_63 : decode cX10_rider 63 = .ok (.aload_n 0, 1) := by decide +kernel
theorem dX10_rider_64 : decode cX10_rider 64 = .ok (.getfield 123, 3) := by decide +kernel
theorem dX10_rider_67 : decode cX10_rider 67 = .ok (.iload_n 1, 1) := by decide +kernel
theorem dX10_rider_68 : decode cX10_rider 68 = .ok (.iastore, 1) := by decide +kernel
theorem dX10_rider_69 : decode cX10_rider 69 = .ok (.aload_n 0, 1) := by decide +kernel
theorem dX10_rider_70 : decode cX10_rider 70 = .ok (.getfield 23, 3) := by decide +kernel
theorem dX10_rider_73 : decode cX10_rider 73 = .ok (.aload_n 0, 1) := by decide +kernel
theorem dX10_rider_74 : decode cX10_rider 74 = .ok (.getfield 123, 3) := by decide +kernel
theorem dX10_rider_77 : decode cX10_rider 77 = .ok (.iload_n 2, 1) := by decide +kernel
theorem dX10_rider_78 : decode cX10_rider 78 = .ok (.iastore, 1) := by decide +kernel
theorem dX10_rider_79 : decode cX10_rider 79 = .ok (.aload_n 0, 1) := by decide +kernel
theorem dX10_rider_80 : decode cX10_rider 80 = .ok (.getfield 26, 3) := by decide +kernel
theorem dX10_rider_83 : decode cX10_rider 83 = .ok (.aload_n 0, 1) := by decide +kernel
theorem dX10_rider_84 : decode cX10_rider 84 = .ok (.getfield 123, 3) := by decide +kernel
theorem dX10_rider_87 : decode cX10_rider 87 = .ok (.iload_n 3, 1) := by decide +kernel
theorem dX10_rider_88 : decode cX10_rider 88 = .ok (.iastore, 1) := by decide +kernel
theorem dX10_rider_89 : decode cX10_rider 89 = .ok (.aload_n 0, 1) := by decide +kernel
theorem dX10_rider_90 : decode cX10_rider 90 = .ok (.getfield 29, 3) := by decide +kernel
theorem dX10_rider_93 : decode cX10_rider 93 = .ok (.aload_n 0, 1) := by decide +kernel
theorem dX10_rider_94 : decode cX10_rider 94 = .ok (.getfield 123, 3) := by decide +kernel
theorem dX10_rider_97 : decode cX10_rider 97 = .ok (.iload 4, 2) := by decide +kernel
theorem dX10_rider_99 : decode cX10_rider 99 = .ok (.iastore, 1) := by decide +kernel
theorem dX10_rider_100 : decode cX10_rider 100 = .ok (.aload_n 0, 1) := by decide +kernel
theorem dX10_rider_101 : decode cX10_rider 101 = .ok (.dup, 1) := by decide +kernel
theorem dX10_rider_102 : decode cX10_rider 102 = .ok (.getfield 123, 3) := by decide +kernel
theorem dX10_rider_105 : decode cX10_rider 105 = .ok (.iconst 1, 1) := by decide +kernel
theorem dX10_rider_106 : decode cX10_rider 106 = .ok (.iadd, 1) := by decide +kernel
theorem dX10_rider_107 : decode cX10_rider 107 = .ok (.putfield 123, 3) := by decide +kernel
theorem dX10_rider_110 : decode cX10_rider 110 = .ok (.aload_n 0, 1) := by decide +kernel
theorem dX10_rider_111 : decode cX10_rider 111 = .ok (.getfield 123, 3) := by decide +kernel
theorem dX10_rider_114 : decode cX10_rider 114 = .ok (.iconst 1, 1) := by decide +kernel
theorem dX10_rider_115 : decode cX10_rider 115 = .ok (.isub, 1) := by decide +kernel
theorem dX10_rider_116 : decode cX10_rider 116 = .ok (.ireturn, 1) := by decide +kernel
theorem dX10_rise_0 : decode cX10_rise 0 = .ok (.iload_n 1, 1) := by decide +kernel
theorem dX10_rise_1 : decode cX10_rise 1 = .ok (.iconst 0, 1) := by decide +kernel
theorem dX10_rise_2 : decode cX10_rise 2 = .ok (.aload_n 0, 1) := by decide +kernel
theorem dX10_rise_3 : decode cX10_rise 3 = .ok (.getfield 9, 3) := by decide +kernel
theorem dX10_rise_6 : decode cX10_rise 6 = .ok (.iconst 1, 1) := by decide +kernel
theorem dX10_rise_7 : decode cX10_rise 7 = .ok (.isub, 1) := by decide +kernel
theorem dX10_rise_8 : decode cX10_rise 8 = .ok (.invokestatic 126, 3) := by decide +kernel
theorem dX10_rise_11 : decode cX10_rise 11 = .ok (.ifCond .eq 25, 3) := by decide +kernel
theorem dX10_rise_14 : decode cX10_rise 14 = .ok (.iload_n 2, 1) := by decide +kernel
theorem dX10_rise_15 : decode cX10_rise 15 = .ok (.bipush (-5), 2) := by decide +kernel
theorem dX10_rise_17 : decode cX10_rise 17 = .ok (.bipush 10, 2) := by decide +kernel
theorem dX10_rise_19 : decode cX10_rise 19 = .ok (.invokestatic 126, 3) := by decide +kernel
theorem dX10_rise_22 : decode cX10_rise 22 = .ok (.ifCond .eq 14, 3) := by decide +kernel
theorem dX10_rise_25 : decode cX10_rise 25 = .ok (.iload_n 3, 1) := by decide +kernel
theorem dX10_rise_26 : decode cX10_rise 26 = .ok (.bipush (-3), 2) := by decide +kernel
theorem dX10_rise_28 : decode cX10_rise 28 = .ok (.bipush 9, 2) := by decide +kernel
theorem dX10_rise_30 : decode cX10_rise 30 = .ok (.invokestatic 126, 3) := by decide +kernel
theorem dX10_rise_33 : decode cX10_rise 33 = .ok (.ifCond .ne 5, 3) := by decide +kernel
theorem dX10_rise_36 : decode cX10_rise 36 = .ok (.iconst 0, 1) := by decide +kernel
theorem dX10_rise_37 : decode cX10_rise 37 = .ok (.ireturn, 1) := by decide +kernel
theorem dX10_rise_38 : decode cX10_rise 38 = .ok (.aload_n 0, 1) := by decide +kernel
theorem dX10_rise_39 : decode cX10_rise 39 = .ok (.getfield 32, 3) := by decide +kernel
theorem dX10_rise_42 : decode cX10_rise 42 = .ok (.iload_n 1, 1) := by decide +kernel
theorem dX10_rise_43 : decode cX10_rise 43 = .ok (.iload_n 2, 1) := by decide +kernel
theorem dX10_rise_44 : decode cX10_rise 44 = .ok (.iastore, 1) := by decide +kernel
theorem dX10_rise_45 : decode cX10_rise 45 = .ok (.aload_n 0, 1) := by decide +kernel
theorem dX10_rise_46 : decode cX10_rise 46 = .ok (.getfield 35, 3) := by decide +kernel
theorem dX10_rise_49 : decode cX10_rise 49 = .ok (.iload_n 1, 1) := by decide +kernel
theorem dX10_rise_50 : decode cX10_rise 50 = .ok (.iload_n 3, 1) := by decide +kernel
theorem dX10_rise_51 : decode cX10_rise 51 = .ok (.iastore, 1) := by decide +kernel
theorem dX10_rise_52 : decode cX10_rise 52 = .ok (.iconst 1, 1) := by decide +kernel
theorem dX10_rise_53 : decode cX10_rise 53 = .ok (.ireturn, 1) := by decide +kernel
theorem dX10_road_0 : decode cX10_road 0 = .ok (.iload_n 1, 1) := by decide +kernel
theorem dX10_road_1 : decode cX10_road 1 = .ok (.iconst 1, 1) := by decide +kernel
theorem dX10_road_2 : decode cX10_road 2 = .ok (.bipush 30, 2) := by decide +kernel
theorem dX10_road_4 : decode cX10_road 4 = .ok (.invokestatic 126, 3) := by decide +kernel
theorem dX10_road_7 : decode cX10_road 7 = .ok (.ifCond .ne 5, 3) := by decide +kernel
theorem dX10_road_10 : decode cX10_road 10 = .ok (.iconst 0, 1) := by decide +kernel
theorem dX10_road_11 : decode cX10_road 11 = .ok (.ireturn, 1) := by decide +kernel
theorem dX10_road_12 : decode cX10_road 12 = .ok (.aload_n 0, 1) := by decide +kernel
theorem dX10_road_13 : decode cX10_road 13 = .ok (.iload_n 1, 1) := by decide +kernel
theorem dX10_road_14 : decode cX10_road 14 = .ok (.putfield 9, 3) := by decide +kernel
theorem dX10_road_17 : decode cX10_road 17 = .ok (.aload_n 0, 1) := by decide +kernel
theorem dX10_road_18 : decode cX10_road 18 = .ok (.iconst 0, 1) := by decide +kernel
theorem dX10_road_19 : decode cX10_road 19 = .ok (.putfield 133, 3) := by decide +kernel
theorem dX10_road_22 : decode cX10_road 22 = .ok (.aload_n 0, 1) := by decide +kernel
theorem dX10_road_23 : decode cX10_road 23 = .ok (.iconst (-1), 1) := by decide +kernel
theorem dX10_road_24 : decode cX10_road 24 = .ok (.putfield 13, 3) := by decide +kernel
theorem dX10_road_27 : decode cX10_road 27 = .ok (.iconst 0, 1) := by decide +kernel
theorem dX10_road_28 : decode cX10_road 28 = .ok (.istore_n 2, 1) := by decide +kernel
theorem dX10_road_29 : decode cX10_road 29 = .ok (.iload_n 2, 1) := by decide +kernel
theorem dX10_road_30 : decode cX10_road 30 = .ok (.bipush 30, 2) := by decide +kernel
theorem dX10_road_32 : decode cX10_road 32 = .ok (.if_icmp .ge 23, 3) := by decide +kernel
theorem dX10_road_35 : decode cX10_road 35 = .ok (.aload_n 0, 1) := by decide +kernel
theorem dX10_road_36 : decode cX10_road 36 = .ok (.getfield 32, 3) := by decide +kernel
theorem dX10_road_39 : decode cX10_road 39 = .ok (.iload_n 2, 1) := by decide +kernel
theorem dX10_road_40 : decode cX10_road 40 = .ok (.iconst 0, 1) := by decide +kernel
theorem dX10_road_41 : decode cX10_road 41 = .ok (.iastore, 1) := by decide +kernel
theorem dX10_road_42 : decode cX10_road 42 = .ok (.aload_n 0, 1) := by decide +kernel
theorem dX10_road_43 : decode cX10_road 43 = .ok (.getfield 35, 3) := by decide +kernel
theorem dX10_road_46 : decode cX10_road 46 = .ok (.iload_n 2, 1) := by decide +kernel
theorem dX10_road_47 : decode cX10_road 47 = .ok (.iconst 0, 1) := by decide +kernel
theorem dX10_road_48 : decode cX10_road 48 = .ok (.iastore, 1) := by decide +kernel
theorem dX10_road_49 : decode cX10_road 49 = .ok (.iinc 2 1, 3) := by decide +kernel
theorem dX10_road_52 : decode cX10_road 52 = .ok (.goto (-23), 3) := by decide +kernel
theorem dX10_road_55 : decode cX10_road 55 = .ok (.iconst 1, 1) := by decide +kernel
theorem dX10_road_56 : decode cX10_road 56 = .ok (.ireturn, 1) := by decide +kernel
theorem dX10_run_0 : decode cX10_run 0 = .ok (.iconst 0, 1) := by decide +kernel
theorem dX10_run_1 : decode cX10_run 1 = .ok (.istore 8, 2) := by decide +kernel
theorem dX10_run_3 : decode cX10_run 3 = .ok (.iconst 0, 1) := by decide +kernel
theorem dX10_run_4 : decode cX10_run 4 = .ok (.istore 9, 2) := by decide +kernel
theorem dX10_run_6 : decode cX10_run 6 = .ok (.iload 9, 2) := by decide +kernel
theorem dX10_run_8 : decode cX10_run 8 = .ok (.aload_n 0, 1) := by decide +kernel
theorem dX10_run_9 : decode cX10_run 9 = .ok (.getfield 123, 3) := by decide +kernel
theorem dX10_run_12 : decode cX10_run 12 = .ok (.if_icmp .ge 135, 3) := by decide +kernel
theorem dX10_run_147 : decode cX10_run 147 = .ok (.iload 8, 2) := by decide +kernel
theorem dX10_run_149 : decode cX10_run 149 = .ok (.ifCond .ne 5, 3) := by decide +kernel
theorem dX10_run_152 : decode cX10_run 152 = .ok (.iconst 0, 1) := by decide +kernel
theorem dX10_run_153 : decode cX10_run 153 = .ok (.ireturn, 1) := by decide +kernel
theorem dX10_store_0 : decode cX10_store 0 = .ok (.iconst 0, 1) := by decide +kernel
theorem dX10_store_1 : decode cX10_store 1 = .ok (.istore_n 2, 1) := by decide +kernel
theorem dX10_store_2 : decode cX10_store 2 = .ok (.iload_n 2, 1) := by decide +kernel
theorem dX10_store_3 : decode cX10_store 3 = .ok (.aload_n 0, 1) := by decide +kernel
theorem dX10_store_4 : decode cX10_store 4 = .ok (.getfield 160, 3) := by decide +kernel
theorem dX10_store_7 : decode cX10_store 7 = .ok (.if_icmp .ge 75, 3) := by decide +kernel
theorem dX10_store_82 : decode cX10_store 82 = .ok (.aload_n 0, 1) := by decide +kernel
theorem dX10_store_83 : decode cX10_store 83 = .ok (.getfield 44, 3) := by decide +kernel
theorem dX10_store_86 : decode cX10_store 86 = .ok (.iload_n 1, 1) := by decide +kernel
theorem dX10_store_87 : decode cX10_store 87 = .ok (.aload_n 0, 1) := by decide +kernel
theorem dX10_store_88 : decode cX10_store 88 = .ok (.getfield 160, 3) := by decide +kernel
theorem dX10_store_91 : decode cX10_store 91 = .ok (.iastore, 1) := by decide +kernel
theorem dX10_store_92 : decode cX10_store 92 = .ok (.aload_n 0, 1) := by decide +kernel
theorem dX10_store_93 : decode cX10_store 93 = .ok (.iconst 0, 1) := by decide +kernel
theorem dX10_store_94 : decode cX10_store 94 = .ok (.putfield 147, 3) := by decide +kernel
theorem dX10_store_97 : decode cX10_store 97 = .ok (.return_, 1) := by decide +kernel
theorem dX10_sum_0 : decode cX10_sum 0 = .ok (.aload_n 0, 1) := by decide +kernel
theorem dX10_sum_1 : decode cX10_sum 1 = .ok (.iload_n 1, 1) := by decide +kernel
theorem dX10_sum_2 : decode cX10_sum 2 = .ok (.invokevirtual 262, 3) := by decide +kernel
theorem dX10_sum_5 : decode cX10_sum 5 = .ok (.ifCond .ne 5, 3) := by decide +kernel
theorem dX10_sum_8 : decode cX10_sum 8 = .ok (.iconst (-1), 1) := by decide +kernel
theorem dX10_sum_9 : decode cX10_sum 9 = .ok (.ireturn, 1) := by decide +kernel
theorem dX10_team_0 : decode cX10_team 0 = .ok (.iload_n 1, 1) := by decide +kernel
theorem dX10_team_1 : decode cX10_team 1 = .ok (.iconst 0, 1) := by decide +kernel
theorem dX10_team_2 : decode cX10_team 2 = .ok (.iconst 4, 1) := by decide +kernel
theorem dX10_team_3 : decode cX10_team 3 = .ok (.invokestatic 126, 3) := by decide +kernel
theorem dX10_team_6 : decode cX10_team 6 = .ok (.ifCond .ne 5, 3) := by decide +kernel
theorem dX10_team_9 : decode cX10_team 9 = .ok (.iconst (-1), 1) := by decide +kernel
theorem dX10_team_10 : decode cX10_team 10 = .ok (.ireturn, 1) := by decide +kernel
theorem dX10_team_11 : decode cX10_team 11 = .ok (.iconst 0, 1) := by decide +kernel
theorem dX10_team_12 : decode cX10_team 12 = .ok (.istore_n 2, 1) := by decide +kernel
theorem dX10_team_13 : decode cX10_team 13 = .ok (.iconst 0, 1) := by decide +kernel
theorem dX10_team_14 : decode cX10_team 14 = .ok (.istore_n 3, 1) := by decide +kernel
theorem dX10_team_15 : decode cX10_team 15 = .ok (.iconst 0, 1) := by decide +kernel
theorem dX10_team_16 : decode cX10_team 16 = .ok (.istore 4, 2) := by decide +kernel
theorem dX10_team_18 : decode cX10_team 18 = .ok (.iload 4, 2) := by decide +kernel
theorem dX10_team_20 : decode cX10_team 20 = .ok (.bipush 20, 2) := by decide +kernel
theorem dX10_team_22 : decode cX10_team 22 = .ok (.if_icmp .ge 17, 3) := by decide +kernel
theorem dX10_team_25 : decode cX10_team 25 = .ok (.aload_n 0, 1) := by decide +kernel
theorem dX10_team_26 : decode cX10_team 26 = .ok (.getfield 120, 3) := by decide +kernel
theorem dX10_team_29 : decode cX10_team 29 = .ok (.iload 4, 2) := by decide +kernel
theorem dX10_team_31 : decode cX10_team 31 = .ok (.iconst 0, 1) := by decide +kernel
theorem dX10_team_32 : decode cX10_team 32 = .ok (.bastore, 1) := by decide +kernel
theorem dX10_team_33 : decode cX10_team 33 = .ok (.iinc 4 1, 3) := by decide +kernel
theorem dX10_team_36 : decode cX10_team 36 = .ok (.goto (-18), 3) := by decide +kernel
theorem dX10_team_39 : decode cX10_team 39 = .ok (.iload_n 3, 1) := by decide +kernel
theorem dX10_team_40 : decode cX10_team 40 = .ok (.iconst 3, 1) := by decide +kernel
theorem dX10_team_41 : decode cX10_team 41 = .ok (.if_icmp .ge 114, 3) := by decide +kernel
theorem dX10_team_44 : decode cX10_team 44 = .ok (.iconst (-1), 1) := by decide +kernel
theorem dX10_team_45 : decode cX10_team 45 = .ok (.istore 4, 2) := by decide +kernel
theorem dX10_team_47 : decode cX10_team 47 = .ok (.iconst 0, 1) := by decide +kernel
theorem dX10_team_48 : decode cX10_team 48 = .ok (.istore 5, 2) := by decide +kernel
theorem dX10_team_50 : decode cX10_team 50 = .ok (.iload 5, 2) := by decide +kernel
theorem dX10_team_52 : decode cX10_team 52 = .ok (.aload_n 0, 1) := by decide +kernel
theorem dX10_team_53 : decode cX10_team 53 = .ok (.getfield 123, 3) := by decide +kernel
theorem dX10_team_56 : decode cX10_team 56 = .ok (.if_icmp .ge 67, 3) := by decide +kernel
theorem dX10_team_123 : decode cX10_team 123 = .ok (.iload 4, 2) := by decide +kernel
theorem dX10_team_125 : decode cX10_team 125 = .ok (.iconst (-1), 1) := by decide +kernel
theorem dX10_team_126 : decode cX10_team 126 = .ok (.if_icmp .ne 5, 3) := by decide +kernel
theorem dX10_team_129 : decode cX10_team 129 = .ok (.iconst (-1), 1) := by decide +kernel
theorem dX10_team_130 : decode cX10_team 130 = .ok (.ireturn, 1) := by decide +kernel
theorem dX10_told_0 : decode cX10_told 0 = .ok (.aload_n 0, 1) := by decide +kernel
theorem dX10_told_1 : decode cX10_told 1 = .ok (.getfield 243, 3) := by decide +kernel
theorem dX10_told_4 : decode cX10_told 4 = .ok (.ifCond .eq 44, 3) := by decide +kernel
theorem dX10_told_48 : decode cX10_told 48 = .ok (.iconst (-1), 1) := by decide +kernel
theorem dX10_told_49 : decode cX10_told 49 = .ok (.ireturn, 1) := by decide +kernel
theorem dX1_clearDraft_0 : decode cX1_clearDraft 0 = .ok (.aload_n 0, 1) := by decide +kernel
theorem dX1_clearDraft_1 : decode cX1_clearDraft 1 = .ok (.getfield 9, 3) := by decide +kernel
theorem dX1_clearDraft_4 : decode cX1_clearDraft 4 = .ok (.bipush 9, 2) := by decide +kernel
theorem dX1_clearDraft_6 : decode cX1_clearDraft 6 = .ok (.iconst 0, 1) := by decide +kernel
theorem dX1_clearDraft_7 : decode cX1_clearDraft 7 = .ok (.iastore, 1) := by decide +kernel
theorem dX1_clearDraft_8 : decode cX1_clearDraft 8 = .ok (.return_, 1) := by decide +kernel
theorem dX1_init_0 : decode cX1_init 0 = .ok (.aload_n 0, 1) := by decide +kernel
theorem dX1_init_1 : decode cX1_init 1 = .ok (.invokespecial 3, 3) := by decide +kernel
theorem dX1_init_4 : decode cX1_init 4 = .ok (.aload_n 0, 1) := by decide +kernel
theorem dX1_init_5 : decode cX1_init 5 = .ok (.bipush 10, 2) := by decide +kernel
theorem dX1_init_7 : decode cX1_init 7 = .ok (.newarray .int, 2) := by decide +kernel
theorem dX1_init_9 : decode cX1_init 9 = .ok (.putfield 9, 3) := by decide +kernel
theorem dX1_init_12 : decode cX1_init 12 = .ok (.aload_n 0, 1) := by decide +kernel
theorem dX1_init_13 : decode cX1_init 13 = .ok (.sipush 160, 3) := by decide +kernel
theorem dX1_init_16 : decode cX1_init 16 = .ok (.newarray .int, 2) := by decide +kernel
theorem dX1_init_18 : decode cX1_init 18 = .ok (.putfield 15, 3) := by decide +kernel
theorem dX1_init_21 : decode cX1_init 21 = .ok (.aload_n 0, 1) := by decide +kernel
theorem dX1_init_22 : decode cX1_init 22 = .ok (.sipush 160, 3) := by decide +kernel
theorem dX1_init_25 : decode cX1_init 25 = .ok (.newarray .int, 2) := by decide +kernel
theorem dX1_init_27 : decode cX1_init 27 = .ok (.putfield 18, 3) := by decide +kernel
theorem dX1_init_30 : decode cX1_init 30 = .ok (.aload_n 0, 1) := by decide +kernel
theorem dX1_init_31 : decode cX1_init 31 = .ok (.sipush 160, 3) := by decide +kernel
theorem dX1_init_34 : decode cX1_init 34 = .ok (.newarray .int, 2) := by decide +kernel
theorem dX1_init_36 : decode cX1_init 36 = .ok (.putfield 21, 3) := by decide +kernel
theorem dX1_init_39 : decode cX1_init 39 = .ok (.aload_n 0, 1) := by decide +kernel
theorem dX1_init_40 : decode cX1_init 40 = .ok (.sipush 160, 3) := by decide +kernel
theorem dX1_init_43 : decode cX1_init 43 = .ok (.newarray .int, 2) := by decide +kernel
theorem dX1_init_45 : decode cX1_init 45 = .ok (.putfield 24, 3) := by decide +kernel
theorem dX1_init_48 : decode cX1_init 48 = .ok (.return_, 1) := by decide +kernel
theorem dX1_takeDraft_0 : decode cX1_takeDraft 0 = .ok (.sipush 144, 3) := by decide +kernel
theorem dX1_takeDraft_3 : decode cX1_takeDraft 3 = .ok (.istore_n 2, 1) := by decide +kernel
theorem dX1_takeDraft_4 : decode cX1_takeDraft 4 = .ok (.iload_n 1, 1) := by decide +kernel
theorem dX1_takeDraft_5 : decode cX1_takeDraft 5 = .ok (.bipush 16, 2) := by decide +kernel
theorem dX1_takeDraft_7 : decode cX1_takeDraft 7 = .ok (.imul, 1) := by decide +kernel
theorem dX1_takeDraft_8 : decode cX1_takeDraft 8 = .ok (.istore_n 3, 1) := by decide +kernel
theorem dX1_takeDraft_9 : decode cX1_takeDraft 9 = .ok (.iconst 0, 1) := by decide +kernel
theorem dX1_takeDraft_10 : decode cX1_takeDraft 10 = .ok (.istore 4, 2) := by decide +kernel
theorem dX1_takeDraft_12 : decode cX1_takeDraft 12 = .ok (.iload 4, 2) := by decide +kernel
theorem dX1_takeDraft_14 : decode cX1_takeDraft 14 = .ok (.bipush 16, 2) := by decide +kernel
theorem dX1_takeDraft_16 : decode cX1_takeDraft 16 = .ok (.if_icmp .ge 81, 3) := by decide +kernel
theorem dX1_takeDraft_19 : decode cX1_takeDraft 19 = .ok (.aload_n 0, 1) := by decide +kernel
theorem dX1_takeDraft_20 : decode cX1_takeDraft 20 = .ok (.getfield 15, 3) := by decide +kernel
theorem dX1_takeDraft_23 : decode cX1_takeDraft 23 = .ok (.iload_n 3, 1) := by decide +kernel
theorem dX1_takeDraft_24 : decode cX1_takeDraft 24 = .ok (.iload 4, 2) := by decide +kernel
theorem dX1_takeDraft_26 : decode cX1_takeDraft 26 = .ok (.iadd, 1) := by decide +kernel
theorem dX1_takeDraft_27 : decode cX1_takeDraft 27 = .ok (.aload_n 0, 1) := by decide +kernel
theorem dX1_takeDraft_28 : decode cX1_takeDraft 28 = .ok (.getfield 15, 3) := by decide +kernel
theorem dX1_takeDraft_31 : decode cX1_takeDraft 31 = .ok (.iload_n 2, 1) := by decide +kernel
theorem dX1_takeDraft_32 : decode cX1_takeDraft 32 = .ok (.iload 4, 2) := by decide +kernel
theorem dX1_takeDraft_34 : decode cX1_takeDraft 34 = .ok (.iadd, 1) := by decide +kernel
theorem dX1_takeDraft_35 : decode cX1_takeDraft 35 = .ok (.iaload, 1) := by decide +kernel
theorem dX1_takeDraft_36 : decode cX1_takeDraft 36 = .ok (.iastore, 1) := by decide +kernel
theorem dX1_takeDraft_37 : decode cX1_takeDraft 37 = .ok (.aload_n 0, 1) := by decide +kernel
theorem dX1_takeDraft_38 : decode cX1_takeDraft 38 = .ok (.getfield 18, 3) := by decide +kernel
theorem dX1_takeDraft_41 : decode cX1_takeDraft 41 = .ok (.iload_n 3, 1) := by decide +kernel
theorem dX1_takeDraft_42 : decode cX1_takeDraft 42 = .ok (.iload 4, 2) := by decide +kernel
theorem dX1_takeDraft_44 : decode cX1_takeDraft 44 = .ok (.iadd, 1) := by decide +kernel
theorem dX1_takeDraft_45 : decode cX1_takeDraft 45 = .ok (.aload_n 0, 1) := by decide +kernel
theorem dX1_takeDraft_46 : decode cX1_takeDraft 46 = .ok (.getfield 18, 3) := by decide +kernel
theorem dX1_takeDraft_49 : decode cX1_takeDraft 49 = .ok (.iload_n 2, 1) := by decide +kernel
theorem dX1_takeDraft_50 : decode cX1_takeDraft 50 = .ok (.iload 4, 2) := by decide +kernel
theorem dX1_takeDraft_52 : decode cX1_takeDraft 52 = .ok (.iadd, 1) := by decide +kernel
theorem dX1_takeDraft_53 : decode cX1_takeDraft 53 = .ok (.iaload, 1) := by decide +kernel
theorem dX1_takeDraft_54 : decode cX1_takeDraft 54 = .ok (.iastore, 1) := by decide +kernel
theorem dX1_takeDraft_55 : decode cX1_takeDraft 55 = .ok (.aload_n 0, 1) := by decide +kernel
theorem dX1_takeDraft_56 : decode cX1_takeDraft 56 = .ok (.getfield 21, 3) := by decide +kernel
theorem dX1_takeDraft_59 : decode cX1_takeDraft 59 = .ok (.iload_n 3, 1) := by decide +kernel
theorem dX1_takeDraft_60 : decode cX1_takeDraft 60 = .ok (.iload 4, 2) := by decide +kernel
theorem dX1_takeDraft_62 : decode cX1_takeDraft 62 = .ok (.iadd, 1) := by decide +kernel
theorem dX1_takeDraft_63 : decode cX1_takeDraft 63 = .ok (.aload_n 0, 1) := by decide +kernel
theorem dX1_takeDraft_64 : decode cX1_takeDraft 64 = .ok (.getfield 21, 3) := by decide +kernel
theorem dX1_takeDraft_67 : decode cX1_takeDraft 67 = .ok (.iload_n 2, 1) := by decide +kernel
theorem dX1_takeDraft_68 : decode cX1_takeDraft 68 = .ok (.iload 4, 2) := by decide +kernel
theorem dX1_takeDraft_70 : decode cX1_takeDraft 70 = .ok (.iadd, 1) := by decide +kernel
theorem dX1_takeDraft_71 : decode cX1_takeDraft 71 = .ok (.iaload, 1) := by decide +kernel
theorem dX1_takeDraft_72 : decode cX1_takeDraft 72 = .ok (.iastore, 1) := by decide +kernel
theorem dX1_takeDraft_73 : decode cX1_takeDraft 73 = .ok (.aload_n 0, 1) := by decide +kernel
theorem dX1_takeDraft_74 : decode cX1_takeDraft 74 = .ok (.getfield 24, 3) := by decide +kernel
theorem dX1_takeDraft_77 : decode cX1_takeDraft 77 = .ok (.iload_n 3, 1) := by decide +kernel
theorem dX1_takeDraft_78 : decode cX1_takeDraft 78 = .ok (.iload 4, 2) := by decide +kernel
theorem dX1_takeDraft_80 : decode cX1_takeDraft 80 = .ok (.iadd, 1) := by decide +kernel
theorem dX1_takeDraft_81 : decode cX1_takeDraft 81 = .ok (.aload_n 0, 1) := by decide +kernel
theorem dX1_takeDraft_82 : decode cX1_takeDraft 82 = .ok (.getfield 24, 3) := by decide +kernel
theorem dX1_takeDraft_85 : decode cX1_takeDraft 85 = .ok (.iload_n 2, 1) := by decide +kernel
theorem dX1_takeDraft_86 : decode cX1_takeDraft 86 = .ok (.iload 4, 2) := by decide +kernel
theorem dX1_takeDraft_88 : decode cX1_takeDraft 88 = .ok (.iadd, 1) := by decide +kernel
theorem dX1_takeDraft_89 : decode cX1_takeDraft 89 = .ok (.iaload, 1) := by decide +kernel
theorem dX1_takeDraft_90 : decode cX1_takeDraft 90 = .ok (.iastore, 1) := by decide +kernel
theorem dX1_takeDraft_91 : decode cX1_takeDraft 91 = .ok (.iinc 4 1, 3) := by decide +kernel
theorem dX1_takeDraft_94 : decode cX1_takeDraft 94 = .ok (.goto (-82), 3) := by decide +kernel
theorem dX1_takeDraft_97 : decode cX1_takeDraft 97 = .ok (.aload_n 0, 1) := by decide +kernel
theorem dX1_takeDraft_98 : decode cX1_takeDraft 98 = .ok (.getfield 9, 3) := by decide +kernel
theorem dX1_takeDraft_101 : decode cX1_takeDraft 101 = .ok (.iload_n 1, 1) := by decide +kernel
theorem dX1_takeDraft_102 : decode cX1_takeDraft 102 = .ok (.aload_n 0, 1) := by decide +kernel
theorem dX1_takeDraft_103 : decode cX1_takeDraft 103 = .ok (.getfield 9, 3) := by decide +kernel
theorem dX1_takeDraft_106 : decode cX1_takeDraft 106 = .ok (.bipush 9, 2) := by decide +kernel
theorem dX1_takeDraft_108 : decode cX1_takeDraft 108 = .ok (.iaload, 1) := by decide +kernel
theorem dX1_takeDraft_109 : decode cX1_takeDraft 109 = .ok (.iastore, 1) := by decide +kernel
theorem dX1_takeDraft_110 : decode cX1_takeDraft 110 = .ok (.return_, 1) := by decide +kernel
theorem dX2_faultOf_0 : decode cX2_faultOf 0 = .ok (.aload_n 2, 1) := by decide +kernel
theorem dX2_faultOf_1 : decode cX2_faultOf 1 = .ok (.invokevirtual 27, 3) := by decide +kernel
theorem dX2_faultOf_4 : decode cX2_faultOf 4 = .ok (.aload_n 0, 1) := by decide +kernel
theorem dX2_faultOf_5 : decode cX2_faultOf 5 = .ok (.iconst 0, 1) := by decide +kernel
theorem dX2_faultOf_6 : decode cX2_faultOf 6 = .ok (.putfield 11, 3) := by decide +kernel
theorem dX2_faultOf_9 : decode cX2_faultOf 9 = .ok (.iconst 0, 1) := by decide +kernel
theorem dX2_faultOf_10 : decode cX2_faultOf 10 = .ok (.istore_n 3, 1) := by decide +kernel
theorem dX2_faultOf_11 : decode cX2_faultOf 11 = .ok (.iload_n 3, 1) := by decide +kernel
theorem dX2_faultOf_12 : decode cX2_faultOf 12 = .ok (.aload_n 1, 1) := by decide +kernel
theorem dX2_faultOf_13 : decode cX2_faultOf 13 = .ok (.getfield 32, 3) := by decide +kernel
theorem dX2_faultOf_16 : decode cX2_faultOf 16 = .ok (.if_icmp .ge 25, 3) := by decide +kernel
theorem dX2_faultOf_41 : decode cX2_faultOf 41 = .ok (.aload_n 0, 1) := by decide +kernel
theorem dX2_faultOf_42 : decode cX2_faultOf 42 = .ok (.getfield 11, 3) := by decide +kernel
theorem dX2_faultOf_45 : decode cX2_faultOf 45 = .ok (.ifCond .eq 12, 3) := by decide +kernel
theorem dX2_faultOf_57 : decode cX2_faultOf 57 = .ok (.iconst (-1), 1) := by decide +kernel
theorem dX2_faultOf_58 : decode cX2_faultOf 58 = .ok (.goto 7, 3) := by decide +kernel
theorem dX2_faultOf_65 : decode cX2_faultOf 65 = .ok (.ireturn, 1) := by decide +kernel
theorem dX2_init_0 : decode cX2_init 0 = .ok (.aload_n 0, 1) := by decide +kernel
theorem dX2_init_1 : decode cX2_init 1 = .ok (.invokespecial 3, 3) := by decide +kernel
theorem dX2_init_4 : decode cX2_init 4 = .ok (.aload_n 0, 1) := by decide +kernel
theorem dX2_init_5 : decode cX2_init 5 = .ok (.iconst 0, 1) := by decide +kernel
theorem dX2_init_6 : decode cX2_init 6 = .ok (.putfield 11, 3) := by decide +kernel
theorem dX2_init_9 : decode cX2_init 9 = .ok (.aload_n 0, 1) := by decide +kernel
theorem dX2_init_10 : decode cX2_init 10 = .ok (.iconst 0, 1) := by decide +kernel
theorem dX2_init_11 : decode cX2_init 11 = .ok (.putfield 15, 3) := by decide +kernel
theorem dX2_init_14 : decode cX2_init 14 = .ok (.aload_n 0, 1) := by decide +kernel
theorem dX2_init_15 : decode cX2_init 15 = .ok (.iconst 0, 1) := by decide +kernel
theorem dX2_init_16 : decode cX2_init 16 = .ok (.putfield 18, 3) := by decide +kernel
theorem dX2_init_19 : decode cX2_init 19 = .ok (.aload_n 0, 1) := by decide +kernel
theorem dX2_init_20 : decode cX2_init 20 = .ok (.iconst 0, 1) := by decide +kernel
theorem dX2_init_21 : decode cX2_init 21 = .ok (.putfield 21, 3) := by decide +kernel
theorem dX2_init_24 : decode cX2_init 24 = .ok (.aload_n 0, 1) := by decide +kernel
theorem dX2_init_25 : decode cX2_init 25 = .ok (.iconst 0, 1) := by decide +kernel
theorem dX2_init_26 : decode cX2_init 26 = .ok (.putfield 24, 3) := by decide +kernel
theorem dX2_init_29 : decode cX2_init 29 = .ok (.return_, 1) := by decide +kernel
theorem dX3_init_0 : decode cX3_init 0 = .ok (.aload_n 0, 1) := by decide +kernel
theorem dX3_init_1 : decode cX3_init 1 = .ok (.invokespecial 3, 3) := by decide +kernel
theorem dX3_init_4 : decode cX3_init 4 = .ok (.aload_n 0, 1) := by decide +kernel
theorem dX3_init_5 : decode cX3_init 5 = .ok (.iconst 0, 1) := by decide +kernel
theorem dX3_init_6 : decode cX3_init 6 = .ok (.putfield 9, 3) := by decide +kernel
theorem dX3_init_9 : decode cX3_init 9 = .ok (.aload_n 0, 1) := by decide +kernel
theorem dX3_init_10 : decode cX3_init 10 = .ok (.iconst 0, 1) := by decide +kernel
theorem dX3_init_11 : decode cX3_init 11 = .ok (.putfield 15, 3) := by decide +kernel
theorem dX3_init_14 : decode cX3_init 14 = .ok (.aload_n 0, 1) := by decide +kernel
theorem dX3_init_15 : decode cX3_init 15 = .ok (.iconst 0, 1) := by decide +kernel
theorem dX3_init_16 : decode cX3_init 16 = .ok (.putfield 18, 3) := by decide +kernel
theorem dX3_init_19 : decode cX3_init 19 = .ok (.aload_n 0, 1) := by decide +kernel
theorem dX3_init_20 : decode cX3_init 20 = .ok (.lconst 0, 1) := by decide +kernel
theorem dX3_init_21 : decode cX3_init 21 = .ok (.putfield 21, 3) := by decide +kernel
theorem dX3_init_24 : decode cX3_init 24 = .ok (.aload_n 0, 1) := by decide +kernel
theorem dX3_init_25 : decode cX3_init 25 = .ok (.iconst 0, 1) := by decide +kernel
theorem dX3_init_26 : decode cX3_init 26 = .ok (.putfield 25, 3) := by decide +kernel
theorem dX3_init_29 : decode cX3_init 29 = .ok (.aload_n 0, 1) := by decide +kernel
theorem dX3_init_30 : decode cX3_init 30 = .ok (.bipush 20, 2) := by decide +kernel
theorem dX3_init_32 : decode cX3_init 32 = .ok (.newarray .boolean, 2) := by decide +kernel
theorem dX3_init_34 : decode cX3_init 34 = .ok (.putfield 28, 3) := by decide +kernel
theorem dX3_init_37 : decode cX3_init 37 = .ok (.aload_n 0, 1) := by decide +kernel
theorem dX3_init_38 : decode cX3_init 38 = .ok (.bipush 20, 2) := by decide +kernel
theorem dX3_init_40 : decode cX3_init 40 = .ok (.newarray .int, 2) := by decide +kernel
theorem dX3_init_42 : decode cX3_init 42 = .ok (.putfield 32, 3) := by decide +kernel
theorem dX3_init_45 : decode cX3_init 45 = .ok (.aload_n 0, 1) := by decide +kernel
theorem dX3_init_46 : decode cX3_init 46 = .ok (.bipush 20, 2) := by decide +kernel
theorem dX3_init_48 : decode cX3_init 48 = .ok (.newarray .int, 2) := by decide +kernel
theorem dX3_init_50 : decode cX3_init 50 = .ok (.putfield 36, 3) := by decide +kernel
theorem dX3_init_53 : decode cX3_init 53 = .ok (.aload_n 0, 1) := by decide +kernel
theorem dX3_init_54 : decode cX3_init 54 = .ok (.bipush 20, 2) := by decide +kernel
theorem dX3_init_56 : decode cX3_init 56 = .ok (.newarray .int, 2) := by decide +kernel
theorem dX3_init_58 : decode cX3_init 58 = .ok (.putfield 39, 3) := by decide +kernel
theorem dX3_init_61 : decode cX3_init 61 = .ok (.aload_n 0, 1) := by decide +kernel
theorem dX3_init_62 : decode cX3_init 62 = .ok (.bipush 20, 2) := by decide +kernel
theorem dX3_init_64 : decode cX3_init 64 = .ok (.newarray .int, 2) := by decide +kernel
theorem dX3_init_66 : decode cX3_init 66 = .ok (.putfield 42, 3) := by decide +kernel
theorem dX3_init_69 : decode cX3_init 69 = .ok (.aload_n 0, 1) := by decide +kernel
theorem dX3_init_70 : decode cX3_init 70 = .ok (.bipush 20, 2) := by decide +kernel
theorem dX3_init_72 : decode cX3_init 72 = .ok (.newarray .int, 2) := by decide +kernel
theorem dX3_init_74 : decode cX3_init 74 = .ok (.putfield 45, 3) := by decide +kernel
theorem dX3_init_77 : decode cX3_init 77 = .ok (.aload_n 0, 1) := by decide +kernel
theorem dX3_init_78 : decode cX3_init 78 = .ok (.bipush 20, 2) := by decide +kernel
theorem dX3_init_80 : decode cX3_init 80 = .ok (.newarray .int, 2) := by decide +kernel
theorem dX3_init_82 : decode cX3_init 82 = .ok (.putfield 48, 3) := by decide +kernel
theorem dX3_init_85 : decode cX3_init 85 = .ok (.aload_n 0, 1) := by decide +kernel
theorem dX3_init_86 : decode cX3_init 86 = .ok (.bipush 100, 2) := by decide +kernel
theorem dX3_init_88 : decode cX3_init 88 = .ok (.newarray .int, 2) := by decide +kernel
theorem dX3_init_90 : decode cX3_init 90 = .ok (.putfield 51, 3) := by decide +kernel
theorem dX3_init_93 : decode cX3_init 93 = .ok (.aload_n 0, 1) := by decide +kernel
theorem dX3_init_94 : decode cX3_init 94 = .ok (.iconst 5, 1) := by decide +kernel
theorem dX3_init_95 : decode cX3_init 95 = .ok (.newarray .int, 2) := by decide +kernel
theorem dX3_init_97 : decode cX3_init 97 = .ok (.putfield 54, 3) := by decide +kernel
theorem dX3_init_100 : decode cX3_init 100 = .ok (.aload_n 0, 1) := by decide +kernel
theorem dX3_init_101 : decode cX3_init 101 = .ok (.new 57, 3) := by decide +kernel
theorem dX3_init_104 : decode cX3_init 104 = .ok (.dup, 1) := by decide +kernel
theorem dX3_init_105 : decode cX3_init 105 = .ok (.invokespecial 59, 3) := by decide +kernel
theorem dX3_init_108 : decode cX3_init 108 = .ok (.putfield 60, 3) := by decide +kernel
theorem dX3_init_111 : decode cX3_init 111 = .ok (.aload_n 0, 1) := by decide +kernel
theorem dX3_init_112 : decode cX3_init 112 = .ok (.iconst 5, 1) := by decide +kernel
theorem dX3_init_113 : decode cX3_init 113 = .ok (.newarray .int, 2) := by decide +kernel
theorem dX3_init_115 : decode cX3_init 115 = .ok (.putfield 64, 3) := by decide +kernel
theorem dX3_init_118 : decode cX3_init 118 = .ok (.return_, 1) := by decide +kernel
theorem dX4_init_0 : decode cX4_init 0 = .ok (.aload_n 0, 1) := by decide +kernel
theorem dX4_init_1 : decode cX4_init 1 = .ok (.invokespecial 3, 3) := by decide +kernel
theorem dX4_init_4 : decode cX4_init 4 = .ok (.aload_n 0, 1) := by decide +kernel
theorem dX4_init_5 : decode cX4_init 5 = .ok (.sipush 8020, 3) := by decide +kernel
theorem dX4_init_8 : decode cX4_init 8 = .ok (.newarray .int, 2) := by decide +kernel
theorem dX4_init_10 : decode cX4_init 10 = .ok (.putfield 9, 3) := by decide +kernel
theorem dX4_init_13 : decode cX4_init 13 = .ok (.aload_n 0, 1) := by decide +kernel
theorem dX4_init_14 : decode cX4_init 14 = .ok (.sipush 401, 3) := by decide +kernel
theorem dX4_init_17 : decode cX4_init 17 = .ok (.newarray .int, 2) := by decide +kernel
theorem dX4_init_19 : decode cX4_init 19 = .ok (.putfield 15, 3) := by decide +kernel
theorem dX4_init_22 : decode cX4_init 22 = .ok (.return_, 1) := by decide +kernel
theorem dX5_add_0 : decode cX5_add 0 = .ok (.aload_n 0, 1) := by decide +kernel
theorem dX5_add_1 : decode cX5_add 1 = .ok (.getfield 9, 3) := by decide +kernel
theorem dX5_add_4 : decode cX5_add 4 = .ok (.bipush 20, 2) := by decide +kernel
theorem dX5_add_6 : decode cX5_add 6 = .ok (.if_icmp .ge 44, 3) := by decide +kernel
theorem dX5_add_9 : decode cX5_add 9 = .ok (.iload_n 1, 1) := by decide +kernel
theorem dX5_add_10 : decode cX5_add 10 = .ok (.invokestatic 28, 3) := by decide +kernel
theorem dX5_add_13 : decode cX5_add 13 = .ok (.ifCond .eq 37, 3) := by decide +kernel
theorem dX5_add_16 : decode cX5_add 16 = .ok (.iload_n 2, 1) := by decide +kernel
theorem dX5_add_17 : decode cX5_add 17 = .ok (.iconst 1, 1) := by decide +kernel
theorem dX5_add_18 : decode cX5_add 18 = .ok (.if_icmp .lt 32, 3) := by decide +kernel
theorem dX5_add_21 : decode cX5_add 21 = .ok (.iload_n 2, 1) := by decide +kernel
theorem dX5_add_22 : decode cX5_add 22 = .ok (.bipush 60, 2) := by decide +kernel
theorem dX5_add_24 : decode cX5_add 24 = .ok (.if_icmp .gt 26, 3) := by decide +kernel
theorem dX5_add_27 : decode cX5_add 27 = .ok (.iload_n 3, 1) := by decide +kernel
theorem dX5_add_28 : decode cX5_add 28 = .ok (.ifCond .lt 22, 3) := by decide +kernel
theorem dX5_add_31 : decode cX5_add 31 = .ok (.iload_n 3, 1) := by decide +kernel
theorem dX5_add_32 : decode cX5_add 32 = .ok (.sipush 2000, 3) := by decide +kernel
theorem dX5_add_35 : decode cX5_add 35 = .ok (.if_icmp .gt 15, 3) := by decide +kernel
theorem dX5_add_38 : decode cX5_add 38 = .ok (.iload 4, 2) := by decide +kernel
theorem dX5_add_40 : decode cX5_add 40 = .ok (.ifCond .lt 10, 3) := by decide +kernel
theorem dX5_add_43 : decode cX5_add 43 = .ok (.iload 4, 2) := by decide +kernel
theorem dX5_add_45 : decode cX5_add 45 = .ok (.bipush 50, 2) := by decide +kernel
theorem dX5_add_47 : decode cX5_add 47 = .ok (.if_icmp .le 5, 3) := by decide +kernel
theorem dX5_add_50 : decode cX5_add 50 = .ok (.iconst (-1), 1) := by decide +kernel
theorem dX5_add_51 : decode cX5_add 51 = .ok (.ireturn, 1) := by decide +kernel
theorem dX5_add_52 : decode cX5_add 52 = .ok (.aload_n 0, 1) := by decide +kernel
theorem dX5_add_53 : decode cX5_add 53 = .ok (.getfield 15, 3) := by decide +kernel
theorem dX5_add_56 : decode cX5_add 56 = .ok (.aload_n 0, 1) := by decide +kernel
theorem dX5_add_57 : decode cX5_add 57 = .ok (.getfield 9, 3) := by decide +kernel
theorem dX5_add_60 : decode cX5_add 60 = .ok (.iload_n 1, 1) := by decide +kernel
theorem dX5_add_61 : decode cX5_add 61 = .ok (.iastore, 1) := by decide +kernel
theorem dX5_add_62 : decode cX5_add 62 = .ok (.aload_n 0, 1) := by decide +kernel
theorem dX5_add_63 : decode cX5_add 63 = .ok (.getfield 19, 3) := by decide +kernel
theorem dX5_add_66 : decode cX5_add 66 = .ok (.aload_n 0, 1) := by decide +kernel
theorem dX5_add_67 : decode cX5_add 67 = .ok (.getfield 9, 3) := by decide +kernel
theorem dX5_add_70 : decode cX5_add 70 = .ok (.iload_n 2, 1) := by decide +kernel
theorem dX5_add_71 : decode cX5_add 71 = .ok (.iastore, 1) := by decide +kernel
theorem dX5_add_72 : decode cX5_add 72 = .ok (.aload_n 0, 1) := by decide +kernel
theorem dX5_add_73 : decode cX5_add 73 = .ok (.getfield 22, 3) := by decide +kernel
theorem dX5_add_76 : decode cX5_add 76 = .ok (.aload_n 0, 1) := by decide +kernel
theorem dX5_add_77 : decode cX5_add 77 = .ok (.getfield 9, 3) := by decide +kernel
theorem dX5_add_80 : decode cX5_add 80 = .ok (.iload_n 3, 1) := by decide +kernel
theorem dX5_add_81 : decode cX5_add 81 = .ok (.iastore, 1) := by decide +kernel
theorem dX5_add_82 : decode cX5_add 82 = .ok (.aload_n 0, 1) := by decide +kernel
theorem dX5_add_83 : decode cX5_add 83 = .ok (.getfield 25, 3) := by decide +kernel
theorem dX5_add_86 : decode cX5_add 86 = .ok (.aload_n 0, 1) := by decide +kernel
theorem dX5_add_87 : decode cX5_add 87 = .ok (.getfield 9, 3) := by decide +kernel
theorem dX5_add_90 : decode cX5_add 90 = .ok (.iload 4, 2) := by decide +kernel
theorem dX5_add_92 : decode cX5_add 92 = .ok (.iastore, 1) := by decide +kernel
theorem dX5_add_93 : decode cX5_add 93 = .ok (.aload_n 0, 1) := by decide +kernel
theorem dX5_add_94 : decode cX5_add 94 = .ok (.dup, 1) := by decide +kernel
theorem dX5_add_95 : decode cX5_add 95 = .ok (.getfield 9, 3) := by decide +kernel
theorem dX5_add_98 : decode cX5_add 98 = .ok (.iconst 1, 1) := by decide +kernel
theorem dX5_add_99 : decode cX5_add 99 = .ok (.iadd, 1) := by decide +kernel
theorem dX5_add_100 : decode cX5_add 100 = .ok (.putfield 9, 3) := by decide +kernel
theorem dX5_add_103 : decode cX5_add 103 = .ok (.aload_n 0, 1) := by decide +kernel
theorem dX5_add_104 : decode cX5_add 104 = .ok (.getfield 9, 3) := by decide +kernel
theorem dX5_add_107 : decode cX5_add 107 = .ok (.iconst 1, 1) := by decide +kernel
theorem dX5_add_108 : decode cX5_add 108 = .ok (.isub, 1) := by decide +kernel
theorem dX5_add_109 : decode cX5_add 109 = .ok (.ireturn, 1) := by decide +kernel
theorem dX5_init_0 : decode cX5_init 0 = .ok (.aload_n 0, 1) := by decide +kernel
theorem dX5_init_1 : decode cX5_init 1 = .ok (.invokespecial 3, 3) := by decide +kernel
theorem dX5_init_4 : decode cX5_init 4 = .ok (.aload_n 0, 1) := by decide +kernel
theorem dX5_init_5 : decode cX5_init 5 = .ok (.iconst 0, 1) := by decide +kernel
theorem dX5_init_6 : decode cX5_init 6 = .ok (.putfield 9, 3) := by decide +kernel
theorem dX5_init_9 : decode cX5_init 9 = .ok (.aload_n 0, 1) := by decide +kernel
theorem dX5_init_10 : decode cX5_init 10 = .ok (.bipush 20, 2) := by decide +kernel
theorem dX5_init_12 : decode cX5_init 12 = .ok (.newarray .int, 2) := by decide +kernel
theorem dX5_init_14 : decode cX5_init 14 = .ok (.putfield 15, 3) := by decide +kernel
theorem dX5_init_17 : decode cX5_init 17 = .ok (.aload_n 0, 1) := by decide +kernel
theorem dX5_init_18 : decode cX5_init 18 = .ok (.bipush 20, 2) := by decide +kernel
theorem dX5_init_20 : decode cX5_init 20 = .ok (.newarray .int, 2) := by decide +kernel
theorem dX5_init_22 : decode cX5_init 22 = .ok (.putfield 19, 3) := by decide +kernel
theorem dX5_init_25 : decode cX5_init 25 = .ok (.aload_n 0, 1) := by decide +kernel
theorem dX5_init_26 : decode cX5_init 26 = .ok (.bipush 20, 2) := by decide +kernel
theorem dX5_init_28 : decode cX5_init 28 = .ok (.newarray .int, 2) := by decide +kernel
theorem dX5_init_30 : decode cX5_init 30 = .ok (.putfield 22, 3) := by decide +kernel
theorem dX5_init_33 : decode cX5_init 33 = .ok (.aload_n 0, 1) := by decide +kernel
theorem dX5_init_34 : decode cX5_init 34 = .ok (.bipush 20, 2) := by decide +kernel
theorem dX5_init_36 : decode cX5_init 36 = .ok (.newarray .int, 2) := by decide +kernel
theorem dX5_init_38 : decode cX5_init 38 = .ok (.putfield 25, 3) := by decide +kernel
theorem dX5_init_41 : decode cX5_init 41 = .ok (.return_, 1) := by decide +kernel
theorem dX6_addPrime_0 : decode cX6_addPrime 0 = .ok (.aload_n 0, 1) := by decide +kernel
theorem dX6_addPrime_1 : decode cX6_addPrime 1 = .ok (.getfield 22, 3) := by decide +kernel
theorem dX6_addPrime_4 : decode cX6_addPrime 4 = .ok (.iconst 5, 1) := by decide +kernel
theorem dX6_addPrime_5 : decode cX6_addPrime 5 = .ok (.if_icmp .ge 11, 3) := by decide +kernel
theorem dX6_addPrime_8 : decode cX6_addPrime 8 = .ok (.aload_n 0, 1) := by decide +kernel
theorem dX6_addPrime_9 : decode cX6_addPrime 9 = .ok (.iload_n 1, 1) := by decide +kernel
theorem dX6_addPrime_10 : decode cX6_addPrime 10 = .ok (.invokevirtual 38, 3) := by decide +kernel
theorem dX6_addPrime_13 : decode cX6_addPrime 13 = .ok (.ifCond .ne 5, 3) := by decide +kernel
theorem dX6_addPrime_16 : decode cX6_addPrime 16 = .ok (.iconst (-1), 1) := by decide +kernel
theorem dX6_addPrime_17 : decode cX6_addPrime 17 = .ok (.ireturn, 1) := by decide +kernel
theorem dX6_addPrime_18 : decode cX6_addPrime 18 = .ok (.aload_n 0, 1) := by decide +kernel
theorem dX6_addPrime_19 : decode cX6_addPrime 19 = .ok (.getfield 25, 3) := by decide +kernel
theorem dX6_addPrime_22 : decode cX6_addPrime 22 = .ok (.aload_n 0, 1) := by decide +kernel
theorem dX6_addPrime_23 : decode cX6_addPrime 23 = .ok (.getfield 22, 3) := by decide +kernel
theorem dX6_addPrime_26 : decode cX6_addPrime 26 = .ok (.iload_n 1, 1) := by decide +kernel
theorem dX6_addPrime_27 : decode cX6_addPrime 27 = .ok (.iastore, 1) := by decide +kernel
theorem dX6_addPrime_28 : decode cX6_addPrime 28 = .ok (.aload_n 0, 1) := by decide +kernel
theorem dX6_addPrime_29 : decode cX6_addPrime 29 = .ok (.dup, 1) := by decide +kernel
theorem dX6_addPrime_30 : decode cX6_addPrime 30 = .ok (.getfield 22, 3) := by decide +kernel
theorem dX6_addPrime_33 : decode cX6_addPrime 33 = .ok (.iconst 1, 1) := by decide +kernel
theorem dX6_addPrime_34 : decode cX6_addPrime 34 = .ok (.iadd, 1) := by decide +kernel
theorem dX6_addPrime_35 : decode cX6_addPrime 35 = .ok (.putfield 22, 3) := by decide +kernel
theorem dX6_addPrime_38 : decode cX6_addPrime 38 = .ok (.aload_n 0, 1) := by decide +kernel
theorem dX6_addPrime_39 : decode cX6_addPrime 39 = .ok (.getfield 22, 3) := by decide +kernel
theorem dX6_addPrime_42 : decode cX6_addPrime 42 = .ok (.iconst 1, 1) := by decide +kernel
theorem dX6_addPrime_43 : decode cX6_addPrime 43 = .ok (.isub, 1) := by decide +kernel
theorem dX6_addPrime_44 : decode cX6_addPrime 44 = .ok (.ireturn, 1) := by decide +kernel
theorem dX6_init_0 : decode cX6_init 0 = .ok (.aload_n 0, 1) := by decide +kernel
theorem dX6_init_1 : decode cX6_init 1 = .ok (.invokespecial 3, 3) := by decide +kernel
theorem dX6_init_4 : decode cX6_init 4 = .ok (.aload_n 0, 1) := by decide +kernel
theorem dX6_init_5 : decode cX6_init 5 = .ok (.iconst 1, 1) := by decide +kernel
theorem dX6_init_6 : decode cX6_init 6 = .ok (.putfield 9, 3) := by decide +kernel
theorem dX6_init_9 : decode cX6_init 9 = .ok (.aload_n 0, 1) := by decide +kernel
theorem dX6_init_10 : decode cX6_init 10 = .ok (.bipush 30, 2) := by decide +kernel
theorem dX6_init_12 : decode cX6_init 12 = .ok (.newarray .int, 2) := by decide +kernel
theorem dX6_init_14 : decode cX6_init 14 = .ok (.putfield 15, 3) := by decide +kernel
theorem dX6_init_17 : decode cX6_init 17 = .ok (.aload_n 0, 1) := by decide +kernel
theorem dX6_init_18 : decode cX6_init 18 = .ok (.bipush 30, 2) := by decide +kernel
theorem dX6_init_20 : decode cX6_init 20 = .ok (.newarray .int, 2) := by decide +kernel
theorem dX6_init_22 : decode cX6_init 22 = .ok (.putfield 19, 3) := by decide +kernel
theorem dX6_init_25 : decode cX6_init 25 = .ok (.aload_n 0, 1) := by decide +kernel
theorem dX6_init_26 : decode cX6_init 26 = .ok (.iconst 0, 1) := by decide +kernel
theorem dX6_init_27 : decode cX6_init 27 = .ok (.putfield 22, 3) := by decide +kernel
theorem dX6_init_30 : decode cX6_init 30 = .ok (.aload_n 0, 1) := by decide +kernel
theorem dX6_init_31 : decode cX6_init 31 = .ok (.iconst 5, 1) := by decide +kernel
theorem dX6_init_32 : decode cX6_init 32 = .ok (.newarray .int, 2) := by decide +kernel
theorem dX6_init_34 : decode cX6_init 34 = .ok (.putfield 25, 3) := by decide +kernel
theorem dX6_init_37 : decode cX6_init 37 = .ok (.aload_n 0, 1) := by decide +kernel
theorem dX6_init_38 : decode cX6_init 38 = .ok (.iconst 0, 1) := by decide +kernel
theorem dX6_init_39 : decode cX6_init 39 = .ok (.putfield 28, 3) := by decide +kernel
theorem dX6_init_42 : decode cX6_init 42 = .ok (.aload_n 0, 1) := by decide +kernel
theorem dX6_init_43 : decode cX6_init 43 = .ok (.iconst 0, 1) := by decide +kernel
theorem dX6_init_44 : decode cX6_init 44 = .ok (.putfield 31, 3) := by decide +kernel
theorem dX6_init_47 : decode cX6_init 47 = .ok (.return_, 1) := by decide +kernel
theorem dX6_isBetweenEnds_0 : decode cX6_isBetweenEnds 0 = .ok (.iload_n 1, 1) := by decide +kernel
theorem dX6_isBetweenEnds_1 : decode cX6_isBetweenEnds 1 = .ok (.iconst 1, 1) := by decide +kernel
theorem dX6_isBetweenEnds_2 : decode cX6_isBetweenEnds 2 = .ok (.if_icmp .lt 15, 3) := by decide +kernel
theorem dX6_isBetweenEnds_5 : decode cX6_isBetweenEnds 5 = .ok (.iload_n 1, 1) := by decide +kernel
theorem dX6_isBetweenEnds_6 : decode cX6_isBetweenEnds 6 = .ok (.aload_n 0, 1) := by decide +kernel
theorem dX6_isBetweenEnds_7 : decode cX6_isBetweenEnds 7 = .ok (.invokevirtual 34, 3) := by decide +kernel
theorem dX6_isBetweenEnds_10 : decode cX6_isBetweenEnds 10 = .ok (.if_icmp .ge 7, 3) := by decide +kernel
theorem dX6_isBetweenEnds_13 : decode cX6_isBetweenEnds 13 = .ok (.iconst 1, 1) := by decide +kernel
theorem dX6_isBetweenEnds_14 : decode cX6_isBetweenEnds 14 = .ok (.goto 4, 3) := by decide +kernel
theorem dX6_isBetweenEnds_17 : decode cX6_isBetweenEnds 17 = .ok (.iconst 0, 1) := by decide +kernel
theorem dX6_isBetweenEnds_18 : decode cX6_isBetweenEnds 18 = .ok (.ireturn, 1) := by decide +kernel
theorem dX6_length_0 : decode cX6_length 0 = .ok (.aload_n 0, 1) := by decide +kernel
theorem dX6_length_1 : decode cX6_length 1 = .ok (.getfield 9, 3) := by decide +kernel
theorem dX6_length_4 : decode cX6_length 4 = .ok (.sipush 1000, 3) := by decide +kernel
theorem dX6_length_7 : decode cX6_length 7 = .ok (.imul, 1) := by decide +kernel
theorem dX6_length_8 : decode cX6_length 8 = .ok (.ireturn, 1) := by decide +kernel
theorem dX6_putCrash_0 : decode cX6_putCrash 0 = .ok (.aload_n 0, 1) := by decide +kernel
theorem dX6_putCrash_1 : decode cX6_putCrash 1 = .ok (.iload_n 1, 1) := by decide +kernel
theorem dX6_putCrash_2 : decode cX6_putCrash 2 = .ok (.invokevirtual 38, 3) := by decide +kernel
theorem dX6_putCrash_5 : decode cX6_putCrash 5 = .ok (.ifCond .eq 13, 3) := by decide +kernel
theorem dX6_putCrash_8 : decode cX6_putCrash 8 = .ok (.iload_n 2, 1) := by decide +kernel
theorem dX6_putCrash_9 : decode cX6_putCrash 9 = .ok (.ifCond .lt 9, 3) := by decide +kernel
theorem dX6_putCrash_12 : decode cX6_putCrash 12 = .ok (.iload_n 2, 1) := by decide +kernel
theorem dX6_putCrash_13 : decode cX6_putCrash 13 = .ok (.bipush 100, 2) := by decide +kernel
theorem dX6_putCrash_15 : decode cX6_putCrash 15 = .ok (.if_icmp .le 5, 3) := by decide +kernel
theorem dX6_putCrash_18 : decode cX6_putCrash 18 = .ok (.iconst 0, 1) := by decide +kernel
theorem dX6_putCrash_19 : decode cX6_putCrash 19 = .ok (.ireturn, 1) := by decide +kernel
theorem dX6_putCrash_20 : decode cX6_putCrash 20 = .ok (.aload_n 0, 1) := by decide +kernel
theorem dX6_putCrash_21 : decode cX6_putCrash 21 = .ok (.iload_n 1, 1) := by decide +kernel
theorem dX6_putCrash_22 : decode cX6_putCrash 22 = .ok (.putfield 28, 3) := by decide +kernel
theorem dX6_putCrash_25 : decode cX6_putCrash 25 = .ok (.aload_n 0, 1) := by decide +kernel
theorem dX6_putCrash_26 : decode cX6_putCrash 26 = .ok (.iload_n 2, 1) := by decide +kernel
theorem dX6_putCrash_27 : decode cX6_putCrash 27 = .ok (.putfield 31, 3) := by decide +kernel
theorem dX6_putCrash_30 : decode cX6_putCrash 30 = .ok (.iconst 1, 1) := by decide +kernel
theorem dX6_putCrash_31 : decode cX6_putCrash 31 = .ok (.ireturn, 1) := by decide +kernel
theorem dX6_renew_0 : decode cX6_renew 0 = .ok (.iload_n 1, 1) := by decide +kernel
theorem dX6_renew_1 : decode cX6_renew 1 = .ok (.iconst 1, 1) := by decide +kernel
theorem dX6_renew_2 : decode cX6_renew 2 = .ok (.if_icmp .lt 9, 3) := by decide +kernel
theorem dX6_renew_5 : decode cX6_renew 5 = .ok (.iload_n 1, 1) := by decide +kernel
theorem dX6_renew_6 : decode cX6_renew 6 = .ok (.bipush 30, 2) := by decide +kernel
theorem dX6_renew_8 : decode cX6_renew 8 = .ok (.if_icmp .le 5, 3) := by decide +kernel
theorem dX6_renew_11 : decode cX6_renew 11 = .ok (.iconst 0, 1) := by decide +kernel
theorem dX6_renew_12 : decode cX6_renew 12 = .ok (.ireturn, 1) := by decide +kernel
theorem dX6_renew_13 : decode cX6_renew 13 = .ok (.aload_n 0, 1) := by decide +kernel
theorem dX6_renew_14 : decode cX6_renew 14 = .ok (.iload_n 1, 1) := by decide +kernel
theorem dX6_renew_15 : decode cX6_renew 15 = .ok (.putfield 9, 3) := by decide +kernel
theorem dX6_renew_18 : decode cX6_renew 18 = .ok (.iconst 0, 1) := by decide +kernel
theorem dX6_renew_19 : decode cX6_renew 19 = .ok (.istore_n 2, 1) := by decide +kernel
theorem dX6_renew_20 : decode cX6_renew 20 = .ok (.iload_n 2, 1) := by decide +kernel
theorem dX6_renew_21 : decode cX6_renew 21 = .ok (.bipush 30, 2) := by decide +kernel
theorem dX6_renew_23 : decode cX6_renew 23 = .ok (.if_icmp .ge 23, 3) := by decide +kernel
theorem dX6_renew_26 : decode cX6_renew 26 = .ok (.aload_n 0, 1) := by decide +kernel
theorem dX6_renew_27 : decode cX6_renew 27 = .ok (.getfield 15, 3) := by decide +kernel
theorem dX6_renew_30 : decode cX6_renew 30 = .ok (.iload_n 2, 1) := by decide +kernel
theorem dX6_renew_31 : decode cX6_renew 31 = .ok (.iconst 0, 1) := by decide +kernel
theorem dX6_renew_32 : decode cX6_renew 32 = .ok (.iastore, 1) := by decide +kernel
theorem dX6_renew_33 : decode cX6_renew 33 = .ok (.aload_n 0, 1) := by decide +kernel
theorem dX6_renew_34 : decode cX6_renew 34 = .ok (.getfield 19, 3) := by decide +kernel
theorem dX6_renew_37 : decode cX6_renew 37 = .ok (.iload_n 2, 1) := by decide +kernel
theorem dX6_renew_38 : decode cX6_renew 38 = .ok (.iconst 0, 1) := by decide +kernel
theorem dX6_renew_39 : decode cX6_renew 39 = .ok (.iastore, 1) := by decide +kernel
theorem dX6_renew_40 : decode cX6_renew 40 = .ok (.iinc 2 1, 3) := by decide +kernel
theorem dX6_renew_43 : decode cX6_renew 43 = .ok (.goto (-23), 3) := by decide +kernel
theorem dX6_renew_46 : decode cX6_renew 46 = .ok (.aload_n 0, 1) := by decide +kernel
theorem dX6_renew_47 : decode cX6_renew 47 = .ok (.iconst 0, 1) := by decide +kernel
theorem dX6_renew_48 : decode cX6_renew 48 = .ok (.putfield 22, 3) := by decide +kernel
theorem dX6_renew_51 : decode cX6_renew 51 = .ok (.aload_n 0, 1) := by decide +kernel
theorem dX6_renew_52 : decode cX6_renew 52 = .ok (.iconst 0, 1) := by decide +kernel
theorem dX6_renew_53 : decode cX6_renew 53 = .ok (.putfield 28, 3) := by decide +kernel
theorem dX6_renew_56 : decode cX6_renew 56 = .ok (.aload_n 0, 1) := by decide +kernel
theorem dX6_renew_57 : decode cX6_renew 57 = .ok (.iconst 0, 1) := by decide +kernel
theorem dX6_renew_58 : decode cX6_renew 58 = .ok (.putfield 31, 3) := by decide +kernel
theorem dX6_renew_61 : decode cX6_renew 61 = .ok (.iconst 1, 1) := by decide +kernel
theorem dX6_renew_62 : decode cX6_renew 62 = .ok (.ireturn, 1) := by decide +kernel
theorem dX6_shape_0 : decode cX6_shape 0 = .ok (.iload_n 1, 1) := by decide +kernel
theorem dX6_shape_1 : decode cX6_shape 1 = .ok (.ifCond .lt 35, 3) := by decide +kernel
theorem dX6_shape_4 : decode cX6_shape 4 = .ok (.iload_n 1, 1) := by decide +kernel
theorem dX6_shape_5 : decode cX6_shape 5 = .ok (.aload_n 0, 1) := by decide +kernel
theorem dX6_shape_6 : decode cX6_shape 6 = .ok (.getfield 9, 3) := by decide +kernel
theorem dX6_shape_9 : decode cX6_shape 9 = .ok (.if_icmp .ge 27, 3) := by decide +kernel
theorem dX6_shape_12 : decode cX6_shape 12 = .ok (.iload_n 2, 1) := by decide +kernel
theorem dX6_shape_13 : decode cX6_shape 13 = .ok (.bipush (-5), 2) := by decide +kernel
theorem dX6_shape_15 : decode cX6_shape 15 = .ok (.if_icmp .lt 21, 3) := by decide +kernel
theorem dX6_shape_18 : decode cX6_shape 18 = .ok (.iload_n 2, 1) := by decide +kernel
theorem dX6_shape_19 : decode cX6_shape 19 = .ok (.bipush 10, 2) := by decide +kernel
theorem dX6_shape_21 : decode cX6_shape 21 = .ok (.if_icmp .gt 15, 3) := by decide +kernel
theorem dX6_shape_24 : decode cX6_shape 24 = .ok (.iload_n 3, 1) := by decide +kernel
theorem dX6_shape_25 : decode cX6_shape 25 = .ok (.bipush (-3), 2) := by decide +kernel
theorem dX6_shape_27 : decode cX6_shape 27 = .ok (.if_icmp .lt 9, 3) := by decide +kernel
theorem dX6_shape_30 : decode cX6_shape 30 = .ok (.iload_n 3, 1) := by decide +kernel
theorem dX6_shape_31 : decode cX6_shape 31 = .ok (.bipush 9, 2) := by decide +kernel
theorem dX6_shape_33 : decode cX6_shape 33 = .ok (.if_icmp .le 5, 3) := by decide +kernel
theorem dX6_shape_36 : decode cX6_shape 36 = .ok (.iconst 0, 1) := by decide +kernel
theorem dX6_shape_37 : decode cX6_shape 37 = .ok (.ireturn, 1) := by decide +kernel
theorem dX6_shape_38 : decode cX6_shape 38 = .ok (.aload_n 0, 1) := by decide +kernel
theorem dX6_shape_39 : decode cX6_shape 39 = .ok (.getfield 15, 3) := by decide +kernel
theorem dX6_shape_42 : decode cX6_shape 42 = .ok (.iload_n 1, 1) := by decide +kernel
theorem dX6_shape_43 : decode cX6_shape 43 = .ok (.iload_n 2, 1) := by decide +kernel
theorem dX6_shape_44 : decode cX6_shape 44 = .ok (.iastore, 1) := by decide +kernel
theorem dX6_shape_45 : decode cX6_shape 45 = .ok (.aload_n 0, 1) := by decide +kernel
theorem dX6_shape_46 : decode cX6_shape 46 = .ok (.getfield 19, 3) := by decide +kernel
theorem dX6_shape_49 : decode cX6_shape 49 = .ok (.iload_n 1, 1) := by decide +kernel
theorem dX6_shape_50 : decode cX6_shape 50 = .ok (.iload_n 3, 1) := by decide +kernel
theorem dX6_shape_51 : decode cX6_shape 51 = .ok (.iastore, 1) := by decide +kernel
theorem dX6_shape_52 : decode cX6_shape 52 = .ok (.iconst 1, 1) := by decide +kernel
theorem dX6_shape_53 : decode cX6_shape 53 = .ok (.ireturn, 1) := by decide +kernel
theorem dX7_howManyOut_0 : decode cX7_howManyOut 0 = .ok (.iconst 0, 1) := by decide +kernel
theorem dX7_howManyOut_1 : decode cX7_howManyOut 1 = .ok (.istore_n 2, 1) := by decide +kernel
theorem dX7_howManyOut_2 : decode cX7_howManyOut 2 = .ok (.iconst 0, 1) := by decide +kernel
theorem dX7_howManyOut_3 : decode cX7_howManyOut 3 = .ok (.istore_n 3, 1) := by decide +kernel
theorem dX7_howManyOut_4 : decode cX7_howManyOut 4 = .ok (.iload_n 3, 1) := by decide +kernel
theorem dX7_howManyOut_5 : decode cX7_howManyOut 5 = .ok (.iload_n 1, 1) := by decide +kernel
theorem dX7_howManyOut_6 : decode cX7_howManyOut 6 = .ok (.if_icmp .ge 27, 3) := by decide +kernel
theorem dX7_howManyOut_33 : decode cX7_howManyOut 33 = .ok (.iload_n 2, 1) := by decide +kernel
theorem dX7_howManyOut_34 : decode cX7_howManyOut 34 = .ok (.ireturn, 1) := by decide +kernel
theorem dX7_init_0 : decode cX7_init 0 = .ok (.aload_n 0, 1) := by decide +kernel
theorem dX7_init_1 : decode cX7_init 1 = .ok (.invokespecial 3, 3) := by decide +kernel
theorem dX7_init_4 : decode cX7_init 4 = .ok (.aload_n 0, 1) := by decide +kernel
theorem dX7_init_5 : decode cX7_init 5 = .ok (.iconst 0, 1) := by decide +kernel
theorem dX7_init_6 : decode cX7_init 6 = .ok (.putfield 9, 3) := by decide +kernel
theorem dX7_init_9 : decode cX7_init 9 = .ok (.aload_n 0, 1) := by decide +kernel
theorem dX7_init_10 : decode cX7_init 10 = .ok (.bipush 20, 2) := by decide +kernel
theorem dX7_init_12 : decode cX7_init 12 = .ok (.putfield 15, 3) := by decide +kernel
theorem dX7_init_15 : decode cX7_init 15 = .ok (.aload_n 0, 1) := by decide +kernel
theorem dX7_init_16 : decode cX7_init 16 = .ok (.bipush 20, 2) := by decide +kernel
theorem dX7_init_18 : decode cX7_init 18 = .ok (.newarray .int, 2) := by decide +kernel
theorem dX7_init_20 : decode cX7_init 20 = .ok (.putfield 18, 3) := by decide +kernel
theorem dX7_init_23 : decode cX7_init 23 = .ok (.aload_n 0, 1) := by decide +kernel
theorem dX7_init_24 : decode cX7_init 24 = .ok (.bipush 20, 2) := by decide +kernel
theorem dX7_init_26 : decode cX7_init 26 = .ok (.newarray .int, 2) := by decide +kernel
theorem dX7_init_28 : decode cX7_init 28 = .ok (.putfield 22, 3) := by decide +kernel
theorem dX7_init_31 : decode cX7_init 31 = .ok (.aload_n 0, 1) := by decide +kernel
theorem dX7_init_32 : decode cX7_init 32 = .ok (.bipush 20, 2) := by decide +kernel
theorem dX7_init_34 : decode cX7_init 34 = .ok (.newarray .boolean, 2) := by decide +kernel
theorem dX7_init_36 : decode cX7_init 36 = .ok (.putfield 25, 3) := by decide +kernel
theorem dX7_init_39 : decode cX7_init 39 = .ok (.return_, 1) := by decide +kernel
theorem dX7_lowestThreeOf_0 : decode cX7_lowestThreeOf 0 = .ok (.iconst 0, 1) := by decide +kernel
theorem dX7_lowestThreeOf_1 : decode cX7_lowestThreeOf 1 = .ok (.istore_n 3, 1) := by decide +kernel
theorem dX7_lowestThreeOf_2 : decode cX7_lowestThreeOf 2 = .ok (.iconst 0, 1) := by decide +kernel
theorem dX7_lowestThreeOf_3 : decode cX7_lowestThreeOf 3 = .ok (.istore 4, 2) := by decide +kernel
theorem dX7_lowestThreeOf_5 : decode cX7_lowestThreeOf 5 = .ok (.iconst 0, 1) := by decide +kernel
theorem dX7_lowestThreeOf_6 : decode cX7_lowestThreeOf 6 = .ok (.istore 5, 2) := by decide +kernel
theorem dX7_lowestThreeOf_8 : decode cX7_lowestThreeOf 8 = .ok (.iload 5, 2) := by decide +kernel
theorem dX7_lowestThreeOf_10 : decode cX7_lowestThreeOf 10 = .ok (.aload_n 2, 1) := by decide +kernel
theorem dX7_lowestThreeOf_11 : decode cX7_lowestThreeOf 11 = .ok (.getfield 54, 3) := by decide +kernel
theorem dX7_lowestThreeOf_14 : decode cX7_lowestThreeOf 14 = .ok (.if_icmp .ge 47, 3) := by decide +kernel
theorem dX7_lowestThreeOf_61 : decode cX7_lowestThreeOf 61 = .ok (.iload_n 3, 1) := by decide +kernel
theorem dX7_lowestThreeOf_62 : decode cX7_lowestThreeOf 62 = .ok (.iconst 3, 1) := by decide +kernel
theorem dX7_lowestThreeOf_63 : decode cX7_lowestThreeOf 63 = .ok (.if_icmp .ge 7, 3) := by decide +kernel
theorem dX7_lowestThreeOf_66 : decode cX7_lowestThreeOf 66 = .ok (.iconst (-1), 1) := by decide +kernel
theorem dX7_lowestThreeOf_67 : decode cX7_lowestThreeOf 67 = .ok (.goto 5, 3) := by decide +kernel
theorem dX7_lowestThreeOf_72 : decode cX7_lowestThreeOf 72 = .ok (.ireturn, 1) := by decide +kernel
theorem dX8_append_0 : decode cX8_append 0 = .ok (.iconst 0, 1) := by decide +kernel
theorem dX8_append_1 : decode cX8_append 1 = .ok (.istore_n 2, 1) := by decide +kernel
theorem dX8_append_2 : decode cX8_append 2 = .ok (.iload_n 2, 1) := by decide +kernel
theorem dX8_append_3 : decode cX8_append 3 = .ok (.iconst 4, 1) := by decide +kernel
theorem dX8_append_4 : decode cX8_append 4 = .ok (.if_icmp .ge 49, 3) := by decide +kernel
theorem dX8_append_7 : decode cX8_append 7 = .ok (.aload_n 0, 1) := by decide +kernel
theorem dX8_append_8 : decode cX8_append 8 = .ok (.iload_n 1, 1) := by decide +kernel
theorem dX8_append_9 : decode cX8_append 9 = .ok (.iload_n 2, 1) := by decide +kernel
theorem dX8_append_10 : decode cX8_append 10 = .ok (.invokevirtual 19, 3) := by decide +kernel
theorem dX8_append_13 : decode cX8_append 13 = .ok (.istore_n 3, 1) := by decide +kernel
theorem dX8_append_14 : decode cX8_append 14 = .ok (.iload_n 3, 1) := by decide +kernel
theorem dX8_append_15 : decode cX8_append 15 = .ok (.ifCond .eq 32, 3) := by decide +kernel
theorem dX8_append_18 : decode cX8_append 18 = .ok (.aload_n 0, 1) := by decide +kernel
theorem dX8_append_19 : decode cX8_append 19 = .ok (.getfield 9, 3) := by decide +kernel
theorem dX8_append_22 : decode cX8_append 22 = .ok (.bipush 100, 2) := by decide +kernel
theorem dX8_append_24 : decode cX8_append 24 = .ok (.if_icmp .ge 23, 3) := by decide +kernel
theorem dX8_append_27 : decode cX8_append 27 = .ok (.aload_n 0, 1) := by decide +kernel
theorem dX8_append_28 : decode cX8_append 28 = .ok (.getfield 15, 3) := by decide +kernel
theorem dX8_append_31 : decode cX8_append 31 = .ok (.aload_n 0, 1) := by decide +kernel
theorem dX8_append_32 : decode cX8_append 32 = .ok (.getfield 9, 3) := by decide +kernel
theorem dX8_append_35 : decode cX8_append 35 = .ok (.iload_n 3, 1) := by decide +kernel
theorem dX8_append_36 : decode cX8_append 36 = .ok (.iastore, 1) := by decide +kernel
theorem dX8_append_37 : decode cX8_append 37 = .ok (.aload_n 0, 1) := by decide +kernel
theorem dX8_append_38 : decode cX8_append 38 = .ok (.dup, 1) := by decide +kernel
theorem dX8_append_39 : decode cX8_append 39 = .ok (.getfield 9, 3) := by decide +kernel
theorem dX8_append_42 : decode cX8_append 42 = .ok (.iconst 1, 1) := by decide +kernel
theorem dX8_append_43 : decode cX8_append 43 = .ok (.iadd, 1) := by decide +kernel
theorem dX8_append_44 : decode cX8_append 44 = .ok (.putfield 9, 3) := by decide +kernel
theorem dX8_append_47 : decode cX8_append 47 = .ok (.iinc 2 1, 3) := by decide +kernel
theorem dX8_append_50 : decode cX8_append 50 = .ok (.goto (-48), 3) := by decide +kernel
theorem dX8_append_53 : decode cX8_append 53 = .ok (.return_, 1) := by decide +kernel
theorem dX8_byteOf_0 : decode cX8_byteOf 0 = .ok (.iload_n 1, 1) := by decide +kernel
theorem dX8_byteOf_1 : decode cX8_byteOf 1 = .ok (.bipush 8, 2) := by decide +kernel
theorem dX8_byteOf_3 : decode cX8_byteOf 3 = .ok (.iconst 3, 1) := by decide +kernel
theorem dX8_byteOf_4 : decode cX8_byteOf 4 = .ok (.iload_n 2, 1) := by decide +kernel
theorem dX8_byteOf_5 : decode cX8_byteOf 5 = .ok (.isub, 1) := by decide +kernel
theorem dX8_byteOf_6 : decode cX8_byteOf 6 = .ok (.imul, 1) := by decide +kernel
theorem dX8_byteOf_7 : decode cX8_byteOf 7 = .ok (.iushr, 1) := by decide +kernel
theorem dX8_byteOf_8 : decode cX8_byteOf 8 = .ok (.sipush 255, 3) := by decide +kernel
theorem dX8_byteOf_11 : decode cX8_byteOf 11 = .ok (.iand, 1) := by decide +kernel
theorem dX8_byteOf_12 : decode cX8_byteOf 12 = .ok (.ireturn, 1) := by decide +kernel
theorem dX8_bytesIn_0 : decode cX8_bytesIn 0 = .ok (.iconst 0, 1) := by decide +kernel
theorem dX8_bytesIn_1 : decode cX8_bytesIn 1 = .ok (.istore_n 2, 1) := by decide +kernel
theorem dX8_bytesIn_2 : decode cX8_bytesIn 2 = .ok (.iconst 0, 1) := by decide +kernel
theorem dX8_bytesIn_3 : decode cX8_bytesIn 3 = .ok (.istore_n 3, 1) := by decide +kernel
theorem dX8_bytesIn_4 : decode cX8_bytesIn 4 = .ok (.iload_n 3, 1) := by decide +kernel
theorem dX8_bytesIn_5 : decode cX8_bytesIn 5 = .ok (.iconst 4, 1) := by decide +kernel
theorem dX8_bytesIn_6 : decode cX8_bytesIn 6 = .ok (.if_icmp .ge 21, 3) := by decide +kernel
theorem dX8_bytesIn_9 : decode cX8_bytesIn 9 = .ok (.aload_n 0, 1) := by decide +kernel
theorem dX8_bytesIn_10 : decode cX8_bytesIn 10 = .ok (.iload_n 1, 1) := by decide +kernel
theorem dX8_bytesIn_11 : decode cX8_bytesIn 11 = .ok (.iload_n 3, 1) := by decide +kernel
theorem dX8_bytesIn_12 : decode cX8_bytesIn 12 = .ok (.invokevirtual 19, 3) := by decide +kernel
theorem dX8_bytesIn_15 : decode cX8_bytesIn 15 = .ok (.ifCond .eq 6, 3) := by decide +kernel
theorem dX8_bytesIn_18 : decode cX8_bytesIn 18 = .ok (.iinc 2 1, 3) := by decide +kernel
theorem dX8_bytesIn_21 : decode cX8_bytesIn 21 = .ok (.iinc 3 1, 3) := by decide +kernel
theorem dX8_bytesIn_24 : decode cX8_bytesIn 24 = .ok (.goto (-20), 3) := by decide +kernel
theorem dX8_bytesIn_27 : decode cX8_bytesIn 27 = .ok (.iload_n 2, 1) := by decide +kernel
theorem dX8_bytesIn_28 : decode cX8_bytesIn 28 = .ok (.ireturn, 1) := by decide +kernel
theorem dX8_init_0 : decode cX8_init 0 = .ok (.aload_n 0, 1) := by decide +kernel
theorem dX8_init_1 : decode cX8_init 1 = .ok (.invokespecial 3, 3) := by decide +kernel
theorem dX8_init_4 : decode cX8_init 4 = .ok (.aload_n 0, 1) := by decide +kernel
theorem dX8_init_5 : decode cX8_init 5 = .ok (.iconst 0, 1) := by decide +kernel
theorem dX8_init_6 : decode cX8_init 6 = .ok (.putfield 9, 3) := by decide +kernel
theorem dX8_init_9 : decode cX8_init 9 = .ok (.aload_n 0, 1) := by decide +kernel
theorem dX8_init_10 : decode cX8_init 10 = .ok (.bipush 100, 2) := by decide +kernel
theorem dX8_init_12 : decode cX8_init 12 = .ok (.newarray .int, 2) := by decide +kernel
theorem dX8_init_14 : decode cX8_init 14 = .ok (.putfield 15, 3) := by decide +kernel
theorem dX8_init_17 : decode cX8_init 17 = .ok (.return_, 1) := by decide +kernel
theorem dX9_at_0 : decode cX9_at 0 = .ok (.aload_n 0, 1) := by decide +kernel
theorem dX9_at_1 : decode cX9_at 1 = .ok (.getfield 72, 3) := by decide +kernel
theorem dX9_at_4 : decode cX9_at 4 = .ok (.ifCond .eq 8, 3) := by decide +kernel
theorem dX9_at_12 : decode cX9_at 12 = .ok (.iconst (-1), 1) := by decide +kernel
theorem dX9_at_13 : decode cX9_at 13 = .ok (.ireturn, 1) := by decide +kernel
theorem dX9_attempt_0 : decode cX9_attempt 0 = .ok (.aload_n 0, 1) := by decide +kernel
theorem dX9_attempt_1 : decode cX9_attempt 1 = .ok (.iload_n 1, 1) := by decide +kernel
theorem dX9_attempt_2 : decode cX9_attempt 2 = .ok (.iload_n 2, 1) := by decide +kernel
theorem dX9_attempt_3 : decode cX9_attempt 3 = .ok (.invokevirtual 207, 3) := by decide +kernel
theorem dX9_attempt_6 : decode cX9_attempt 6 = .ok (.ifCond .eq 20, 3) := by decide +kernel
theorem dX9_attempt_26 : decode cX9_attempt 26 = .ok (.iconst (-1), 1) := by decide +kernel
theorem dX9_attempt_27 : decode cX9_attempt 27 = .ok (.ireturn, 1) := by decide +kernel
theorem dX9_best_0 : decode cX9_best 0 = .ok (.aload_n 0, 1) := by decide +kernel
theorem dX9_best_1 : decode cX9_best 1 = .ok (.iload_n 1, 1) := by decide +kernel
theorem dX9_best_2 : decode cX9_best 2 = .ok (.iload_n 2, 1) := by decide +kernel
theorem dX9_best_3 : decode cX9_best 3 = .ok (.invokevirtual 207, 3) := by decide +kernel
theorem dX9_best_6 : decode cX9_best 6 = .ok (.ifCond .eq 10, 3) := by decide +kernel
theorem dX9_best_16 : decode cX9_best 16 = .ok (.iconst (-1), 1) := by decide +kernel
theorem dX9_best_17 : decode cX9_best 17 = .ok (.ireturn, 1) := by decide +kernel
theorem dX9_canTry_0 : decode cX9_canTry 0 = .ok (.iload_n 1, 1) := by decide +kernel
theorem dX9_canTry_1 : decode cX9_canTry 1 = .ok (.invokestatic 116, 3) := by decide +kernel
theorem dX9_canTry_4 : decode cX9_canTry 4 = .ok (.ifCond .eq 28, 3) := by decide +kernel
theorem dX9_canTry_7 : decode cX9_canTry 7 = .ok (.aload_n 0, 1) := by decide +kernel
theorem dX9_canTry_8 : decode cX9_canTry 8 = .ok (.getfield 19, 3) := by decide +kernel
theorem dX9_canTry_11 : decode cX9_canTry 11 = .ok (.iload_n 2, 1) := by decide +kernel
theorem dX9_canTry_12 : decode cX9_canTry 12 = .ok (.invokevirtual 224, 3) := by decide +kernel
theorem dX9_canTry_15 : decode cX9_canTry 15 = .ok (.ifCond .eq 17, 3) := by decide +kernel
theorem dX9_canTry_18 : decode cX9_canTry 18 = .ok (.aload_n 0, 1) := by decide +kernel
theorem dX9_canTry_19 : decode cX9_canTry 19 = .ok (.getfield 12, 3) := by decide +kernel
theorem dX9_canTry_22 : decode cX9_canTry 22 = .ok (.getfield 122, 3) := by decide +kernel
theorem dX9_canTry_25 : decode cX9_canTry 25 = .ok (.ifCond .le 7, 3) := by decide +kernel
theorem dX9_canTry_32 : decode cX9_canTry 32 = .ok (.iconst 0, 1) := by decide +kernel
theorem dX9_canTry_33 : decode cX9_canTry 33 = .ok (.ireturn, 1) := by decide +kernel
theorem dX9_choice_0 : decode cX9_choice 0 = .ok (.aload_n 0, 1) := by decide +kernel
theorem dX9_choice_1 : decode cX9_choice 1 = .ok (.getfield 68, 3) := by decide +kernel
theorem dX9_choice_4 : decode cX9_choice 4 = .ok (.iconst 4, 1) := by decide +kernel
theorem dX9_choice_5 : decode cX9_choice 5 = .ok (.if_icmp .ge 22, 3) := by decide +kernel
theorem dX9_choice_8 : decode cX9_choice 8 = .ok (.aload_n 0, 1) := by decide +kernel
theorem dX9_choice_9 : decode cX9_choice 9 = .ok (.getfield 40, 3) := by decide +kernel
theorem dX9_choice_12 : decode cX9_choice 12 = .ok (.aload_n 0, 1) := by decide +kernel
theorem dX9_choice_13 : decode cX9_choice 13 = .ok (.getfield 26, 3) := by decide +kernel
theorem dX9_choice_16 : decode cX9_choice 16 = .ok (.aload_n 0, 1) := by decide +kernel
theorem dX9_choice_17 : decode cX9_choice 17 = .ok (.getfield 33, 3) := by decide +kernel
theorem dX9_choice_20 : decode cX9_choice 20 = .ok (.invokevirtual 112, 3) := by decide +kernel
theorem dX9_choice_23 : decode cX9_choice 23 = .ok (.iconst (-1), 1) := by decide +kernel
theorem dX9_choice_24 : decode cX9_choice 24 = .ok (.if_icmp .eq 5, 3) := by decide +kernel
theorem dX9_choice_29 : decode cX9_choice 29 = .ok (.aload_n 0, 1) := by decide +kernel
theorem dX9_choice_30 : decode cX9_choice 30 = .ok (.getfield 33, 3) := by decide +kernel
theorem dX9_choice_33 : decode cX9_choice 33 = .ok (.iconst 5, 1) := by decide +kernel
theorem dX9_choice_34 : decode cX9_choice 34 = .ok (.aload_n 0, 1) := by decide +kernel
theorem dX9_choice_35 : decode cX9_choice 35 = .ok (.getfield 68, 3) := by decide +kernel
theorem dX9_choice_38 : decode cX9_choice 38 = .ok (.iadd, 1) := by decide +kernel
theorem dX9_choice_39 : decode cX9_choice 39 = .ok (.invokevirtual 119, 3) := by decide +kernel
theorem dX9_choice_42 : decode cX9_choice 42 = .ok (.aload_n 0, 1) := by decide +kernel
theorem dX9_choice_43 : decode cX9_choice 43 = .ok (.getfield 26, 3) := by decide +kernel
theorem dX9_choice_46 : decode cX9_choice 46 = .ok (.iconst 0, 1) := by decide +kernel
theorem dX9_choice_47 : decode cX9_choice 47 = .ok (.putfield 105, 3) := by decide +kernel
theorem dX9_choice_50 : decode cX9_choice 50 = .ok (.aload_n 0, 1) := by decide +kernel
theorem dX9_choice_51 : decode cX9_choice 51 = .ok (.dup, 1) := by decide +kernel
theorem dX9_choice_52 : decode cX9_choice 52 = .ok (.getfield 68, 3) := by decide +kernel
theorem dX9_choice_55 : decode cX9_choice 55 = .ok (.iconst 1, 1) := by decide +kernel
theorem dX9_choice_56 : decode cX9_choice 56 = .ok (.iadd, 1) := by decide +kernel
theorem dX9_choice_57 : decode cX9_choice 57 = .ok (.putfield 68, 3) := by decide +kernel
theorem dX9_choice_60 : decode cX9_choice 60 = .ok (.aload_n 0, 1) := by decide +kernel
theorem dX9_choice_61 : decode cX9_choice 61 = .ok (.getfield 68, 3) := by decide +kernel
theorem dX9_choice_64 : decode cX9_choice 64 = .ok (.iconst 1, 1) := by decide +kernel
theorem dX9_choice_65 : decode cX9_choice 65 = .ok (.isub, 1) := by decide +kernel
theorem dX9_choice_66 : decode cX9_choice 66 = .ok (.ireturn, 1) := by decide +kernel
theorem dX9_count_0 : decode cX9_count 0 = .ok (.iload_n 1, 1) := by decide +kernel
theorem dX9_count_1 : decode cX9_count 1 = .ok (.tableswitch 126 0 7 #[47, 55, 63, 71, 79, 84, 92, 107], 47) := by decide +kernel
theorem dX9_count_48 : decode cX9_count 48 = .ok (.aload_n 0, 1) := by decide +kernel
theorem dX9_count_49 : decode cX9_count 49 = .ok (.getfield 12, 3) := by decide +kernel
theorem dX9_count_52 : decode cX9_count 52 = .ok (.getfield 122, 3) := by decide +kernel
theorem dX9_count_55 : decode cX9_count 55 = .ok (.ireturn, 1) := by decide +kernel
theorem dX9_count_56 : decode cX9_count 56 = .ok (.aload_n 0, 1) := by decide +kernel
theorem dX9_count_57 : decode cX9_count 57 = .ok (.getfield 19, 3) := by decide +kernel
theorem dX9_count_60 : decode cX9_count 60 = .ok (.getfield 217, 3) := by decide +kernel
theorem dX9_count_63 : decode cX9_count 63 = .ok (.ireturn, 1) := by decide +kernel
theorem dX9_count_64 : decode cX9_count 64 = .ok (.aload_n 0, 1) := by decide +kernel
theorem dX9_count_65 : decode cX9_count 65 = .ok (.getfield 19, 3) := by decide +kernel
theorem dX9_count_68 : decode cX9_count 68 = .ok (.getfield 220, 3) := by decide +kernel
theorem dX9_count_71 : decode cX9_count 71 = .ok (.ireturn, 1) := by decide +kernel
theorem dX9_count_72 : decode cX9_count 72 = .ok (.aload_n 0, 1) := by decide +kernel
theorem dX9_count_73 : decode cX9_count 73 = .ok (.getfield 64, 3) := by decide +kernel
theorem dX9_count_76 : decode cX9_count 76 = .ok (.getfield 79, 3) := by decide +kernel
theorem dX9_count_79 : decode cX9_count 79 = .ok (.ireturn, 1) := by decide +kernel
theorem dX9_count_80 : decode cX9_count 80 = .ok (.aload_n 0, 1) := by decide +kernel
theorem dX9_count_81 : decode cX9_count 81 = .ok (.getfield 68, 3) := by decide +kernel
theorem dX9_count_84 : decode cX9_count 84 = .ok (.ireturn, 1) := by decide +kernel
theorem dX9_count_85 : decode cX9_count 85 = .ok (.aload_n 0, 1) := by decide +kernel
theorem dX9_count_86 : decode cX9_count 86 = .ok (.getfield 26, 3) := by decide +kernel
theorem dX9_count_89 : decode cX9_count 89 = .ok (.getfield 105, 3) := by decide +kernel
theorem dX9_count_92 : decode cX9_count 92 = .ok (.ireturn, 1) := by decide +kernel
theorem dX9_count_93 : decode cX9_count 93 = .ok (.aload_n 0, 1) := by decide +kernel
theorem dX9_count_94 : decode cX9_count 94 = .ok (.getfield 64, 3) := by decide +kernel
theorem dX9_count_97 : decode cX9_count 97 = .ok (.aload_n 0, 1) := by decide +kernel
theorem dX9_count_98 : decode cX9_count 98 = .ok (.getfield 12, 3) := by decide +kernel
theorem dX9_count_101 : decode cX9_count 101 = .ok (.getfield 122, 3) := by decide +kernel
theorem dX9_count_104 : decode cX9_count 104 = .ok (.invokevirtual 221, 3) := by decide +kernel
theorem dX9_count_107 : decode cX9_count 107 = .ok (.ireturn, 1) := by decide +kernel
theorem dX9_count_108 : decode cX9_count 108 = .ok (.aload_n 0, 1) := by decide +kernel
theorem dX9_count_109 : decode cX9_count 109 = .ok (.getfield 72, 3) := by decide +kernel
theorem dX9_count_112 : decode cX9_count 112 = .ok (.ifCond .eq 13, 3) := by decide +kernel
theorem dX9_count_125 : decode cX9_count 125 = .ok (.iconst (-1), 1) := by decide +kernel
theorem dX9_count_126 : decode cX9_count 126 = .ok (.ireturn, 1) := by decide +kernel
theorem dX9_count_127 : decode cX9_count 127 = .ok (.iconst (-1), 1) := by decide +kernel
theorem dX9_count_128 : decode cX9_count 128 = .ok (.ireturn, 1) := by decide +kernel
theorem dX9_crash_0 : decode cX9_crash 0 = .ok (.aload_n 0, 1) := by decide +kernel
theorem dX9_crash_1 : decode cX9_crash 1 = .ok (.getfield 19, 3) := by decide +kernel
theorem dX9_crash_4 : decode cX9_crash 4 = .ok (.iload_n 1, 1) := by decide +kernel
theorem dX9_crash_5 : decode cX9_crash 5 = .ok (.iload_n 2, 1) := by decide +kernel
theorem dX9_crash_6 : decode cX9_crash 6 = .ok (.invokevirtual 98, 3) := by decide +kernel
theorem dX9_crash_9 : decode cX9_crash 9 = .ok (.ireturn, 1) := by decide +kernel
theorem dX9_end_0 : decode cX9_end 0 = .ok (.iload_n 1, 1) := by decide +kernel
theorem dX9_end_1 : decode cX9_end 1 = .ok (.ifCond .lt 14, 3) := by decide +kernel
theorem dX9_end_4 : decode cX9_end 4 = .ok (.iload_n 1, 1) := by decide +kernel
theorem dX9_end_5 : decode cX9_end 5 = .ok (.aload_n 0, 1) := by decide +kernel
theorem dX9_end_6 : decode cX9_end 6 = .ok (.getfield 26, 3) := by decide +kernel
theorem dX9_end_9 : decode cX9_end 9 = .ok (.getfield 105, 3) := by decide +kernel
theorem dX9_end_12 : decode cX9_end 12 = .ok (.if_icmp .le 5, 3) := by decide +kernel
theorem dX9_end_15 : decode cX9_end 15 = .ok (.iconst 0, 1) := by decide +kernel
theorem dX9_end_16 : decode cX9_end 16 = .ok (.ireturn, 1) := by decide +kernel
theorem dX9_end_17 : decode cX9_end 17 = .ok (.aload_n 0, 1) := by decide +kernel
theorem dX9_end_18 : decode cX9_end 18 = .ok (.getfield 26, 3) := by decide +kernel
theorem dX9_end_21 : decode cX9_end 21 = .ok (.iload_n 1, 1) := by decide +kernel
theorem dX9_end_22 : decode cX9_end 22 = .ok (.putfield 105, 3) := by decide +kernel
theorem dX9_end_25 : decode cX9_end 25 = .ok (.iconst 1, 1) := by decide +kernel
theorem dX9_end_26 : decode cX9_end 26 = .ok (.ireturn, 1) := by decide +kernel
theorem dX9_fault_0 : decode cX9_fault 0 = .ok (.aload_n 0, 1) := by decide +kernel
theorem dX9_fault_1 : decode cX9_fault 1 = .ok (.getfield 40, 3) := by decide +kernel
theorem dX9_fault_4 : decode cX9_fault 4 = .ok (.aload_n 0, 1) := by decide +kernel
theorem dX9_fault_5 : decode cX9_fault 5 = .ok (.getfield 26, 3) := by decide +kernel
theorem dX9_fault_8 : decode cX9_fault 8 = .ok (.aload_n 0, 1) := by decide +kernel
theorem dX9_fault_9 : decode cX9_fault 9 = .ok (.getfield 33, 3) := by decide +kernel
theorem dX9_fault_12 : decode cX9_fault 12 = .ok (.invokevirtual 112, 3) := by decide +kernel
theorem dX9_fault_15 : decode cX9_fault 15 = .ok (.ireturn, 1) := by decide +kernel
theorem dX9_feed_0 : decode cX9_feed 0 = .ok (.aload_n 0, 1) := by decide +kernel
theorem dX9_feed_1 : decode cX9_feed 1 = .ok (.getfield 26, 3) := by decide +kernel
theorem dX9_feed_4 : decode cX9_feed 4 = .ok (.iload_n 1, 1) := by decide +kernel
theorem dX9_feed_5 : decode cX9_feed 5 = .ok (.invokevirtual 102, 3) := by decide +kernel
theorem dX9_feed_8 : decode cX9_feed 8 = .ok (.aload_n 0, 1) := by decide +kernel
theorem dX9_feed_9 : decode cX9_feed 9 = .ok (.getfield 26, 3) := by decide +kernel
theorem dX9_feed_12 : decode cX9_feed 12 = .ok (.iload_n 2, 1) := by decide +kernel
theorem dX9_feed_13 : decode cX9_feed 13 = .ok (.invokevirtual 102, 3) := by decide +kernel
theorem dX9_feed_16 : decode cX9_feed 16 = .ok (.iadd, 1) := by decide +kernel
theorem dX9_feed_17 : decode cX9_feed 17 = .ok (.aload_n 0, 1) := by decide +kernel
theorem dX9_feed_18 : decode cX9_feed 18 = .ok (.getfield 26, 3) := by decide +kernel
theorem dX9_feed_21 : decode cX9_feed 21 = .ok (.iload_n 3, 1) := by decide +kernel
theorem dX9_feed_22 : decode cX9_feed 22 = .ok (.invokevirtual 102, 3) := by decide +kernel
theorem dX9_feed_25 : decode cX9_feed 25 = .ok (.iadd, 1) := by decide +kernel
theorem dX9_feed_26 : decode cX9_feed 26 = .ok (.aload_n 0, 1) := by decide +kernel
theorem dX9_feed_27 : decode cX9_feed 27 = .ok (.getfield 26, 3) := by decide +kernel
theorem dX9_feed_30 : decode cX9_feed 30 = .ok (.iload 4, 2) := by decide +kernel
theorem dX9_feed_32 : decode cX9_feed 32 = .ok (.invokevirtual 102, 3) := by decide +kernel
theorem dX9_feed_35 : decode cX9_feed 35 = .ok (.iadd, 1) := by decide +kernel
theorem dX9_feed_36 : decode cX9_feed 36 = .ok (.aload_n 0, 1) := by decide +kernel
theorem dX9_feed_37 : decode cX9_feed 37 = .ok (.getfield 26, 3) := by decide +kernel
theorem dX9_feed_40 : decode cX9_feed 40 = .ok (.iload 5, 2) := by decide +kernel
theorem dX9_feed_42 : decode cX9_feed 42 = .ok (.invokevirtual 102, 3) := by decide +kernel
theorem dX9_feed_45 : decode cX9_feed 45 = .ok (.iadd, 1) := by decide +kernel
theorem dX9_feed_46 : decode cX9_feed 46 = .ok (.istore 6, 2) := by decide +kernel
theorem dX9_feed_48 : decode cX9_feed 48 = .ok (.aload_n 0, 1) := by decide +kernel
theorem dX9_feed_49 : decode cX9_feed 49 = .ok (.getfield 26, 3) := by decide +kernel
theorem dX9_feed_52 : decode cX9_feed 52 = .ok (.getfield 105, 3) := by decide +kernel
theorem dX9_feed_55 : decode cX9_feed 55 = .ok (.iload 6, 2) := by decide +kernel
theorem dX9_feed_57 : decode cX9_feed 57 = .ok (.iadd, 1) := by decide +kernel
theorem dX9_feed_58 : decode cX9_feed 58 = .ok (.bipush 100, 2) := by decide +kernel
theorem dX9_feed_60 : decode cX9_feed 60 = .ok (.if_icmp .le 5, 3) := by decide +kernel
theorem dX9_feed_65 : decode cX9_feed 65 = .ok (.aload_n 0, 1) := by decide +kernel
theorem dX9_feed_66 : decode cX9_feed 66 = .ok (.getfield 26, 3) := by decide +kernel
theorem dX9_feed_69 : decode cX9_feed 69 = .ok (.iload_n 1, 1) := by decide +kernel
theorem dX9_feed_70 : decode cX9_feed 70 = .ok (.invokevirtual 108, 3) := by decide +kernel
theorem dX9_feed_73 : decode cX9_feed 73 = .ok (.aload_n 0, 1) := by decide +kernel
theorem dX9_feed_74 : decode cX9_feed 74 = .ok (.getfield 26, 3) := by decide +kernel
theorem dX9_feed_77 : decode cX9_feed 77 = .ok (.iload_n 2, 1) := by decide +kernel
theorem dX9_feed_78 : decode cX9_feed 78 = .ok (.invokevirtual 108, 3) := by decide +kernel
theorem dX9_feed_81 : decode cX9_feed 81 = .ok (.aload_n 0, 1) := by decide +kernel
theorem dX9_feed_82 : decode cX9_feed 82 = .ok (.getfield 26, 3) := by decide +kernel
theorem dX9_feed_85 : decode cX9_feed 85 = .ok (.iload_n 3, 1) := by decide +kernel
theorem dX9_feed_86 : decode cX9_feed 86 = .ok (.invokevirtual 108, 3) := by decide +kernel
theorem dX9_feed_89 : decode cX9_feed 89 = .ok (.aload_n 0, 1) := by decide +kernel
theorem dX9_feed_90 : decode cX9_feed 90 = .ok (.getfield 26, 3) := by decide +kernel
theorem dX9_feed_93 : decode cX9_feed 93 = .ok (.iload 4, 2) := by decide +kernel
theorem dX9_feed_95 : decode cX9_feed 95 = .ok (.invokevirtual 108, 3) := by decide +kernel
theorem dX9_feed_98 : decode cX9_feed 98 = .ok (.aload_n 0, 1) := by decide +kernel
theorem dX9_feed_99 : decode cX9_feed 99 = .ok (.getfield 26, 3) := by decide +kernel
theorem dX9_feed_102 : decode cX9_feed 102 = .ok (.iload 5, 2) := by decide +kernel
theorem dX9_feed_104 : decode cX9_feed 104 = .ok (.invokevirtual 108, 3) := by decide +kernel
theorem dX9_feed_107 : decode cX9_feed 107 = .ok (.aload_n 0, 1) := by decide +kernel
theorem dX9_feed_108 : decode cX9_feed 108 = .ok (.getfield 26, 3) := by decide +kernel
theorem dX9_feed_111 : decode cX9_feed 111 = .ok (.getfield 105, 3) := by decide +kernel
theorem dX9_feed_114 : decode cX9_feed 114 = .ok (.ireturn, 1) := by decide +kernel
theorem dX9_groups_0 : decode cX9_groups 0 = .ok (.aload_n 0, 1) := by decide +kernel
theorem dX9_groups_1 : decode cX9_groups 1 = .ok (.getfield 72, 3) := by decide +kernel
theorem dX9_groups_4 : decode cX9_groups 4 = .ok (.ifCond .eq 11, 3) := by decide +kernel
theorem dX9_groups_15 : decode cX9_groups 15 = .ok (.iconst (-1), 1) := by decide +kernel
theorem dX9_groups_16 : decode cX9_groups 16 = .ok (.ireturn, 1) := by decide +kernel
theorem dX9_init_0 : decode cX9_init 0 = .ok (.aload_n 0, 1) := by decide +kernel
theorem dX9_init_1 : decode cX9_init 1 = .ok (.invokespecial 3, 3) := by decide +kernel
theorem dX9_init_4 : decode cX9_init 4 = .ok (.aload_n 0, 1) := by decide +kernel
theorem dX9_init_5 : decode cX9_init 5 = .ok (.new 9, 3) := by decide +kernel
theorem dX9_init_8 : decode cX9_init 8 = .ok (.dup, 1) := by decide +kernel
theorem dX9_init_9 : decode cX9_init 9 = .ok (.invokespecial 11, 3) := by decide +kernel
theorem dX9_init_12 : decode cX9_init 12 = .ok (.putfield 12, 3) := by decide +kernel
theorem dX9_init_15 : decode cX9_init 15 = .ok (.aload_n 0, 1) := by decide +kernel
theorem dX9_init_16 : decode cX9_init 16 = .ok (.new 16, 3) := by decide +kernel
theorem dX9_init_19 : decode cX9_init 19 = .ok (.dup, 1) := by decide +kernel
theorem dX9_init_20 : decode cX9_init 20 = .ok (.invokespecial 18, 3) := by decide +kernel
theorem dX9_init_23 : decode cX9_init 23 = .ok (.putfield 19, 3) := by decide +kernel
theorem dX9_init_26 : decode cX9_init 26 = .ok (.aload_n 0, 1) := by decide +kernel
theorem dX9_init_27 : decode cX9_init 27 = .ok (.new 23, 3) := by decide +kernel
theorem dX9_init_30 : decode cX9_init 30 = .ok (.dup, 1) := by decide +kernel
theorem dX9_init_31 : decode cX9_init 31 = .ok (.invokespecial 25, 3) := by decide +kernel
theorem dX9_init_34 : decode cX9_init 34 = .ok (.putfield 26, 3) := by decide +kernel
theorem dX9_init_37 : decode cX9_init 37 = .ok (.aload_n 0, 1) := by decide +kernel
theorem dX9_init_38 : decode cX9_init 38 = .ok (.new 30, 3) := by decide +kernel
theorem dX9_init_41 : decode cX9_init 41 = .ok (.dup, 1) := by decide +kernel
theorem dX9_init_42 : decode cX9_init 42 = .ok (.invokespecial 32, 3) := by decide +kernel
theorem dX9_init_45 : decode cX9_init 45 = .ok (.putfield 33, 3) := by decide +kernel
theorem dX9_init_48 : decode cX9_init 48 = .ok (.aload_n 0, 1) := by decide +kernel
theorem dX9_init_49 : decode cX9_init 49 = .ok (.new 37, 3) := by decide +kernel
theorem dX9_init_52 : decode cX9_init 52 = .ok (.dup, 1) := by decide +kernel
theorem dX9_init_53 : decode cX9_init 53 = .ok (.invokespecial 39, 3) := by decide +kernel
theorem dX9_init_56 : decode cX9_init 56 = .ok (.putfield 40, 3) := by decide +kernel
theorem dX9_init_59 : decode cX9_init 59 = .ok (.aload_n 0, 1) := by decide +kernel
theorem dX9_init_60 : decode cX9_init 60 = .ok (.new 44, 3) := by decide +kernel
theorem dX9_init_63 : decode cX9_init 63 = .ok (.dup, 1) := by decide +kernel
theorem dX9_init_64 : decode cX9_init 64 = .ok (.invokespecial 46, 3) := by decide +kernel
theorem dX9_init_67 : decode cX9_init 67 = .ok (.putfield 47, 3) := by decide +kernel
theorem dX9_init_70 : decode cX9_init 70 = .ok (.aload_n 0, 1) := by decide +kernel
theorem dX9_init_71 : decode cX9_init 71 = .ok (.new 51, 3) := by decide +kernel
theorem dX9_init_74 : decode cX9_init 74 = .ok (.dup, 1) := by decide +kernel
theorem dX9_init_75 : decode cX9_init 75 = .ok (.invokespecial 53, 3) := by decide +kernel
theorem dX9_init_78 : decode cX9_init 78 = .ok (.putfield 54, 3) := by decide +kernel
theorem dX9_init_81 : decode cX9_init 81 = .ok (.aload_n 0, 1) := by decide +kernel
theorem dX9_init_82 : decode cX9_init 82 = .ok (.new 44, 3) := by decide +kernel
theorem dX9_init_85 : decode cX9_init 85 = .ok (.dup, 1) := by decide +kernel
theorem dX9_init_86 : decode cX9_init 86 = .ok (.invokespecial 46, 3) := by decide +kernel
theorem dX9_init_89 : decode cX9_init 89 = .ok (.putfield 58, 3) := by decide +kernel
theorem dX9_init_92 : decode cX9_init 92 = .ok (.aload_n 0, 1) := by decide +kernel
theorem dX9_init_93 : decode cX9_init 93 = .ok (.new 61, 3) := by decide +kernel
theorem dX9_init_96 : decode cX9_init 96 = .ok (.dup, 1) := by decide +kernel
theorem dX9_init_97 : decode cX9_init 97 = .ok (.invokespecial 63, 3) := by decide +kernel
theorem dX9_init_100 : decode cX9_init 100 = .ok (.putfield 64, 3) := by decide +kernel
theorem dX9_init_103 : decode cX9_init 103 = .ok (.aload_n 0, 1) := by decide +kernel
theorem dX9_init_104 : decode cX9_init 104 = .ok (.iconst 0, 1) := by decide +kernel
theorem dX9_init_105 : decode cX9_init 105 = .ok (.putfield 68, 3) := by decide +kernel
theorem dX9_init_108 : decode cX9_init 108 = .ok (.aload_n 0, 1) := by decide +kernel
theorem dX9_init_109 : decode cX9_init 109 = .ok (.iconst 0, 1) := by decide +kernel
theorem dX9_init_110 : decode cX9_init 110 = .ok (.putfield 72, 3) := by decide +kernel
theorem dX9_init_113 : decode cX9_init 113 = .ok (.aload_n 0, 1) := by decide +kernel
theorem dX9_init_114 : decode cX9_init 114 = .ok (.iconst 0, 1) := by decide +kernel
theorem dX9_init_115 : decode cX9_init 115 = .ok (.putfield 76, 3) := by decide +kernel
theorem dX9_init_118 : decode cX9_init 118 = .ok (.return_, 1) := by decide +kernel
theorem dX9_isTeam_0 : decode cX9_isTeam 0 = .ok (.iload_n 0, 1) := by decide +kernel
theorem dX9_isTeam_1 : decode cX9_isTeam 1 = .ok (.ifCond .lt 12, 3) := by decide +kernel
theorem dX9_isTeam_4 : decode cX9_isTeam 4 = .ok (.iload_n 0, 1) := by decide +kernel
theorem dX9_isTeam_5 : decode cX9_isTeam 5 = .ok (.iconst 5, 1) := by decide +kernel
theorem dX9_isTeam_6 : decode cX9_isTeam 6 = .ok (.if_icmp .ge 7, 3) := by decide +kernel
theorem dX9_isTeam_9 : decode cX9_isTeam 9 = .ok (.iconst 1, 1) := by decide +kernel
theorem dX9_isTeam_10 : decode cX9_isTeam 10 = .ok (.goto 4, 3) := by decide +kernel
theorem dX9_isTeam_13 : decode cX9_isTeam 13 = .ok (.iconst 0, 1) := by decide +kernel
theorem dX9_isTeam_14 : decode cX9_isTeam 14 = .ok (.ireturn, 1) := by decide +kernel
theorem dX9_keep_0 : decode cX9_keep 0 = .ok (.aload_n 0, 1) := by decide +kernel
theorem dX9_keep_1 : decode cX9_keep 1 = .ok (.getfield 72, 3) := by decide +kernel
theorem dX9_keep_4 : decode cX9_keep 4 = .ok (.ifCond .eq 22, 3) := by decide +kernel
theorem dX9_keep_26 : decode cX9_keep 26 = .ok (.iconst (-1), 1) := by decide +kernel
theorem dX9_keep_27 : decode cX9_keep 27 = .ok (.ireturn, 1) := by decide +kernel
theorem dX9_limit_0 : decode cX9_limit 0 = .ok (.iload_n 1, 1) := by decide +kernel
theorem dX9_limit_1 : decode cX9_limit 1 = .ok (.iconst 1, 1) := by decide +kernel
theorem dX9_limit_2 : decode cX9_limit 2 = .ok (.if_icmp .lt 9, 3) := by decide +kernel
theorem dX9_limit_5 : decode cX9_limit 5 = .ok (.iload_n 1, 1) := by decide +kernel
theorem dX9_limit_6 : decode cX9_limit 6 = .ok (.bipush 100, 2) := by decide +kernel
theorem dX9_limit_8 : decode cX9_limit 8 = .ok (.if_icmp .le 5, 3) := by decide +kernel
theorem dX9_limit_11 : decode cX9_limit 11 = .ok (.iconst 0, 1) := by decide +kernel
theorem dX9_limit_12 : decode cX9_limit 12 = .ok (.ireturn, 1) := by decide +kernel
theorem dX9_limit_13 : decode cX9_limit 13 = .ok (.aload_n 0, 1) := by decide +kernel
theorem dX9_limit_14 : decode cX9_limit 14 = .ok (.getfield 64, 3) := by decide +kernel
theorem dX9_limit_17 : decode cX9_limit 17 = .ok (.iload_n 1, 1) := by decide +kernel
theorem dX9_limit_18 : decode cX9_limit 18 = .ok (.putfield 191, 3) := by decide +kernel
theorem dX9_limit_21 : decode cX9_limit 21 = .ok (.iconst 1, 1) := by decide +kernel
theorem dX9_limit_22 : decode cX9_limit 22 = .ok (.ireturn, 1) := by decide +kernel
theorem dX9_metres_0 : decode cX9_metres 0 = .ok (.aload_n 0, 1) := by decide +kernel
theorem dX9_metres_1 : decode cX9_metres 1 = .ok (.iload_n 1, 1) := by decide +kernel
theorem dX9_metres_2 : decode cX9_metres 2 = .ok (.invokevirtual 145, 3) := by decide +kernel
theorem dX9_metres_5 : decode cX9_metres 5 = .ok (.ifCond .eq 11, 3) := by decide +kernel
theorem dX9_metres_16 : decode cX9_metres 16 = .ok (.iconst (-1), 1) := by decide +kernel
theorem dX9_metres_17 : decode cX9_metres 17 = .ok (.ireturn, 1) := by decide +kernel
theorem dX9_orders_0 : decode cX9_orders 0 = .ok (.iload_n 1, 1) := by decide +kernel
theorem dX9_orders_1 : decode cX9_orders 1 = .ok (.invokestatic 116, 3) := by decide +kernel
theorem dX9_orders_4 : decode cX9_orders 4 = .ok (.ifCond .eq 22, 3) := by decide +kernel
theorem dX9_orders_7 : decode cX9_orders 7 = .ok (.aload_n 0, 1) := by decide +kernel
theorem dX9_orders_8 : decode cX9_orders 8 = .ok (.getfield 40, 3) := by decide +kernel
theorem dX9_orders_11 : decode cX9_orders 11 = .ok (.aload_n 0, 1) := by decide +kernel
theorem dX9_orders_12 : decode cX9_orders 12 = .ok (.getfield 26, 3) := by decide +kernel
theorem dX9_orders_15 : decode cX9_orders 15 = .ok (.aload_n 0, 1) := by decide +kernel
theorem dX9_orders_16 : decode cX9_orders 16 = .ok (.getfield 33, 3) := by decide +kernel
theorem dX9_orders_19 : decode cX9_orders 19 = .ok (.invokevirtual 112, 3) := by decide +kernel
theorem dX9_orders_22 : decode cX9_orders 22 = .ok (.iconst (-1), 1) := by decide +kernel
theorem dX9_orders_23 : decode cX9_orders 23 = .ok (.if_icmp .eq 5, 3) := by decide +kernel
theorem dX9_orders_26 : decode cX9_orders 26 = .ok (.iconst 0, 1) := by decide +kernel
theorem dX9_orders_27 : decode cX9_orders 27 = .ok (.ireturn, 1) := by decide +kernel
theorem dX9_orders_28 : decode cX9_orders 28 = .ok (.aload_n 0, 1) := by decide +kernel
theorem dX9_orders_29 : decode cX9_orders 29 = .ok (.getfield 33, 3) := by decide +kernel
theorem dX9_orders_32 : decode cX9_orders 32 = .ok (.iload_n 1, 1) := by decide +kernel
theorem dX9_orders_33 : decode cX9_orders 33 = .ok (.invokevirtual 119, 3) := by decide +kernel
theorem dX9_orders_36 : decode cX9_orders 36 = .ok (.aload_n 0, 1) := by decide +kernel
theorem dX9_orders_37 : decode cX9_orders 37 = .ok (.getfield 26, 3) := by decide +kernel
theorem dX9_orders_40 : decode cX9_orders 40 = .ok (.iconst 0, 1) := by decide +kernel
theorem dX9_orders_41 : decode cX9_orders 41 = .ok (.putfield 105, 3) := by decide +kernel
theorem dX9_orders_44 : decode cX9_orders 44 = .ok (.iconst 1, 1) := by decide +kernel
theorem dX9_orders_45 : decode cX9_orders 45 = .ok (.ireturn, 1) := by decide +kernel
theorem dX9_passed_0 : decode cX9_passed 0 = .ok (.aload_n 0, 1) := by decide +kernel
theorem dX9_passed_1 : decode cX9_passed 1 = .ok (.getfield 72, 3) := by decide +kernel
theorem dX9_passed_4 : decode cX9_passed 4 = .ok (.ifCond .eq 28, 3) := by decide +kernel
theorem dX9_passed_32 : decode cX9_passed 32 = .ok (.iconst (-1), 1) := by decide +kernel
theorem dX9_passed_33 : decode cX9_passed 33 = .ok (.ireturn, 1) := by decide +kernel
theorem dX9_prime_0 : decode cX9_prime 0 = .ok (.aload_n 0, 1) := by decide +kernel
theorem dX9_prime_1 : decode cX9_prime 1 = .ok (.getfield 19, 3) := by decide +kernel
theorem dX9_prime_4 : decode cX9_prime 4 = .ok (.iload_n 1, 1) := by decide +kernel
theorem dX9_prime_5 : decode cX9_prime 5 = .ok (.invokevirtual 94, 3) := by decide +kernel
theorem dX9_prime_8 : decode cX9_prime 8 = .ok (.ireturn, 1) := by decide +kernel
theorem dX9_race_0 : decode cX9_race 0 = .ok (.aload_n 0, 1) := by decide +kernel
theorem dX9_race_1 : decode cX9_race 1 = .ok (.getfield 12, 3) := by decide +kernel
theorem dX9_race_4 : decode cX9_race 4 = .ok (.getfield 122, 3) := by decide +kernel
theorem dX9_race_7 : decode cX9_race 7 = .ok (.ifCond .ne 5, 3) := by decide +kernel
theorem dX9_race_10 : decode cX9_race 10 = .ok (.iconst (-1), 1) := by decide +kernel
theorem dX9_race_11 : decode cX9_race 11 = .ok (.ireturn, 1) := by decide +kernel
theorem dX9_rider_0 : decode cX9_rider 0 = .ok (.aload_n 0, 1) := by decide +kernel
theorem dX9_rider_1 : decode cX9_rider 1 = .ok (.getfield 64, 3) := by decide +kernel
theorem dX9_rider_4 : decode cX9_rider 4 = .ok (.getfield 79, 3) := by decide +kernel
theorem dX9_rider_7 : decode cX9_rider 7 = .ok (.ifCond .le 5, 3) := by decide +kernel
theorem dX9_rider_12 : decode cX9_rider 12 = .ok (.aload_n 0, 1) := by decide +kernel
theorem dX9_rider_13 : decode cX9_rider 13 = .ok (.getfield 12, 3) := by decide +kernel
theorem dX9_rider_16 : decode cX9_rider 16 = .ok (.iload_n 1, 1) := by decide +kernel
theorem dX9_rider_17 : decode cX9_rider 17 = .ok (.iload_n 2, 1) := by decide +kernel
theorem dX9_rider_18 : decode cX9_rider 18 = .ok (.iload_n 3, 1) := by decide +kernel
theorem dX9_rider_19 : decode cX9_rider 19 = .ok (.iload 4, 2) := by decide +kernel
theorem dX9_rider_21 : decode cX9_rider 21 = .ok (.invokevirtual 82, 3) := by decide +kernel
theorem dX9_rider_24 : decode cX9_rider 24 = .ok (.ireturn, 1) := by decide +kernel
theorem dX9_rise_0 : decode cX9_rise 0 = .ok (.aload_n 0, 1) := by decide +kernel
theorem dX9_rise_1 : decode cX9_rise 1 = .ok (.getfield 19, 3) := by decide +kernel
theorem dX9_rise_4 : decode cX9_rise 4 = .ok (.iload_n 1, 1) := by decide +kernel
theorem dX9_rise_5 : decode cX9_rise 5 = .ok (.iload_n 2, 1) := by decide +kernel
theorem dX9_rise_6 : decode cX9_rise 6 = .ok (.iload_n 3, 1) := by decide +kernel
theorem dX9_rise_7 : decode cX9_rise 7 = .ok (.invokevirtual 90, 3) := by decide +kernel
theorem dX9_rise_10 : decode cX9_rise 10 = .ok (.ireturn, 1) := by decide +kernel
theorem dX9_road_0 : decode cX9_road 0 = .ok (.aload_n 0, 1) := by decide +kernel
theorem dX9_road_1 : decode cX9_road 1 = .ok (.getfield 19, 3) := by decide +kernel
theorem dX9_road_4 : decode cX9_road 4 = .ok (.iload_n 1, 1) := by decide +kernel
theorem dX9_road_5 : decode cX9_road 5 = .ok (.invokevirtual 86, 3) := by decide +kernel
theorem dX9_road_8 : decode cX9_road 8 = .ok (.ireturn, 1) := by decide +kernel
theorem dX9_rodeLatest_0 : decode cX9_rodeLatest 0 = .ok (.aload_n 0, 1) := by decide +kernel
theorem dX9_rodeLatest_1 : decode cX9_rodeLatest 1 = .ok (.getfield 72, 3) := by decide +kernel
theorem dX9_rodeLatest_4 : decode cX9_rodeLatest 4 = .ok (.ifCond .eq 29, 3) := by decide +kernel
theorem dX9_rodeLatest_33 : decode cX9_rodeLatest 33 = .ok (.iconst 0, 1) := by decide +kernel
theorem dX9_rodeLatest_34 : decode cX9_rodeLatest 34 = .ok (.ireturn, 1) := by decide +kernel
theorem dX9_sum_0 : decode cX9_sum 0 = .ok (.iload_n 1, 1) := by decide +kernel
theorem dX9_sum_1 : decode cX9_sum 1 = .ok (.ifCond .lt 14, 3) := by decide +kernel
theorem dX9_sum_4 : decode cX9_sum 4 = .ok (.iload_n 1, 1) := by decide +kernel
theorem dX9_sum_5 : decode cX9_sum 5 = .ok (.aload_n 0, 1) := by decide +kernel
theorem dX9_sum_6 : decode cX9_sum 6 = .ok (.getfield 12, 3) := by decide +kernel
theorem dX9_sum_9 : decode cX9_sum 9 = .ok (.getfield 122, 3) := by decide +kernel
theorem dX9_sum_12 : decode cX9_sum 12 = .ok (.if_icmp .lt 5, 3) := by decide +kernel
theorem dX9_sum_15 : decode cX9_sum 15 = .ok (.iconst (-1), 1) := by decide +kernel
theorem dX9_sum_16 : decode cX9_sum 16 = .ok (.ireturn, 1) := by decide +kernel
theorem dX9_team_0 : decode cX9_team 0 = .ok (.iload_n 1, 1) := by decide +kernel
theorem dX9_team_1 : decode cX9_team 1 = .ok (.invokestatic 116, 3) := by decide +kernel
theorem dX9_team_4 : decode cX9_team 4 = .ok (.ifCond .ne 5, 3) := by decide +kernel
theorem dX9_team_7 : decode cX9_team 7 = .ok (.iconst (-1), 1) := by decide +kernel
theorem dX9_team_8 : decode cX9_team 8 = .ok (.ireturn, 1) := by decide +kernel
theorem dX9_team_9 : decode cX9_team 9 = .ok (.aload_n 0, 1) := by decide +kernel
theorem dX9_team_10 : decode cX9_team 10 = .ok (.getfield 64, 3) := by decide +kernel
theorem dX9_team_13 : decode cX9_team 13 = .ok (.iload_n 1, 1) := by decide +kernel
theorem dX9_team_14 : decode cX9_team 14 = .ok (.aload_n 0, 1) := by decide +kernel
theorem dX9_team_15 : decode cX9_team 15 = .ok (.getfield 12, 3) := by decide +kernel
theorem dX9_team_18 : decode cX9_team 18 = .ok (.invokevirtual 203, 3) := by decide +kernel
theorem dX9_team_21 : decode cX9_team 21 = .ok (.ireturn, 1) := by decide +kernel
theorem dX9_told_0 : decode cX9_told 0 = .ok (.aload_n 0, 1) := by decide +kernel
theorem dX9_told_1 : decode cX9_told 1 = .ok (.iload_n 1, 1) := by decide +kernel
theorem dX9_told_2 : decode cX9_told 2 = .ok (.invokevirtual 145, 3) := by decide +kernel
theorem dX9_told_5 : decode cX9_told 5 = .ok (.ifCond .ne 5, 3) := by decide +kernel
theorem dX9_told_8 : decode cX9_told 8 = .ok (.iconst (-1), 1) := by decide +kernel
theorem dX9_told_9 : decode cX9_told 9 = .ok (.ireturn, 1) := by decide +kernel
