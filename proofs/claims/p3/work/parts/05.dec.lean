theorem dX0_clear_0 : decode cX0_clear 0 = .ok (.aload_n 0, 1) := by decide +kernel
theorem dX0_clear_1 : decode cX0_clear 1 = .ok (.iconst 0, 1) := by decide +kernel
theorem dX0_clear_2 : decode cX0_clear 2 = .ok (.putfield 9, 3) := by decide +kernel
theorem dX0_clear_5 : decode cX0_clear 5 = .ok (.aload_n 0, 1) := by decide +kernel
theorem dX0_clear_6 : decode cX0_clear 6 = .ok (.iconst 0, 1) := by decide +kernel
theorem dX0_clear_7 : decode cX0_clear 7 = .ok (.putfield 15, 3) := by decide +kernel
theorem dX0_clear_10 : decode cX0_clear 10 = .ok (.return_, 1) := by decide +kernel
theorem dX0_close_0 : decode cX0_close 0 = .ok (.iload_n 1, 1) := by decide +kernel
theorem dX0_close_1 : decode cX0_close 1 = .ok (.istore_n 3, 1) := by decide +kernel
theorem dX0_close_2 : decode cX0_close 2 = .ok (.iload_n 3, 1) := by decide +kernel
theorem dX0_close_3 : decode cX0_close 3 = .ok (.iload_n 2, 1) := by decide +kernel
theorem dX0_close_4 : decode cX0_close 4 = .ok (.if_icmp .gt 25, 3) := by decide +kernel
theorem dX0_close_7 : decode cX0_close 7 = .ok (.aload_n 0, 1) := by decide +kernel
theorem dX0_close_8 : decode cX0_close 8 = .ok (.getfield 25, 3) := by decide +kernel
theorem dX0_close_11 : decode cX0_close 11 = .ok (.aload_n 0, 1) := by decide +kernel
theorem dX0_close_12 : decode cX0_close 12 = .ok (.getfield 18, 3) := by decide +kernel
theorem dX0_close_15 : decode cX0_close 15 = .ok (.iload_n 3, 1) := by decide +kernel
theorem dX0_close_16 : decode cX0_close 16 = .ok (.iaload, 1) := by decide +kernel
theorem dX0_close_17 : decode cX0_close 17 = .ok (.iload_n 2, 1) := by decide +kernel
theorem dX0_close_18 : decode cX0_close 18 = .ok (.iload_n 1, 1) := by decide +kernel
theorem dX0_close_19 : decode cX0_close 19 = .ok (.isub, 1) := by decide +kernel
theorem dX0_close_20 : decode cX0_close 20 = .ok (.iconst 1, 1) := by decide +kernel
theorem dX0_close_21 : decode cX0_close 21 = .ok (.iadd, 1) := by decide +kernel
theorem dX0_close_22 : decode cX0_close 22 = .ok (.iastore, 1) := by decide +kernel
theorem dX0_close_23 : decode cX0_close 23 = .ok (.iinc 3 1, 3) := by decide +kernel
theorem dX0_close_26 : decode cX0_close 26 = .ok (.goto (-24), 3) := by decide +kernel
theorem dX0_close_29 : decode cX0_close 29 = .ok (.aload_n 0, 1) := by decide +kernel
theorem dX0_close_30 : decode cX0_close 30 = .ok (.dup, 1) := by decide +kernel
theorem dX0_close_31 : decode cX0_close 31 = .ok (.getfield 15, 3) := by decide +kernel
theorem dX0_close_34 : decode cX0_close 34 = .ok (.iconst 1, 1) := by decide +kernel
theorem dX0_close_35 : decode cX0_close 35 = .ok (.iadd, 1) := by decide +kernel
theorem dX0_close_36 : decode cX0_close 36 = .ok (.putfield 15, 3) := by decide +kernel
theorem dX0_close_39 : decode cX0_close 39 = .ok (.return_, 1) := by decide +kernel
theorem dX0_part_0 : decode cX0_part 0 = .ok (.iconst 0, 1) := by decide +kernel
theorem dX0_part_1 : decode cX0_part 1 = .ok (.istore_n 2, 1) := by decide +kernel
theorem dX0_part_2 : decode cX0_part 2 = .ok (.iconst 0, 1) := by decide +kernel
theorem dX0_part_3 : decode cX0_part 3 = .ok (.istore_n 3, 1) := by decide +kernel
theorem dX0_part_4 : decode cX0_part 4 = .ok (.iload_n 3, 1) := by decide +kernel
theorem dX0_part_5 : decode cX0_part 5 = .ok (.aload_n 0, 1) := by decide +kernel
theorem dX0_part_6 : decode cX0_part 6 = .ok (.getfield 9, 3) := by decide +kernel
theorem dX0_part_9 : decode cX0_part 9 = .ok (.if_icmp .ge 81, 3) := by decide +kernel
theorem dX0_part_12 : decode cX0_part 12 = .ok (.aload_n 0, 1) := by decide +kernel
theorem dX0_part_13 : decode cX0_part 13 = .ok (.getfield 22, 3) := by decide +kernel
theorem dX0_part_16 : decode cX0_part 16 = .ok (.aload_n 0, 1) := by decide +kernel
theorem dX0_part_17 : decode cX0_part 17 = .ok (.getfield 18, 3) := by decide +kernel
theorem dX0_part_20 : decode cX0_part 20 = .ok (.iload_n 3, 1) := by decide +kernel
theorem dX0_part_21 : decode cX0_part 21 = .ok (.iaload, 1) := by decide +kernel
theorem dX0_part_22 : decode cX0_part 22 = .ok (.iload_n 3, 1) := by decide +kernel
theorem dX0_part_23 : decode cX0_part 23 = .ok (.iload_n 2, 1) := by decide +kernel
theorem dX0_part_24 : decode cX0_part 24 = .ok (.isub, 1) := by decide +kernel
theorem dX0_part_25 : decode cX0_part 25 = .ok (.iconst 1, 1) := by decide +kernel
theorem dX0_part_26 : decode cX0_part 26 = .ok (.iadd, 1) := by decide +kernel
theorem dX0_part_27 : decode cX0_part 27 = .ok (.iastore, 1) := by decide +kernel
theorem dX0_part_28 : decode cX0_part 28 = .ok (.iload_n 3, 1) := by decide +kernel
theorem dX0_part_29 : decode cX0_part 29 = .ok (.iconst 1, 1) := by decide +kernel
theorem dX0_part_30 : decode cX0_part 30 = .ok (.iadd, 1) := by decide +kernel
theorem dX0_part_31 : decode cX0_part 31 = .ok (.aload_n 0, 1) := by decide +kernel
theorem dX0_part_32 : decode cX0_part 32 = .ok (.getfield 9, 3) := by decide +kernel
theorem dX0_part_35 : decode cX0_part 35 = .ok (.if_icmp .ge 27, 3) := by decide +kernel
theorem dX0_part_38 : decode cX0_part 38 = .ok (.aload_n 1, 1) := by decide +kernel
theorem dX0_part_39 : decode cX0_part 39 = .ok (.aload_n 0, 1) := by decide +kernel
theorem dX0_part_40 : decode cX0_part 40 = .ok (.getfield 18, 3) := by decide +kernel
theorem dX0_part_43 : decode cX0_part 43 = .ok (.iload_n 3, 1) := by decide +kernel
theorem dX0_part_44 : decode cX0_part 44 = .ok (.iaload, 1) := by decide +kernel
theorem dX0_part_45 : decode cX0_part 45 = .ok (.iaload, 1) := by decide +kernel
theorem dX0_part_46 : decode cX0_part 46 = .ok (.aload_n 1, 1) := by decide +kernel
theorem dX0_part_47 : decode cX0_part 47 = .ok (.aload_n 0, 1) := by decide +kernel
theorem dX0_part_48 : decode cX0_part 48 = .ok (.getfield 18, 3) := by decide +kernel
theorem dX0_part_51 : decode cX0_part 51 = .ok (.iload_n 3, 1) := by decide +kernel
theorem dX0_part_52 : decode cX0_part 52 = .ok (.iconst 1, 1) := by decide +kernel
theorem dX0_part_53 : decode cX0_part 53 = .ok (.iadd, 1) := by decide +kernel
theorem dX0_part_54 : decode cX0_part 54 = .ok (.iaload, 1) := by decide +kernel
theorem dX0_part_55 : decode cX0_part 55 = .ok (.iaload, 1) := by decide +kernel
theorem dX0_part_56 : decode cX0_part 56 = .ok (.isub, 1) := by decide +kernel
theorem dX0_part_57 : decode cX0_part 57 = .ok (.bipush 20, 2) := by decide +kernel
theorem dX0_part_59 : decode cX0_part 59 = .ok (.if_icmp .le 7, 3) := by decide +kernel
theorem dX0_part_62 : decode cX0_part 62 = .ok (.iconst 1, 1) := by decide +kernel
theorem dX0_part_63 : decode cX0_part 63 = .ok (.goto 4, 3) := by decide +kernel
theorem dX0_part_66 : decode cX0_part 66 = .ok (.iconst 0, 1) := by decide +kernel
theorem dX0_part_67 : decode cX0_part 67 = .ok (.istore 4, 2) := by decide +kernel
theorem dX0_part_69 : decode cX0_part 69 = .ok (.iload 4, 2) := by decide +kernel
theorem dX0_part_71 : decode cX0_part 71 = .ok (.ifCond .eq 13, 3) := by decide +kernel
theorem dX0_part_74 : decode cX0_part 74 = .ok (.aload_n 0, 1) := by decide +kernel
theorem dX0_part_75 : decode cX0_part 75 = .ok (.iload_n 2, 1) := by decide +kernel
theorem dX0_part_76 : decode cX0_part 76 = .ok (.iload_n 3, 1) := by decide +kernel
theorem dX0_part_77 : decode cX0_part 77 = .ok (.invokevirtual 28, 3) := by decide +kernel
theorem dX0_part_80 : decode cX0_part 80 = .ok (.iload_n 3, 1) := by decide +kernel
theorem dX0_part_81 : decode cX0_part 81 = .ok (.iconst 1, 1) := by decide +kernel
theorem dX0_part_82 : decode cX0_part 82 = .ok (.iadd, 1) := by decide +kernel
theorem dX0_part_83 : decode cX0_part 83 = .ok (.istore_n 2, 1) := by decide +kernel
theorem dX0_part_84 : decode cX0_part 84 = .ok (.iinc 3 1, 3) := by decide +kernel
theorem dX0_part_87 : decode cX0_part 87 = .ok (.goto (-83), 3) := by decide +kernel
theorem dX0_part_90 : decode cX0_part 90 = .ok (.return_, 1) := by decide +kernel
theorem dX0_stand_0 : decode cX0_stand 0 = .ok (.aload_n 0, 1) := by decide +kernel
theorem dX0_stand_1 : decode cX0_stand 1 = .ok (.getfield 9, 3) := by decide +kernel
theorem dX0_stand_4 : decode cX0_stand 4 = .ok (.bipush 20, 2) := by decide +kernel
theorem dX0_stand_6 : decode cX0_stand 6 = .ok (.if_icmp .lt 4, 3) := by decide +kernel
theorem dX0_stand_9 : decode cX0_stand 9 = .ok (.return_, 1) := by decide +kernel
theorem dX0_stand_10 : decode cX0_stand 10 = .ok (.aload_n 0, 1) := by decide +kernel
theorem dX0_stand_11 : decode cX0_stand 11 = .ok (.getfield 9, 3) := by decide +kernel
theorem dX0_stand_14 : decode cX0_stand 14 = .ok (.istore_n 3, 1) := by decide +kernel
theorem dX0_stand_15 : decode cX0_stand 15 = .ok (.iload_n 3, 1) := by decide +kernel
theorem dX0_stand_16 : decode cX0_stand 16 = .ok (.ifCond .le 39, 3) := by decide +kernel
theorem dX0_stand_19 : decode cX0_stand 19 = .ok (.aload_n 2, 1) := by decide +kernel
theorem dX0_stand_20 : decode cX0_stand 20 = .ok (.aload_n 0, 1) := by decide +kernel
theorem dX0_stand_21 : decode cX0_stand 21 = .ok (.getfield 18, 3) := by decide +kernel
theorem dX0_stand_24 : decode cX0_stand 24 = .ok (.iload_n 3, 1) := by decide +kernel
theorem dX0_stand_25 : decode cX0_stand 25 = .ok (.iconst 1, 1) := by decide +kernel
theorem dX0_stand_26 : decode cX0_stand 26 = .ok (.isub, 1) := by decide +kernel
theorem dX0_stand_27 : decode cX0_stand 27 = .ok (.iaload, 1) := by decide +kernel
theorem dX0_stand_28 : decode cX0_stand 28 = .ok (.iaload, 1) := by decide +kernel
theorem dX0_stand_29 : decode cX0_stand 29 = .ok (.aload_n 2, 1) := by decide +kernel
theorem dX0_stand_30 : decode cX0_stand 30 = .ok (.iload_n 1, 1) := by decide +kernel
theorem dX0_stand_31 : decode cX0_stand 31 = .ok (.iaload, 1) := by decide +kernel
theorem dX0_stand_32 : decode cX0_stand 32 = .ok (.if_icmp .ge 23, 3) := by decide +kernel
theorem dX0_stand_35 : decode cX0_stand 35 = .ok (.aload_n 0, 1) := by decide +kernel
theorem dX0_stand_36 : decode cX0_stand 36 = .ok (.getfield 18, 3) := by decide +kernel
theorem dX0_stand_39 : decode cX0_stand 39 = .ok (.iload_n 3, 1) := by decide +kernel
theorem dX0_stand_40 : decode cX0_stand 40 = .ok (.aload_n 0, 1) := by decide +kernel
theorem dX0_stand_41 : decode cX0_stand 41 = .ok (.getfield 18, 3) := by decide +kernel
theorem dX0_stand_44 : decode cX0_stand 44 = .ok (.iload_n 3, 1) := by decide +kernel
theorem dX0_stand_45 : decode cX0_stand 45 = .ok (.iconst 1, 1) := by decide +kernel
theorem dX0_stand_46 : decode cX0_stand 46 = .ok (.isub, 1) := by decide +kernel
theorem dX0_stand_47 : decode cX0_stand 47 = .ok (.iaload, 1) := by decide +kernel
theorem dX0_stand_48 : decode cX0_stand 48 = .ok (.iastore, 1) := by decide +kernel
theorem dX0_stand_49 : decode cX0_stand 49 = .ok (.iinc 3 (-1), 3) := by decide +kernel
theorem dX0_stand_52 : decode cX0_stand 52 = .ok (.goto (-37), 3) := by decide +kernel
theorem dX0_stand_55 : decode cX0_stand 55 = .ok (.aload_n 0, 1) := by decide +kernel
theorem dX0_stand_56 : decode cX0_stand 56 = .ok (.getfield 18, 3) := by decide +kernel
theorem dX0_stand_59 : decode cX0_stand 59 = .ok (.iload_n 3, 1) := by decide +kernel
theorem dX0_stand_60 : decode cX0_stand 60 = .ok (.iload_n 1, 1) := by decide +kernel
theorem dX0_stand_61 : decode cX0_stand 61 = .ok (.iastore, 1) := by decide +kernel
theorem dX0_stand_62 : decode cX0_stand 62 = .ok (.aload_n 0, 1) := by decide +kernel
theorem dX0_stand_63 : decode cX0_stand 63 = .ok (.dup, 1) := by decide +kernel
theorem dX0_stand_64 : decode cX0_stand 64 = .ok (.getfield 9, 3) := by decide +kernel
theorem dX0_stand_67 : decode cX0_stand 67 = .ok (.iconst 1, 1) := by decide +kernel
theorem dX0_stand_68 : decode cX0_stand 68 = .ok (.iadd, 1) := by decide +kernel
theorem dX0_stand_69 : decode cX0_stand 69 = .ok (.putfield 9, 3) := by decide +kernel
theorem dX0_stand_72 : decode cX0_stand 72 = .ok (.return_, 1) := by decide +kernel
theorem dX1_clearDraft_0 : decode cX1_clearDraft 0 = .ok (.aload_n 0, 1) := by decide +kernel
theorem dX1_clearDraft_1 : decode cX1_clearDraft 1 = .ok (.getfield 9, 3) := by decide +kernel
theorem dX1_clearDraft_4 : decode cX1_clearDraft 4 = .ok (.bipush 9, 2) := by decide +kernel
theorem dX1_clearDraft_6 : decode cX1_clearDraft 6 = .ok (.iconst 0, 1) := by decide +kernel
theorem dX1_clearDraft_7 : decode cX1_clearDraft 7 = .ok (.iastore, 1) := by decide +kernel
theorem dX1_clearDraft_8 : decode cX1_clearDraft 8 = .ok (.return_, 1) := by decide +kernel
theorem dX1_draftClause_0 : decode cX1_draftClause 0 = .ok (.aload_n 0, 1) := by decide +kernel
theorem dX1_draftClause_1 : decode cX1_draftClause 1 = .ok (.getfield 9, 3) := by decide +kernel
theorem dX1_draftClause_4 : decode cX1_draftClause 4 = .ok (.bipush 9, 2) := by decide +kernel
theorem dX1_draftClause_6 : decode cX1_draftClause 6 = .ok (.iaload, 1) := by decide +kernel
theorem dX1_draftClause_7 : decode cX1_draftClause 7 = .ok (.bipush 16, 2) := by decide +kernel
theorem dX1_draftClause_9 : decode cX1_draftClause 9 = .ok (.if_icmp .lt 4, 3) := by decide +kernel
theorem dX1_draftClause_12 : decode cX1_draftClause 12 = .ok (.return_, 1) := by decide +kernel
theorem dX1_draftClause_13 : decode cX1_draftClause 13 = .ok (.sipush 144, 3) := by decide +kernel
theorem dX1_draftClause_16 : decode cX1_draftClause 16 = .ok (.aload_n 0, 1) := by decide +kernel
theorem dX1_draftClause_17 : decode cX1_draftClause 17 = .ok (.getfield 9, 3) := by decide +kernel
theorem dX1_draftClause_20 : decode cX1_draftClause 20 = .ok (.bipush 9, 2) := by decide +kernel
theorem dX1_draftClause_22 : decode cX1_draftClause 22 = .ok (.iaload, 1) := by decide +kernel
theorem dX1_draftClause_23 : decode cX1_draftClause 23 = .ok (.iadd, 1) := by decide +kernel
theorem dX1_draftClause_24 : decode cX1_draftClause 24 = .ok (.istore 5, 2) := by decide +kernel
theorem dX1_draftClause_26 : decode cX1_draftClause 26 = .ok (.aload_n 0, 1) := by decide +kernel
theorem dX1_draftClause_27 : decode cX1_draftClause 27 = .ok (.getfield 15, 3) := by decide +kernel
theorem dX1_draftClause_30 : decode cX1_draftClause 30 = .ok (.iload 5, 2) := by decide +kernel
theorem dX1_draftClause_32 : decode cX1_draftClause 32 = .ok (.iload_n 1, 1) := by decide +kernel
theorem dX1_draftClause_33 : decode cX1_draftClause 33 = .ok (.iastore, 1) := by decide +kernel
theorem dX1_draftClause_34 : decode cX1_draftClause 34 = .ok (.aload_n 0, 1) := by decide +kernel
theorem dX1_draftClause_35 : decode cX1_draftClause 35 = .ok (.getfield 18, 3) := by decide +kernel
theorem dX1_draftClause_38 : decode cX1_draftClause 38 = .ok (.iload 5, 2) := by decide +kernel
theorem dX1_draftClause_40 : decode cX1_draftClause 40 = .ok (.iload_n 2, 1) := by decide +kernel
theorem dX1_draftClause_41 : decode cX1_draftClause 41 = .ok (.iastore, 1) := by decide +kernel
theorem dX1_draftClause_42 : decode cX1_draftClause 42 = .ok (.aload_n 0, 1) := by decide +kernel
theorem dX1_draftClause_43 : decode cX1_draftClause 43 = .ok (.getfield 21, 3) := by decide +kernel
theorem dX1_draftClause_46 : decode cX1_draftClause 46 = .ok (.iload 5, 2) := by decide +kernel
theorem dX1_draftClause_48 : decode cX1_draftClause 48 = .ok (.iload_n 3, 1) := by decide +kernel
theorem dX1_draftClause_49 : decode cX1_draftClause 49 = .ok (.iastore, 1) := by decide +kernel
theorem dX1_draftClause_50 : decode cX1_draftClause 50 = .ok (.aload_n 0, 1) := by decide +kernel
theorem dX1_draftClause_51 : decode cX1_draftClause 51 = .ok (.getfield 24, 3) := by decide +kernel
theorem dX1_draftClause_54 : decode cX1_draftClause 54 = .ok (.iload 5, 2) := by decide +kernel
theorem dX1_draftClause_56 : decode cX1_draftClause 56 = .ok (.iload 4, 2) := by decide +kernel
theorem dX1_draftClause_58 : decode cX1_draftClause 58 = .ok (.iastore, 1) := by decide +kernel
theorem dX1_draftClause_59 : decode cX1_draftClause 59 = .ok (.aload_n 0, 1) := by decide +kernel
theorem dX1_draftClause_60 : decode cX1_draftClause 60 = .ok (.getfield 9, 3) := by decide +kernel
theorem dX1_draftClause_63 : decode cX1_draftClause 63 = .ok (.bipush 9, 2) := by decide +kernel
theorem dX1_draftClause_65 : decode cX1_draftClause 65 = .ok (.dup2, 1) := by decide +kernel
theorem dX1_draftClause_66 : decode cX1_draftClause 66 = .ok (.iaload, 1) := by decide +kernel
theorem dX1_draftClause_67 : decode cX1_draftClause 67 = .ok (.iconst 1, 1) := by decide +kernel
theorem dX1_draftClause_68 : decode cX1_draftClause 68 = .ok (.iadd, 1) := by decide +kernel
theorem dX1_draftClause_69 : decode cX1_draftClause 69 = .ok (.iastore, 1) := by decide +kernel
theorem dX1_draftClause_70 : decode cX1_draftClause 70 = .ok (.return_, 1) := by decide +kernel
theorem dX1_holds_0 : decode cX1_holds 0 = .ok (.aload_n 0, 1) := by decide +kernel
theorem dX1_holds_1 : decode cX1_holds 1 = .ok (.getfield 18, 3) := by decide +kernel
theorem dX1_holds_4 : decode cX1_holds 4 = .ok (.iload_n 1, 1) := by decide +kernel
theorem dX1_holds_5 : decode cX1_holds 5 = .ok (.iaload, 1) := by decide +kernel
theorem dX1_holds_6 : decode cX1_holds 6 = .ok (.lookupswitch 58 #[(60, 26), (62, 42)], 26) := by decide +kernel
theorem dX1_holds_32 : decode cX1_holds 32 = .ok (.iload_n 2, 1) := by decide +kernel
theorem dX1_holds_33 : decode cX1_holds 33 = .ok (.aload_n 0, 1) := by decide +kernel
theorem dX1_holds_34 : decode cX1_holds 34 = .ok (.getfield 21, 3) := by decide +kernel
theorem dX1_holds_37 : decode cX1_holds 37 = .ok (.iload_n 1, 1) := by decide +kernel
theorem dX1_holds_38 : decode cX1_holds 38 = .ok (.iaload, 1) := by decide +kernel
theorem dX1_holds_39 : decode cX1_holds 39 = .ok (.if_icmp .ge 7, 3) := by decide +kernel
theorem dX1_holds_42 : decode cX1_holds 42 = .ok (.iconst 1, 1) := by decide +kernel
theorem dX1_holds_43 : decode cX1_holds 43 = .ok (.goto 4, 3) := by decide +kernel
theorem dX1_holds_46 : decode cX1_holds 46 = .ok (.iconst 0, 1) := by decide +kernel
theorem dX1_holds_47 : decode cX1_holds 47 = .ok (.ireturn, 1) := by decide +kernel
theorem dX1_holds_48 : decode cX1_holds 48 = .ok (.iload_n 2, 1) := by decide +kernel
theorem dX1_holds_49 : decode cX1_holds 49 = .ok (.aload_n 0, 1) := by decide +kernel
theorem dX1_holds_50 : decode cX1_holds 50 = .ok (.getfield 21, 3) := by decide +kernel
theorem dX1_holds_53 : decode cX1_holds 53 = .ok (.iload_n 1, 1) := by decide +kernel
theorem dX1_holds_54 : decode cX1_holds 54 = .ok (.iaload, 1) := by decide +kernel
theorem dX1_holds_55 : decode cX1_holds 55 = .ok (.if_icmp .le 7, 3) := by decide +kernel
theorem dX1_holds_58 : decode cX1_holds 58 = .ok (.iconst 1, 1) := by decide +kernel
theorem dX1_holds_59 : decode cX1_holds 59 = .ok (.goto 4, 3) := by decide +kernel
theorem dX1_holds_62 : decode cX1_holds 62 = .ok (.iconst 0, 1) := by decide +kernel
theorem dX1_holds_63 : decode cX1_holds 63 = .ok (.ireturn, 1) := by decide +kernel
theorem dX1_holds_64 : decode cX1_holds 64 = .ok (.iload_n 2, 1) := by decide +kernel
theorem dX1_holds_65 : decode cX1_holds 65 = .ok (.aload_n 0, 1) := by decide +kernel
theorem dX1_holds_66 : decode cX1_holds 66 = .ok (.getfield 21, 3) := by decide +kernel
theorem dX1_holds_69 : decode cX1_holds 69 = .ok (.iload_n 1, 1) := by decide +kernel
theorem dX1_holds_70 : decode cX1_holds 70 = .ok (.iaload, 1) := by decide +kernel
theorem dX1_holds_71 : decode cX1_holds 71 = .ok (.if_icmp .ne 7, 3) := by decide +kernel
theorem dX1_holds_74 : decode cX1_holds 74 = .ok (.iconst 1, 1) := by decide +kernel
theorem dX1_holds_75 : decode cX1_holds 75 = .ok (.goto 4, 3) := by decide +kernel
theorem dX1_holds_78 : decode cX1_holds 78 = .ok (.iconst 0, 1) := by decide +kernel
theorem dX1_holds_79 : decode cX1_holds 79 = .ok (.ireturn, 1) := by decide +kernel
theorem dX1_paceBy_0 : decode cX1_paceBy 0 = .ok (.iload_n 1, 1) := by decide +kernel
theorem dX1_paceBy_1 : decode cX1_paceBy 1 = .ok (.bipush 16, 2) := by decide +kernel
theorem dX1_paceBy_3 : decode cX1_paceBy 3 = .ok (.imul, 1) := by decide +kernel
theorem dX1_paceBy_4 : decode cX1_paceBy 4 = .ok (.istore_n 3, 1) := by decide +kernel
theorem dX1_paceBy_5 : decode cX1_paceBy 5 = .ok (.iconst 0, 1) := by decide +kernel
theorem dX1_paceBy_6 : decode cX1_paceBy 6 = .ok (.istore 4, 2) := by decide +kernel
theorem dX1_paceBy_8 : decode cX1_paceBy 8 = .ok (.iload 4, 2) := by decide +kernel
theorem dX1_paceBy_10 : decode cX1_paceBy 10 = .ok (.aload_n 0, 1) := by decide +kernel
theorem dX1_paceBy_11 : decode cX1_paceBy 11 = .ok (.getfield 9, 3) := by decide +kernel
theorem dX1_paceBy_14 : decode cX1_paceBy 14 = .ok (.iload_n 1, 1) := by decide +kernel
theorem dX1_paceBy_15 : decode cX1_paceBy 15 = .ok (.iaload, 1) := by decide +kernel
theorem dX1_paceBy_16 : decode cX1_paceBy 16 = .ok (.if_icmp .ge 41, 3) := by decide +kernel
theorem dX1_paceBy_19 : decode cX1_paceBy 19 = .ok (.aload_n 0, 1) := by decide +kernel
theorem dX1_paceBy_20 : decode cX1_paceBy 20 = .ok (.iload_n 3, 1) := by decide +kernel
theorem dX1_paceBy_21 : decode cX1_paceBy 21 = .ok (.iload 4, 2) := by decide +kernel
theorem dX1_paceBy_23 : decode cX1_paceBy 23 = .ok (.iadd, 1) := by decide +kernel
theorem dX1_paceBy_24 : decode cX1_paceBy 24 = .ok (.aload_n 2, 1) := by decide +kernel
theorem dX1_paceBy_25 : decode cX1_paceBy 25 = .ok (.aload_n 0, 1) := by decide +kernel
theorem dX1_paceBy_26 : decode cX1_paceBy 26 = .ok (.getfield 15, 3) := by decide +kernel
theorem dX1_paceBy_29 : decode cX1_paceBy 29 = .ok (.iload_n 3, 1) := by decide +kernel
theorem dX1_paceBy_30 : decode cX1_paceBy 30 = .ok (.iload 4, 2) := by decide +kernel
theorem dX1_paceBy_32 : decode cX1_paceBy 32 = .ok (.iadd, 1) := by decide +kernel
theorem dX1_paceBy_33 : decode cX1_paceBy 33 = .ok (.iaload, 1) := by decide +kernel
theorem dX1_paceBy_34 : decode cX1_paceBy 34 = .ok (.iaload, 1) := by decide +kernel
theorem dX1_paceBy_35 : decode cX1_paceBy 35 = .ok (.invokevirtual 27, 3) := by decide +kernel
theorem dX1_paceBy_38 : decode cX1_paceBy 38 = .ok (.ifCond .eq 13, 3) := by decide +kernel
theorem dX1_paceBy_41 : decode cX1_paceBy 41 = .ok (.aload_n 0, 1) := by decide +kernel
theorem dX1_paceBy_42 : decode cX1_paceBy 42 = .ok (.getfield 24, 3) := by decide +kernel
theorem dX1_paceBy_45 : decode cX1_paceBy 45 = .ok (.iload_n 3, 1) := by decide +kernel
theorem dX1_paceBy_46 : decode cX1_paceBy 46 = .ok (.iload 4, 2) := by decide +kernel
theorem dX1_paceBy_48 : decode cX1_paceBy 48 = .ok (.iadd, 1) := by decide +kernel
theorem dX1_paceBy_49 : decode cX1_paceBy 49 = .ok (.iaload, 1) := by decide +kernel
theorem dX1_paceBy_50 : decode cX1_paceBy 50 = .ok (.ireturn, 1) := by decide +kernel
theorem dX1_paceBy_51 : decode cX1_paceBy 51 = .ok (.iinc 4 1, 3) := by decide +kernel
theorem dX1_paceBy_54 : decode cX1_paceBy 54 = .ok (.goto (-46), 3) := by decide +kernel
theorem dX1_paceBy_57 : decode cX1_paceBy 57 = .ok (.iconst 4, 1) := by decide +kernel
theorem dX1_paceBy_58 : decode cX1_paceBy 58 = .ok (.ireturn, 1) := by decide +kernel
theorem dX1_takeDraft_0 : decode cX1_takeDraft 0 = .ok (.sipush 144, 3) := by decide +kernel
theorem dX1_takeDraft_3 : decode cX1_takeDraft 3 = .ok (.istore_n 2, 1) := by decide +kernel
theorem dX1_takeDraft_4 : decode cX1_takeDraft 4 = .ok (.iload_n 1, 1) := by decide +kernel
theorem dX1_takeDraft_5 : decode cX1_takeDraft 5 = .ok (.bipush 16, 2) := by decide +kernel
theorem dX1_takeDraft_7 : decode cX1_takeDraft 7 = .ok (.imul, 1) := by decide +kernel
theorem dX1_takeDraft_8 : decode cX1_takeDraft 8 = .ok (.istore_n 3, 1) := by decide +kernel
theorem dX1_takeDraft_9 : decode cX1_takeDraft 9 = .ok (.iconst 0, 1) := by decide +kernel
theorem dX1_takeDraft_10 : decode cX1_takeDraft 10 = .ok (.istore 4, 2) := by decide +kernel
theorem dX1_takeDraft_12 : decode cX1_takeDraft 12 = .ok (.iload 4, 2) := by decide +kernel
theorem dX1_takeDraft_14 : decode cX1_takeDraft 14 = .ok (.bipush 16, 2) := by decide +kernel
theorem dX1_takeDraft_16 : decode cX1_takeDraft 16 = .ok (.if_icmp .ge 81, 3) := by decide +kernel
theorem dX1_takeDraft_19 : decode cX1_takeDraft 19 = .ok (.aload_n 0, 1) := by decide +kernel
theorem dX1_takeDraft_20 : decode cX1_takeDraft 20 = .ok (.getfield 15, 3) := by decide +kernel
theorem dX1_takeDraft_23 : decode cX1_takeDraft 23 = .ok (.iload_n 3, 1) := by decide +kernel
theorem dX1_takeDraft_24 : decode cX1_takeDraft 24 = .ok (.iload 4, 2) := by decide +kernel
theorem dX1_takeDraft_26 : decode cX1_takeDraft 26 = .ok (.iadd, 1) := by decide +kernel
theorem dX1_takeDraft_27 : decode cX1_takeDraft 27 = .ok (.aload_n 0, 1) := by decide +kernel
theorem dX1_takeDraft_28 : decode cX1_takeDraft 28 = .ok (.getfield 15, 3) := by decide +kernel
theorem dX1_takeDraft_31 : decode cX1_takeDraft 31 = .ok (.iload_n 2, 1) := by decide +kernel
theorem dX1_takeDraft_32 : decode cX1_takeDraft 32 = .ok (.iload 4, 2) := by decide +kernel
theorem dX1_takeDraft_34 : decode cX1_takeDraft 34 = .ok (.iadd, 1) := by decide +kernel
theorem dX1_takeDraft_35 : decode cX1_takeDraft 35 = .ok (.iaload, 1) := by decide +kernel
theorem dX1_takeDraft_36 : decode cX1_takeDraft 36 = .ok (.iastore, 1) := by decide +kernel
theorem dX1_takeDraft_37 : decode cX1_takeDraft 37 = .ok (.aload_n 0, 1) := by decide +kernel
theorem dX1_takeDraft_38 : decode cX1_takeDraft 38 = .ok (.getfield 18, 3) := by decide +kernel
theorem dX1_takeDraft_41 : decode cX1_takeDraft 41 = .ok (.iload_n 3, 1) := by decide +kernel
theorem dX1_takeDraft_42 : decode cX1_takeDraft 42 = .ok (.iload 4, 2) := by decide +kernel
theorem dX1_takeDraft_44 : decode cX1_takeDraft 44 = .ok (.iadd, 1) := by decide +kernel
theorem dX1_takeDraft_45 : decode cX1_takeDraft 45 = .ok (.aload_n 0, 1) := by decide +kernel
theorem dX1_takeDraft_46 : decode cX1_takeDraft 46 = .ok (.getfield 18, 3) := by decide +kernel
theorem dX1_takeDraft_49 : decode cX1_takeDraft 49 = .ok (.iload_n 2, 1) := by decide +kernel
theorem dX1_takeDraft_50 : decode cX1_takeDraft 50 = .ok (.iload 4, 2) := by decide +kernel
theorem dX1_takeDraft_52 : decode cX1_takeDraft 52 = .ok (.iadd, 1) := by decide +kernel
theorem dX1_takeDraft_53 : decode cX1_takeDraft 53 = .ok (.iaload, 1) := by decide +kernel
theorem dX1_takeDraft_54 : decode cX1_takeDraft 54 = .ok (.iastore, 1) := by decide +kernel
theorem dX1_takeDraft_55 : decode cX1_takeDraft 55 = .ok (.aload_n 0, 1) := by decide +kernel
theorem dX1_takeDraft_56 : decode cX1_takeDraft 56 = .ok (.getfield 21, 3) := by decide +kernel
theorem dX1_takeDraft_59 : decode cX1_takeDraft 59 = .ok (.iload_n 3, 1) := by decide +kernel
theorem dX1_takeDraft_60 : decode cX1_takeDraft 60 = .ok (.iload 4, 2) := by decide +kernel
theorem dX1_takeDraft_62 : decode cX1_takeDraft 62 = .ok (.iadd, 1) := by decide +kernel
theorem dX1_takeDraft_63 : decode cX1_takeDraft 63 = .ok (.aload_n 0, 1) := by decide +kernel
theorem dX1_takeDraft_64 : decode cX1_takeDraft 64 = .ok (.getfield 21, 3) := by decide +kernel
theorem dX1_takeDraft_67 : decode cX1_takeDraft 67 = .ok (.iload_n 2, 1) := by decide +kernel
theorem dX1_takeDraft_68 : decode cX1_takeDraft 68 = .ok (.iload 4, 2) := by decide +kernel
theorem dX1_takeDraft_70 : decode cX1_takeDraft 70 = .ok (.iadd, 1) := by decide +kernel
theorem dX1_takeDraft_71 : decode cX1_takeDraft 71 = .ok (.iaload, 1) := by decide +kernel
theorem dX1_takeDraft_72 : decode cX1_takeDraft 72 = .ok (.iastore, 1) := by decide +kernel
theorem dX1_takeDraft_73 : decode cX1_takeDraft 73 = .ok (.aload_n 0, 1) := by decide +kernel
theorem dX1_takeDraft_74 : decode cX1_takeDraft 74 = .ok (.getfield 24, 3) := by decide +kernel
theorem dX1_takeDraft_77 : decode cX1_takeDraft 77 = .ok (.iload_n 3, 1) := by decide +kernel
theorem dX1_takeDraft_78 : decode cX1_takeDraft 78 = .ok (.iload 4, 2) := by decide +kernel
theorem dX1_takeDraft_80 : decode cX1_takeDraft 80 = .ok (.iadd, 1) := by decide +kernel
theorem dX1_takeDraft_81 : decode cX1_takeDraft 81 = .ok (.aload_n 0, 1) := by decide +kernel
theorem dX1_takeDraft_82 : decode cX1_takeDraft 82 = .ok (.getfield 24, 3) := by decide +kernel
theorem dX1_takeDraft_85 : decode cX1_takeDraft 85 = .ok (.iload_n 2, 1) := by decide +kernel
theorem dX1_takeDraft_86 : decode cX1_takeDraft 86 = .ok (.iload 4, 2) := by decide +kernel
theorem dX1_takeDraft_88 : decode cX1_takeDraft 88 = .ok (.iadd, 1) := by decide +kernel
theorem dX1_takeDraft_89 : decode cX1_takeDraft 89 = .ok (.iaload, 1) := by decide +kernel
theorem dX1_takeDraft_90 : decode cX1_takeDraft 90 = .ok (.iastore, 1) := by decide +kernel
theorem dX1_takeDraft_91 : decode cX1_takeDraft 91 = .ok (.iinc 4 1, 3) := by decide +kernel
theorem dX1_takeDraft_94 : decode cX1_takeDraft 94 = .ok (.goto (-82), 3) := by decide +kernel
theorem dX1_takeDraft_97 : decode cX1_takeDraft 97 = .ok (.aload_n 0, 1) := by decide +kernel
theorem dX1_takeDraft_98 : decode cX1_takeDraft 98 = .ok (.getfield 9, 3) := by decide +kernel
theorem dX1_takeDraft_101 : decode cX1_takeDraft 101 = .ok (.iload_n 1, 1) := by decide +kernel
theorem dX1_takeDraft_102 : decode cX1_takeDraft 102 = .ok (.aload_n 0, 1) := by decide +kernel
theorem dX1_takeDraft_103 : decode cX1_takeDraft 103 = .ok (.getfield 9, 3) := by decide +kernel
theorem dX1_takeDraft_106 : decode cX1_takeDraft 106 = .ok (.bipush 9, 2) := by decide +kernel
theorem dX1_takeDraft_108 : decode cX1_takeDraft 108 = .ok (.iaload, 1) := by decide +kernel
theorem dX1_takeDraft_109 : decode cX1_takeDraft 109 = .ok (.iastore, 1) := by decide +kernel
theorem dX1_takeDraft_110 : decode cX1_takeDraft 110 = .ok (.return_, 1) := by decide +kernel
theorem dX2_askedBy_0 : decode cX2_askedBy 0 = .ok (.iload_n 0, 1) := by decide +kernel
theorem dX2_askedBy_1 : decode cX2_askedBy 1 = .ok (.tableswitch 77 103 115 #[71, 77, 77, 77, 69, 77, 77, 73, 77, 75, 77, 77, 67], 67) := by decide +kernel
theorem dX2_askedBy_68 : decode cX2_askedBy 68 = .ok (.iconst 0, 1) := by decide +kernel
theorem dX2_askedBy_69 : decode cX2_askedBy 69 = .ok (.ireturn, 1) := by decide +kernel
theorem dX2_askedBy_70 : decode cX2_askedBy 70 = .ok (.iconst 1, 1) := by decide +kernel
theorem dX2_askedBy_71 : decode cX2_askedBy 71 = .ok (.ireturn, 1) := by decide +kernel
theorem dX2_askedBy_72 : decode cX2_askedBy 72 = .ok (.iconst 2, 1) := by decide +kernel
theorem dX2_askedBy_73 : decode cX2_askedBy 73 = .ok (.ireturn, 1) := by decide +kernel
theorem dX2_askedBy_74 : decode cX2_askedBy 74 = .ok (.iconst 3, 1) := by decide +kernel
theorem dX2_askedBy_75 : decode cX2_askedBy 75 = .ok (.ireturn, 1) := by decide +kernel
theorem dX2_askedBy_76 : decode cX2_askedBy 76 = .ok (.iconst 4, 1) := by decide +kernel
theorem dX2_askedBy_77 : decode cX2_askedBy 77 = .ok (.ireturn, 1) := by decide +kernel
theorem dX2_askedBy_78 : decode cX2_askedBy 78 = .ok (.iconst (-1), 1) := by decide +kernel
theorem dX2_askedBy_79 : decode cX2_askedBy 79 = .ok (.ireturn, 1) := by decide +kernel
theorem dX2_faultOf_0 : decode cX2_faultOf 0 = .ok (.aload_n 2, 1) := by decide +kernel
theorem dX2_faultOf_1 : decode cX2_faultOf 1 = .ok (.invokevirtual 27, 3) := by decide +kernel
theorem dX2_faultOf_4 : decode cX2_faultOf 4 = .ok (.aload_n 0, 1) := by decide +kernel
theorem dX2_faultOf_5 : decode cX2_faultOf 5 = .ok (.iconst 0, 1) := by decide +kernel
theorem dX2_faultOf_6 : decode cX2_faultOf 6 = .ok (.putfield 11, 3) := by decide +kernel
theorem dX2_faultOf_9 : decode cX2_faultOf 9 = .ok (.iconst 0, 1) := by decide +kernel
theorem dX2_faultOf_10 : decode cX2_faultOf 10 = .ok (.istore_n 3, 1) := by decide +kernel
theorem dX2_faultOf_11 : decode cX2_faultOf 11 = .ok (.iload_n 3, 1) := by decide +kernel
theorem dX2_faultOf_12 : decode cX2_faultOf 12 = .ok (.aload_n 1, 1) := by decide +kernel
theorem dX2_faultOf_13 : decode cX2_faultOf 13 = .ok (.getfield 32, 3) := by decide +kernel
theorem dX2_faultOf_16 : decode cX2_faultOf 16 = .ok (.if_icmp .ge 25, 3) := by decide +kernel
theorem dX2_faultOf_19 : decode cX2_faultOf 19 = .ok (.aload_n 0, 1) := by decide +kernel
theorem dX2_faultOf_20 : decode cX2_faultOf 20 = .ok (.aload_n 1, 1) := by decide +kernel
theorem dX2_faultOf_21 : decode cX2_faultOf 21 = .ok (.getfield 37, 3) := by decide +kernel
theorem dX2_faultOf_24 : decode cX2_faultOf 24 = .ok (.iload_n 3, 1) := by decide +kernel
theorem dX2_faultOf_25 : decode cX2_faultOf 25 = .ok (.iaload, 1) := by decide +kernel
theorem dX2_faultOf_26 : decode cX2_faultOf 26 = .ok (.aload_n 2, 1) := by decide +kernel
theorem dX2_faultOf_27 : decode cX2_faultOf 27 = .ok (.invokevirtual 41, 3) := by decide +kernel
theorem dX2_faultOf_30 : decode cX2_faultOf 30 = .ok (.ifCond .ne 5, 3) := by decide +kernel
theorem dX2_faultOf_33 : decode cX2_faultOf 33 = .ok (.iload_n 3, 1) := by decide +kernel
theorem dX2_faultOf_34 : decode cX2_faultOf 34 = .ok (.ireturn, 1) := by decide +kernel
theorem dX2_faultOf_35 : decode cX2_faultOf 35 = .ok (.iinc 3 1, 3) := by decide +kernel
theorem dX2_faultOf_38 : decode cX2_faultOf 38 = .ok (.goto (-27), 3) := by decide +kernel
theorem dX2_faultOf_41 : decode cX2_faultOf 41 = .ok (.aload_n 0, 1) := by decide +kernel
theorem dX2_faultOf_42 : decode cX2_faultOf 42 = .ok (.getfield 11, 3) := by decide +kernel
theorem dX2_faultOf_45 : decode cX2_faultOf 45 = .ok (.ifCond .eq 12, 3) := by decide +kernel
theorem dX2_faultOf_48 : decode cX2_faultOf 48 = .ok (.aload_n 0, 1) := by decide +kernel
theorem dX2_faultOf_49 : decode cX2_faultOf 49 = .ok (.getfield 11, 3) := by decide +kernel
theorem dX2_faultOf_52 : decode cX2_faultOf 52 = .ok (.bipush 7, 2) := by decide +kernel
theorem dX2_faultOf_54 : decode cX2_faultOf 54 = .ok (.if_icmp .ne 7, 3) := by decide +kernel
theorem dX2_faultOf_57 : decode cX2_faultOf 57 = .ok (.iconst (-1), 1) := by decide +kernel
theorem dX2_faultOf_58 : decode cX2_faultOf 58 = .ok (.goto 7, 3) := by decide +kernel
theorem dX2_faultOf_61 : decode cX2_faultOf 61 = .ok (.aload_n 1, 1) := by decide +kernel
theorem dX2_faultOf_62 : decode cX2_faultOf 62 = .ok (.getfield 32, 3) := by decide +kernel
theorem dX2_faultOf_65 : decode cX2_faultOf 65 = .ok (.ireturn, 1) := by decide +kernel
theorem dX2_goesOn_0 : decode cX2_goesOn 0 = .ok (.iload_n 1, 1) := by decide +kernel
theorem dX2_goesOn_1 : decode cX2_goesOn 1 = .ok (.bipush 32, 2) := by decide +kernel
theorem dX2_goesOn_3 : decode cX2_goesOn 3 = .ok (.if_icmp .ne 18, 3) := by decide +kernel
theorem dX2_goesOn_6 : decode cX2_goesOn 6 = .ok (.aload_n 0, 1) := by decide +kernel
theorem dX2_goesOn_7 : decode cX2_goesOn 7 = .ok (.getfield 11, 3) := by decide +kernel
theorem dX2_goesOn_10 : decode cX2_goesOn 10 = .ok (.iconst 4, 1) := by decide +kernel
theorem dX2_goesOn_11 : decode cX2_goesOn 11 = .ok (.if_icmp .ne 8, 3) := by decide +kernel
theorem dX2_goesOn_14 : decode cX2_goesOn 14 = .ok (.aload_n 0, 1) := by decide +kernel
theorem dX2_goesOn_15 : decode cX2_goesOn 15 = .ok (.iconst 5, 1) := by decide +kernel
theorem dX2_goesOn_16 : decode cX2_goesOn 16 = .ok (.putfield 11, 3) := by decide +kernel
theorem dX2_goesOn_19 : decode cX2_goesOn 19 = .ok (.iconst 1, 1) := by decide +kernel
theorem dX2_goesOn_20 : decode cX2_goesOn 20 = .ok (.ireturn, 1) := by decide +kernel
theorem dX2_goesOn_21 : decode cX2_goesOn 21 = .ok (.aload_n 0, 1) := by decide +kernel
theorem dX2_goesOn_22 : decode cX2_goesOn 22 = .ok (.getfield 11, 3) := by decide +kernel
theorem dX2_goesOn_25 : decode cX2_goesOn 25 = .ok (.tableswitch 104 0 6 #[43, 43, 49, 55, 61, 87, 97], 43) := by decide +kernel
theorem dX2_goesOn_68 : decode cX2_goesOn 68 = .ok (.aload_n 0, 1) := by decide +kernel
theorem dX2_goesOn_69 : decode cX2_goesOn 69 = .ok (.iload_n 1, 1) := by decide +kernel
theorem dX2_goesOn_70 : decode cX2_goesOn 70 = .ok (.invokevirtual 45, 3) := by decide +kernel
theorem dX2_goesOn_73 : decode cX2_goesOn 73 = .ok (.ireturn, 1) := by decide +kernel
theorem dX2_goesOn_74 : decode cX2_goesOn 74 = .ok (.aload_n 0, 1) := by decide +kernel
theorem dX2_goesOn_75 : decode cX2_goesOn 75 = .ok (.iload_n 1, 1) := by decide +kernel
theorem dX2_goesOn_76 : decode cX2_goesOn 76 = .ok (.invokevirtual 49, 3) := by decide +kernel
theorem dX2_goesOn_79 : decode cX2_goesOn 79 = .ok (.ireturn, 1) := by decide +kernel
theorem dX2_goesOn_80 : decode cX2_goesOn 80 = .ok (.aload_n 0, 1) := by decide +kernel
theorem dX2_goesOn_81 : decode cX2_goesOn 81 = .ok (.iload_n 1, 1) := by decide +kernel
theorem dX2_goesOn_82 : decode cX2_goesOn 82 = .ok (.invokevirtual 52, 3) := by decide +kernel
theorem dX2_goesOn_85 : decode cX2_goesOn 85 = .ok (.ireturn, 1) := by decide +kernel
theorem dX2_goesOn_86 : decode cX2_goesOn 86 = .ok (.aload_n 0, 1) := by decide +kernel
theorem dX2_goesOn_87 : decode cX2_goesOn 87 = .ok (.iload_n 1, 1) := by decide +kernel
theorem dX2_goesOn_88 : decode cX2_goesOn 88 = .ok (.invokevirtual 55, 3) := by decide +kernel
theorem dX2_goesOn_91 : decode cX2_goesOn 91 = .ok (.ifCond .ne 15, 3) := by decide +kernel
theorem dX2_goesOn_94 : decode cX2_goesOn 94 = .ok (.aload_n 0, 1) := by decide +kernel
theorem dX2_goesOn_95 : decode cX2_goesOn 95 = .ok (.iload_n 1, 1) := by decide +kernel
theorem dX2_goesOn_96 : decode cX2_goesOn 96 = .ok (.bipush 58, 2) := by decide +kernel
theorem dX2_goesOn_98 : decode cX2_goesOn 98 = .ok (.bipush 6, 2) := by decide +kernel
theorem dX2_goesOn_100 : decode cX2_goesOn 100 = .ok (.invokevirtual 58, 3) := by decide +kernel
theorem dX2_goesOn_103 : decode cX2_goesOn 103 = .ok (.ifCond .eq 7, 3) := by decide +kernel
theorem dX2_goesOn_106 : decode cX2_goesOn 106 = .ok (.iconst 1, 1) := by decide +kernel
theorem dX2_goesOn_107 : decode cX2_goesOn 107 = .ok (.goto 4, 3) := by decide +kernel
theorem dX2_goesOn_110 : decode cX2_goesOn 110 = .ok (.iconst 0, 1) := by decide +kernel
theorem dX2_goesOn_111 : decode cX2_goesOn 111 = .ok (.ireturn, 1) := by decide +kernel
theorem dX2_goesOn_112 : decode cX2_goesOn 112 = .ok (.aload_n 0, 1) := by decide +kernel
theorem dX2_goesOn_113 : decode cX2_goesOn 113 = .ok (.iload_n 1, 1) := by decide +kernel
theorem dX2_goesOn_114 : decode cX2_goesOn 114 = .ok (.bipush 58, 2) := by decide +kernel
theorem dX2_goesOn_116 : decode cX2_goesOn 116 = .ok (.bipush 6, 2) := by decide +kernel
theorem dX2_goesOn_118 : decode cX2_goesOn 118 = .ok (.invokevirtual 58, 3) := by decide +kernel
theorem dX2_goesOn_121 : decode cX2_goesOn 121 = .ok (.ireturn, 1) := by decide +kernel
theorem dX2_goesOn_122 : decode cX2_goesOn 122 = .ok (.aload_n 0, 1) := by decide +kernel
theorem dX2_goesOn_123 : decode cX2_goesOn 123 = .ok (.iload_n 1, 1) := by decide +kernel
theorem dX2_goesOn_124 : decode cX2_goesOn 124 = .ok (.aload_n 2, 1) := by decide +kernel
theorem dX2_goesOn_125 : decode cX2_goesOn 125 = .ok (.invokevirtual 62, 3) := by decide +kernel
theorem dX2_goesOn_128 : decode cX2_goesOn 128 = .ok (.ireturn, 1) := by decide +kernel
theorem dX2_goesOn_129 : decode cX2_goesOn 129 = .ok (.aload_n 0, 1) := by decide +kernel
theorem dX2_goesOn_130 : decode cX2_goesOn 130 = .ok (.iload_n 1, 1) := by decide +kernel
theorem dX2_goesOn_131 : decode cX2_goesOn 131 = .ok (.bipush 59, 2) := by decide +kernel
theorem dX2_goesOn_133 : decode cX2_goesOn 133 = .ok (.iconst 1, 1) := by decide +kernel
theorem dX2_goesOn_134 : decode cX2_goesOn 134 = .ok (.invokevirtual 58, 3) := by decide +kernel
theorem dX2_goesOn_137 : decode cX2_goesOn 137 = .ok (.ireturn, 1) := by decide +kernel
theorem dX2_isDigit_0 : decode cX2_isDigit 0 = .ok (.iload_n 0, 1) := by decide +kernel
theorem dX2_isDigit_1 : decode cX2_isDigit 1 = .ok (.bipush 48, 2) := by decide +kernel
theorem dX2_isDigit_3 : decode cX2_isDigit 3 = .ok (.if_icmp .lt 13, 3) := by decide +kernel
theorem dX2_isDigit_6 : decode cX2_isDigit 6 = .ok (.iload_n 0, 1) := by decide +kernel
theorem dX2_isDigit_7 : decode cX2_isDigit 7 = .ok (.bipush 57, 2) := by decide +kernel
theorem dX2_isDigit_9 : decode cX2_isDigit 9 = .ok (.if_icmp .gt 7, 3) := by decide +kernel
theorem dX2_isDigit_12 : decode cX2_isDigit 12 = .ok (.iconst 1, 1) := by decide +kernel
theorem dX2_isDigit_13 : decode cX2_isDigit 13 = .ok (.goto 4, 3) := by decide +kernel
theorem dX2_isDigit_16 : decode cX2_isDigit 16 = .ok (.iconst 0, 1) := by decide +kernel
theorem dX2_isDigit_17 : decode cX2_isDigit 17 = .ok (.ireturn, 1) := by decide +kernel
theorem dX2_takesDigit_0 : decode cX2_takesDigit 0 = .ok (.iload_n 1, 1) := by decide +kernel
theorem dX2_takesDigit_1 : decode cX2_takesDigit 1 = .ok (.invokestatic 69, 3) := by decide +kernel
theorem dX2_takesDigit_4 : decode cX2_takesDigit 4 = .ok (.ifCond .eq 11, 3) := by decide +kernel
theorem dX2_takesDigit_7 : decode cX2_takesDigit 7 = .ok (.aload_n 0, 1) := by decide +kernel
theorem dX2_takesDigit_8 : decode cX2_takesDigit 8 = .ok (.getfield 24, 3) := by decide +kernel
theorem dX2_takesDigit_11 : decode cX2_takesDigit 11 = .ok (.iconst 3, 1) := by decide +kernel
theorem dX2_takesDigit_12 : decode cX2_takesDigit 12 = .ok (.if_icmp .lt 5, 3) := by decide +kernel
theorem dX2_takesDigit_15 : decode cX2_takesDigit 15 = .ok (.iconst 0, 1) := by decide +kernel
theorem dX2_takesDigit_16 : decode cX2_takesDigit 16 = .ok (.ireturn, 1) := by decide +kernel
theorem dX2_takesDigit_17 : decode cX2_takesDigit 17 = .ok (.aload_n 0, 1) := by decide +kernel
theorem dX2_takesDigit_18 : decode cX2_takesDigit 18 = .ok (.bipush 10, 2) := by decide +kernel
theorem dX2_takesDigit_20 : decode cX2_takesDigit 20 = .ok (.aload_n 0, 1) := by decide +kernel
theorem dX2_takesDigit_21 : decode cX2_takesDigit 21 = .ok (.getfield 21, 3) := by decide +kernel
theorem dX2_takesDigit_24 : decode cX2_takesDigit 24 = .ok (.imul, 1) := by decide +kernel
theorem dX2_takesDigit_25 : decode cX2_takesDigit 25 = .ok (.iload_n 1, 1) := by decide +kernel
theorem dX2_takesDigit_26 : decode cX2_takesDigit 26 = .ok (.iadd, 1) := by decide +kernel
theorem dX2_takesDigit_27 : decode cX2_takesDigit 27 = .ok (.bipush 48, 2) := by decide +kernel
theorem dX2_takesDigit_29 : decode cX2_takesDigit 29 = .ok (.isub, 1) := by decide +kernel
theorem dX2_takesDigit_30 : decode cX2_takesDigit 30 = .ok (.putfield 21, 3) := by decide +kernel
theorem dX2_takesDigit_33 : decode cX2_takesDigit 33 = .ok (.aload_n 0, 1) := by decide +kernel
theorem dX2_takesDigit_34 : decode cX2_takesDigit 34 = .ok (.dup, 1) := by decide +kernel
theorem dX2_takesDigit_35 : decode cX2_takesDigit 35 = .ok (.getfield 24, 3) := by decide +kernel
theorem dX2_takesDigit_38 : decode cX2_takesDigit 38 = .ok (.iconst 1, 1) := by decide +kernel
theorem dX2_takesDigit_39 : decode cX2_takesDigit 39 = .ok (.iadd, 1) := by decide +kernel
theorem dX2_takesDigit_40 : decode cX2_takesDigit 40 = .ok (.putfield 24, 3) := by decide +kernel
theorem dX2_takesDigit_43 : decode cX2_takesDigit 43 = .ok (.aload_n 0, 1) := by decide +kernel
theorem dX2_takesDigit_44 : decode cX2_takesDigit 44 = .ok (.iconst 4, 1) := by decide +kernel
theorem dX2_takesDigit_45 : decode cX2_takesDigit 45 = .ok (.putfield 11, 3) := by decide +kernel
theorem dX2_takesDigit_48 : decode cX2_takesDigit 48 = .ok (.iconst 1, 1) := by decide +kernel
theorem dX2_takesDigit_49 : decode cX2_takesDigit 49 = .ok (.ireturn, 1) := by decide +kernel
theorem dX2_takesFirstDigit_0 : decode cX2_takesFirstDigit 0 = .ok (.aload_n 0, 1) := by decide +kernel
theorem dX2_takesFirstDigit_1 : decode cX2_takesFirstDigit 1 = .ok (.iconst 0, 1) := by decide +kernel
theorem dX2_takesFirstDigit_2 : decode cX2_takesFirstDigit 2 = .ok (.putfield 21, 3) := by decide +kernel
theorem dX2_takesFirstDigit_5 : decode cX2_takesFirstDigit 5 = .ok (.aload_n 0, 1) := by decide +kernel
theorem dX2_takesFirstDigit_6 : decode cX2_takesFirstDigit 6 = .ok (.iconst 0, 1) := by decide +kernel
theorem dX2_takesFirstDigit_7 : decode cX2_takesFirstDigit 7 = .ok (.putfield 24, 3) := by decide +kernel
theorem dX2_takesFirstDigit_10 : decode cX2_takesFirstDigit 10 = .ok (.aload_n 0, 1) := by decide +kernel
theorem dX2_takesFirstDigit_11 : decode cX2_takesFirstDigit 11 = .ok (.iload_n 1, 1) := by decide +kernel
theorem dX2_takesFirstDigit_12 : decode cX2_takesFirstDigit 12 = .ok (.invokevirtual 55, 3) := by decide +kernel
theorem dX2_takesFirstDigit_15 : decode cX2_takesFirstDigit 15 = .ok (.ireturn, 1) := by decide +kernel
theorem dX2_takesLetter_0 : decode cX2_takesLetter 0 = .ok (.iload_n 1, 1) := by decide +kernel
theorem dX2_takesLetter_1 : decode cX2_takesLetter 1 = .ok (.invokestatic 65, 3) := by decide +kernel
theorem dX2_takesLetter_4 : decode cX2_takesLetter 4 = .ok (.istore_n 2, 1) := by decide +kernel
theorem dX2_takesLetter_5 : decode cX2_takesLetter 5 = .ok (.iload_n 2, 1) := by decide +kernel
theorem dX2_takesLetter_6 : decode cX2_takesLetter 6 = .ok (.iconst (-1), 1) := by decide +kernel
theorem dX2_takesLetter_7 : decode cX2_takesLetter 7 = .ok (.if_icmp .ne 5, 3) := by decide +kernel
theorem dX2_takesLetter_10 : decode cX2_takesLetter 10 = .ok (.iconst 0, 1) := by decide +kernel
theorem dX2_takesLetter_11 : decode cX2_takesLetter 11 = .ok (.ireturn, 1) := by decide +kernel
theorem dX2_takesLetter_12 : decode cX2_takesLetter 12 = .ok (.aload_n 0, 1) := by decide +kernel
theorem dX2_takesLetter_13 : decode cX2_takesLetter 13 = .ok (.iload_n 2, 1) := by decide +kernel
theorem dX2_takesLetter_14 : decode cX2_takesLetter 14 = .ok (.putfield 15, 3) := by decide +kernel
theorem dX2_takesLetter_17 : decode cX2_takesLetter 17 = .ok (.aload_n 0, 1) := by decide +kernel
theorem dX2_takesLetter_18 : decode cX2_takesLetter 18 = .ok (.iconst 2, 1) := by decide +kernel
theorem dX2_takesLetter_19 : decode cX2_takesLetter 19 = .ok (.putfield 11, 3) := by decide +kernel
theorem dX2_takesLetter_22 : decode cX2_takesLetter 22 = .ok (.iconst 1, 1) := by decide +kernel
theorem dX2_takesLetter_23 : decode cX2_takesLetter 23 = .ok (.ireturn, 1) := by decide +kernel
theorem dX2_takesMark_0 : decode cX2_takesMark 0 = .ok (.iload_n 1, 1) := by decide +kernel
theorem dX2_takesMark_1 : decode cX2_takesMark 1 = .ok (.iload_n 2, 1) := by decide +kernel
theorem dX2_takesMark_2 : decode cX2_takesMark 2 = .ok (.if_icmp .eq 5, 3) := by decide +kernel
theorem dX2_takesMark_5 : decode cX2_takesMark 5 = .ok (.iconst 0, 1) := by decide +kernel
theorem dX2_takesMark_6 : decode cX2_takesMark 6 = .ok (.ireturn, 1) := by decide +kernel
theorem dX2_takesMark_7 : decode cX2_takesMark 7 = .ok (.aload_n 0, 1) := by decide +kernel
theorem dX2_takesMark_8 : decode cX2_takesMark 8 = .ok (.iload_n 3, 1) := by decide +kernel
theorem dX2_takesMark_9 : decode cX2_takesMark 9 = .ok (.putfield 11, 3) := by decide +kernel
theorem dX2_takesMark_12 : decode cX2_takesMark 12 = .ok (.iconst 1, 1) := by decide +kernel
theorem dX2_takesMark_13 : decode cX2_takesMark 13 = .ok (.ireturn, 1) := by decide +kernel
theorem dX2_takesPace_0 : decode cX2_takesPace 0 = .ok (.iload_n 1, 1) := by decide +kernel
theorem dX2_takesPace_1 : decode cX2_takesPace 1 = .ok (.invokestatic 69, 3) := by decide +kernel
theorem dX2_takesPace_4 : decode cX2_takesPace 4 = .ok (.ifCond .ne 5, 3) := by decide +kernel
theorem dX2_takesPace_7 : decode cX2_takesPace 7 = .ok (.iconst 0, 1) := by decide +kernel
theorem dX2_takesPace_8 : decode cX2_takesPace 8 = .ok (.ireturn, 1) := by decide +kernel
theorem dX2_takesPace_9 : decode cX2_takesPace 9 = .ok (.aload_n 2, 1) := by decide +kernel
theorem dX2_takesPace_10 : decode cX2_takesPace 10 = .ok (.aload_n 0, 1) := by decide +kernel
theorem dX2_takesPace_11 : decode cX2_takesPace 11 = .ok (.getfield 15, 3) := by decide +kernel
theorem dX2_takesPace_14 : decode cX2_takesPace 14 = .ok (.aload_n 0, 1) := by decide +kernel
theorem dX2_takesPace_15 : decode cX2_takesPace 15 = .ok (.getfield 18, 3) := by decide +kernel
theorem dX2_takesPace_18 : decode cX2_takesPace 18 = .ok (.aload_n 0, 1) := by decide +kernel
theorem dX2_takesPace_19 : decode cX2_takesPace 19 = .ok (.getfield 21, 3) := by decide +kernel
theorem dX2_takesPace_22 : decode cX2_takesPace 22 = .ok (.iload_n 1, 1) := by decide +kernel
theorem dX2_takesPace_23 : decode cX2_takesPace 23 = .ok (.bipush 48, 2) := by decide +kernel
theorem dX2_takesPace_25 : decode cX2_takesPace 25 = .ok (.isub, 1) := by decide +kernel
theorem dX2_takesPace_26 : decode cX2_takesPace 26 = .ok (.invokevirtual 72, 3) := by decide +kernel
theorem dX2_takesPace_29 : decode cX2_takesPace 29 = .ok (.aload_n 0, 1) := by decide +kernel
theorem dX2_takesPace_30 : decode cX2_takesPace 30 = .ok (.bipush 7, 2) := by decide +kernel
theorem dX2_takesPace_32 : decode cX2_takesPace 32 = .ok (.putfield 11, 3) := by decide +kernel
theorem dX2_takesPace_35 : decode cX2_takesPace 35 = .ok (.iconst 1, 1) := by decide +kernel
theorem dX2_takesPace_36 : decode cX2_takesPace 36 = .ok (.ireturn, 1) := by decide +kernel
theorem dX2_takesSign_0 : decode cX2_takesSign 0 = .ok (.iload_n 1, 1) := by decide +kernel
theorem dX2_takesSign_1 : decode cX2_takesSign 1 = .ok (.bipush 61, 2) := by decide +kernel
theorem dX2_takesSign_3 : decode cX2_takesSign 3 = .ok (.if_icmp .eq 17, 3) := by decide +kernel
theorem dX2_takesSign_6 : decode cX2_takesSign 6 = .ok (.iload_n 1, 1) := by decide +kernel
theorem dX2_takesSign_7 : decode cX2_takesSign 7 = .ok (.bipush 60, 2) := by decide +kernel
theorem dX2_takesSign_9 : decode cX2_takesSign 9 = .ok (.if_icmp .eq 11, 3) := by decide +kernel
theorem dX2_takesSign_12 : decode cX2_takesSign 12 = .ok (.iload_n 1, 1) := by decide +kernel
theorem dX2_takesSign_13 : decode cX2_takesSign 13 = .ok (.bipush 62, 2) := by decide +kernel
theorem dX2_takesSign_15 : decode cX2_takesSign 15 = .ok (.if_icmp .eq 5, 3) := by decide +kernel
theorem dX2_takesSign_18 : decode cX2_takesSign 18 = .ok (.iconst 0, 1) := by decide +kernel
theorem dX2_takesSign_19 : decode cX2_takesSign 19 = .ok (.ireturn, 1) := by decide +kernel
theorem dX2_takesSign_20 : decode cX2_takesSign 20 = .ok (.aload_n 0, 1) := by decide +kernel
theorem dX2_takesSign_21 : decode cX2_takesSign 21 = .ok (.iload_n 1, 1) := by decide +kernel
theorem dX2_takesSign_22 : decode cX2_takesSign 22 = .ok (.putfield 18, 3) := by decide +kernel
theorem dX2_takesSign_25 : decode cX2_takesSign 25 = .ok (.aload_n 0, 1) := by decide +kernel
theorem dX2_takesSign_26 : decode cX2_takesSign 26 = .ok (.iconst 3, 1) := by decide +kernel
theorem dX2_takesSign_27 : decode cX2_takesSign 27 = .ok (.putfield 11, 3) := by decide +kernel
theorem dX2_takesSign_30 : decode cX2_takesSign 30 = .ok (.iconst 1, 1) := by decide +kernel
theorem dX2_takesSign_31 : decode cX2_takesSign 31 = .ok (.ireturn, 1) := by decide +kernel
theorem dX3_advance_0 : decode cX3_advance 0 = .ok (.aload_n 0, 1) := by decide +kernel
theorem dX3_advance_1 : decode cX3_advance 1 = .ok (.getfield 32, 3) := by decide +kernel
theorem dX3_advance_4 : decode cX3_advance 4 = .ok (.iload_n 1, 1) := by decide +kernel
theorem dX3_advance_5 : decode cX3_advance 5 = .ok (.iaload, 1) := by decide +kernel
theorem dX3_advance_6 : decode cX3_advance 6 = .ok (.istore 4, 2) := by decide +kernel
theorem dX3_advance_8 : decode cX3_advance 8 = .ok (.iload 4, 2) := by decide +kernel
theorem dX3_advance_10 : decode cX3_advance 10 = .ok (.iload_n 2, 1) := by decide +kernel
theorem dX3_advance_11 : decode cX3_advance 11 = .ok (.iadd, 1) := by decide +kernel
theorem dX3_advance_12 : decode cX3_advance 12 = .ok (.istore 5, 2) := by decide +kernel
theorem dX3_advance_14 : decode cX3_advance 14 = .ok (.aload_n 3, 1) := by decide +kernel
theorem dX3_advance_15 : decode cX3_advance 15 = .ok (.getfield 166, 3) := by decide +kernel
theorem dX3_advance_18 : decode cX3_advance 18 = .ok (.iload 4, 2) := by decide +kernel
theorem dX3_advance_20 : decode cX3_advance 20 = .ok (.if_icmp .le 46, 3) := by decide +kernel
theorem dX3_advance_23 : decode cX3_advance 23 = .ok (.aload_n 3, 1) := by decide +kernel
theorem dX3_advance_24 : decode cX3_advance 24 = .ok (.getfield 166, 3) := by decide +kernel
theorem dX3_advance_27 : decode cX3_advance 27 = .ok (.iload 5, 2) := by decide +kernel
theorem dX3_advance_29 : decode cX3_advance 29 = .ok (.if_icmp .gt 37, 3) := by decide +kernel
theorem dX3_advance_32 : decode cX3_advance 32 = .ok (.aload_n 0, 1) := by decide +kernel
theorem dX3_advance_33 : decode cX3_advance 33 = .ok (.aload_n 3, 1) := by decide +kernel
theorem dX3_advance_34 : decode cX3_advance 34 = .ok (.getfield 169, 3) := by decide +kernel
theorem dX3_advance_37 : decode cX3_advance 37 = .ok (.invokevirtual 172, 3) := by decide +kernel
theorem dX3_advance_40 : decode cX3_advance 40 = .ok (.ifCond .eq 26, 3) := by decide +kernel
theorem dX3_advance_43 : decode cX3_advance 43 = .ok (.aload_n 3, 1) := by decide +kernel
theorem dX3_advance_44 : decode cX3_advance 44 = .ok (.getfield 166, 3) := by decide +kernel
theorem dX3_advance_47 : decode cX3_advance 47 = .ok (.istore 5, 2) := by decide +kernel
theorem dX3_advance_49 : decode cX3_advance 49 = .ok (.aload_n 0, 1) := by decide +kernel
theorem dX3_advance_50 : decode cX3_advance 50 = .ok (.getfield 48, 3) := by decide +kernel
theorem dX3_advance_53 : decode cX3_advance 53 = .ok (.iload_n 1, 1) := by decide +kernel
theorem dX3_advance_54 : decode cX3_advance 54 = .ok (.iconst 3, 1) := by decide +kernel
theorem dX3_advance_55 : decode cX3_advance 55 = .ok (.iastore, 1) := by decide +kernel
theorem dX3_advance_56 : decode cX3_advance 56 = .ok (.aload_n 0, 1) := by decide +kernel
theorem dX3_advance_57 : decode cX3_advance 57 = .ok (.getfield 42, 3) := by decide +kernel
theorem dX3_advance_60 : decode cX3_advance 60 = .ok (.iload_n 1, 1) := by decide +kernel
theorem dX3_advance_61 : decode cX3_advance 61 = .ok (.dup2, 1) := by decide +kernel
theorem dX3_advance_62 : decode cX3_advance 62 = .ok (.iaload, 1) := by decide +kernel
theorem dX3_advance_63 : decode cX3_advance 63 = .ok (.iconst 1, 1) := by decide +kernel
theorem dX3_advance_64 : decode cX3_advance 64 = .ok (.iadd, 1) := by decide +kernel
theorem dX3_advance_65 : decode cX3_advance 65 = .ok (.iastore, 1) := by decide +kernel
theorem dX3_advance_66 : decode cX3_advance 66 = .ok (.iconst 0, 1) := by decide +kernel
theorem dX3_advance_67 : decode cX3_advance 67 = .ok (.istore 6, 2) := by decide +kernel
theorem dX3_advance_69 : decode cX3_advance 69 = .ok (.iload 6, 2) := by decide +kernel
theorem dX3_advance_71 : decode cX3_advance 71 = .ok (.aload_n 0, 1) := by decide +kernel
theorem dX3_advance_72 : decode cX3_advance 72 = .ok (.getfield 18, 3) := by decide +kernel
theorem dX3_advance_75 : decode cX3_advance 75 = .ok (.if_icmp .ge 54, 3) := by decide +kernel
theorem dX3_advance_78 : decode cX3_advance 78 = .ok (.aload_n 3, 1) := by decide +kernel
theorem dX3_advance_79 : decode cX3_advance 79 = .ok (.getfield 176, 3) := by decide +kernel
theorem dX3_advance_82 : decode cX3_advance 82 = .ok (.iload 6, 2) := by decide +kernel
theorem dX3_advance_84 : decode cX3_advance 84 = .ok (.iaload, 1) := by decide +kernel
theorem dX3_advance_85 : decode cX3_advance 85 = .ok (.istore 7, 2) := by decide +kernel
theorem dX3_advance_87 : decode cX3_advance 87 = .ok (.iload 7, 2) := by decide +kernel
theorem dX3_advance_89 : decode cX3_advance 89 = .ok (.iload 4, 2) := by decide +kernel
theorem dX3_advance_91 : decode cX3_advance 91 = .ok (.if_icmp .le 32, 3) := by decide +kernel
theorem dX3_advance_94 : decode cX3_advance 94 = .ok (.iload 7, 2) := by decide +kernel
theorem dX3_advance_96 : decode cX3_advance 96 = .ok (.iload 5, 2) := by decide +kernel
theorem dX3_advance_98 : decode cX3_advance 98 = .ok (.if_icmp .gt 25, 3) := by decide +kernel
theorem dX3_advance_101 : decode cX3_advance 101 = .ok (.aload_n 0, 1) := by decide +kernel
theorem dX3_advance_102 : decode cX3_advance 102 = .ok (.getfield 51, 3) := by decide +kernel
theorem dX3_advance_105 : decode cX3_advance 105 = .ok (.iload 6, 2) := by decide +kernel
theorem dX3_advance_107 : decode cX3_advance 107 = .ok (.bipush 20, 2) := by decide +kernel
theorem dX3_advance_109 : decode cX3_advance 109 = .ok (.imul, 1) := by decide +kernel
theorem dX3_advance_110 : decode cX3_advance 110 = .ok (.iload_n 1, 1) := by decide +kernel
theorem dX3_advance_111 : decode cX3_advance 111 = .ok (.iadd, 1) := by decide +kernel
theorem dX3_advance_112 : decode cX3_advance 112 = .ok (.aload_n 0, 1) := by decide +kernel
theorem dX3_advance_113 : decode cX3_advance 113 = .ok (.iload 7, 2) := by decide +kernel
theorem dX3_advance_115 : decode cX3_advance 115 = .ok (.iload 4, 2) := by decide +kernel
theorem dX3_advance_117 : decode cX3_advance 117 = .ok (.isub, 1) := by decide +kernel
theorem dX3_advance_118 : decode cX3_advance 118 = .ok (.iload_n 2, 1) := by decide +kernel
theorem dX3_advance_119 : decode cX3_advance 119 = .ok (.invokevirtual 179, 3) := by decide +kernel
theorem dX3_advance_122 : decode cX3_advance 122 = .ok (.iastore, 1) := by decide +kernel
theorem dX3_advance_123 : decode cX3_advance 123 = .ok (.iinc 6 1, 3) := by decide +kernel
theorem dX3_advance_126 : decode cX3_advance 126 = .ok (.goto (-57), 3) := by decide +kernel
theorem dX3_advance_129 : decode cX3_advance 129 = .ok (.iload 5, 2) := by decide +kernel
theorem dX3_advance_131 : decode cX3_advance 131 = .ok (.aload_n 3, 1) := by decide +kernel
theorem dX3_advance_132 : decode cX3_advance 132 = .ok (.invokevirtual 135, 3) := by decide +kernel
theorem dX3_advance_135 : decode cX3_advance 135 = .ok (.if_icmp .lt 25, 3) := by decide +kernel
theorem dX3_advance_138 : decode cX3_advance 138 = .ok (.aload_n 3, 1) := by decide +kernel
theorem dX3_advance_139 : decode cX3_advance 139 = .ok (.invokevirtual 135, 3) := by decide +kernel
theorem dX3_advance_142 : decode cX3_advance 142 = .ok (.istore 5, 2) := by decide +kernel
theorem dX3_advance_144 : decode cX3_advance 144 = .ok (.aload_n 0, 1) := by decide +kernel
theorem dX3_advance_145 : decode cX3_advance 145 = .ok (.getfield 39, 3) := by decide +kernel
theorem dX3_advance_148 : decode cX3_advance 148 = .ok (.iload_n 1, 1) := by decide +kernel
theorem dX3_advance_149 : decode cX3_advance 149 = .ok (.aload_n 0, 1) := by decide +kernel
theorem dX3_advance_150 : decode cX3_advance 150 = .ok (.iload 5, 2) := by decide +kernel
theorem dX3_advance_152 : decode cX3_advance 152 = .ok (.iload 4, 2) := by decide +kernel
theorem dX3_advance_154 : decode cX3_advance 154 = .ok (.isub, 1) := by decide +kernel
theorem dX3_advance_155 : decode cX3_advance 155 = .ok (.iload_n 2, 1) := by decide +kernel
theorem dX3_advance_156 : decode cX3_advance 156 = .ok (.invokevirtual 179, 3) := by decide +kernel
theorem dX3_advance_159 : decode cX3_advance 159 = .ok (.iastore, 1) := by decide +kernel
theorem dX3_advance_160 : decode cX3_advance 160 = .ok (.aload_n 0, 1) := by decide +kernel
theorem dX3_advance_161 : decode cX3_advance 161 = .ok (.getfield 32, 3) := by decide +kernel
theorem dX3_advance_164 : decode cX3_advance 164 = .ok (.iload_n 1, 1) := by decide +kernel
theorem dX3_advance_165 : decode cX3_advance 165 = .ok (.iload 5, 2) := by decide +kernel
theorem dX3_advance_167 : decode cX3_advance 167 = .ok (.iastore, 1) := by decide +kernel
theorem dX3_advance_168 : decode cX3_advance 168 = .ok (.return_, 1) := by decide +kernel
theorem dX3_begin_0 : decode cX3_begin 0 = .ok (.aload_n 0, 1) := by decide +kernel
theorem dX3_begin_1 : decode cX3_begin 1 = .ok (.iconst 0, 1) := by decide +kernel
theorem dX3_begin_2 : decode cX3_begin 2 = .ok (.putfield 9, 3) := by decide +kernel
theorem dX3_begin_5 : decode cX3_begin 5 = .ok (.aload_n 0, 1) := by decide +kernel
theorem dX3_begin_6 : decode cX3_begin 6 = .ok (.aload_n 2, 1) := by decide +kernel
theorem dX3_begin_7 : decode cX3_begin 7 = .ok (.getfield 67, 3) := by decide +kernel
theorem dX3_begin_10 : decode cX3_begin 10 = .ok (.putfield 18, 3) := by decide +kernel
theorem dX3_begin_13 : decode cX3_begin 13 = .ok (.aload_n 0, 1) := by decide +kernel
theorem dX3_begin_14 : decode cX3_begin 14 = .ok (.lload 4, 2) := by decide +kernel
theorem dX3_begin_16 : decode cX3_begin 16 = .ok (.putfield 21, 3) := by decide +kernel
theorem dX3_begin_19 : decode cX3_begin 19 = .ok (.iconst 0, 1) := by decide +kernel
theorem dX3_begin_20 : decode cX3_begin 20 = .ok (.istore 6, 2) := by decide +kernel
theorem dX3_begin_22 : decode cX3_begin 22 = .ok (.iload 6, 2) := by decide +kernel
theorem dX3_begin_24 : decode cX3_begin 24 = .ok (.iconst 5, 1) := by decide +kernel
theorem dX3_begin_25 : decode cX3_begin 25 = .ok (.if_icmp .ge 18, 3) := by decide +kernel
theorem dX3_begin_28 : decode cX3_begin 28 = .ok (.aload_n 0, 1) := by decide +kernel
theorem dX3_begin_29 : decode cX3_begin 29 = .ok (.getfield 54, 3) := by decide +kernel
theorem dX3_begin_32 : decode cX3_begin 32 = .ok (.iload 6, 2) := by decide +kernel
theorem dX3_begin_34 : decode cX3_begin 34 = .ok (.iload 6, 2) := by decide +kernel
theorem dX3_begin_36 : decode cX3_begin 36 = .ok (.iastore, 1) := by decide +kernel
theorem dX3_begin_37 : decode cX3_begin 37 = .ok (.iinc 6 1, 3) := by decide +kernel
theorem dX3_begin_40 : decode cX3_begin 40 = .ok (.goto (-18), 3) := by decide +kernel
theorem dX3_begin_43 : decode cX3_begin 43 = .ok (.iconst 0, 1) := by decide +kernel
theorem dX3_begin_44 : decode cX3_begin 44 = .ok (.istore 6, 2) := by decide +kernel
theorem dX3_begin_46 : decode cX3_begin 46 = .ok (.iload 6, 2) := by decide +kernel
theorem dX3_begin_48 : decode cX3_begin 48 = .ok (.bipush 20, 2) := by decide +kernel
theorem dX3_begin_50 : decode cX3_begin 50 = .ok (.if_icmp .ge 91, 3) := by decide +kernel
theorem dX3_begin_53 : decode cX3_begin 53 = .ok (.aload_n 0, 1) := by decide +kernel
theorem dX3_begin_54 : decode cX3_begin 54 = .ok (.getfield 28, 3) := by decide +kernel
theorem dX3_begin_57 : decode cX3_begin 57 = .ok (.iload 6, 2) := by decide +kernel
theorem dX3_begin_59 : decode cX3_begin 59 = .ok (.iload 6, 2) := by decide +kernel
theorem dX3_begin_61 : decode cX3_begin 61 = .ok (.aload_n 1, 1) := by decide +kernel
theorem dX3_begin_62 : decode cX3_begin 62 = .ok (.getfield 70, 3) := by decide +kernel
theorem dX3_begin_65 : decode cX3_begin 65 = .ok (.if_icmp .ge 14, 3) := by decide +kernel
theorem dX3_begin_68 : decode cX3_begin 68 = .ok (.aload_n 3, 1) := by decide +kernel
theorem dX3_begin_69 : decode cX3_begin 69 = .ok (.iload 6, 2) := by decide +kernel
theorem dX3_begin_71 : decode cX3_begin 71 = .ok (.baload, 1) := by decide +kernel
theorem dX3_begin_72 : decode cX3_begin 72 = .ok (.ifCond .ne 7, 3) := by decide +kernel
theorem dX3_begin_75 : decode cX3_begin 75 = .ok (.iconst 1, 1) := by decide +kernel
theorem dX3_begin_76 : decode cX3_begin 76 = .ok (.goto 4, 3) := by decide +kernel
theorem dX3_begin_79 : decode cX3_begin 79 = .ok (.iconst 0, 1) := by decide +kernel
theorem dX3_begin_80 : decode cX3_begin 80 = .ok (.bastore, 1) := by decide +kernel
theorem dX3_begin_81 : decode cX3_begin 81 = .ok (.aload_n 0, 1) := by decide +kernel
theorem dX3_begin_82 : decode cX3_begin 82 = .ok (.getfield 32, 3) := by decide +kernel
theorem dX3_begin_85 : decode cX3_begin 85 = .ok (.iload 6, 2) := by decide +kernel
theorem dX3_begin_87 : decode cX3_begin 87 = .ok (.iconst 0, 1) := by decide +kernel
theorem dX3_begin_88 : decode cX3_begin 88 = .ok (.iastore, 1) := by decide +kernel
theorem dX3_begin_89 : decode cX3_begin 89 = .ok (.aload_n 0, 1) := by decide +kernel
theorem dX3_begin_90 : decode cX3_begin 90 = .ok (.getfield 36, 3) := by decide +kernel
theorem dX3_begin_93 : decode cX3_begin 93 = .ok (.iload 6, 2) := by decide +kernel
theorem dX3_begin_95 : decode cX3_begin 95 = .ok (.aload_n 1, 1) := by decide +kernel
theorem dX3_begin_96 : decode cX3_begin 96 = .ok (.getfield 75, 3) := by decide +kernel
theorem dX3_begin_99 : decode cX3_begin 99 = .ok (.iload 6, 2) := by decide +kernel
theorem dX3_begin_101 : decode cX3_begin 101 = .ok (.iaload, 1) := by decide +kernel
theorem dX3_begin_102 : decode cX3_begin 102 = .ok (.iastore, 1) := by decide +kernel
theorem dX3_begin_103 : decode cX3_begin 103 = .ok (.aload_n 0, 1) := by decide +kernel
theorem dX3_begin_104 : decode cX3_begin 104 = .ok (.getfield 39, 3) := by decide +kernel
theorem dX3_begin_107 : decode cX3_begin 107 = .ok (.iload 6, 2) := by decide +kernel
theorem dX3_begin_109 : decode cX3_begin 109 = .ok (.iconst (-1), 1) := by decide +kernel
theorem dX3_begin_110 : decode cX3_begin 110 = .ok (.iastore, 1) := by decide +kernel
theorem dX3_begin_111 : decode cX3_begin 111 = .ok (.aload_n 0, 1) := by decide +kernel
theorem dX3_begin_112 : decode cX3_begin 112 = .ok (.getfield 42, 3) := by decide +kernel
theorem dX3_begin_115 : decode cX3_begin 115 = .ok (.iload 6, 2) := by decide +kernel
theorem dX3_begin_117 : decode cX3_begin 117 = .ok (.iconst 0, 1) := by decide +kernel
theorem dX3_begin_118 : decode cX3_begin 118 = .ok (.iastore, 1) := by decide +kernel
theorem dX3_begin_119 : decode cX3_begin 119 = .ok (.aload_n 0, 1) := by decide +kernel
theorem dX3_begin_120 : decode cX3_begin 120 = .ok (.getfield 45, 3) := by decide +kernel
theorem dX3_begin_123 : decode cX3_begin 123 = .ok (.iload 6, 2) := by decide +kernel
theorem dX3_begin_125 : decode cX3_begin 125 = .ok (.iconst 0, 1) := by decide +kernel
theorem dX3_begin_126 : decode cX3_begin 126 = .ok (.iastore, 1) := by decide +kernel
theorem dX3_begin_127 : decode cX3_begin 127 = .ok (.aload_n 0, 1) := by decide +kernel
theorem dX3_begin_128 : decode cX3_begin 128 = .ok (.getfield 48, 3) := by decide +kernel
theorem dX3_begin_131 : decode cX3_begin 131 = .ok (.iload 6, 2) := by decide +kernel
theorem dX3_begin_133 : decode cX3_begin 133 = .ok (.iconst 0, 1) := by decide +kernel
theorem dX3_begin_134 : decode cX3_begin 134 = .ok (.iastore, 1) := by decide +kernel
theorem dX3_begin_135 : decode cX3_begin 135 = .ok (.iinc 6 1, 3) := by decide +kernel
theorem dX3_begin_138 : decode cX3_begin 138 = .ok (.goto (-92), 3) := by decide +kernel
theorem dX3_begin_141 : decode cX3_begin 141 = .ok (.iconst 0, 1) := by decide +kernel
theorem dX3_begin_142 : decode cX3_begin 142 = .ok (.istore 6, 2) := by decide +kernel
theorem dX3_begin_144 : decode cX3_begin 144 = .ok (.iload 6, 2) := by decide +kernel
theorem dX3_begin_146 : decode cX3_begin 146 = .ok (.bipush 100, 2) := by decide +kernel
theorem dX3_begin_148 : decode cX3_begin 148 = .ok (.if_icmp .ge 17, 3) := by decide +kernel
theorem dX3_begin_151 : decode cX3_begin 151 = .ok (.aload_n 0, 1) := by decide +kernel
theorem dX3_begin_152 : decode cX3_begin 152 = .ok (.getfield 51, 3) := by decide +kernel
theorem dX3_begin_155 : decode cX3_begin 155 = .ok (.iload 6, 2) := by decide +kernel
theorem dX3_begin_157 : decode cX3_begin 157 = .ok (.iconst (-1), 1) := by decide +kernel
theorem dX3_begin_158 : decode cX3_begin 158 = .ok (.iastore, 1) := by decide +kernel
theorem dX3_begin_159 : decode cX3_begin 159 = .ok (.iinc 6 1, 3) := by decide +kernel
theorem dX3_begin_162 : decode cX3_begin 162 = .ok (.goto (-18), 3) := by decide +kernel
theorem dX3_begin_165 : decode cX3_begin 165 = .ok (.aload_n 0, 1) := by decide +kernel
theorem dX3_begin_166 : decode cX3_begin 166 = .ok (.invokevirtual 78, 3) := by decide +kernel
theorem dX3_begin_169 : decode cX3_begin 169 = .ok (.return_, 1) := by decide +kernel
theorem dX3_drawsCrash_0 : decode cX3_drawsCrash 0 = .ok (.aload_n 0, 1) := by decide +kernel
theorem dX3_drawsCrash_1 : decode cX3_drawsCrash 1 = .ok (.aload_n 0, 1) := by decide +kernel
theorem dX3_drawsCrash_2 : decode cX3_drawsCrash 2 = .ok (.getfield 21, 3) := by decide +kernel
theorem dX3_drawsCrash_5 : decode cX3_drawsCrash 5 = .ok (.ldc2_w 182, 3) := by decide +kernel
theorem dX3_drawsCrash_8 : decode cX3_drawsCrash 8 = .ok (.lmul, 1) := by decide +kernel
theorem dX3_drawsCrash_9 : decode cX3_drawsCrash 9 = .ok (.ldc2_w 184, 3) := by decide +kernel
theorem dX3_drawsCrash_12 : decode cX3_drawsCrash 12 = .ok (.ladd, 1) := by decide +kernel
theorem dX3_drawsCrash_13 : decode cX3_drawsCrash 13 = .ok (.putfield 21, 3) := by decide +kernel
theorem dX3_drawsCrash_16 : decode cX3_drawsCrash 16 = .ok (.aload_n 0, 1) := by decide +kernel
theorem dX3_drawsCrash_17 : decode cX3_drawsCrash 17 = .ok (.getfield 21, 3) := by decide +kernel
theorem dX3_drawsCrash_20 : decode cX3_drawsCrash 20 = .ok (.bipush 33, 2) := by decide +kernel
theorem dX3_drawsCrash_22 : decode cX3_drawsCrash 22 = .ok (.lushr, 1) := by decide +kernel
theorem dX3_drawsCrash_23 : decode cX3_drawsCrash 23 = .ok (.ldc2_w 186, 3) := by decide +kernel
theorem dX3_drawsCrash_26 : decode cX3_drawsCrash 26 = .ok (.lrem, 1) := by decide +kernel
theorem dX3_drawsCrash_27 : decode cX3_drawsCrash 27 = .ok (.iload_n 1, 1) := by decide +kernel
theorem dX3_drawsCrash_28 : decode cX3_drawsCrash 28 = .ok (.i2l, 1) := by decide +kernel
theorem dX3_drawsCrash_29 : decode cX3_drawsCrash 29 = .ok (.lcmp, 1) := by decide +kernel
theorem dX3_drawsCrash_30 : decode cX3_drawsCrash 30 = .ok (.ifCond .ge 7, 3) := by decide +kernel
theorem dX3_drawsCrash_33 : decode cX3_drawsCrash 33 = .ok (.iconst 1, 1) := by decide +kernel
theorem dX3_drawsCrash_34 : decode cX3_drawsCrash 34 = .ok (.goto 4, 3) := by decide +kernel
theorem dX3_drawsCrash_37 : decode cX3_drawsCrash 37 = .ok (.iconst 0, 1) := by decide +kernel
theorem dX3_drawsCrash_38 : decode cX3_drawsCrash 38 = .ok (.ireturn, 1) := by decide +kernel
theorem dX3_foremostOf_0 : decode cX3_foremostOf 0 = .ok (.iconst 0, 1) := by decide +kernel
theorem dX3_foremostOf_1 : decode cX3_foremostOf 1 = .ok (.istore_n 3, 1) := by decide +kernel
theorem dX3_foremostOf_2 : decode cX3_foremostOf 2 = .ok (.iconst 0, 1) := by decide +kernel
theorem dX3_foremostOf_3 : decode cX3_foremostOf 3 = .ok (.istore 4, 2) := by decide +kernel
theorem dX3_foremostOf_5 : decode cX3_foremostOf 5 = .ok (.iload 4, 2) := by decide +kernel
theorem dX3_foremostOf_7 : decode cX3_foremostOf 7 = .ok (.bipush 20, 2) := by decide +kernel
theorem dX3_foremostOf_9 : decode cX3_foremostOf 9 = .ok (.if_icmp .ge 42, 3) := by decide +kernel
theorem dX3_foremostOf_12 : decode cX3_foremostOf 12 = .ok (.aload_n 0, 1) := by decide +kernel
theorem dX3_foremostOf_13 : decode cX3_foremostOf 13 = .ok (.getfield 28, 3) := by decide +kernel
theorem dX3_foremostOf_16 : decode cX3_foremostOf 16 = .ok (.iload 4, 2) := by decide +kernel
theorem dX3_foremostOf_18 : decode cX3_foremostOf 18 = .ok (.baload, 1) := by decide +kernel
theorem dX3_foremostOf_19 : decode cX3_foremostOf 19 = .ok (.ifCond .eq 26, 3) := by decide +kernel
theorem dX3_foremostOf_22 : decode cX3_foremostOf 22 = .ok (.aload_n 2, 1) := by decide +kernel
theorem dX3_foremostOf_23 : decode cX3_foremostOf 23 = .ok (.getfield 143, 3) := by decide +kernel
theorem dX3_foremostOf_26 : decode cX3_foremostOf 26 = .ok (.iload 4, 2) := by decide +kernel
theorem dX3_foremostOf_28 : decode cX3_foremostOf 28 = .ok (.iaload, 1) := by decide +kernel
theorem dX3_foremostOf_29 : decode cX3_foremostOf 29 = .ok (.iload_n 1, 1) := by decide +kernel
theorem dX3_foremostOf_30 : decode cX3_foremostOf 30 = .ok (.if_icmp .ne 15, 3) := by decide +kernel
theorem dX3_foremostOf_33 : decode cX3_foremostOf 33 = .ok (.iload_n 3, 1) := by decide +kernel
theorem dX3_foremostOf_34 : decode cX3_foremostOf 34 = .ok (.aload_n 0, 1) := by decide +kernel
theorem dX3_foremostOf_35 : decode cX3_foremostOf 35 = .ok (.getfield 32, 3) := by decide +kernel
theorem dX3_foremostOf_38 : decode cX3_foremostOf 38 = .ok (.iload 4, 2) := by decide +kernel
theorem dX3_foremostOf_40 : decode cX3_foremostOf 40 = .ok (.iaload, 1) := by decide +kernel
theorem dX3_foremostOf_41 : decode cX3_foremostOf 41 = .ok (.invokestatic 97, 3) := by decide +kernel
theorem dX3_foremostOf_44 : decode cX3_foremostOf 44 = .ok (.istore_n 3, 1) := by decide +kernel
theorem dX3_foremostOf_45 : decode cX3_foremostOf 45 = .ok (.iinc 4 1, 3) := by decide +kernel
theorem dX3_foremostOf_48 : decode cX3_foremostOf 48 = .ok (.goto (-43), 3) := by decide +kernel
theorem dX3_foremostOf_51 : decode cX3_foremostOf 51 = .ok (.iload_n 3, 1) := by decide +kernel
theorem dX3_foremostOf_52 : decode cX3_foremostOf 52 = .ok (.ireturn, 1) := by decide +kernel
theorem dX3_lessenHolds_0 : decode cX3_lessenHolds 0 = .ok (.iconst 0, 1) := by decide +kernel
theorem dX3_lessenHolds_1 : decode cX3_lessenHolds 1 = .ok (.istore_n 1, 1) := by decide +kernel
theorem dX3_lessenHolds_2 : decode cX3_lessenHolds 2 = .ok (.iload_n 1, 1) := by decide +kernel
theorem dX3_lessenHolds_3 : decode cX3_lessenHolds 3 = .ok (.bipush 20, 2) := by decide +kernel
theorem dX3_lessenHolds_5 : decode cX3_lessenHolds 5 = .ok (.if_icmp .ge 28, 3) := by decide +kernel
theorem dX3_lessenHolds_8 : decode cX3_lessenHolds 8 = .ok (.aload_n 0, 1) := by decide +kernel
theorem dX3_lessenHolds_9 : decode cX3_lessenHolds 9 = .ok (.getfield 48, 3) := by decide +kernel
theorem dX3_lessenHolds_12 : decode cX3_lessenHolds 12 = .ok (.iload_n 1, 1) := by decide +kernel
theorem dX3_lessenHolds_13 : decode cX3_lessenHolds 13 = .ok (.iaload, 1) := by decide +kernel
theorem dX3_lessenHolds_14 : decode cX3_lessenHolds 14 = .ok (.ifCond .le 13, 3) := by decide +kernel
theorem dX3_lessenHolds_17 : decode cX3_lessenHolds 17 = .ok (.aload_n 0, 1) := by decide +kernel
theorem dX3_lessenHolds_18 : decode cX3_lessenHolds 18 = .ok (.getfield 48, 3) := by decide +kernel
theorem dX3_lessenHolds_21 : decode cX3_lessenHolds 21 = .ok (.iload_n 1, 1) := by decide +kernel
theorem dX3_lessenHolds_22 : decode cX3_lessenHolds 22 = .ok (.dup2, 1) := by decide +kernel
theorem dX3_lessenHolds_23 : decode cX3_lessenHolds 23 = .ok (.iaload, 1) := by decide +kernel
theorem dX3_lessenHolds_24 : decode cX3_lessenHolds 24 = .ok (.iconst 1, 1) := by decide +kernel
theorem dX3_lessenHolds_25 : decode cX3_lessenHolds 25 = .ok (.isub, 1) := by decide +kernel
theorem dX3_lessenHolds_26 : decode cX3_lessenHolds 26 = .ok (.iastore, 1) := by decide +kernel
theorem dX3_lessenHolds_27 : decode cX3_lessenHolds 27 = .ok (.iinc 1 1, 3) := by decide +kernel
theorem dX3_lessenHolds_30 : decode cX3_lessenHolds 30 = .ok (.goto (-28), 3) := by decide +kernel
theorem dX3_lessenHolds_33 : decode cX3_lessenHolds 33 = .ok (.return_, 1) := by decide +kernel
theorem dX3_lineUp_0 : decode cX3_lineUp 0 = .ok (.aload_n 0, 1) := by decide +kernel
theorem dX3_lineUp_1 : decode cX3_lineUp 1 = .ok (.getfield 60, 3) := by decide +kernel
theorem dX3_lineUp_4 : decode cX3_lineUp 4 = .ok (.invokevirtual 94, 3) := by decide +kernel
theorem dX3_lineUp_7 : decode cX3_lineUp 7 = .ok (.aload_n 0, 1) := by decide +kernel
theorem dX3_lineUp_8 : decode cX3_lineUp 8 = .ok (.iconst 0, 1) := by decide +kernel
theorem dX3_lineUp_9 : decode cX3_lineUp 9 = .ok (.putfield 15, 3) := by decide +kernel
theorem dX3_lineUp_12 : decode cX3_lineUp 12 = .ok (.aload_n 0, 1) := by decide +kernel
theorem dX3_lineUp_13 : decode cX3_lineUp 13 = .ok (.iconst 0, 1) := by decide +kernel
theorem dX3_lineUp_14 : decode cX3_lineUp 14 = .ok (.putfield 25, 3) := by decide +kernel
theorem dX3_lineUp_17 : decode cX3_lineUp 17 = .ok (.iconst 0, 1) := by decide +kernel
theorem dX3_lineUp_18 : decode cX3_lineUp 18 = .ok (.istore_n 1, 1) := by decide +kernel
theorem dX3_lineUp_19 : decode cX3_lineUp 19 = .ok (.iload_n 1, 1) := by decide +kernel
theorem dX3_lineUp_20 : decode cX3_lineUp 20 = .ok (.bipush 20, 2) := by decide +kernel
theorem dX3_lineUp_22 : decode cX3_lineUp 22 = .ok (.if_icmp .ge 76, 3) := by decide +kernel
theorem dX3_lineUp_25 : decode cX3_lineUp 25 = .ok (.aload_n 0, 1) := by decide +kernel
theorem dX3_lineUp_26 : decode cX3_lineUp 26 = .ok (.getfield 28, 3) := by decide +kernel
theorem dX3_lineUp_29 : decode cX3_lineUp 29 = .ok (.iload_n 1, 1) := by decide +kernel
theorem dX3_lineUp_30 : decode cX3_lineUp 30 = .ok (.baload, 1) := by decide +kernel
theorem dX3_lineUp_31 : decode cX3_lineUp 31 = .ok (.ifCond .eq 61, 3) := by decide +kernel
theorem dX3_lineUp_34 : decode cX3_lineUp 34 = .ok (.aload_n 0, 1) := by decide +kernel
theorem dX3_lineUp_35 : decode cX3_lineUp 35 = .ok (.getfield 39, 3) := by decide +kernel
theorem dX3_lineUp_38 : decode cX3_lineUp 38 = .ok (.iload_n 1, 1) := by decide +kernel
theorem dX3_lineUp_39 : decode cX3_lineUp 39 = .ok (.iaload, 1) := by decide +kernel
theorem dX3_lineUp_40 : decode cX3_lineUp 40 = .ok (.iconst (-1), 1) := by decide +kernel
theorem dX3_lineUp_41 : decode cX3_lineUp 41 = .ok (.if_icmp .ne 51, 3) := by decide +kernel
theorem dX3_lineUp_44 : decode cX3_lineUp 44 = .ok (.aload_n 0, 1) := by decide +kernel
theorem dX3_lineUp_45 : decode cX3_lineUp 45 = .ok (.dup, 1) := by decide +kernel
theorem dX3_lineUp_46 : decode cX3_lineUp 46 = .ok (.getfield 15, 3) := by decide +kernel
theorem dX3_lineUp_49 : decode cX3_lineUp 49 = .ok (.iconst 1, 1) := by decide +kernel
theorem dX3_lineUp_50 : decode cX3_lineUp 50 = .ok (.iadd, 1) := by decide +kernel
theorem dX3_lineUp_51 : decode cX3_lineUp 51 = .ok (.putfield 15, 3) := by decide +kernel
theorem dX3_lineUp_54 : decode cX3_lineUp 54 = .ok (.aload_n 0, 1) := by decide +kernel
theorem dX3_lineUp_55 : decode cX3_lineUp 55 = .ok (.aload_n 0, 1) := by decide +kernel
theorem dX3_lineUp_56 : decode cX3_lineUp 56 = .ok (.getfield 25, 3) := by decide +kernel
theorem dX3_lineUp_59 : decode cX3_lineUp 59 = .ok (.aload_n 0, 1) := by decide +kernel
theorem dX3_lineUp_60 : decode cX3_lineUp 60 = .ok (.getfield 32, 3) := by decide +kernel
theorem dX3_lineUp_63 : decode cX3_lineUp 63 = .ok (.iload_n 1, 1) := by decide +kernel
theorem dX3_lineUp_64 : decode cX3_lineUp 64 = .ok (.iaload, 1) := by decide +kernel
theorem dX3_lineUp_65 : decode cX3_lineUp 65 = .ok (.invokestatic 97, 3) := by decide +kernel
theorem dX3_lineUp_68 : decode cX3_lineUp 68 = .ok (.putfield 25, 3) := by decide +kernel
theorem dX3_lineUp_71 : decode cX3_lineUp 71 = .ok (.aload_n 0, 1) := by decide +kernel
theorem dX3_lineUp_72 : decode cX3_lineUp 72 = .ok (.getfield 48, 3) := by decide +kernel
theorem dX3_lineUp_75 : decode cX3_lineUp 75 = .ok (.iload_n 1, 1) := by decide +kernel
theorem dX3_lineUp_76 : decode cX3_lineUp 76 = .ok (.iaload, 1) := by decide +kernel
theorem dX3_lineUp_77 : decode cX3_lineUp 77 = .ok (.ifCond .ne 15, 3) := by decide +kernel
theorem dX3_lineUp_80 : decode cX3_lineUp 80 = .ok (.aload_n 0, 1) := by decide +kernel
theorem dX3_lineUp_81 : decode cX3_lineUp 81 = .ok (.getfield 60, 3) := by decide +kernel
theorem dX3_lineUp_84 : decode cX3_lineUp 84 = .ok (.iload_n 1, 1) := by decide +kernel
theorem dX3_lineUp_85 : decode cX3_lineUp 85 = .ok (.aload_n 0, 1) := by decide +kernel
theorem dX3_lineUp_86 : decode cX3_lineUp 86 = .ok (.getfield 32, 3) := by decide +kernel
theorem dX3_lineUp_89 : decode cX3_lineUp 89 = .ok (.invokevirtual 103, 3) := by decide +kernel
theorem dX3_lineUp_92 : decode cX3_lineUp 92 = .ok (.iinc 1 1, 3) := by decide +kernel
theorem dX3_lineUp_95 : decode cX3_lineUp 95 = .ok (.goto (-76), 3) := by decide +kernel
theorem dX3_lineUp_98 : decode cX3_lineUp 98 = .ok (.aload_n 0, 1) := by decide +kernel
theorem dX3_lineUp_99 : decode cX3_lineUp 99 = .ok (.getfield 60, 3) := by decide +kernel
theorem dX3_lineUp_102 : decode cX3_lineUp 102 = .ok (.aload_n 0, 1) := by decide +kernel
theorem dX3_lineUp_103 : decode cX3_lineUp 103 = .ok (.getfield 32, 3) := by decide +kernel
theorem dX3_lineUp_106 : decode cX3_lineUp 106 = .ok (.invokevirtual 107, 3) := by decide +kernel
theorem dX3_lineUp_109 : decode cX3_lineUp 109 = .ok (.return_, 1) := by decide +kernel
theorem dX3_look_0 : decode cX3_look 0 = .ok (.aload_n 0, 1) := by decide +kernel
theorem dX3_look_1 : decode cX3_look 1 = .ok (.getfield 64, 3) := by decide +kernel
theorem dX3_look_4 : decode cX3_look 4 = .ok (.iconst 0, 1) := by decide +kernel
theorem dX3_look_5 : decode cX3_look 5 = .ok (.iload_n 2, 1) := by decide +kernel
theorem dX3_look_6 : decode cX3_look 6 = .ok (.ifCond .ne 7, 3) := by decide +kernel
theorem dX3_look_9 : decode cX3_look 9 = .ok (.iconst 0, 1) := by decide +kernel
theorem dX3_look_10 : decode cX3_look 10 = .ok (.goto 14, 3) := by decide +kernel
theorem dX3_look_13 : decode cX3_look 13 = .ok (.aload_n 0, 1) := by decide +kernel
theorem dX3_look_14 : decode cX3_look 14 = .ok (.getfield 36, 3) := by decide +kernel
theorem dX3_look_17 : decode cX3_look 17 = .ok (.iload_n 1, 1) := by decide +kernel
theorem dX3_look_18 : decode cX3_look 18 = .ok (.iaload, 1) := by decide +kernel
theorem dX3_look_19 : decode cX3_look 19 = .ok (.bipush 100, 2) := by decide +kernel
theorem dX3_look_21 : decode cX3_look 21 = .ok (.imul, 1) := by decide +kernel
theorem dX3_look_22 : decode cX3_look 22 = .ok (.iload_n 2, 1) := by decide +kernel
theorem dX3_look_23 : decode cX3_look 23 = .ok (.idiv, 1) := by decide +kernel
theorem dX3_look_24 : decode cX3_look 24 = .ok (.iastore, 1) := by decide +kernel
theorem dX3_look_25 : decode cX3_look 25 = .ok (.aload_n 0, 1) := by decide +kernel
theorem dX3_look_26 : decode cX3_look 26 = .ok (.getfield 64, 3) := by decide +kernel
theorem dX3_look_29 : decode cX3_look 29 = .ok (.iconst 1, 1) := by decide +kernel
theorem dX3_look_30 : decode cX3_look 30 = .ok (.iload_n 3, 1) := by decide +kernel
theorem dX3_look_31 : decode cX3_look 31 = .ok (.aload_n 0, 1) := by decide +kernel
theorem dX3_look_32 : decode cX3_look 32 = .ok (.getfield 32, 3) := by decide +kernel
theorem dX3_look_35 : decode cX3_look 35 = .ok (.iload_n 1, 1) := by decide +kernel
theorem dX3_look_36 : decode cX3_look 36 = .ok (.iaload, 1) := by decide +kernel
theorem dX3_look_37 : decode cX3_look 37 = .ok (.isub, 1) := by decide +kernel
theorem dX3_look_38 : decode cX3_look 38 = .ok (.sipush 1000, 3) := by decide +kernel
theorem dX3_look_41 : decode cX3_look 41 = .ok (.idiv, 1) := by decide +kernel
theorem dX3_look_42 : decode cX3_look 42 = .ok (.iastore, 1) := by decide +kernel
theorem dX3_look_43 : decode cX3_look 43 = .ok (.aload_n 0, 1) := by decide +kernel
theorem dX3_look_44 : decode cX3_look 44 = .ok (.getfield 64, 3) := by decide +kernel
theorem dX3_look_47 : decode cX3_look 47 = .ok (.iconst 2, 1) := by decide +kernel
theorem dX3_look_48 : decode cX3_look 48 = .ok (.aload_n 0, 1) := by decide +kernel
theorem dX3_look_49 : decode cX3_look 49 = .ok (.getfield 25, 3) := by decide +kernel
theorem dX3_look_52 : decode cX3_look 52 = .ok (.aload_n 0, 1) := by decide +kernel
theorem dX3_look_53 : decode cX3_look 53 = .ok (.getfield 32, 3) := by decide +kernel
theorem dX3_look_56 : decode cX3_look 56 = .ok (.iload_n 1, 1) := by decide +kernel
theorem dX3_look_57 : decode cX3_look 57 = .ok (.iaload, 1) := by decide +kernel
theorem dX3_look_58 : decode cX3_look 58 = .ok (.isub, 1) := by decide +kernel
theorem dX3_look_59 : decode cX3_look 59 = .ok (.bipush 10, 2) := by decide +kernel
theorem dX3_look_61 : decode cX3_look 61 = .ok (.idiv, 1) := by decide +kernel
theorem dX3_look_62 : decode cX3_look 62 = .ok (.iastore, 1) := by decide +kernel
theorem dX3_look_63 : decode cX3_look 63 = .ok (.aload_n 0, 1) := by decide +kernel
theorem dX3_look_64 : decode cX3_look 64 = .ok (.getfield 64, 3) := by decide +kernel
theorem dX3_look_67 : decode cX3_look 67 = .ok (.iconst 3, 1) := by decide +kernel
theorem dX3_look_68 : decode cX3_look 68 = .ok (.aload_n 0, 1) := by decide +kernel
theorem dX3_look_69 : decode cX3_look 69 = .ok (.getfield 60, 3) := by decide +kernel
theorem dX3_look_72 : decode cX3_look 72 = .ok (.getfield 163, 3) := by decide +kernel
theorem dX3_look_75 : decode cX3_look 75 = .ok (.iload_n 1, 1) := by decide +kernel
theorem dX3_look_76 : decode cX3_look 76 = .ok (.iaload, 1) := by decide +kernel
theorem dX3_look_77 : decode cX3_look 77 = .ok (.iastore, 1) := by decide +kernel
theorem dX3_look_78 : decode cX3_look 78 = .ok (.aload_n 0, 1) := by decide +kernel
theorem dX3_look_79 : decode cX3_look 79 = .ok (.getfield 64, 3) := by decide +kernel
theorem dX3_look_82 : decode cX3_look 82 = .ok (.iconst 4, 1) := by decide +kernel
theorem dX3_look_83 : decode cX3_look 83 = .ok (.aload_n 0, 1) := by decide +kernel
theorem dX3_look_84 : decode cX3_look 84 = .ok (.getfield 60, 3) := by decide +kernel
theorem dX3_look_87 : decode cX3_look 87 = .ok (.getfield 123, 3) := by decide +kernel
theorem dX3_look_90 : decode cX3_look 90 = .ok (.iload_n 1, 1) := by decide +kernel
theorem dX3_look_91 : decode cX3_look 91 = .ok (.iaload, 1) := by decide +kernel
theorem dX3_look_92 : decode cX3_look 92 = .ok (.iastore, 1) := by decide +kernel
theorem dX3_look_93 : decode cX3_look 93 = .ok (.return_, 1) := by decide +kernel
theorem dX3_metresOf_0 : decode cX3_metresOf 0 = .ok (.bipush 100, 2) := by decide +kernel
theorem dX3_metresOf_2 : decode cX3_metresOf 2 = .ok (.sipush 300, 3) := by decide +kernel
theorem dX3_metresOf_5 : decode cX3_metresOf 5 = .ok (.bipush 40, 2) := by decide +kernel
theorem dX3_metresOf_7 : decode cX3_metresOf 7 = .ok (.iload_n 0, 1) := by decide +kernel
theorem dX3_metresOf_8 : decode cX3_metresOf 8 = .ok (.imul, 1) := by decide +kernel
theorem dX3_metresOf_9 : decode cX3_metresOf 9 = .ok (.iadd, 1) := by decide +kernel
theorem dX3_metresOf_10 : decode cX3_metresOf 10 = .ok (.bipush 15, 2) := by decide +kernel
theorem dX3_metresOf_12 : decode cX3_metresOf 12 = .ok (.iload_n 1, 1) := by decide +kernel
theorem dX3_metresOf_13 : decode cX3_metresOf 13 = .ok (.imul, 1) := by decide +kernel
theorem dX3_metresOf_14 : decode cX3_metresOf 14 = .ok (.isub, 1) := by decide +kernel
theorem dX3_metresOf_15 : decode cX3_metresOf 15 = .ok (.invokestatic 97, 3) := by decide +kernel
theorem dX3_metresOf_18 : decode cX3_metresOf 18 = .ok (.ireturn, 1) := by decide +kernel
theorem dX3_placeIn_0 : decode cX3_placeIn 0 = .ok (.aload_n 0, 1) := by decide +kernel
theorem dX3_placeIn_1 : decode cX3_placeIn 1 = .ok (.iload_n 1, 1) := by decide +kernel
theorem dX3_placeIn_2 : decode cX3_placeIn 2 = .ok (.iload_n 2, 1) := by decide +kernel
theorem dX3_placeIn_3 : decode cX3_placeIn 3 = .ok (.iadd, 1) := by decide +kernel
theorem dX3_placeIn_4 : decode cX3_placeIn 4 = .ok (.iaload, 1) := by decide +kernel
theorem dX3_placeIn_5 : decode cX3_placeIn 5 = .ok (.istore_n 3, 1) := by decide +kernel
theorem dX3_placeIn_6 : decode cX3_placeIn 6 = .ok (.iload_n 3, 1) := by decide +kernel
theorem dX3_placeIn_7 : decode cX3_placeIn 7 = .ok (.iconst (-1), 1) := by decide +kernel
theorem dX3_placeIn_8 : decode cX3_placeIn 8 = .ok (.if_icmp .ne 5, 3) := by decide +kernel
theorem dX3_placeIn_11 : decode cX3_placeIn 11 = .ok (.iconst 0, 1) := by decide +kernel
theorem dX3_placeIn_12 : decode cX3_placeIn 12 = .ok (.ireturn, 1) := by decide +kernel
theorem dX3_placeIn_13 : decode cX3_placeIn 13 = .ok (.iconst 1, 1) := by decide +kernel
theorem dX3_placeIn_14 : decode cX3_placeIn 14 = .ok (.istore 4, 2) := by decide +kernel
theorem dX3_placeIn_16 : decode cX3_placeIn 16 = .ok (.iconst 0, 1) := by decide +kernel
theorem dX3_placeIn_17 : decode cX3_placeIn 17 = .ok (.istore 5, 2) := by decide +kernel
theorem dX3_placeIn_19 : decode cX3_placeIn 19 = .ok (.iload 5, 2) := by decide +kernel
theorem dX3_placeIn_21 : decode cX3_placeIn 21 = .ok (.bipush 20, 2) := by decide +kernel
theorem dX3_placeIn_23 : decode cX3_placeIn 23 = .ok (.if_icmp .ge 44, 3) := by decide +kernel
theorem dX3_placeIn_26 : decode cX3_placeIn 26 = .ok (.aload_n 0, 1) := by decide +kernel
theorem dX3_placeIn_27 : decode cX3_placeIn 27 = .ok (.iload_n 1, 1) := by decide +kernel
theorem dX3_placeIn_28 : decode cX3_placeIn 28 = .ok (.iload 5, 2) := by decide +kernel
theorem dX3_placeIn_30 : decode cX3_placeIn 30 = .ok (.iadd, 1) := by decide +kernel
theorem dX3_placeIn_31 : decode cX3_placeIn 31 = .ok (.iaload, 1) := by decide +kernel
theorem dX3_placeIn_32 : decode cX3_placeIn 32 = .ok (.istore 6, 2) := by decide +kernel
theorem dX3_placeIn_34 : decode cX3_placeIn 34 = .ok (.iload 6, 2) := by decide +kernel
theorem dX3_placeIn_36 : decode cX3_placeIn 36 = .ok (.iconst (-1), 1) := by decide +kernel
theorem dX3_placeIn_37 : decode cX3_placeIn 37 = .ok (.if_icmp .eq 24, 3) := by decide +kernel
theorem dX3_placeIn_40 : decode cX3_placeIn 40 = .ok (.iload 6, 2) := by decide +kernel
theorem dX3_placeIn_42 : decode cX3_placeIn 42 = .ok (.iload_n 3, 1) := by decide +kernel
theorem dX3_placeIn_43 : decode cX3_placeIn 43 = .ok (.if_icmp .lt 15, 3) := by decide +kernel
theorem dX3_placeIn_46 : decode cX3_placeIn 46 = .ok (.iload 6, 2) := by decide +kernel
theorem dX3_placeIn_48 : decode cX3_placeIn 48 = .ok (.iload_n 3, 1) := by decide +kernel
theorem dX3_placeIn_49 : decode cX3_placeIn 49 = .ok (.if_icmp .ne 12, 3) := by decide +kernel
theorem dX3_placeIn_52 : decode cX3_placeIn 52 = .ok (.iload 5, 2) := by decide +kernel
theorem dX3_placeIn_54 : decode cX3_placeIn 54 = .ok (.iload_n 2, 1) := by decide +kernel
theorem dX3_placeIn_55 : decode cX3_placeIn 55 = .ok (.if_icmp .ge 6, 3) := by decide +kernel
theorem dX3_placeIn_58 : decode cX3_placeIn 58 = .ok (.iinc 4 1, 3) := by decide +kernel
theorem dX3_placeIn_61 : decode cX3_placeIn 61 = .ok (.iinc 5 1, 3) := by decide +kernel
theorem dX3_placeIn_64 : decode cX3_placeIn 64 = .ok (.goto (-45), 3) := by decide +kernel
theorem dX3_placeIn_67 : decode cX3_placeIn 67 = .ok (.iload 4, 2) := by decide +kernel
theorem dX3_placeIn_69 : decode cX3_placeIn 69 = .ok (.ireturn, 1) := by decide +kernel
theorem dX3_placeOf_0 : decode cX3_placeOf 0 = .ok (.aload_n 0, 1) := by decide +kernel
theorem dX3_placeOf_1 : decode cX3_placeOf 1 = .ok (.getfield 39, 3) := by decide +kernel
theorem dX3_placeOf_4 : decode cX3_placeOf 4 = .ok (.iconst 0, 1) := by decide +kernel
theorem dX3_placeOf_5 : decode cX3_placeOf 5 = .ok (.iload_n 1, 1) := by decide +kernel
theorem dX3_placeOf_6 : decode cX3_placeOf 6 = .ok (.invokestatic 188, 3) := by decide +kernel
theorem dX3_placeOf_9 : decode cX3_placeOf 9 = .ok (.ireturn, 1) := by decide +kernel
theorem dX3_powerOf_0 : decode cX3_powerOf 0 = .ok (.iconst 0, 1) := by decide +kernel
theorem dX3_powerOf_1 : decode cX3_powerOf 1 = .ok (.bipush 10, 2) := by decide +kernel
theorem dX3_powerOf_3 : decode cX3_powerOf 3 = .ok (.bipush 8, 2) := by decide +kernel
theorem dX3_powerOf_5 : decode cX3_powerOf 5 = .ok (.iload_n 0, 1) := by decide +kernel
theorem dX3_powerOf_6 : decode cX3_powerOf 6 = .ok (.imul, 1) := by decide +kernel
theorem dX3_powerOf_7 : decode cX3_powerOf 7 = .ok (.iadd, 1) := by decide +kernel
theorem dX3_powerOf_8 : decode cX3_powerOf 8 = .ok (.iload_n 1, 1) := by decide +kernel
theorem dX3_powerOf_9 : decode cX3_powerOf 9 = .ok (.iadd, 1) := by decide +kernel
theorem dX3_powerOf_10 : decode cX3_powerOf 10 = .ok (.iload_n 2, 1) := by decide +kernel
theorem dX3_powerOf_11 : decode cX3_powerOf 11 = .ok (.imul, 1) := by decide +kernel
theorem dX3_powerOf_12 : decode cX3_powerOf 12 = .ok (.bipush 100, 2) := by decide +kernel
theorem dX3_powerOf_14 : decode cX3_powerOf 14 = .ok (.idiv, 1) := by decide +kernel
theorem dX3_powerOf_15 : decode cX3_powerOf 15 = .ok (.invokestatic 97, 3) := by decide +kernel
theorem dX3_powerOf_18 : decode cX3_powerOf 18 = .ok (.ireturn, 1) := by decide +kernel
theorem dX3_primePointsOf_0 : decode cX3_primePointsOf 0 = .ok (.iconst 0, 1) := by decide +kernel
theorem dX3_primePointsOf_1 : decode cX3_primePointsOf 1 = .ok (.istore_n 2, 1) := by decide +kernel
theorem dX3_primePointsOf_2 : decode cX3_primePointsOf 2 = .ok (.iconst 0, 1) := by decide +kernel
theorem dX3_primePointsOf_3 : decode cX3_primePointsOf 3 = .ok (.istore_n 3, 1) := by decide +kernel
theorem dX3_primePointsOf_4 : decode cX3_primePointsOf 4 = .ok (.iload_n 3, 1) := by decide +kernel
theorem dX3_primePointsOf_5 : decode cX3_primePointsOf 5 = .ok (.aload_n 0, 1) := by decide +kernel
theorem dX3_primePointsOf_6 : decode cX3_primePointsOf 6 = .ok (.getfield 18, 3) := by decide +kernel
theorem dX3_primePointsOf_9 : decode cX3_primePointsOf 9 = .ok (.if_icmp .ge 42, 3) := by decide +kernel
theorem dX3_primePointsOf_12 : decode cX3_primePointsOf 12 = .ok (.aload_n 0, 1) := by decide +kernel
theorem dX3_primePointsOf_13 : decode cX3_primePointsOf 13 = .ok (.getfield 51, 3) := by decide +kernel
theorem dX3_primePointsOf_16 : decode cX3_primePointsOf 16 = .ok (.iload_n 3, 1) := by decide +kernel
theorem dX3_primePointsOf_17 : decode cX3_primePointsOf 17 = .ok (.bipush 20, 2) := by decide +kernel
theorem dX3_primePointsOf_19 : decode cX3_primePointsOf 19 = .ok (.imul, 1) := by decide +kernel
theorem dX3_primePointsOf_20 : decode cX3_primePointsOf 20 = .ok (.iload_n 1, 1) := by decide +kernel
theorem dX3_primePointsOf_21 : decode cX3_primePointsOf 21 = .ok (.invokestatic 188, 3) := by decide +kernel
theorem dX3_primePointsOf_24 : decode cX3_primePointsOf 24 = .ok (.istore 4, 2) := by decide +kernel
theorem dX3_primePointsOf_26 : decode cX3_primePointsOf 26 = .ok (.iload 4, 2) := by decide +kernel
theorem dX3_primePointsOf_28 : decode cX3_primePointsOf 28 = .ok (.iconst 1, 1) := by decide +kernel
theorem dX3_primePointsOf_29 : decode cX3_primePointsOf 29 = .ok (.if_icmp .lt 16, 3) := by decide +kernel
theorem dX3_primePointsOf_32 : decode cX3_primePointsOf 32 = .ok (.iload 4, 2) := by decide +kernel
theorem dX3_primePointsOf_34 : decode cX3_primePointsOf 34 = .ok (.iconst 3, 1) := by decide +kernel
theorem dX3_primePointsOf_35 : decode cX3_primePointsOf 35 = .ok (.if_icmp .gt 10, 3) := by decide +kernel
theorem dX3_primePointsOf_38 : decode cX3_primePointsOf 38 = .ok (.iload_n 2, 1) := by decide +kernel
theorem dX3_primePointsOf_39 : decode cX3_primePointsOf 39 = .ok (.iconst 4, 1) := by decide +kernel
theorem dX3_primePointsOf_40 : decode cX3_primePointsOf 40 = .ok (.iload 4, 2) := by decide +kernel
theorem dX3_primePointsOf_42 : decode cX3_primePointsOf 42 = .ok (.isub, 1) := by decide +kernel
theorem dX3_primePointsOf_43 : decode cX3_primePointsOf 43 = .ok (.iadd, 1) := by decide +kernel
theorem dX3_primePointsOf_44 : decode cX3_primePointsOf 44 = .ok (.istore_n 2, 1) := by decide +kernel
theorem dX3_primePointsOf_45 : decode cX3_primePointsOf 45 = .ok (.iinc 3 1, 3) := by decide +kernel
theorem dX3_primePointsOf_48 : decode cX3_primePointsOf 48 = .ok (.goto (-44), 3) := by decide +kernel
theorem dX3_primePointsOf_51 : decode cX3_primePointsOf 51 = .ok (.iload_n 2, 1) := by decide +kernel
theorem dX3_primePointsOf_52 : decode cX3_primePointsOf 52 = .ok (.ireturn, 1) := by decide +kernel
theorem dX3_rideMinute_0 : decode cX3_rideMinute 0 = .ok (.aload_n 0, 1) := by decide +kernel
theorem dX3_rideMinute_1 : decode cX3_rideMinute 1 = .ok (.invokevirtual 81, 3) := by decide +kernel
theorem dX3_rideMinute_4 : decode cX3_rideMinute 4 = .ok (.iconst 0, 1) := by decide +kernel
theorem dX3_rideMinute_5 : decode cX3_rideMinute 5 = .ok (.istore 4, 2) := by decide +kernel
theorem dX3_rideMinute_7 : decode cX3_rideMinute 7 = .ok (.iload 4, 2) := by decide +kernel
theorem dX3_rideMinute_9 : decode cX3_rideMinute 9 = .ok (.aload_n 0, 1) := by decide +kernel
theorem dX3_rideMinute_10 : decode cX3_rideMinute 10 = .ok (.getfield 60, 3) := by decide +kernel
theorem dX3_rideMinute_13 : decode cX3_rideMinute 13 = .ok (.getfield 84, 3) := by decide +kernel
theorem dX3_rideMinute_16 : decode cX3_rideMinute 16 = .ok (.if_icmp .ge 26, 3) := by decide +kernel
theorem dX3_rideMinute_19 : decode cX3_rideMinute 19 = .ok (.aload_n 0, 1) := by decide +kernel
theorem dX3_rideMinute_20 : decode cX3_rideMinute 20 = .ok (.aload_n 0, 1) := by decide +kernel
theorem dX3_rideMinute_21 : decode cX3_rideMinute 21 = .ok (.getfield 60, 3) := by decide +kernel
theorem dX3_rideMinute_24 : decode cX3_rideMinute 24 = .ok (.getfield 87, 3) := by decide +kernel
theorem dX3_rideMinute_27 : decode cX3_rideMinute 27 = .ok (.iload 4, 2) := by decide +kernel
theorem dX3_rideMinute_29 : decode cX3_rideMinute 29 = .ok (.iaload, 1) := by decide +kernel
theorem dX3_rideMinute_30 : decode cX3_rideMinute 30 = .ok (.aload_n 1, 1) := by decide +kernel
theorem dX3_rideMinute_31 : decode cX3_rideMinute 31 = .ok (.aload_n 2, 1) := by decide +kernel
theorem dX3_rideMinute_32 : decode cX3_rideMinute 32 = .ok (.aload_n 3, 1) := by decide +kernel
theorem dX3_rideMinute_33 : decode cX3_rideMinute 33 = .ok (.invokevirtual 90, 3) := by decide +kernel
theorem dX3_rideMinute_36 : decode cX3_rideMinute 36 = .ok (.iinc 4 1, 3) := by decide +kernel
theorem dX3_rideMinute_39 : decode cX3_rideMinute 39 = .ok (.goto (-32), 3) := by decide +kernel
theorem dX3_rideMinute_42 : decode cX3_rideMinute 42 = .ok (.aload_n 0, 1) := by decide +kernel
theorem dX3_rideMinute_43 : decode cX3_rideMinute 43 = .ok (.dup, 1) := by decide +kernel
theorem dX3_rideMinute_44 : decode cX3_rideMinute 44 = .ok (.getfield 9, 3) := by decide +kernel
theorem dX3_rideMinute_47 : decode cX3_rideMinute 47 = .ok (.iconst 1, 1) := by decide +kernel
theorem dX3_rideMinute_48 : decode cX3_rideMinute 48 = .ok (.iadd, 1) := by decide +kernel
theorem dX3_rideMinute_49 : decode cX3_rideMinute 49 = .ok (.putfield 9, 3) := by decide +kernel
theorem dX3_rideMinute_52 : decode cX3_rideMinute 52 = .ok (.aload_n 0, 1) := by decide +kernel
theorem dX3_rideMinute_53 : decode cX3_rideMinute 53 = .ok (.invokevirtual 78, 3) := by decide +kernel
theorem dX3_rideMinute_56 : decode cX3_rideMinute 56 = .ok (.return_, 1) := by decide +kernel
theorem dX3_rideOne_0 : decode cX3_rideOne 0 = .ok (.aload_n 0, 1) := by decide +kernel
theorem dX3_rideOne_1 : decode cX3_rideOne 1 = .ok (.getfield 32, 3) := by decide +kernel
theorem dX3_rideOne_4 : decode cX3_rideOne 4 = .ok (.iload_n 1, 1) := by decide +kernel
theorem dX3_rideOne_5 : decode cX3_rideOne 5 = .ok (.iaload, 1) := by decide +kernel
theorem dX3_rideOne_6 : decode cX3_rideOne 6 = .ok (.sipush 1000, 3) := by decide +kernel
theorem dX3_rideOne_9 : decode cX3_rideOne 9 = .ok (.idiv, 1) := by decide +kernel
theorem dX3_rideOne_10 : decode cX3_rideOne 10 = .ok (.bipush 29, 2) := by decide +kernel
theorem dX3_rideOne_12 : decode cX3_rideOne 12 = .ok (.invokestatic 111, 3) := by decide +kernel
theorem dX3_rideOne_15 : decode cX3_rideOne 15 = .ok (.istore 5, 2) := by decide +kernel
theorem dX3_rideOne_17 : decode cX3_rideOne 17 = .ok (.aload_n 3, 1) := by decide +kernel
theorem dX3_rideOne_18 : decode cX3_rideOne 18 = .ok (.getfield 114, 3) := by decide +kernel
theorem dX3_rideOne_21 : decode cX3_rideOne 21 = .ok (.iload 5, 2) := by decide +kernel
theorem dX3_rideOne_23 : decode cX3_rideOne 23 = .ok (.iaload, 1) := by decide +kernel
theorem dX3_rideOne_24 : decode cX3_rideOne 24 = .ok (.istore 6, 2) := by decide +kernel
theorem dX3_rideOne_26 : decode cX3_rideOne 26 = .ok (.iload 6, 2) := by decide +kernel
theorem dX3_rideOne_28 : decode cX3_rideOne 28 = .ok (.aload_n 2, 1) := by decide +kernel
theorem dX3_rideOne_29 : decode cX3_rideOne 29 = .ok (.getfield 117, 3) := by decide +kernel
theorem dX3_rideOne_32 : decode cX3_rideOne 32 = .ok (.iload_n 1, 1) := by decide +kernel
theorem dX3_rideOne_33 : decode cX3_rideOne 33 = .ok (.iaload, 1) := by decide +kernel
theorem dX3_rideOne_34 : decode cX3_rideOne 34 = .ok (.invokestatic 120, 3) := by decide +kernel
theorem dX3_rideOne_37 : decode cX3_rideOne 37 = .ok (.istore 7, 2) := by decide +kernel
theorem dX3_rideOne_39 : decode cX3_rideOne 39 = .ok (.aload_n 0, 1) := by decide +kernel
theorem dX3_rideOne_40 : decode cX3_rideOne 40 = .ok (.getfield 60, 3) := by decide +kernel
theorem dX3_rideOne_43 : decode cX3_rideOne 43 = .ok (.getfield 123, 3) := by decide +kernel
theorem dX3_rideOne_46 : decode cX3_rideOne 46 = .ok (.iload_n 1, 1) := by decide +kernel
theorem dX3_rideOne_47 : decode cX3_rideOne 47 = .ok (.iaload, 1) := by decide +kernel
theorem dX3_rideOne_48 : decode cX3_rideOne 48 = .ok (.aload_n 3, 1) := by decide +kernel
theorem dX3_rideOne_49 : decode cX3_rideOne 49 = .ok (.getfield 126, 3) := by decide +kernel
theorem dX3_rideOne_52 : decode cX3_rideOne 52 = .ok (.iload 5, 2) := by decide +kernel
theorem dX3_rideOne_54 : decode cX3_rideOne 54 = .ok (.iaload, 1) := by decide +kernel
theorem dX3_rideOne_55 : decode cX3_rideOne 55 = .ok (.invokestatic 129, 3) := by decide +kernel
theorem dX3_rideOne_58 : decode cX3_rideOne 58 = .ok (.istore 8, 2) := by decide +kernel
theorem dX3_rideOne_60 : decode cX3_rideOne 60 = .ok (.aload_n 0, 1) := by decide +kernel
theorem dX3_rideOne_61 : decode cX3_rideOne 61 = .ok (.getfield 36, 3) := by decide +kernel
theorem dX3_rideOne_64 : decode cX3_rideOne 64 = .ok (.iload_n 1, 1) := by decide +kernel
theorem dX3_rideOne_65 : decode cX3_rideOne 65 = .ok (.iaload, 1) := by decide +kernel
theorem dX3_rideOne_66 : decode cX3_rideOne 66 = .ok (.aload_n 2, 1) := by decide +kernel
theorem dX3_rideOne_67 : decode cX3_rideOne 67 = .ok (.getfield 132, 3) := by decide +kernel
theorem dX3_rideOne_70 : decode cX3_rideOne 70 = .ok (.iload_n 1, 1) := by decide +kernel
theorem dX3_rideOne_71 : decode cX3_rideOne 71 = .ok (.iaload, 1) := by decide +kernel
theorem dX3_rideOne_72 : decode cX3_rideOne 72 = .ok (.iadd, 1) := by decide +kernel
theorem dX3_rideOne_73 : decode cX3_rideOne 73 = .ok (.istore 9, 2) := by decide +kernel
theorem dX3_rideOne_75 : decode cX3_rideOne 75 = .ok (.aload_n 0, 1) := by decide +kernel
theorem dX3_rideOne_76 : decode cX3_rideOne 76 = .ok (.iload_n 1, 1) := by decide +kernel
theorem dX3_rideOne_77 : decode cX3_rideOne 77 = .ok (.aload_n 2, 1) := by decide +kernel
theorem dX3_rideOne_78 : decode cX3_rideOne 78 = .ok (.getfield 75, 3) := by decide +kernel
theorem dX3_rideOne_81 : decode cX3_rideOne 81 = .ok (.iload_n 1, 1) := by decide +kernel
theorem dX3_rideOne_82 : decode cX3_rideOne 82 = .ok (.iaload, 1) := by decide +kernel
theorem dX3_rideOne_83 : decode cX3_rideOne 83 = .ok (.aload_n 3, 1) := by decide +kernel
theorem dX3_rideOne_84 : decode cX3_rideOne 84 = .ok (.invokevirtual 135, 3) := by decide +kernel
theorem dX3_rideOne_87 : decode cX3_rideOne 87 = .ok (.invokevirtual 139, 3) := by decide +kernel
theorem dX3_rideOne_90 : decode cX3_rideOne 90 = .ok (.aload 4, 2) := by decide +kernel
theorem dX3_rideOne_92 : decode cX3_rideOne 92 = .ok (.aload_n 0, 1) := by decide +kernel
theorem dX3_rideOne_93 : decode cX3_rideOne 93 = .ok (.getfield 54, 3) := by decide +kernel
theorem dX3_rideOne_96 : decode cX3_rideOne 96 = .ok (.aload_n 2, 1) := by decide +kernel
theorem dX3_rideOne_97 : decode cX3_rideOne 97 = .ok (.getfield 143, 3) := by decide +kernel
theorem dX3_rideOne_100 : decode cX3_rideOne 100 = .ok (.iload_n 1, 1) := by decide +kernel
theorem dX3_rideOne_101 : decode cX3_rideOne 101 = .ok (.iaload, 1) := by decide +kernel
theorem dX3_rideOne_102 : decode cX3_rideOne 102 = .ok (.iaload, 1) := by decide +kernel
theorem dX3_rideOne_103 : decode cX3_rideOne 103 = .ok (.aload_n 0, 1) := by decide +kernel
theorem dX3_rideOne_104 : decode cX3_rideOne 104 = .ok (.getfield 64, 3) := by decide +kernel
theorem dX3_rideOne_107 : decode cX3_rideOne 107 = .ok (.invokevirtual 146, 3) := by decide +kernel
theorem dX3_rideOne_110 : decode cX3_rideOne 110 = .ok (.istore 10, 2) := by decide +kernel
theorem dX3_rideOne_112 : decode cX3_rideOne 112 = .ok (.iload 10, 2) := by decide +kernel
theorem dX3_rideOne_114 : decode cX3_rideOne 114 = .ok (.ifCond .le 23, 3) := by decide +kernel
theorem dX3_rideOne_117 : decode cX3_rideOne 117 = .ok (.iload 10, 2) := by decide +kernel
theorem dX3_rideOne_119 : decode cX3_rideOne 119 = .ok (.iload 7, 2) := by decide +kernel
theorem dX3_rideOne_121 : decode cX3_rideOne 121 = .ok (.iload 8, 2) := by decide +kernel
theorem dX3_rideOne_123 : decode cX3_rideOne 123 = .ok (.invokestatic 152, 3) := by decide +kernel
theorem dX3_rideOne_126 : decode cX3_rideOne 126 = .ok (.iload 9, 2) := by decide +kernel
theorem dX3_rideOne_128 : decode cX3_rideOne 128 = .ok (.if_icmp .le 9, 3) := by decide +kernel
theorem dX3_rideOne_131 : decode cX3_rideOne 131 = .ok (.iinc 10 (-1), 3) := by decide +kernel
theorem dX3_rideOne_134 : decode cX3_rideOne 134 = .ok (.goto (-22), 3) := by decide +kernel
theorem dX3_rideOne_137 : decode cX3_rideOne 137 = .ok (.iload 10, 2) := by decide +kernel
theorem dX3_rideOne_139 : decode cX3_rideOne 139 = .ok (.iload 7, 2) := by decide +kernel
theorem dX3_rideOne_141 : decode cX3_rideOne 141 = .ok (.iload 8, 2) := by decide +kernel
theorem dX3_rideOne_143 : decode cX3_rideOne 143 = .ok (.invokestatic 152, 3) := by decide +kernel
theorem dX3_rideOne_146 : decode cX3_rideOne 146 = .ok (.istore 11, 2) := by decide +kernel
theorem dX3_rideOne_148 : decode cX3_rideOne 148 = .ok (.aload_n 0, 1) := by decide +kernel
theorem dX3_rideOne_149 : decode cX3_rideOne 149 = .ok (.getfield 45, 3) := by decide +kernel
theorem dX3_rideOne_152 : decode cX3_rideOne 152 = .ok (.iload_n 1, 1) := by decide +kernel
theorem dX3_rideOne_153 : decode cX3_rideOne 153 = .ok (.dup2, 1) := by decide +kernel
theorem dX3_rideOne_154 : decode cX3_rideOne 154 = .ok (.iaload, 1) := by decide +kernel
theorem dX3_rideOne_155 : decode cX3_rideOne 155 = .ok (.iload 11, 2) := by decide +kernel
theorem dX3_rideOne_157 : decode cX3_rideOne 157 = .ok (.iadd, 1) := by decide +kernel
theorem dX3_rideOne_158 : decode cX3_rideOne 158 = .ok (.iastore, 1) := by decide +kernel
theorem dX3_rideOne_159 : decode cX3_rideOne 159 = .ok (.aload_n 0, 1) := by decide +kernel
theorem dX3_rideOne_160 : decode cX3_rideOne 160 = .ok (.getfield 36, 3) := by decide +kernel
theorem dX3_rideOne_163 : decode cX3_rideOne 163 = .ok (.iload_n 1, 1) := by decide +kernel
theorem dX3_rideOne_164 : decode cX3_rideOne 164 = .ok (.iconst 0, 1) := by decide +kernel
theorem dX3_rideOne_165 : decode cX3_rideOne 165 = .ok (.aload_n 2, 1) := by decide +kernel
theorem dX3_rideOne_166 : decode cX3_rideOne 166 = .ok (.getfield 75, 3) := by decide +kernel
theorem dX3_rideOne_169 : decode cX3_rideOne 169 = .ok (.iload_n 1, 1) := by decide +kernel
theorem dX3_rideOne_170 : decode cX3_rideOne 170 = .ok (.iaload, 1) := by decide +kernel
theorem dX3_rideOne_171 : decode cX3_rideOne 171 = .ok (.iload 9, 2) := by decide +kernel
theorem dX3_rideOne_173 : decode cX3_rideOne 173 = .ok (.iload 11, 2) := by decide +kernel
theorem dX3_rideOne_175 : decode cX3_rideOne 175 = .ok (.isub, 1) := by decide +kernel
theorem dX3_rideOne_176 : decode cX3_rideOne 176 = .ok (.invokestatic 111, 3) := by decide +kernel
theorem dX3_rideOne_179 : decode cX3_rideOne 179 = .ok (.invokestatic 97, 3) := by decide +kernel
theorem dX3_rideOne_182 : decode cX3_rideOne 182 = .ok (.iastore, 1) := by decide +kernel
theorem dX3_rideOne_183 : decode cX3_rideOne 183 = .ok (.aload_n 0, 1) := by decide +kernel
theorem dX3_rideOne_184 : decode cX3_rideOne 184 = .ok (.iload_n 1, 1) := by decide +kernel
theorem dX3_rideOne_185 : decode cX3_rideOne 185 = .ok (.iload 10, 2) := by decide +kernel
theorem dX3_rideOne_187 : decode cX3_rideOne 187 = .ok (.iload 6, 2) := by decide +kernel
theorem dX3_rideOne_189 : decode cX3_rideOne 189 = .ok (.invokestatic 156, 3) := by decide +kernel
theorem dX3_rideOne_192 : decode cX3_rideOne 192 = .ok (.aload_n 3, 1) := by decide +kernel
theorem dX3_rideOne_193 : decode cX3_rideOne 193 = .ok (.invokevirtual 159, 3) := by decide +kernel
theorem dX3_rideOne_196 : decode cX3_rideOne 196 = .ok (.return_, 1) := by decide +kernel
theorem dX3_riderAt_0 : decode cX3_riderAt 0 = .ok (.aload_n 0, 1) := by decide +kernel
theorem dX3_riderAt_1 : decode cX3_riderAt 1 = .ok (.getfield 39, 3) := by decide +kernel
theorem dX3_riderAt_4 : decode cX3_riderAt 4 = .ok (.iconst 0, 1) := by decide +kernel
theorem dX3_riderAt_5 : decode cX3_riderAt 5 = .ok (.iload_n 1, 1) := by decide +kernel
theorem dX3_riderAt_6 : decode cX3_riderAt 6 = .ok (.invokestatic 192, 3) := by decide +kernel
theorem dX3_riderAt_9 : decode cX3_riderAt 9 = .ok (.ireturn, 1) := by decide +kernel
theorem dX3_riderAtPrime_0 : decode cX3_riderAtPrime 0 = .ok (.aload_n 0, 1) := by decide +kernel
theorem dX3_riderAtPrime_1 : decode cX3_riderAtPrime 1 = .ok (.getfield 51, 3) := by decide +kernel
theorem dX3_riderAtPrime_4 : decode cX3_riderAtPrime 4 = .ok (.iload_n 1, 1) := by decide +kernel
theorem dX3_riderAtPrime_5 : decode cX3_riderAtPrime 5 = .ok (.bipush 20, 2) := by decide +kernel
theorem dX3_riderAtPrime_7 : decode cX3_riderAtPrime 7 = .ok (.imul, 1) := by decide +kernel
theorem dX3_riderAtPrime_8 : decode cX3_riderAtPrime 8 = .ok (.iload_n 2, 1) := by decide +kernel
theorem dX3_riderAtPrime_9 : decode cX3_riderAtPrime 9 = .ok (.invokestatic 192, 3) := by decide +kernel
theorem dX3_riderAtPrime_12 : decode cX3_riderAtPrime 12 = .ok (.ireturn, 1) := by decide +kernel
theorem dX3_riderIn_0 : decode cX3_riderIn 0 = .ok (.iconst 0, 1) := by decide +kernel
theorem dX3_riderIn_1 : decode cX3_riderIn 1 = .ok (.istore_n 3, 1) := by decide +kernel
theorem dX3_riderIn_2 : decode cX3_riderIn 2 = .ok (.iload_n 3, 1) := by decide +kernel
theorem dX3_riderIn_3 : decode cX3_riderIn 3 = .ok (.bipush 20, 2) := by decide +kernel
theorem dX3_riderIn_5 : decode cX3_riderIn 5 = .ok (.if_icmp .ge 21, 3) := by decide +kernel
theorem dX3_riderIn_8 : decode cX3_riderIn 8 = .ok (.aload_n 0, 1) := by decide +kernel
theorem dX3_riderIn_9 : decode cX3_riderIn 9 = .ok (.iload_n 1, 1) := by decide +kernel
theorem dX3_riderIn_10 : decode cX3_riderIn 10 = .ok (.iload_n 3, 1) := by decide +kernel
theorem dX3_riderIn_11 : decode cX3_riderIn 11 = .ok (.invokestatic 188, 3) := by decide +kernel
theorem dX3_riderIn_14 : decode cX3_riderIn 14 = .ok (.iload_n 2, 1) := by decide +kernel
theorem dX3_riderIn_15 : decode cX3_riderIn 15 = .ok (.if_icmp .ne 5, 3) := by decide +kernel
theorem dX3_riderIn_18 : decode cX3_riderIn 18 = .ok (.iload_n 3, 1) := by decide +kernel
theorem dX3_riderIn_19 : decode cX3_riderIn 19 = .ok (.ireturn, 1) := by decide +kernel
theorem dX3_riderIn_20 : decode cX3_riderIn 20 = .ok (.iinc 3 1, 3) := by decide +kernel
theorem dX3_riderIn_23 : decode cX3_riderIn 23 = .ok (.goto (-21), 3) := by decide +kernel
theorem dX3_riderIn_26 : decode cX3_riderIn 26 = .ok (.iconst (-1), 1) := by decide +kernel
theorem dX3_riderIn_27 : decode cX3_riderIn 27 = .ok (.ireturn, 1) := by decide +kernel
theorem dX3_scoreOf_0 : decode cX3_scoreOf 0 = .ok (.iconst 0, 1) := by decide +kernel
theorem dX3_scoreOf_1 : decode cX3_scoreOf 1 = .ok (.istore_n 3, 1) := by decide +kernel
theorem dX3_scoreOf_2 : decode cX3_scoreOf 2 = .ok (.iconst 0, 1) := by decide +kernel
theorem dX3_scoreOf_3 : decode cX3_scoreOf 3 = .ok (.istore 4, 2) := by decide +kernel
theorem dX3_scoreOf_5 : decode cX3_scoreOf 5 = .ok (.iconst 1, 1) := by decide +kernel
theorem dX3_scoreOf_6 : decode cX3_scoreOf 6 = .ok (.istore 5, 2) := by decide +kernel
theorem dX3_scoreOf_8 : decode cX3_scoreOf 8 = .ok (.iload 5, 2) := by decide +kernel
theorem dX3_scoreOf_10 : decode cX3_scoreOf 10 = .ok (.bipush 20, 2) := by decide +kernel
theorem dX3_scoreOf_12 : decode cX3_scoreOf 12 = .ok (.if_icmp .gt 48, 3) := by decide +kernel
theorem dX3_scoreOf_15 : decode cX3_scoreOf 15 = .ok (.iload 4, 2) := by decide +kernel
theorem dX3_scoreOf_17 : decode cX3_scoreOf 17 = .ok (.iconst 3, 1) := by decide +kernel
theorem dX3_scoreOf_18 : decode cX3_scoreOf 18 = .ok (.if_icmp .ge 42, 3) := by decide +kernel
theorem dX3_scoreOf_21 : decode cX3_scoreOf 21 = .ok (.aload_n 0, 1) := by decide +kernel
theorem dX3_scoreOf_22 : decode cX3_scoreOf 22 = .ok (.iload 5, 2) := by decide +kernel
theorem dX3_scoreOf_24 : decode cX3_scoreOf 24 = .ok (.invokevirtual 195, 3) := by decide +kernel
theorem dX3_scoreOf_27 : decode cX3_scoreOf 27 = .ok (.istore 6, 2) := by decide +kernel
theorem dX3_scoreOf_29 : decode cX3_scoreOf 29 = .ok (.iload 6, 2) := by decide +kernel
theorem dX3_scoreOf_31 : decode cX3_scoreOf 31 = .ok (.iconst (-1), 1) := by decide +kernel
theorem dX3_scoreOf_32 : decode cX3_scoreOf 32 = .ok (.if_icmp .eq 22, 3) := by decide +kernel
theorem dX3_scoreOf_35 : decode cX3_scoreOf 35 = .ok (.aload_n 2, 1) := by decide +kernel
theorem dX3_scoreOf_36 : decode cX3_scoreOf 36 = .ok (.getfield 143, 3) := by decide +kernel
theorem dX3_scoreOf_39 : decode cX3_scoreOf 39 = .ok (.iload 6, 2) := by decide +kernel
theorem dX3_scoreOf_41 : decode cX3_scoreOf 41 = .ok (.iaload, 1) := by decide +kernel
theorem dX3_scoreOf_42 : decode cX3_scoreOf 42 = .ok (.iload_n 1, 1) := by decide +kernel
theorem dX3_scoreOf_43 : decode cX3_scoreOf 43 = .ok (.if_icmp .ne 11, 3) := by decide +kernel
theorem dX3_scoreOf_46 : decode cX3_scoreOf 46 = .ok (.iload_n 3, 1) := by decide +kernel
theorem dX3_scoreOf_47 : decode cX3_scoreOf 47 = .ok (.iload 5, 2) := by decide +kernel
theorem dX3_scoreOf_49 : decode cX3_scoreOf 49 = .ok (.iadd, 1) := by decide +kernel
theorem dX3_scoreOf_50 : decode cX3_scoreOf 50 = .ok (.istore_n 3, 1) := by decide +kernel
theorem dX3_scoreOf_51 : decode cX3_scoreOf 51 = .ok (.iinc 4 1, 3) := by decide +kernel
theorem dX3_scoreOf_54 : decode cX3_scoreOf 54 = .ok (.iinc 5 1, 3) := by decide +kernel
theorem dX3_scoreOf_57 : decode cX3_scoreOf 57 = .ok (.goto (-49), 3) := by decide +kernel
theorem dX3_scoreOf_60 : decode cX3_scoreOf 60 = .ok (.iload_n 3, 1) := by decide +kernel
theorem dX3_scoreOf_61 : decode cX3_scoreOf 61 = .ok (.bipush 40, 2) := by decide +kernel
theorem dX3_scoreOf_63 : decode cX3_scoreOf 63 = .ok (.iconst 3, 1) := by decide +kernel
theorem dX3_scoreOf_64 : decode cX3_scoreOf 64 = .ok (.iload 4, 2) := by decide +kernel
theorem dX3_scoreOf_66 : decode cX3_scoreOf 66 = .ok (.isub, 1) := by decide +kernel
theorem dX3_scoreOf_67 : decode cX3_scoreOf 67 = .ok (.imul, 1) := by decide +kernel
theorem dX3_scoreOf_68 : decode cX3_scoreOf 68 = .ok (.iadd, 1) := by decide +kernel
theorem dX3_scoreOf_69 : decode cX3_scoreOf 69 = .ok (.ireturn, 1) := by decide +kernel
theorem dX3_secondsAfter_0 : decode cX3_secondsAfter 0 = .ok (.bipush 100, 2) := by decide +kernel
theorem dX3_secondsAfter_2 : decode cX3_secondsAfter 2 = .ok (.iload_n 2, 1) := by decide +kernel
theorem dX3_secondsAfter_3 : decode cX3_secondsAfter 3 = .ok (.invokestatic 97, 3) := by decide +kernel
theorem dX3_secondsAfter_6 : decode cX3_secondsAfter 6 = .ok (.istore_n 3, 1) := by decide +kernel
theorem dX3_secondsAfter_7 : decode cX3_secondsAfter 7 = .ok (.bipush 60, 2) := by decide +kernel
theorem dX3_secondsAfter_9 : decode cX3_secondsAfter 9 = .ok (.aload_n 0, 1) := by decide +kernel
theorem dX3_secondsAfter_10 : decode cX3_secondsAfter 10 = .ok (.getfield 9, 3) := by decide +kernel
theorem dX3_secondsAfter_13 : decode cX3_secondsAfter 13 = .ok (.imul, 1) := by decide +kernel
theorem dX3_secondsAfter_14 : decode cX3_secondsAfter 14 = .ok (.bipush 60, 2) := by decide +kernel
theorem dX3_secondsAfter_16 : decode cX3_secondsAfter 16 = .ok (.iload_n 1, 1) := by decide +kernel
theorem dX3_secondsAfter_17 : decode cX3_secondsAfter 17 = .ok (.imul, 1) := by decide +kernel
theorem dX3_secondsAfter_18 : decode cX3_secondsAfter 18 = .ok (.iload_n 3, 1) := by decide +kernel
theorem dX3_secondsAfter_19 : decode cX3_secondsAfter 19 = .ok (.iadd, 1) := by decide +kernel
theorem dX3_secondsAfter_20 : decode cX3_secondsAfter 20 = .ok (.iconst 1, 1) := by decide +kernel
theorem dX3_secondsAfter_21 : decode cX3_secondsAfter 21 = .ok (.isub, 1) := by decide +kernel
theorem dX3_secondsAfter_22 : decode cX3_secondsAfter 22 = .ok (.iload_n 3, 1) := by decide +kernel
theorem dX3_secondsAfter_23 : decode cX3_secondsAfter 23 = .ok (.idiv, 1) := by decide +kernel
theorem dX3_secondsAfter_24 : decode cX3_secondsAfter 24 = .ok (.iadd, 1) := by decide +kernel
theorem dX3_secondsAfter_25 : decode cX3_secondsAfter 25 = .ok (.ireturn, 1) := by decide +kernel
theorem dX3_shareOf_0 : decode cX3_shareOf 0 = .ok (.iload_n 0, 1) := by decide +kernel
theorem dX3_shareOf_1 : decode cX3_shareOf 1 = .ok (.iconst 2, 1) := by decide +kernel
theorem dX3_shareOf_2 : decode cX3_shareOf 2 = .ok (.if_icmp .ge 10, 3) := by decide +kernel
theorem dX3_shareOf_5 : decode cX3_shareOf 5 = .ok (.bipush 100, 2) := by decide +kernel
theorem dX3_shareOf_7 : decode cX3_shareOf 7 = .ok (.iconst 4, 1) := by decide +kernel
theorem dX3_shareOf_8 : decode cX3_shareOf 8 = .ok (.iload_n 1, 1) := by decide +kernel
theorem dX3_shareOf_9 : decode cX3_shareOf 9 = .ok (.imul, 1) := by decide +kernel
theorem dX3_shareOf_10 : decode cX3_shareOf 10 = .ok (.iadd, 1) := by decide +kernel
theorem dX3_shareOf_11 : decode cX3_shareOf 11 = .ok (.ireturn, 1) := by decide +kernel
theorem dX3_shareOf_12 : decode cX3_shareOf 12 = .ok (.bipush 60, 2) := by decide +kernel
theorem dX3_shareOf_14 : decode cX3_shareOf 14 = .ok (.iconst 2, 1) := by decide +kernel
theorem dX3_shareOf_15 : decode cX3_shareOf 15 = .ok (.iload_n 1, 1) := by decide +kernel
theorem dX3_shareOf_16 : decode cX3_shareOf 16 = .ok (.imul, 1) := by decide +kernel
theorem dX3_shareOf_17 : decode cX3_shareOf 17 = .ok (.iadd, 1) := by decide +kernel
theorem dX3_shareOf_18 : decode cX3_shareOf 18 = .ok (.bipush 20, 2) := by decide +kernel
theorem dX3_shareOf_20 : decode cX3_shareOf 20 = .ok (.iload_n 0, 1) := by decide +kernel
theorem dX3_shareOf_21 : decode cX3_shareOf 21 = .ok (.iconst 1, 1) := by decide +kernel
theorem dX3_shareOf_22 : decode cX3_shareOf 22 = .ok (.isub, 1) := by decide +kernel
theorem dX3_shareOf_23 : decode cX3_shareOf 23 = .ok (.idiv, 1) := by decide +kernel
theorem dX3_shareOf_24 : decode cX3_shareOf 24 = .ok (.iadd, 1) := by decide +kernel
theorem dX3_shareOf_25 : decode cX3_shareOf 25 = .ok (.ireturn, 1) := by decide +kernel
theorem dX3_slopePower_0 : decode cX3_slopePower 0 = .ok (.iconst 3, 1) := by decide +kernel
theorem dX3_slopePower_1 : decode cX3_slopePower 1 = .ok (.iload_n 0, 1) := by decide +kernel
theorem dX3_slopePower_2 : decode cX3_slopePower 2 = .ok (.imul, 1) := by decide +kernel
theorem dX3_slopePower_3 : decode cX3_slopePower 3 = .ok (.istore_n 2, 1) := by decide +kernel
theorem dX3_slopePower_4 : decode cX3_slopePower 4 = .ok (.iload_n 0, 1) := by decide +kernel
theorem dX3_slopePower_5 : decode cX3_slopePower 5 = .ok (.ifCond .le 14, 3) := by decide +kernel
theorem dX3_slopePower_8 : decode cX3_slopePower 8 = .ok (.iload_n 2, 1) := by decide +kernel
theorem dX3_slopePower_9 : decode cX3_slopePower 9 = .ok (.iload_n 2, 1) := by decide +kernel
theorem dX3_slopePower_10 : decode cX3_slopePower 10 = .ok (.iload_n 1, 1) := by decide +kernel
theorem dX3_slopePower_11 : decode cX3_slopePower 11 = .ok (.imul, 1) := by decide +kernel
theorem dX3_slopePower_12 : decode cX3_slopePower 12 = .ok (.bipush 100, 2) := by decide +kernel
theorem dX3_slopePower_14 : decode cX3_slopePower 14 = .ok (.idiv, 1) := by decide +kernel
theorem dX3_slopePower_15 : decode cX3_slopePower 15 = .ok (.isub, 1) := by decide +kernel
theorem dX3_slopePower_16 : decode cX3_slopePower 16 = .ok (.goto 4, 3) := by decide +kernel
theorem dX3_slopePower_19 : decode cX3_slopePower 19 = .ok (.iload_n 2, 1) := by decide +kernel
theorem dX3_slopePower_20 : decode cX3_slopePower 20 = .ok (.ireturn, 1) := by decide +kernel
theorem dX4_note_0 : decode cX4_note 0 = .ok (.aload_n 1, 1) := by decide +kernel
theorem dX4_note_1 : decode cX4_note 1 = .ok (.getfield 18, 3) := by decide +kernel
theorem dX4_note_4 : decode cX4_note 4 = .ok (.ifCond .lt 13, 3) := by decide +kernel
theorem dX4_note_7 : decode cX4_note 7 = .ok (.aload_n 1, 1) := by decide +kernel
theorem dX4_note_8 : decode cX4_note 8 = .ok (.getfield 18, 3) := by decide +kernel
theorem dX4_note_11 : decode cX4_note 11 = .ok (.sipush 400, 3) := by decide +kernel
theorem dX4_note_14 : decode cX4_note 14 = .ok (.if_icmp .le 4, 3) := by decide +kernel
theorem dX4_note_17 : decode cX4_note 17 = .ok (.return_, 1) := by decide +kernel
theorem dX4_note_18 : decode cX4_note 18 = .ok (.aload_n 1, 1) := by decide +kernel
theorem dX4_note_19 : decode cX4_note 19 = .ok (.getfield 18, 3) := by decide +kernel
theorem dX4_note_22 : decode cX4_note 22 = .ok (.bipush 20, 2) := by decide +kernel
theorem dX4_note_24 : decode cX4_note 24 = .ok (.imul, 1) := by decide +kernel
theorem dX4_note_25 : decode cX4_note 25 = .ok (.istore_n 2, 1) := by decide +kernel
theorem dX4_note_26 : decode cX4_note 26 = .ok (.iconst 0, 1) := by decide +kernel
theorem dX4_note_27 : decode cX4_note 27 = .ok (.istore_n 3, 1) := by decide +kernel
theorem dX4_note_28 : decode cX4_note 28 = .ok (.iload_n 3, 1) := by decide +kernel
theorem dX4_note_29 : decode cX4_note 29 = .ok (.bipush 20, 2) := by decide +kernel
theorem dX4_note_31 : decode cX4_note 31 = .ok (.if_icmp .ge 23, 3) := by decide +kernel
theorem dX4_note_34 : decode cX4_note 34 = .ok (.aload_n 0, 1) := by decide +kernel
theorem dX4_note_35 : decode cX4_note 35 = .ok (.getfield 9, 3) := by decide +kernel
theorem dX4_note_38 : decode cX4_note 38 = .ok (.iload_n 2, 1) := by decide +kernel
theorem dX4_note_39 : decode cX4_note 39 = .ok (.iload_n 3, 1) := by decide +kernel
theorem dX4_note_40 : decode cX4_note 40 = .ok (.iadd, 1) := by decide +kernel
theorem dX4_note_41 : decode cX4_note 41 = .ok (.aload_n 1, 1) := by decide +kernel
theorem dX4_note_42 : decode cX4_note 42 = .ok (.getfield 24, 3) := by decide +kernel
theorem dX4_note_45 : decode cX4_note 45 = .ok (.iload_n 3, 1) := by decide +kernel
theorem dX4_note_46 : decode cX4_note 46 = .ok (.iaload, 1) := by decide +kernel
theorem dX4_note_47 : decode cX4_note 47 = .ok (.iastore, 1) := by decide +kernel
theorem dX4_note_48 : decode cX4_note 48 = .ok (.iinc 3 1, 3) := by decide +kernel
theorem dX4_note_51 : decode cX4_note 51 = .ok (.goto (-23), 3) := by decide +kernel
theorem dX4_note_54 : decode cX4_note 54 = .ok (.aload_n 0, 1) := by decide +kernel
theorem dX4_note_55 : decode cX4_note 55 = .ok (.getfield 15, 3) := by decide +kernel
theorem dX4_note_58 : decode cX4_note 58 = .ok (.aload_n 1, 1) := by decide +kernel
theorem dX4_note_59 : decode cX4_note 59 = .ok (.getfield 18, 3) := by decide +kernel
theorem dX4_note_62 : decode cX4_note 62 = .ok (.aload_n 1, 1) := by decide +kernel
theorem dX4_note_63 : decode cX4_note 63 = .ok (.getfield 25, 3) := by decide +kernel
theorem dX4_note_66 : decode cX4_note 66 = .ok (.getfield 29, 3) := by decide +kernel
theorem dX4_note_69 : decode cX4_note 69 = .ok (.iastore, 1) := by decide +kernel
theorem dX4_note_70 : decode cX4_note 70 = .ok (.return_, 1) := by decide +kernel
theorem dX5_add_0 : decode cX5_add 0 = .ok (.aload_n 0, 1) := by decide +kernel
theorem dX5_add_1 : decode cX5_add 1 = .ok (.getfield 9, 3) := by decide +kernel
theorem dX5_add_4 : decode cX5_add 4 = .ok (.bipush 20, 2) := by decide +kernel
theorem dX5_add_6 : decode cX5_add 6 = .ok (.if_icmp .ge 44, 3) := by decide +kernel
theorem dX5_add_9 : decode cX5_add 9 = .ok (.iload_n 1, 1) := by decide +kernel
theorem dX5_add_10 : decode cX5_add 10 = .ok (.invokestatic 28, 3) := by decide +kernel
theorem dX5_add_13 : decode cX5_add 13 = .ok (.ifCond .eq 37, 3) := by decide +kernel
theorem dX5_add_16 : decode cX5_add 16 = .ok (.iload_n 2, 1) := by decide +kernel
theorem dX5_add_17 : decode cX5_add 17 = .ok (.iconst 1, 1) := by decide +kernel
theorem dX5_add_18 : decode cX5_add 18 = .ok (.if_icmp .lt 32, 3) := by decide +kernel
theorem dX5_add_21 : decode cX5_add 21 = .ok (.iload_n 2, 1) := by decide +kernel
theorem dX5_add_22 : decode cX5_add 22 = .ok (.bipush 60, 2) := by decide +kernel
theorem dX5_add_24 : decode cX5_add 24 = .ok (.if_icmp .gt 26, 3) := by decide +kernel
theorem dX5_add_27 : decode cX5_add 27 = .ok (.iload_n 3, 1) := by decide +kernel
theorem dX5_add_28 : decode cX5_add 28 = .ok (.ifCond .lt 22, 3) := by decide +kernel
theorem dX5_add_31 : decode cX5_add 31 = .ok (.iload_n 3, 1) := by decide +kernel
theorem dX5_add_32 : decode cX5_add 32 = .ok (.sipush 2000, 3) := by decide +kernel
theorem dX5_add_35 : decode cX5_add 35 = .ok (.if_icmp .gt 15, 3) := by decide +kernel
theorem dX5_add_38 : decode cX5_add 38 = .ok (.iload 4, 2) := by decide +kernel
theorem dX5_add_40 : decode cX5_add 40 = .ok (.ifCond .lt 10, 3) := by decide +kernel
theorem dX5_add_43 : decode cX5_add 43 = .ok (.iload 4, 2) := by decide +kernel
theorem dX5_add_45 : decode cX5_add 45 = .ok (.bipush 50, 2) := by decide +kernel
theorem dX5_add_47 : decode cX5_add 47 = .ok (.if_icmp .le 5, 3) := by decide +kernel
theorem dX5_add_50 : decode cX5_add 50 = .ok (.iconst (-1), 1) := by decide +kernel
theorem dX5_add_51 : decode cX5_add 51 = .ok (.ireturn, 1) := by decide +kernel
theorem dX5_add_52 : decode cX5_add 52 = .ok (.aload_n 0, 1) := by decide +kernel
theorem dX5_add_53 : decode cX5_add 53 = .ok (.getfield 15, 3) := by decide +kernel
theorem dX5_add_56 : decode cX5_add 56 = .ok (.aload_n 0, 1) := by decide +kernel
theorem dX5_add_57 : decode cX5_add 57 = .ok (.getfield 9, 3) := by decide +kernel
theorem dX5_add_60 : decode cX5_add 60 = .ok (.iload_n 1, 1) := by decide +kernel
theorem dX5_add_61 : decode cX5_add 61 = .ok (.iastore, 1) := by decide +kernel
theorem dX5_add_62 : decode cX5_add 62 = .ok (.aload_n 0, 1) := by decide +kernel
theorem dX5_add_63 : decode cX5_add 63 = .ok (.getfield 19, 3) := by decide +kernel
theorem dX5_add_66 : decode cX5_add 66 = .ok (.aload_n 0, 1) := by decide +kernel
theorem dX5_add_67 : decode cX5_add 67 = .ok (.getfield 9, 3) := by decide +kernel
theorem dX5_add_70 : decode cX5_add 70 = .ok (.iload_n 2, 1) := by decide +kernel
theorem dX5_add_71 : decode cX5_add 71 = .ok (.iastore, 1) := by decide +kernel
theorem dX5_add_72 : decode cX5_add 72 = .ok (.aload_n 0, 1) := by decide +kernel
theorem dX5_add_73 : decode cX5_add 73 = .ok (.getfield 22, 3) := by decide +kernel
theorem dX5_add_76 : decode cX5_add 76 = .ok (.aload_n 0, 1) := by decide +kernel
theorem dX5_add_77 : decode cX5_add 77 = .ok (.getfield 9, 3) := by decide +kernel
theorem dX5_add_80 : decode cX5_add 80 = .ok (.iload_n 3, 1) := by decide +kernel
theorem dX5_add_81 : decode cX5_add 81 = .ok (.iastore, 1) := by decide +kernel
theorem dX5_add_82 : decode cX5_add 82 = .ok (.aload_n 0, 1) := by decide +kernel
theorem dX5_add_83 : decode cX5_add 83 = .ok (.getfield 25, 3) := by decide +kernel
theorem dX5_add_86 : decode cX5_add 86 = .ok (.aload_n 0, 1) := by decide +kernel
theorem dX5_add_87 : decode cX5_add 87 = .ok (.getfield 9, 3) := by decide +kernel
theorem dX5_add_90 : decode cX5_add 90 = .ok (.iload 4, 2) := by decide +kernel
theorem dX5_add_92 : decode cX5_add 92 = .ok (.iastore, 1) := by decide +kernel
theorem dX5_add_93 : decode cX5_add 93 = .ok (.aload_n 0, 1) := by decide +kernel
theorem dX5_add_94 : decode cX5_add 94 = .ok (.dup, 1) := by decide +kernel
theorem dX5_add_95 : decode cX5_add 95 = .ok (.getfield 9, 3) := by decide +kernel
theorem dX5_add_98 : decode cX5_add 98 = .ok (.iconst 1, 1) := by decide +kernel
theorem dX5_add_99 : decode cX5_add 99 = .ok (.iadd, 1) := by decide +kernel
theorem dX5_add_100 : decode cX5_add 100 = .ok (.putfield 9, 3) := by decide +kernel
theorem dX5_add_103 : decode cX5_add 103 = .ok (.aload_n 0, 1) := by decide +kernel
theorem dX5_add_104 : decode cX5_add 104 = .ok (.getfield 9, 3) := by decide +kernel
theorem dX5_add_107 : decode cX5_add 107 = .ok (.iconst 1, 1) := by decide +kernel
theorem dX5_add_108 : decode cX5_add 108 = .ok (.isub, 1) := by decide +kernel
theorem dX5_add_109 : decode cX5_add 109 = .ok (.ireturn, 1) := by decide +kernel
theorem dX6_addPrime_0 : decode cX6_addPrime 0 = .ok (.aload_n 0, 1) := by decide +kernel
theorem dX6_addPrime_1 : decode cX6_addPrime 1 = .ok (.getfield 22, 3) := by decide +kernel
theorem dX6_addPrime_4 : decode cX6_addPrime 4 = .ok (.iconst 5, 1) := by decide +kernel
theorem dX6_addPrime_5 : decode cX6_addPrime 5 = .ok (.if_icmp .ge 11, 3) := by decide +kernel
theorem dX6_addPrime_8 : decode cX6_addPrime 8 = .ok (.aload_n 0, 1) := by decide +kernel
theorem dX6_addPrime_9 : decode cX6_addPrime 9 = .ok (.iload_n 1, 1) := by decide +kernel
theorem dX6_addPrime_10 : decode cX6_addPrime 10 = .ok (.invokevirtual 38, 3) := by decide +kernel
theorem dX6_addPrime_13 : decode cX6_addPrime 13 = .ok (.ifCond .ne 5, 3) := by decide +kernel
theorem dX6_addPrime_16 : decode cX6_addPrime 16 = .ok (.iconst (-1), 1) := by decide +kernel
theorem dX6_addPrime_17 : decode cX6_addPrime 17 = .ok (.ireturn, 1) := by decide +kernel
theorem dX6_addPrime_18 : decode cX6_addPrime 18 = .ok (.aload_n 0, 1) := by decide +kernel
theorem dX6_addPrime_19 : decode cX6_addPrime 19 = .ok (.getfield 25, 3) := by decide +kernel
theorem dX6_addPrime_22 : decode cX6_addPrime 22 = .ok (.aload_n 0, 1) := by decide +kernel
theorem dX6_addPrime_23 : decode cX6_addPrime 23 = .ok (.getfield 22, 3) := by decide +kernel
theorem dX6_addPrime_26 : decode cX6_addPrime 26 = .ok (.iload_n 1, 1) := by decide +kernel
theorem dX6_addPrime_27 : decode cX6_addPrime 27 = .ok (.iastore, 1) := by decide +kernel
theorem dX6_addPrime_28 : decode cX6_addPrime 28 = .ok (.aload_n 0, 1) := by decide +kernel
theorem dX6_addPrime_29 : decode cX6_addPrime 29 = .ok (.dup, 1) := by decide +kernel
theorem dX6_addPrime_30 : decode cX6_addPrime 30 = .ok (.getfield 22, 3) := by decide +kernel
theorem dX6_addPrime_33 : decode cX6_addPrime 33 = .ok (.iconst 1, 1) := by decide +kernel
theorem dX6_addPrime_34 : decode cX6_addPrime 34 = .ok (.iadd, 1) := by decide +kernel
theorem dX6_addPrime_35 : decode cX6_addPrime 35 = .ok (.putfield 22, 3) := by decide +kernel
theorem dX6_addPrime_38 : decode cX6_addPrime 38 = .ok (.aload_n 0, 1) := by decide +kernel
theorem dX6_addPrime_39 : decode cX6_addPrime 39 = .ok (.getfield 22, 3) := by decide +kernel
theorem dX6_addPrime_42 : decode cX6_addPrime 42 = .ok (.iconst 1, 1) := by decide +kernel
theorem dX6_addPrime_43 : decode cX6_addPrime 43 = .ok (.isub, 1) := by decide +kernel
theorem dX6_addPrime_44 : decode cX6_addPrime 44 = .ok (.ireturn, 1) := by decide +kernel
theorem dX6_isBetweenEnds_0 : decode cX6_isBetweenEnds 0 = .ok (.iload_n 1, 1) := by decide +kernel
theorem dX6_isBetweenEnds_1 : decode cX6_isBetweenEnds 1 = .ok (.iconst 1, 1) := by decide +kernel
theorem dX6_isBetweenEnds_2 : decode cX6_isBetweenEnds 2 = .ok (.if_icmp .lt 15, 3) := by decide +kernel
theorem dX6_isBetweenEnds_5 : decode cX6_isBetweenEnds 5 = .ok (.iload_n 1, 1) := by decide +kernel
theorem dX6_isBetweenEnds_6 : decode cX6_isBetweenEnds 6 = .ok (.aload_n 0, 1) := by decide +kernel
theorem dX6_isBetweenEnds_7 : decode cX6_isBetweenEnds 7 = .ok (.invokevirtual 34, 3) := by decide +kernel
theorem dX6_isBetweenEnds_10 : decode cX6_isBetweenEnds 10 = .ok (.if_icmp .ge 7, 3) := by decide +kernel
theorem dX6_isBetweenEnds_13 : decode cX6_isBetweenEnds 13 = .ok (.iconst 1, 1) := by decide +kernel
theorem dX6_isBetweenEnds_14 : decode cX6_isBetweenEnds 14 = .ok (.goto 4, 3) := by decide +kernel
theorem dX6_isBetweenEnds_17 : decode cX6_isBetweenEnds 17 = .ok (.iconst 0, 1) := by decide +kernel
theorem dX6_isBetweenEnds_18 : decode cX6_isBetweenEnds 18 = .ok (.ireturn, 1) := by decide +kernel
theorem dX6_length_0 : decode cX6_length 0 = .ok (.aload_n 0, 1) := by decide +kernel
theorem dX6_length_1 : decode cX6_length 1 = .ok (.getfield 9, 3) := by decide +kernel
theorem dX6_length_4 : decode cX6_length 4 = .ok (.sipush 1000, 3) := by decide +kernel
theorem dX6_length_7 : decode cX6_length 7 = .ok (.imul, 1) := by decide +kernel
theorem dX6_length_8 : decode cX6_length 8 = .ok (.ireturn, 1) := by decide +kernel
theorem dX6_putCrash_0 : decode cX6_putCrash 0 = .ok (.aload_n 0, 1) := by decide +kernel
theorem dX6_putCrash_1 : decode cX6_putCrash 1 = .ok (.iload_n 1, 1) := by decide +kernel
theorem dX6_putCrash_2 : decode cX6_putCrash 2 = .ok (.invokevirtual 38, 3) := by decide +kernel
theorem dX6_putCrash_5 : decode cX6_putCrash 5 = .ok (.ifCond .eq 13, 3) := by decide +kernel
theorem dX6_putCrash_8 : decode cX6_putCrash 8 = .ok (.iload_n 2, 1) := by decide +kernel
theorem dX6_putCrash_9 : decode cX6_putCrash 9 = .ok (.ifCond .lt 9, 3) := by decide +kernel
theorem dX6_putCrash_12 : decode cX6_putCrash 12 = .ok (.iload_n 2, 1) := by decide +kernel
theorem dX6_putCrash_13 : decode cX6_putCrash 13 = .ok (.bipush 100, 2) := by decide +kernel
theorem dX6_putCrash_15 : decode cX6_putCrash 15 = .ok (.if_icmp .le 5, 3) := by decide +kernel
theorem dX6_putCrash_18 : decode cX6_putCrash 18 = .ok (.iconst 0, 1) := by decide +kernel
theorem dX6_putCrash_19 : decode cX6_putCrash 19 = .ok (.ireturn, 1) := by decide +kernel
theorem dX6_putCrash_20 : decode cX6_putCrash 20 = .ok (.aload_n 0, 1) := by decide +kernel
theorem dX6_putCrash_21 : decode cX6_putCrash 21 = .ok (.iload_n 1, 1) := by decide +kernel
theorem dX6_putCrash_22 : decode cX6_putCrash 22 = .ok (.putfield 28, 3) := by decide +kernel
theorem dX6_putCrash_25 : decode cX6_putCrash 25 = .ok (.aload_n 0, 1) := by decide +kernel
theorem dX6_putCrash_26 : decode cX6_putCrash 26 = .ok (.iload_n 2, 1) := by decide +kernel
theorem dX6_putCrash_27 : decode cX6_putCrash 27 = .ok (.putfield 31, 3) := by decide +kernel
theorem dX6_putCrash_30 : decode cX6_putCrash 30 = .ok (.iconst 1, 1) := by decide +kernel
theorem dX6_putCrash_31 : decode cX6_putCrash 31 = .ok (.ireturn, 1) := by decide +kernel
theorem dX6_renew_0 : decode cX6_renew 0 = .ok (.iload_n 1, 1) := by decide +kernel
theorem dX6_renew_1 : decode cX6_renew 1 = .ok (.iconst 1, 1) := by decide +kernel
theorem dX6_renew_2 : decode cX6_renew 2 = .ok (.if_icmp .lt 9, 3) := by decide +kernel
theorem dX6_renew_5 : decode cX6_renew 5 = .ok (.iload_n 1, 1) := by decide +kernel
theorem dX6_renew_6 : decode cX6_renew 6 = .ok (.bipush 30, 2) := by decide +kernel
theorem dX6_renew_8 : decode cX6_renew 8 = .ok (.if_icmp .le 5, 3) := by decide +kernel
theorem dX6_renew_11 : decode cX6_renew 11 = .ok (.iconst 0, 1) := by decide +kernel
theorem dX6_renew_12 : decode cX6_renew 12 = .ok (.ireturn, 1) := by decide +kernel
theorem dX6_renew_13 : decode cX6_renew 13 = .ok (.aload_n 0, 1) := by decide +kernel
theorem dX6_renew_14 : decode cX6_renew 14 = .ok (.iload_n 1, 1) := by decide +kernel
theorem dX6_renew_15 : decode cX6_renew 15 = .ok (.putfield 9, 3) := by decide +kernel
theorem dX6_renew_18 : decode cX6_renew 18 = .ok (.iconst 0, 1) := by decide +kernel
theorem dX6_renew_19 : decode cX6_renew 19 = .ok (.istore_n 2, 1) := by decide +kernel
theorem dX6_renew_20 : decode cX6_renew 20 = .ok (.iload_n 2, 1) := by decide +kernel
theorem dX6_renew_21 : decode cX6_renew 21 = .ok (.bipush 30, 2) := by decide +kernel
theorem dX6_renew_23 : decode cX6_renew 23 = .ok (.if_icmp .ge 23, 3) := by decide +kernel
theorem dX6_renew_26 : decode cX6_renew 26 = .ok (.aload_n 0, 1) := by decide +kernel
theorem dX6_renew_27 : decode cX6_renew 27 = .ok (.getfield 15, 3) := by decide +kernel
theorem dX6_renew_30 : decode cX6_renew 30 = .ok (.iload_n 2, 1) := by decide +kernel
theorem dX6_renew_31 : decode cX6_renew 31 = .ok (.iconst 0, 1) := by decide +kernel
theorem dX6_renew_32 : decode cX6_renew 32 = .ok (.iastore, 1) := by decide +kernel
theorem dX6_renew_33 : decode cX6_renew 33 = .ok (.aload_n 0, 1) := by decide +kernel
theorem dX6_renew_34 : decode cX6_renew 34 = .ok (.getfield 19, 3) := by decide +kernel
theorem dX6_renew_37 : decode cX6_renew 37 = .ok (.iload_n 2, 1) := by decide +kernel
theorem dX6_renew_38 : decode cX6_renew 38 = .ok (.iconst 0, 1) := by decide +kernel
theorem dX6_renew_39 : decode cX6_renew 39 = .ok (.iastore, 1) := by decide +kernel
theorem dX6_renew_40 : decode cX6_renew 40 = .ok (.iinc 2 1, 3) := by decide +kernel
theorem dX6_renew_43 : decode cX6_renew 43 = .ok (.goto (-23), 3) := by decide +kernel
theorem dX6_renew_46 : decode cX6_renew 46 = .ok (.aload_n 0, 1) := by decide +kernel
theorem dX6_renew_47 : decode cX6_renew 47 = .ok (.iconst 0, 1) := by decide +kernel
theorem dX6_renew_48 : decode cX6_renew 48 = .ok (.putfield 22, 3) := by decide +kernel
theorem dX6_renew_51 : decode cX6_renew 51 = .ok (.aload_n 0, 1) := by decide +kernel
theorem dX6_renew_52 : decode cX6_renew 52 = .ok (.iconst 0, 1) := by decide +kernel
theorem dX6_renew_53 : decode cX6_renew 53 = .ok (.putfield 28, 3) := by decide +kernel
theorem dX6_renew_56 : decode cX6_renew 56 = .ok (.aload_n 0, 1) := by decide +kernel
theorem dX6_renew_57 : decode cX6_renew 57 = .ok (.iconst 0, 1) := by decide +kernel
theorem dX6_renew_58 : decode cX6_renew 58 = .ok (.putfield 31, 3) := by decide +kernel
theorem dX6_renew_61 : decode cX6_renew 61 = .ok (.iconst 1, 1) := by decide +kernel
theorem dX6_renew_62 : decode cX6_renew 62 = .ok (.ireturn, 1) := by decide +kernel
theorem dX6_shape_0 : decode cX6_shape 0 = .ok (.iload_n 1, 1) := by decide +kernel
theorem dX6_shape_1 : decode cX6_shape 1 = .ok (.ifCond .lt 35, 3) := by decide +kernel
theorem dX6_shape_4 : decode cX6_shape 4 = .ok (.iload_n 1, 1) := by decide +kernel
theorem dX6_shape_5 : decode cX6_shape 5 = .ok (.aload_n 0, 1) := by decide +kernel
theorem dX6_shape_6 : decode cX6_shape 6 = .ok (.getfield 9, 3) := by decide +kernel
theorem dX6_shape_9 : decode cX6_shape 9 = .ok (.if_icmp .ge 27, 3) := by decide +kernel
theorem dX6_shape_12 : decode cX6_shape 12 = .ok (.iload_n 2, 1) := by decide +kernel
theorem dX6_shape_13 : decode cX6_shape 13 = .ok (.bipush (-5), 2) := by decide +kernel
theorem dX6_shape_15 : decode cX6_shape 15 = .ok (.if_icmp .lt 21, 3) := by decide +kernel
theorem dX6_shape_18 : decode cX6_shape 18 = .ok (.iload_n 2, 1) := by decide +kernel
theorem dX6_shape_19 : decode cX6_shape 19 = .ok (.bipush 10, 2) := by decide +kernel
theorem dX6_shape_21 : decode cX6_shape 21 = .ok (.if_icmp .gt 15, 3) := by decide +kernel
theorem dX6_shape_24 : decode cX6_shape 24 = .ok (.iload_n 3, 1) := by decide +kernel
theorem dX6_shape_25 : decode cX6_shape 25 = .ok (.bipush (-3), 2) := by decide +kernel
theorem dX6_shape_27 : decode cX6_shape 27 = .ok (.if_icmp .lt 9, 3) := by decide +kernel
theorem dX6_shape_30 : decode cX6_shape 30 = .ok (.iload_n 3, 1) := by decide +kernel
theorem dX6_shape_31 : decode cX6_shape 31 = .ok (.bipush 9, 2) := by decide +kernel
theorem dX6_shape_33 : decode cX6_shape 33 = .ok (.if_icmp .le 5, 3) := by decide +kernel
theorem dX6_shape_36 : decode cX6_shape 36 = .ok (.iconst 0, 1) := by decide +kernel
theorem dX6_shape_37 : decode cX6_shape 37 = .ok (.ireturn, 1) := by decide +kernel
theorem dX6_shape_38 : decode cX6_shape 38 = .ok (.aload_n 0, 1) := by decide +kernel
theorem dX6_shape_39 : decode cX6_shape 39 = .ok (.getfield 15, 3) := by decide +kernel
theorem dX6_shape_42 : decode cX6_shape 42 = .ok (.iload_n 1, 1) := by decide +kernel
theorem dX6_shape_43 : decode cX6_shape 43 = .ok (.iload_n 2, 1) := by decide +kernel
theorem dX6_shape_44 : decode cX6_shape 44 = .ok (.iastore, 1) := by decide +kernel
theorem dX6_shape_45 : decode cX6_shape 45 = .ok (.aload_n 0, 1) := by decide +kernel
theorem dX6_shape_46 : decode cX6_shape 46 = .ok (.getfield 19, 3) := by decide +kernel
theorem dX6_shape_49 : decode cX6_shape 49 = .ok (.iload_n 1, 1) := by decide +kernel
theorem dX6_shape_50 : decode cX6_shape 50 = .ok (.iload_n 3, 1) := by decide +kernel
theorem dX6_shape_51 : decode cX6_shape 51 = .ok (.iastore, 1) := by decide +kernel
theorem dX6_shape_52 : decode cX6_shape 52 = .ok (.iconst 1, 1) := by decide +kernel
theorem dX6_shape_53 : decode cX6_shape 53 = .ok (.ireturn, 1) := by decide +kernel
theorem dX8_append_0 : decode cX8_append 0 = .ok (.iconst 0, 1) := by decide +kernel
theorem dX8_append_1 : decode cX8_append 1 = .ok (.istore_n 2, 1) := by decide +kernel
theorem dX8_append_2 : decode cX8_append 2 = .ok (.iload_n 2, 1) := by decide +kernel
theorem dX8_append_3 : decode cX8_append 3 = .ok (.iconst 4, 1) := by decide +kernel
theorem dX8_append_4 : decode cX8_append 4 = .ok (.if_icmp .ge 49, 3) := by decide +kernel
theorem dX8_append_7 : decode cX8_append 7 = .ok (.aload_n 0, 1) := by decide +kernel
theorem dX8_append_8 : decode cX8_append 8 = .ok (.iload_n 1, 1) := by decide +kernel
theorem dX8_append_9 : decode cX8_append 9 = .ok (.iload_n 2, 1) := by decide +kernel
theorem dX8_append_10 : decode cX8_append 10 = .ok (.invokevirtual 19, 3) := by decide +kernel
theorem dX8_append_13 : decode cX8_append 13 = .ok (.istore_n 3, 1) := by decide +kernel
theorem dX8_append_14 : decode cX8_append 14 = .ok (.iload_n 3, 1) := by decide +kernel
theorem dX8_append_15 : decode cX8_append 15 = .ok (.ifCond .eq 32, 3) := by decide +kernel
theorem dX8_append_18 : decode cX8_append 18 = .ok (.aload_n 0, 1) := by decide +kernel
theorem dX8_append_19 : decode cX8_append 19 = .ok (.getfield 9, 3) := by decide +kernel
theorem dX8_append_22 : decode cX8_append 22 = .ok (.bipush 100, 2) := by decide +kernel
theorem dX8_append_24 : decode cX8_append 24 = .ok (.if_icmp .ge 23, 3) := by decide +kernel
theorem dX8_append_27 : decode cX8_append 27 = .ok (.aload_n 0, 1) := by decide +kernel
theorem dX8_append_28 : decode cX8_append 28 = .ok (.getfield 15, 3) := by decide +kernel
theorem dX8_append_31 : decode cX8_append 31 = .ok (.aload_n 0, 1) := by decide +kernel
theorem dX8_append_32 : decode cX8_append 32 = .ok (.getfield 9, 3) := by decide +kernel
theorem dX8_append_35 : decode cX8_append 35 = .ok (.iload_n 3, 1) := by decide +kernel
theorem dX8_append_36 : decode cX8_append 36 = .ok (.iastore, 1) := by decide +kernel
theorem dX8_append_37 : decode cX8_append 37 = .ok (.aload_n 0, 1) := by decide +kernel
theorem dX8_append_38 : decode cX8_append 38 = .ok (.dup, 1) := by decide +kernel
theorem dX8_append_39 : decode cX8_append 39 = .ok (.getfield 9, 3) := by decide +kernel
theorem dX8_append_42 : decode cX8_append 42 = .ok (.iconst 1, 1) := by decide +kernel
theorem dX8_append_43 : decode cX8_append 43 = .ok (.iadd, 1) := by decide +kernel
theorem dX8_append_44 : decode cX8_append 44 = .ok (.putfield 9, 3) := by decide +kernel
theorem dX8_append_47 : decode cX8_append 47 = .ok (.iinc 2 1, 3) := by decide +kernel
theorem dX8_append_50 : decode cX8_append 50 = .ok (.goto (-48), 3) := by decide +kernel
theorem dX8_append_53 : decode cX8_append 53 = .ok (.return_, 1) := by decide +kernel
theorem dX8_byteOf_0 : decode cX8_byteOf 0 = .ok (.iload_n 1, 1) := by decide +kernel
theorem dX8_byteOf_1 : decode cX8_byteOf 1 = .ok (.bipush 8, 2) := by decide +kernel
theorem dX8_byteOf_3 : decode cX8_byteOf 3 = .ok (.iconst 3, 1) := by decide +kernel
theorem dX8_byteOf_4 : decode cX8_byteOf 4 = .ok (.iload_n 2, 1) := by decide +kernel
theorem dX8_byteOf_5 : decode cX8_byteOf 5 = .ok (.isub, 1) := by decide +kernel
theorem dX8_byteOf_6 : decode cX8_byteOf 6 = .ok (.imul, 1) := by decide +kernel
theorem dX8_byteOf_7 : decode cX8_byteOf 7 = .ok (.iushr, 1) := by decide +kernel
theorem dX8_byteOf_8 : decode cX8_byteOf 8 = .ok (.sipush 255, 3) := by decide +kernel
theorem dX8_byteOf_11 : decode cX8_byteOf 11 = .ok (.iand, 1) := by decide +kernel
theorem dX8_byteOf_12 : decode cX8_byteOf 12 = .ok (.ireturn, 1) := by decide +kernel
theorem dX8_bytesIn_0 : decode cX8_bytesIn 0 = .ok (.iconst 0, 1) := by decide +kernel
theorem dX8_bytesIn_1 : decode cX8_bytesIn 1 = .ok (.istore_n 2, 1) := by decide +kernel
theorem dX8_bytesIn_2 : decode cX8_bytesIn 2 = .ok (.iconst 0, 1) := by decide +kernel
theorem dX8_bytesIn_3 : decode cX8_bytesIn 3 = .ok (.istore_n 3, 1) := by decide +kernel
theorem dX8_bytesIn_4 : decode cX8_bytesIn 4 = .ok (.iload_n 3, 1) := by decide +kernel
theorem dX8_bytesIn_5 : decode cX8_bytesIn 5 = .ok (.iconst 4, 1) := by decide +kernel
theorem dX8_bytesIn_6 : decode cX8_bytesIn 6 = .ok (.if_icmp .ge 21, 3) := by decide +kernel
theorem dX8_bytesIn_9 : decode cX8_bytesIn 9 = .ok (.aload_n 0, 1) := by decide +kernel
theorem dX8_bytesIn_10 : decode cX8_bytesIn 10 = .ok (.iload_n 1, 1) := by decide +kernel
theorem dX8_bytesIn_11 : decode cX8_bytesIn 11 = .ok (.iload_n 3, 1) := by decide +kernel
theorem dX8_bytesIn_12 : decode cX8_bytesIn 12 = .ok (.invokevirtual 19, 3) := by decide +kernel
theorem dX8_bytesIn_15 : decode cX8_bytesIn 15 = .ok (.ifCond .eq 6, 3) := by decide +kernel
theorem dX8_bytesIn_18 : decode cX8_bytesIn 18 = .ok (.iinc 2 1, 3) := by decide +kernel
theorem dX8_bytesIn_21 : decode cX8_bytesIn 21 = .ok (.iinc 3 1, 3) := by decide +kernel
theorem dX8_bytesIn_24 : decode cX8_bytesIn 24 = .ok (.goto (-20), 3) := by decide +kernel
theorem dX8_bytesIn_27 : decode cX8_bytesIn 27 = .ok (.iload_n 2, 1) := by decide +kernel
theorem dX8_bytesIn_28 : decode cX8_bytesIn 28 = .ok (.ireturn, 1) := by decide +kernel
theorem dX9_isTeam_0 : decode cX9_isTeam 0 = .ok (.iload_n 0, 1) := by decide +kernel
theorem dX9_isTeam_1 : decode cX9_isTeam 1 = .ok (.ifCond .lt 12, 3) := by decide +kernel
theorem dX9_isTeam_4 : decode cX9_isTeam 4 = .ok (.iload_n 0, 1) := by decide +kernel
theorem dX9_isTeam_5 : decode cX9_isTeam 5 = .ok (.iconst 5, 1) := by decide +kernel
theorem dX9_isTeam_6 : decode cX9_isTeam 6 = .ok (.if_icmp .ge 7, 3) := by decide +kernel
theorem dX9_isTeam_9 : decode cX9_isTeam 9 = .ok (.iconst 1, 1) := by decide +kernel
theorem dX9_isTeam_10 : decode cX9_isTeam 10 = .ok (.goto 4, 3) := by decide +kernel
theorem dX9_isTeam_13 : decode cX9_isTeam 13 = .ok (.iconst 0, 1) := by decide +kernel
theorem dX9_isTeam_14 : decode cX9_isTeam 14 = .ok (.ireturn, 1) := by decide +kernel
