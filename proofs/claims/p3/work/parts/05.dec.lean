theorem dX0_clear_0 : decode cX0_clear 0 = .ok (.aload_n 0, 1) := by decide +kernel
theorem dX0_clear_1 : decode cX0_clear 1 = .ok (.iconst 0, 1) := by decide +kernel
theorem dX0_clear_2 : decode cX0_clear 2 = .ok (.putfield 9, 3) := by decide +kernel
theorem dX0_clear_5 : decode cX0_clear 5 = .ok (.aload_n 0, 1) := by decide +kernel
theorem dX0_clear_6 : decode cX0_clear 6 = .ok (.iconst 0, 1) := by decide +kernel
theorem dX0_clear_7 : decode cX0_clear 7 = .ok (.putfield 15, 3) := by decide +kernel
theorem dX0_clear_10 : decode cX0_clear 10 = .ok (.return_, 1) := by decide +kernel
theorem dX0_close_0 : decode cX0_close 0 = .ok (.iload_n 1, 1) := by decide +kernel
theorem dX0_close_1 : decode cX0_close 1 = .ok (.istore_n 3, 1) := by decide +kernel
theorem dX0_close_2 : decode cX0_close 2 = .ok (.iload_n 3, 1) := by decide +kernel
theorem dX0_close_3 : decode cX0_close 3 = .ok (.iload_n 2, 1) := by decide +kernel
theorem dX0_close_4 : decode cX0_close 4 = .ok (.if_icmp .gt 25, 3) := by decide +kernel
theorem dX0_close_7 : decode cX0_close 7 = .ok (.aload_n 0, 1) := by decide +kernel
theorem dX0_close_8 : decode cX0_close 8 = .ok (.getfield 25, 3) := by decide +kernel
theorem dX0_close_11 : decode cX0_close 11 = .ok (.aload_n 0, 1) := by decide +kernel
theorem dX0_close_12 : decode cX0_close 12 = .ok (.getfield 18, 3) := by decide +kernel
theorem dX0_close_15 : decode cX0_close 15 = .ok (.iload_n 3, 1) := by decide +kernel
theorem dX0_close_16 : decode cX0_close 16 = .ok (.iaload, 1) := by decide +kernel
theorem dX0_close_17 : decode cX0_close 17 = .ok (.iload_n 2, 1) := by decide +kernel
theorem dX0_close_18 : decode cX0_close 18 = .ok (.iload_n 1, 1) := by decide +kernel
theorem dX0_close_19 : decode cX0_close 19 = .ok (.isub, 1) := by decide +kernel
theorem dX0_close_20 : decode cX0_close 20 = .ok (.iconst 1, 1) := by decide +kernel
theorem dX0_close_21 : decode cX0_close 21 = .ok (.iadd, 1) := by decide +kernel
theorem dX0_close_22 : decode cX0_close 22 = .ok (.iastore, 1) := by decide +kernel
theorem dX0_close_23 : decode cX0_close 23 = .ok (.iinc 3 1, 3) := by decide +kernel
theorem dX0_close_26 : decode cX0_close 26 = .ok (.goto (-24), 3) := by decide +kernel
theorem dX0_close_29 : decode cX0_close 29 = .ok (.aload_n 0, 1) := by decide +kernel
theorem dX0_close_30 : decode cX0_close 30 = .ok (.dup, 1) := by decide +kernel
theorem dX0_close_31 : decode cX0_close 31 = .ok (.getfield 15, 3) := by decide +kernel
theorem dX0_close_34 : decode cX0_close 34 = .ok (.iconst 1, 1) := by decide +kernel
theorem dX0_close_35 : decode cX0_close 35 = .ok (.iadd, 1) := by decide +kernel
theorem dX0_close_36 : decode cX0_close 36 = .ok (.putfield 15, 3) := by decide +kernel
theorem dX0_close_39 : decode cX0_close 39 = .ok (.return_, 1) := by decide +kernel
theorem dX0_part_0 : decode cX0_part 0 = .ok (.iconst 0, 1) := by decide +kernel
theorem dX0_part_1 : decode cX0_part 1 = .ok (.istore_n 2, 1) := by decide +kernel
theorem dX0_part_2 : decode cX0_part 2 = .ok (.iconst 0, 1) := by decide +kernel
theorem dX0_part_3 : decode cX0_part 3 = .ok (.istore_n 3, 1) := by decide +kernel
theorem dX0_part_4 : decode cX0_part 4 = .ok (.iload_n 3, 1) := by decide +kernel
theorem dX0_part_5 : decode cX0_part 5 = .ok (.aload_n 0, 1) := by decide +kernel
theorem dX0_part_6 : decode cX0_part 6 = .ok (.getfield 9, 3) := by decide +kernel
theorem dX0_part_9 : decode cX0_part 9 = .ok (.if_icmp .ge 81, 3) := by decide +kernel
theorem dX0_part_12 : decode cX0_part 12 = .ok (.aload_n 0, 1) := by decide +kernel
theorem dX0_part_13 : decode cX0_part 13 = .ok (.getfield 22, 3) := by decide +kernel
theorem dX0_part_16 : decode cX0_part 16 = .ok (.aload_n 0, 1) := by decide +kernel
theorem dX0_part_17 : decode cX0_part 17 = .ok (.getfield 18, 3) := by decide +kernel
theorem dX0_part_20 : decode cX0_part 20 = .ok (.iload_n 3, 1) := by decide +kernel
theorem dX0_part_21 : decode cX0_part 21 = .ok (.iaload, 1) := by decide +kernel
theorem dX0_part_22 : decode cX0_part 22 = .ok (.iload_n 3, 1) := by decide +kernel
theorem dX0_part_23 : decode cX0_part 23 = .ok (.iload_n 2, 1) := by decide +kernel
theorem dX0_part_24 : decode cX0_part 24 = .ok (.isub, 1) := by decide +kernel
theorem dX0_part_25 : decode cX0_part 25 = .ok (.iconst 1, 1) := by decide +kernel
theorem dX0_part_26 : decode cX0_part 26 = .ok (.iadd, 1) := by decide +kernel
theorem dX0_part_27 : decode cX0_part 27 = .ok (.iastore, 1) := by decide +kernel
theorem dX0_part_28 : decode cX0_part 28 = .ok (.iload_n 3, 1) := by decide +kernel
theorem dX0_part_29 : decode cX0_part 29 = .ok (.iconst 1, 1) := by decide +kernel
theorem dX0_part_30 : decode cX0_part 30 = .ok (.iadd, 1) := by decide +kernel
theorem dX0_part_31 : decode cX0_part 31 = .ok (.aload_n 0, 1) := by decide +kernel
theorem dX0_part_32 : decode cX0_part 32 = .ok (.getfield 9, 3) := by decide +kernel
theorem dX0_part_35 : decode cX0_part 35 = .ok (.if_icmp .ge 27, 3) := by decide +kernel
theorem dX0_part_38 : decode cX0_part 38 = .ok (.aload_n 1, 1) := by decide +kernel
theorem dX0_part_39 : decode cX0_part 39 = .ok (.aload_n 0, 1) := by decide +kernel
theorem dX0_part_40 : decode cX0_part 40 = .ok (.getfield 18, 3) := by decide +kernel
theorem dX0_part_43 : decode cX0_part 43 = .ok (.iload_n 3, 1) := by decide +kernel
theorem dX0_part_44 : decode cX0_part 44 = .ok (.iaload, 1) := by decide +kernel
theorem dX0_part_45 : decode cX0_part 45 = .ok (.iaload, 1) := by decide +kernel
theorem dX0_part_46 : decode cX0_part 46 = .ok (.aload_n 1, 1) := by decide +kernel
theorem dX0_part_47 : decode cX0_part 47 = .ok (.aload_n 0, 1) := by decide +kernel
theorem dX0_part_48 : decode cX0_part 48 = .ok (.getfield 18, 3) := by decide +kernel
theorem dX0_part_51 : decode cX0_part 51 = .ok (.iload_n 3, 1) := by decide +kernel
theorem dX0_part_52 : decode cX0_part 52 = .ok (.iconst 1, 1) := by decide +kernel
theorem dX0_part_53 : decode cX0_part 53 = .ok (.iadd, 1) := by decide +kernel
theorem dX0_part_54 : decode cX0_part 54 = .ok (.iaload, 1) := by decide +kernel
theorem dX0_part_55 : decode cX0_part 55 = .ok (.iaload, 1) := by decide +kernel
theorem dX0_part_56 : decode cX0_part 56 = .ok (.isub, 1) := by decide +kernel
theorem dX0_part_57 : decode cX0_part 57 = .ok (.bipush 20, 2) := by decide +kernel
theorem dX0_part_59 : decode cX0_part 59 = .ok (.if_icmp .le 7, 3) := by decide +kernel
theorem dX0_part_62 : decode cX0_part 62 = .ok (.iconst 1, 1) := by decide +kernel
theorem dX0_part_63 : decode cX0_part 63 = .ok (.goto 4, 3) := by decide +kernel
theorem dX0_part_66 : decode cX0_part 66 = .ok (.iconst 0, 1) := by decide +kernel
theorem dX0_part_67 : decode cX0_part 67 = .ok (.istore 4, 2) := by decide +kernel
theorem dX0_part_69 : decode cX0_part 69 = .ok (.iload 4, 2) := by decide +kernel
theorem dX0_part_71 : decode cX0_part 71 = .ok (.ifCond .eq 13, 3) := by decide +kernel
theorem dX0_part_74 : decode cX0_part 74 = .ok (.aload_n 0, 1) := by decide +kernel
theorem dX0_part_75 : decode cX0_part 75 = .ok (.iload_n 2, 1) := by decide +kernel
theorem dX0_part_76 : decode cX0_part 76 = .ok (.iload_n 3, 1) := by decide +kernel
theorem dX0_part_77 : decode cX0_part 77 = .ok (.invokevirtual 28, 3) := by decide +kernel
theorem dX0_part_80 : decode cX0_part 80 = .ok (.iload_n 3, 1) := by decide +kernel
theorem dX0_part_81 : decode cX0_part 81 = .ok (.iconst 1, 1) := by decide +kernel
theorem dX0_part_82 : decode cX0_part 82 = .ok (.iadd, 1) := by decide +kernel
theorem dX0_part_83 : decode cX0_part 83 = .ok (.istore_n 2, 1) := by decide +kernel
theorem dX0_part_84 : decode cX0_part 84 = .ok (.iinc 3 1, 3) := by decide +kernel
theorem dX0_part_87 : decode cX0_part 87 = .ok (.goto (-83), 3) := by decide +kernel
theorem dX0_part_90 : decode cX0_part 90 = .ok (.return_, 1) := by decide +kernel
theorem dX0_stand_0 : decode cX0_stand 0 = .ok (.aload_n 0, 1) := by decide +kernel
theorem dX0_stand_1 : decode cX0_stand 1 = .ok (.getfield 9, 3) := by decide +kernel
theorem dX0_stand_4 : decode cX0_stand 4 = .ok (.bipush 20, 2) := by decide +kernel
theorem dX0_stand_6 : decode cX0_stand 6 = .ok (.if_icmp .lt 4, 3) := by decide +kernel
theorem dX0_stand_9 : decode cX0_stand 9 = .ok (.return_, 1) := by decide +kernel
theorem dX0_stand_10 : decode cX0_stand 10 = .ok (.aload_n 0, 1) := by decide +kernel
theorem dX0_stand_11 : decode cX0_stand 11 = .ok (.getfield 9, 3) := by decide +kernel
theorem dX0_stand_14 : decode cX0_stand 14 = .ok (.istore_n 3, 1) := by decide +kernel
theorem dX0_stand_15 : decode cX0_stand 15 = .ok (.iload_n 3, 1) := by decide +kernel
theorem dX0_stand_16 : decode cX0_stand 16 = .ok (.ifCond .le 39, 3) := by decide +kernel
theorem dX0_stand_19 : decode cX0_stand 19 = .ok (.aload_n 2, 1) := by decide +kernel
theorem dX0_stand_20 : decode cX0_stand 20 = .ok (.aload_n 0, 1) := by decide +kernel
theorem dX0_stand_21 : decode cX0_stand 21 = .ok (.getfield 18, 3) := by decide +kernel
theorem dX0_stand_24 : decode cX0_stand 24 = .ok (.iload_n 3, 1) := by decide +kernel
theorem dX0_stand_25 : decode cX0_stand 25 = .ok (.iconst 1, 1) := by decide +kernel
theorem dX0_stand_26 : decode cX0_stand 26 = .ok (.isub, 1) := by decide +kernel
theorem dX0_stand_27 : decode cX0_stand 27 = .ok (.iaload, 1) := by decide +kernel
theorem dX0_stand_28 : decode cX0_stand 28 = .ok (.iaload, 1) := by decide +kernel
theorem dX0_stand_29 : decode cX0_stand 29 = .ok (.aload_n 2, 1) := by decide +kernel
theorem dX0_stand_30 : decode cX0_stand 30 = .ok (.iload_n 1, 1) := by decide +kernel
theorem dX0_stand_31 : decode cX0_stand 31 = .ok (.iaload, 1) := by decide +kernel
theorem dX0_stand_32 : decode cX0_stand 32 = .ok (.if_icmp .ge 23, 3) := by decide +kernel
theorem dX0_stand_35 : decode cX0_stand 35 = .ok (.aload_n 0, 1) := by decide +kernel
theorem dX0_stand_36 : decode cX0_stand 36 = .ok (.getfield 18, 3) := by decide +kernel
theorem dX0_stand_39 : decode cX0_stand 39 = .ok (.iload_n 3, 1) := by decide +kernel
theorem dX0_stand_40 : decode cX0_stand 40 = .ok (.aload_n 0, 1) := by decide +kernel
theorem dX0_stand_41 : decode cX0_stand 41 = .ok (.getfield 18, 3) := by decide +kernel
theorem dX0_stand_44 : decode cX0_stand 44 = .ok (.iload_n 3, 1) := by decide +kernel
theorem dX0_stand_45 : decode cX0_stand 45 = .ok (.iconst 1, 1) := by decide +kernel
theorem dX0_stand_46 : decode cX0_stand 46 = .ok (.isub, 1) := by decide +kernel
theorem dX0_stand_47 : decode cX0_stand 47 = .ok (.iaload, 1) := by decide +kernel
theorem dX0_stand_48 : decode cX0_stand 48 = .ok (.iastore, 1) := by decide +kernel
theorem dX0_stand_49 : decode cX0_stand 49 = .ok (.iinc 3 (-1), 3) := by decide +kernel
theorem dX0_stand_52 : decode cX0_stand 52 = .ok (.goto (-37), 3) := by decide +kernel
theorem dX0_stand_55 : decode cX0_stand 55 = .ok (.aload_n 0, 1) := by decide +kernel
theorem dX0_stand_56 : decode cX0_stand 56 = .ok (.getfield 18, 3) := by decide +kernel
theorem dX0_stand_59 : decode cX0_stand 59 = .ok (.iload_n 3, 1) := by decide +kernel
theorem dX0_stand_60 : decode cX0_stand 60 = .ok (.iload_n 1, 1) := by decide +kernel
theorem dX0_stand_61 : decode cX0_stand 61 = .ok (.iastore, 1) := by decide +kernel
theorem dX0_stand_62 : decode cX0_stand 62 = .ok (.aload_n 0, 1) := by decide +kernel
theorem dX0_stand_63 : decode cX0_stand 63 = .ok (.dup, 1) := by decide +kernel
theorem dX0_stand_64 : decode cX0_stand 64 = .ok (.getfield 9, 3) := by decide +kernel
theorem dX0_stand_67 : decode cX0_stand 67 = .ok (.iconst 1, 1) := by decide +kernel
theorem dX0_stand_68 : decode cX0_stand 68 = .ok (.iadd, 1) := by decide +kernel
theorem dX0_stand_69 : decode cX0_stand 69 = .ok (.putfield 9, 3) := by decide +kernel
theorem dX0_stand_72 : decode cX0_stand 72 = .ok (.return_, 1) := by decide +kernel
theorem dX1_clearDraft_0 : decode cX1_clearDraft 0 = .ok (.aload_n 0, 1) := by decide +kernel
theorem dX1_clearDraft_1 : decode cX1_clearDraft 1 = .ok (.getfield 9, 3) := by decide +kernel
theorem dX1_clearDraft_4 : decode cX1_clearDraft 4 = .ok (.bipush 9, 2) := by decide +kernel
theorem dX1_clearDraft_6 : decode cX1_clearDraft 6 = .ok (.iconst 0, 1) := by decide +kernel
theorem dX1_clearDraft_7 : decode cX1_clearDraft 7 = .ok (.iastore, 1) := by decide +kernel
theorem dX1_clearDraft_8 : decode cX1_clearDraft 8 = .ok (.return_, 1) := by decide +kernel
theorem dX1_draftClause_0 : decode cX1_draftClause 0 = .ok (.aload_n 0, 1) := by decide +kernel
theorem dX1_draftClause_1 : decode cX1_draftClause 1 = .ok (.getfield 9, 3) := by decide +kernel
theorem dX1_draftClause_4 : decode cX1_draftClause 4 = .ok (.bipush 9, 2) := by decide +kernel
theorem dX1_draftClause_6 : decode cX1_draftClause 6 = .ok (.iaload, 1) := by decide +kernel
theorem dX1_draftClause_7 : decode cX1_draftClause 7 = .ok (.bipush 16, 2) := by decide +kernel
theorem dX1_draftClause_9 : decode cX1_draftClause 9 = .ok (.if_icmp .lt 4, 3) := by decide +kernel
theorem dX1_draftClause_12 : decode cX1_draftClause 12 = .ok (.return_, 1) := by decide +kernel
theorem dX1_draftClause_13 : decode cX1_draftClause 13 = .ok (.sipush 144, 3) := by decide +kernel
theorem dX1_draftClause_16 : decode cX1_draftClause 16 = .ok (.aload_n 0, 1) := by decide +kernel
theorem dX1_draftClause_17 : decode cX1_draftClause 17 = .ok (.getfield 9, 3) := by decide +kernel
theorem dX1_draftClause_20 : decode cX1_draftClause 20 = .ok (.bipush 9, 2) := by decide +kernel
theorem dX1_draftClause_22 : decode cX1_draftClause 22 = .ok (.iaload, 1) := by decide +kernel
theorem dX1_draftClause_23 : decode cX1_draftClause 23 = .ok (.iadd, 1) := by decide +kernel
theorem dX1_draftClause_24 : decode cX1_draftClause 24 = .ok (.istore 5, 2) := by decide +kernel
theorem dX1_draftClause_26 : decode cX1_draftClause 26 = .ok (.aload_n 0, 1) := by decide +kernel
theorem dX1_draftClause_27 : decode cX1_draftClause 27 = .ok (.getfield 15, 3) := by decide +kernel
theorem dX1_draftClause_30 : decode cX1_draftClause 30 = .ok (.iload 5, 2) := by decide +kernel
theorem dX1_draftClause_32 : decode cX1_draftClause 32 = .ok (.iload_n 1, 1) := by decide +kernel
theorem dX1_draftClause_33 : decode cX1_draftClause 33 = .ok (.iastore, 1) := by decide +kernel
theorem dX1_draftClause_34 : decode cX1_draftClause 34 = .ok (.aload_n 0, 1) := by decide +kernel
theorem dX1_draftClause_35 : decode cX1_draftClause 35 = .ok (.getfield 18, 3) := by decide +kernel
theorem dX1_draftClause_38 : decode cX1_draftClause 38 = .ok (.iload 5, 2) := by decide +kernel
theorem dX1_draftClause_40 : decode cX1_draftClause 40 = .ok (.iload_n 2, 1) := by decide +kernel
theorem dX1_draftClause_41 : decode cX1_draftClause 41 = .ok (.iastore, 1) := by decide +kernel
theorem dX1_draftClause_42 : decode cX1_draftClause 42 = .ok (.aload_n 0, 1) := by decide +kernel
theorem dX1_draftClause_43 : decode cX1_draftClause 43 = .ok (.getfield 21, 3) := by decide +kernel
theorem dX1_draftClause_46 : decode cX1_draftClause 46 = .ok (.iload 5, 2) := by decide +kernel
theorem dX1_draftClause_48 : decode cX1_draftClause 48 = .ok (.iload_n 3, 1) := by decide +kernel
theorem dX1_draftClause_49 : decode cX1_draftClause 49 = .ok (.iastore, 1) := by decide +kernel
theorem dX1_draftClause_50 : decode cX1_draftClause 50 = .ok (.aload_n 0, 1) := by decide +kernel
theorem dX1_draftClause_51 : decode cX1_draftClause 51 = .ok (.getfield 24, 3) := by decide +kernel
theorem dX1_draftClause_54 : decode cX1_draftClause 54 = .ok (.iload 5, 2) := by decide +kernel
theorem dX1_draftClause_56 : decode cX1_draftClause 56 = .ok (.iload 4, 2) := by decide +kernel
theorem dX1_draftClause_58 : decode cX1_draftClause 58 = .ok (.iastore, 1) := by decide +kernel
theorem dX1_draftClause_59 : decode cX1_draftClause 59 = .ok (.aload_n 0, 1) := by decide +kernel
theorem dX1_draftClause_60 : decode cX1_draftClause 60 = .ok (.getfield 9, 3) := by decide +kernel
theorem dX1_draftClause_63 : decode cX1_draftClause 63 = .ok (.bipush 9, 2) := by decide +kernel
theorem dX1_draftClause_65 : decode cX1_draftClause 65 = .ok (.dup2, 1) := by decide +kernel
theorem dX1_draftClause_66 : decode cX1_draftClause 66 = .ok (.iaload, 1) := by decide +kernel
theorem dX1_draftClause_67 : decode cX1_draftClause 67 = .ok (.iconst 1, 1) := by decide +kernel
theorem dX1_draftClause_68 : decode cX1_draftClause 68 = .ok (.iadd, 1) := by decide +kernel
theorem dX1_draftClause_69 : decode cX1_draftClause 69 = .ok (.iastore, 1) := by decide +kernel
theorem dX1_draftClause_70 : decode cX1_draftClause 70 = .ok (.return_, 1) := by decide +kernel
theorem dX1_holds_0 : decode cX1_holds 0 = .ok (.aload_n 0, 1) := by decide +kernel
theorem dX1_holds_1 : decode cX1_holds 1 = .ok (.getfield 18, 3) := by decide +kernel
theorem dX1_holds_4 : decode cX1_holds 4 = .ok (.iload_n 1, 1) := by decide +kernel
theorem dX1_holds_5 : decode cX1_holds 5 = .ok (.iaload, 1) := by decide +kernel
theorem dX1_holds_6 : decode cX1_holds 6 = .ok (.lookupswitch 58 #[(60, 26), (62, 42)], 26) := by decide +kernel
theorem dX1_holds_32 : decode cX1_holds 32 = .ok (.iload_n 2, 1) := by decide +kernel
theorem dX1_holds_33 : decode cX1_holds 33 = .ok (.aload_n 0, 1) := by decide +kernel
theorem dX1_holds_34 : decode cX1_holds 34 = .ok (.getfield 21, 3) := by decide +kernel
theorem dX1_holds_37 : decode cX1_holds 37 = .ok (.iload_n 1, 1) := by decide +kernel
theorem dX1_holds_38 : decode cX1_holds 38 = .ok (.iaload, 1) := by decide +kernel
theorem dX1_holds_39 : decode cX1_holds 39 = .ok (.if_icmp .ge 7, 3) := by decide +kernel
theorem dX1_holds_42 : decode cX1_holds 42 = .ok (.iconst 1, 1) := by decide +kernel
theorem dX1_holds_43 : decode cX1_holds 43 = .ok (.goto 4, 3) := by decide +kernel
theorem dX1_holds_46 : decode cX1_holds 46 = .ok (.iconst 0, 1) := by decide +kernel
theorem dX1_holds_47 : decode cX1_holds 47 = .ok (.ireturn, 1) := by decide +kernel
theorem dX1_holds_48 : decode cX1_holds 48 = .ok (.iload_n 2, 1) := by decide +kernel
theorem dX1_holds_49 : decode cX1_holds 49 = .ok (.aload_n 0, 1) := by decide +kernel
theorem dX1_holds_50 : decode cX1_holds 50 = .ok (.getfield 21, 3) := by decide +kernel
theorem dX1_holds_53 : decode cX1_holds 53 = .ok (.iload_n 1, 1) := by decide +kernel
theorem dX1_holds_54 : decode cX1_holds 54 = .ok (.iaload, 1) := by decide +kernel
theorem dX1_holds_55 : decode cX1_holds 55 = .ok (.if_icmp .le 7, 3) := by decide +kernel
theorem dX1_holds_58 : decode cX1_holds 58 = .ok (.iconst 1, 1) := by decide +kernel
theorem dX1_holds_59 : decode cX1_holds 59 = .ok (.goto 4, 3) := by decide +kernel
theorem dX1_holds_62 : decode cX1_holds 62 = .ok (.iconst 0, 1) := by decide +kernel
theorem dX1_holds_63 : decode cX1_holds 63 = .ok (.ireturn, 1) := by decide +kernel
theorem dX1_holds_64 : decode cX1_holds 64 = .ok (.iload_n 2, 1) := by decide +kernel
theorem dX1_holds_65 : decode cX1_holds 65 = .ok (.aload_n 0, 1) := by decide +kernel
theorem dX1_holds_66 : decode cX1_holds 66 = .ok (.getfield 21, 3) := by decide +kernel
theorem dX1_holds_69 : decode cX1_holds 69 = .ok (.iload_n 1, 1) := by decide +kernel
theorem dX1_holds_70 : decode cX1_holds 70 = .ok (.iaload, 1) := by decide +kernel
theorem dX1_holds_71 : decode cX1_holds 71 = .ok (.if_icmp .ne 7, 3) := by decide +kernel
theorem dX1_holds_74 : decode cX1_holds 74 = .ok (.iconst 1, 1) := by decide +kernel
theorem dX1_holds_75 : decode cX1_holds 75 = .ok (.goto 4, 3) := by decide +kernel
theorem dX1_holds_78 : decode cX1_holds 78 = .ok (.iconst 0, 1) := by decide +kernel
theorem dX1_holds_79 : decode cX1_holds 79 = .ok (.ireturn, 1) := by decide +kernel
theorem dX1_paceBy_0 : decode cX1_paceBy 0 = .ok (.iload_n 1, 1) := by decide +kernel
theorem dX1_paceBy_1 : decode cX1_paceBy 1 = .ok (.bipush 16, 2) := by decide +kernel
theorem dX1_paceBy_3 : decode cX1_paceBy 3 = .ok (.imul, 1) := by decide +kernel
theorem dX1_paceBy_4 : decode cX1_paceBy 4 = .ok (.istore_n 3, 1) := by decide +kernel
theorem dX1_paceBy_5 : decode cX1_paceBy 5 = .ok (.iconst 0, 1) := by decide +kernel
theorem dX1_paceBy_6 : decode cX1_paceBy 6 = .ok (.istore 4, 2) := by decide +kernel
theorem dX1_paceBy_8 : decode cX1_paceBy 8 = .ok (.iload 4, 2) := by decide +kernel
theorem dX1_paceBy_10 : decode cX1_paceBy 10 = .ok (.aload_n 0, 1) := by decide +kernel
theorem dX1_paceBy_11 : decode cX1_paceBy 11 = .ok (.getfield 9, 3) := by decide +kernel
theorem dX1_paceBy_14 : decode cX1_paceBy 14 = .ok (.iload_n 1, 1) := by decide +kernel
theorem dX1_paceBy_15 : decode cX1_paceBy 15 = .ok (.iaload, 1) := by decide +kernel
theorem dX1_paceBy_16 : decode cX1_paceBy 16 = .ok (.if_icmp .ge 41, 3) := by decide +kernel
theorem dX1_paceBy_19 : decode cX1_paceBy 19 = .ok (.aload_n 0, 1) := by decide +kernel
theorem dX1_paceBy_20 : decode cX1_paceBy 20 = .ok (.iload_n 3, 1) := by decide +kernel
theorem dX1_paceBy_21 : decode cX1_paceBy 21 = .ok (.iload 4, 2) := by decide +kernel
theorem dX1_paceBy_23 : decode cX1_paceBy 23 = .ok (.iadd, 1) := by decide +kernel
theorem dX1_paceBy_24 : decode cX1_paceBy 24 = .ok (.aload_n 2, 1) := by decide +kernel
theorem dX1_paceBy_25 : decode cX1_paceBy 25 = .ok (.aload_n 0, 1) := by decide +kernel
theorem dX1_paceBy_26 : decode cX1_paceBy 26 = .ok (.getfield 15, 3) := by decide +kernel
theorem dX1_paceBy_29 : decode cX1_paceBy 29 = .ok (.iload_n 3, 1) := by decide +kernel
theorem dX1_paceBy_30 : decode cX1_paceBy 30 = .ok (.iload 4, 2) := by decide +kernel
theorem dX1_paceBy_32 : decode cX1_paceBy 32 = .ok (.iadd, 1) := by decide +kernel
theorem dX1_paceBy_33 : decode cX1_paceBy 33 = .ok (.iaload, 1) := by decide +kernel
theorem dX1_paceBy_34 : decode cX1_paceBy 34 = .ok (.iaload, 1) := by decide +kernel
theorem dX1_paceBy_35 : decode cX1_paceBy 35 = .ok (.invokevirtual 27, 3) := by decide +kernel
theorem dX1_paceBy_38 : decode cX1_paceBy 38 = .ok (.ifCond .eq 13, 3) := by decide +kernel
theorem dX1_paceBy_41 : decode cX1_paceBy 41 = .ok (.aload_n 0, 1) := by decide +kernel
theorem dX1_paceBy_42 : decode cX1_paceBy 42 = .ok (.getfield 24, 3) := by decide +kernel
theorem dX1_paceBy_45 : decode cX1_paceBy 45 = .ok (.iload_n 3, 1) := by decide +kernel
theorem dX1_paceBy_46 : decode cX1_paceBy 46 = .ok (.iload 4, 2) := by decide +kernel
theorem dX1_paceBy_48 : decode cX1_paceBy 48 = .ok (.iadd, 1) := by decide +kernel
theorem dX1_paceBy_49 : decode cX1_paceBy 49 = .ok (.iaload, 1) := by decide +kernel
theorem dX1_paceBy_50 : decode cX1_paceBy 50 = .ok (.ireturn, 1) := by decide +kernel
theorem dX1_paceBy_51 : decode cX1_paceBy 51 = .ok (.iinc 4 1, 3) := by decide +kernel
theorem dX1_paceBy_54 : decode cX1_paceBy 54 = .ok (.goto (-46), 3) := by decide +kernel
theorem dX1_paceBy_57 : decode cX1_paceBy 57 = .ok (.iconst 4, 1) := by decide +kernel
theorem dX1_paceBy_58 : decode cX1_paceBy 58 = .ok (.ireturn, 1) := by decide +kernel
theorem dX1_takeDraft_0 : decode cX1_takeDraft 0 = .ok (.sipush 144, 3) := by decide +kernel
theorem dX1_takeDraft_3 : decode cX1_takeDraft 3 = .ok (.istore_n 2, 1) := by decide +kernel
theorem dX1_takeDraft_4 : decode cX1_takeDraft 4 = .ok (.iload_n 1, 1) := by decide +kernel
theorem dX1_takeDraft_5 : decode cX1_takeDraft 5 = .ok (.bipush 16, 2) := by decide +kernel
theorem dX1_takeDraft_7 : decode cX1_takeDraft 7 = .ok (.imul, 1) := by decide +kernel
theorem dX1_takeDraft_8 : decode cX1_takeDraft 8 = .ok (.istore_n 3, 1) := by decide +kernel
theorem dX1_takeDraft_9 : decode cX1_takeDraft 9 = .ok (.iconst 0, 1) := by decide +kernel
theorem dX1_takeDraft_10 : decode cX1_takeDraft 10 = .ok (.istore 4, 2) := by decide +kernel
theorem dX1_takeDraft_12 : decode cX1_takeDraft 12 = .ok (.iload 4, 2) := by decide +kernel
theorem dX1_takeDraft_14 : decode cX1_takeDraft 14 = .ok (.bipush 16, 2) := by decide +kernel
theorem dX1_takeDraft_16 : decode cX1_takeDraft 16 = .ok (.if_icmp .ge 81, 3) := by decide +kernel
theorem dX1_takeDraft_19 : decode cX1_takeDraft 19 = .ok (.aload_n 0, 1) := by decide +kernel
theorem dX1_takeDraft_20 : decode cX1_takeDraft 20 = .ok (.getfield 15, 3) := by decide +kernel
theorem dX1_takeDraft_23 : decode cX1_takeDraft 23 = .ok (.iload_n 3, 1) := by decide +kernel
theorem dX1_takeDraft_24 : decode cX1_takeDraft 24 = .ok (.iload 4, 2) := by decide +kernel
theorem dX1_takeDraft_26 : decode cX1_takeDraft 26 = .ok (.iadd, 1) := by decide +kernel
theorem dX1_takeDraft_27 : decode cX1_takeDraft 27 = .ok (.aload_n 0, 1) := by decide +kernel
theorem dX1_takeDraft_28 : decode cX1_takeDraft 28 = .ok (.getfield 15, 3) := by decide +kernel
theorem dX1_takeDraft_31 : decode cX1_takeDraft 31 = .ok (.iload_n 2, 1) := by decide +kernel
theorem dX1_takeDraft_32 : decode cX1_takeDraft 32 = .ok (.iload 4, 2) := by decide +kernel
theorem dX1_takeDraft_34 : decode cX1_takeDraft 34 = .ok (.iadd, 1) := by decide +kernel
theorem dX1_takeDraft_35 : decode cX1_takeDraft 35 = .ok (.iaload, 1) := by decide +kernel
theorem dX1_takeDraft_36 : decode cX1_takeDraft 36 = .ok (.iastore, 1) := by decide +kernel
theorem dX1_takeDraft_37 : decode cX1_takeDraft 37 = .ok (.aload_n 0, 1) := by decide +kernel
theorem dX1_takeDraft_38 : decode cX1_takeDraft 38 = .ok (.getfield 18, 3) := by decide +kernel
theorem dX1_takeDraft_41 : decode cX1_takeDraft 41 = .ok (.iload_n 3, 1) := by decide +kernel
theorem dX1_takeDraft_42 : decode cX1_takeDraft 42 = .ok (.iload 4, 2) := by decide +kernel
theorem dX1_takeDraft_44 : decode cX1_takeDraft 44 = .ok (.iadd, 1) := by decide +kernel
theorem dX1_takeDraft_45 : decode cX1_takeDraft 45 = .ok (.aload_n 0, 1) := by decide +kernel
theorem dX1_takeDraft_46 : decode cX1_takeDraft 46 = .ok (.getfield 18, 3) := by decide +kernel
theorem dX1_takeDraft_49 : decode cX1_takeDraft 49 = .ok (.iload_n 2, 1) := by decide +kernel
theorem dX1_takeDraft_50 : decode cX1_takeDraft 50 = .ok (.iload 4, 2) := by decide +kernel
theorem dX1_takeDraft_52 : decode cX1_takeDraft 52 = .ok (.iadd, 1) := by decide +kernel
theorem dX1_takeDraft_53 : decode cX1_takeDraft 53 = .ok (.iaload, 1) := by decide +kernel
theorem dX1_takeDraft_54 : decode cX1_takeDraft 54 = .ok (.iastore, 1) := by decide +kernel
theorem dX1_takeDraft_55 : decode cX1_takeDraft 55 = .ok (.aload_n 0, 1) := by decide +kernel
theorem dX1_takeDraft_56 : decode cX1_takeDraft 56 = .ok (.getfield 21, 3) := by decide +kernel
theorem dX1_takeDraft_59 : decode cX1_takeDraft 59 = .ok (.iload_n 3, 1) := by decide +kernel
theorem dX1_takeDraft_60 : decode cX1_takeDraft 60 = .ok (.iload 4, 2) := by decide +kernel
theorem dX1_takeDraft_62 : decode cX1_takeDraft 62 = .ok (.iadd, 1) := by decide +kernel
theorem dX1_takeDraft_63 : decode cX1_takeDraft 63 = .ok (.aload_n 0, 1) := by decide +kernel
theorem dX1_takeDraft_64 : decode cX1_takeDraft 64 = .ok (.getfield 21, 3) := by decide +kernel
theorem dX1_takeDraft_67 : decode cX1_takeDraft 67 = .ok (.iload_n 2, 1) := by decide +kernel
theorem dX1_takeDraft_68 : decode cX1_takeDraft 68 = .ok (.iload 4, 2) := by decide +kernel
theorem dX1_takeDraft_70 : decode cX1_takeDraft 70 = .ok (.iadd, 1) := by decide +kernel
theorem dX1_takeDraft_71 : decode cX1_takeDraft 71 = .ok (.iaload, 1) := by decide +kernel
theorem dX1_takeDraft_72 : decode cX1_takeDraft 72 = .ok (.iastore, 1) := by decide +kernel
theorem dX1_takeDraft_73 : decode cX1_takeDraft 73 = .ok (.aload_n 0, 1) := by decide +kernel
theorem dX1_takeDraft_74 : decode cX1_takeDraft 74 = .ok (.getfield 24, 3) := by decide +kernel
theorem dX1_takeDraft_77 : decode cX1_takeDraft 77 = .ok (.iload_n 3, 1) := by decide +kernel
theorem dX1_takeDraft_78 : decode cX1_takeDraft 78 = .ok (.iload 4, 2) := by decide +kernel
theorem dX1_takeDraft_80 : decode cX1_takeDraft 80 = .ok (.iadd, 1) := by decide +kernel
theorem dX1_takeDraft_81 : decode cX1_takeDraft 81 = .ok (.aload_n 0, 1) := by decide +kernel
theorem dX1_takeDraft_82 : decode cX1_takeDraft 82 = .ok (.getfield 24, 3) := by decide +kernel
theorem dX1_takeDraft_85 : decode cX1_takeDraft 85 = .ok (.iload_n 2, 1) := by decide +kernel
theorem dX1_takeDraft_86 : decode cX1_takeDraft 86 = .ok (.iload 4, 2) := by decide +kernel
theorem dX1_takeDraft_88 : decode cX1_takeDraft 88 = .ok (.iadd, 1) := by decide +kernel
theorem dX1_takeDraft_89 : decode cX1_takeDraft 89 = .ok (.iaload, 1) := by decide +kernel
theorem dX1_takeDraft_90 : decode cX1_takeDraft 90 = .ok (.iastore, 1) := by decide +kernel
theorem dX1_takeDraft_91 : decode cX1_takeDraft 91 = .ok (.iinc 4 1, 3) := by decide +kernel
theorem dX1_takeDraft_94 : decode cX1_takeDraft 94 = .ok (.goto (-82), 3) := by decide +kernel
theorem dX1_takeDraft_97 : decode cX1_takeDraft 97 = .ok (.aload_n 0, 1) := by decide +kernel
theorem dX1_takeDraft_98 : decode cX1_takeDraft 98 = .ok (.getfield 9, 3) := by decide +kernel
theorem dX1_takeDraft_101 : decode cX1_takeDraft 101 = .ok (.iload_n 1, 1) := by decide +kernel
theorem dX1_takeDraft_102 : decode cX1_takeDraft 102 = .ok (.aload_n 0, 1) := by decide +kernel
theorem dX1_takeDraft_103 : decode cX1_takeDraft 103 = .ok (.getfield 9, 3) := by decide +kernel
theorem dX1_takeDraft_106 : decode cX1_takeDraft 106 = .ok (.bipush 9, 2) := by decide +kernel
theorem dX1_takeDraft_108 : decode cX1_takeDraft 108 = .ok (.iaload, 1) := by decide +kernel
theorem dX1_takeDraft_109 : decode cX1_takeDraft 109 = .ok (.iastore, 1) := by decide +kernel
theorem dX1_takeDraft_110 : decode cX1_takeDraft 110 = .ok (.return_, 1) := by decide +kernel
theorem dX2_askedBy_0 : decode cX2_askedBy 0 = .ok (.iload_n 0, 1) := by decide +kernel
theorem dX2_askedBy_1 : decode cX2_askedBy 1 = .ok (.tableswitch 77 103 115 #[71, 77, 77, 77, 69, 77, 77, 73, 77, 75, 77, 77, 67], 67) := by decide +kernel
theorem dX2_askedBy_68 : decode cX2_askedBy 68 = .ok (.iconst 0, 1) := by decide +kernel
theorem dX2_askedBy_69 : decode cX2_askedBy 69 = .ok (.ireturn, 1) := by decide +kernel
theorem dX2_askedBy_70 : decode cX2_askedBy 70 = .ok (.iconst 1, 1) := by decide +kernel
theorem dX2_askedBy_71 : decode cX2_askedBy 71 = .ok (.ireturn, 1) := by decide +kernel
theorem dX2_askedBy_72 : decode cX2_askedBy 72 = .ok (.iconst 2, 1) := by decide +kernel
theorem dX2_askedBy_73 : decode cX2_askedBy 73 = .ok (.ireturn, 1) := by decide +kernel
theorem dX2_askedBy_74 : decode cX2_askedBy 74 = .ok (.iconst 3, 1) := by decide +kernel
theorem dX2_askedBy_75 : decode cX2_askedBy 75 = .ok (.ireturn, 1) := by decide +kernel
theorem dX2_askedBy_76 : decode cX2_askedBy 76 = .ok (.iconst 4, 1) := by decide +kernel
theorem dX2_askedBy_77 : decode cX2_askedBy 77 = .ok (.ireturn, 1) := by decide +kernel
theorem dX2_askedBy_78 : decode cX2_askedBy 78 = .ok (.iconst (-1), 1) := by decide +kernel
theorem dX2_askedBy_79 : decode cX2_askedBy 79 = .ok (.ireturn, 1) := by decide +kernel
theorem dX2_faultOf_0 : decode cX2_faultOf 0 = .ok (.aload_n 2, 1) := by decide +kernel
theorem dX2_faultOf_1 : decode cX2_faultOf 1 = .ok (.invokevirtual 27, 3) := by decide +kernel
theorem dX2_faultOf_4 : decode cX2_faultOf 4 = .ok (.aload_n 0, 1) := by decide +kernel
theorem dX2_faultOf_5 : decode cX2_faultOf 5 = .ok (.iconst 0, 1) := by decide +kernel
theorem dX2_faultOf_6 : decode cX2_faultOf 6 = .ok (.putfield 11, 3) := by decide +kernel
theorem dX2_faultOf_9 : decode cX2_faultOf 9 = .ok (.iconst 0, 1) := by decide +kernel
theorem dX2_faultOf_10 : decode cX2_faultOf 10 = .ok (.istore_n 3, 1) := by decide +kernel
theorem dX2_faultOf_11 : decode cX2_faultOf 11 = .ok (.iload_n 3, 1) := by decide +kernel
theorem dX2_faultOf_12 : decode cX2_faultOf 12 = .ok (.aload_n 1, 1) := by decide +kernel
theorem dX2_faultOf_13 : decode cX2_faultOf 13 = .ok (.getfield 32, 3) := by decide +kernel
theorem dX2_faultOf_16 : decode cX2_faultOf 16 = .ok (.if_icmp .ge 25, 3) := by decide +kernel
theorem dX2_faultOf_19 : decode cX2_faultOf 19 = .ok (.aload_n 0, 1) := by decide +kernel
theorem dX2_faultOf_20 : decode cX2_faultOf 20 = .ok (.aload_n 1, 1) := by decide +kernel
theorem dX2_faultOf_21 : decode cX2_faultOf 21 = .ok (.getfield 37, 3) := by decide +kernel
theorem dX2_faultOf_24 : decode cX2_faultOf 24 = .ok (.iload_n 3, 1) := by decide +kernel
theorem dX2_faultOf_25 : decode cX2_faultOf 25 = .ok (.iaload, 1) := by decide +kernel
theorem dX2_faultOf_26 : decode cX2_faultOf 26 = .ok (.aload_n 2, 1) := by decide +kernel
theorem dX2_faultOf_27 : decode cX2_faultOf 27 = .ok (.invokevirtual 41, 3) := by decide +kernel
theorem dX2_faultOf_30 : decode cX2_faultOf 30 = .ok (.ifCond .ne 5, 3) := by decide +kernel
theorem dX2_faultOf_33 : decode cX2_faultOf 33 = .ok (.iload_n 3, 1) := by decide +kernel
theorem dX2_faultOf_34 : decode cX2_faultOf 34 = .ok (.ireturn, 1) := by decide +kernel
theorem dX2_faultOf_35 : decode cX2_faultOf 35 = .ok (.iinc 3 1, 3) := by decide +kernel
theorem dX2_faultOf_38 : decode cX2_faultOf 38 = .ok (.goto (-27), 3) := by decide +kernel
theorem dX2_faultOf_41 : decode cX2_faultOf 41 = .ok (.aload_n 0, 1) := by decide +kernel
theorem dX2_faultOf_42 : decode cX2_faultOf 42 = .ok (.getfield 11, 3) := by decide +kernel
theorem dX2_faultOf_45 : decode cX2_faultOf 45 = .ok (.ifCond .eq 12, 3) := by decide +kernel
theorem dX2_faultOf_48 : decode cX2_faultOf 48 = .ok (.aload_n 0, 1) := by decide +kernel
theorem dX2_faultOf_49 : decode cX2_faultOf 49 = .ok (.getfield 11, 3) := by decide +kernel
theorem dX2_faultOf_52 : decode cX2_faultOf 52 = .ok (.bipush 7, 2) := by decide +kernel
theorem dX2_faultOf_54 : decode cX2_faultOf 54 = .ok (.if_icmp .ne 7, 3) := by decide +kernel
theorem dX2_faultOf_57 : decode cX2_faultOf 57 = .ok (.iconst (-1), 1) := by decide +kernel
theorem dX2_faultOf_58 : decode cX2_faultOf 58 = .ok (.goto 7, 3) := by decide +kernel
theorem dX2_faultOf_61 : decode cX2_faultOf 61 = .ok (.aload_n 1, 1) := by decide +kernel
theorem dX2_faultOf_62 : decode cX2_faultOf 62 = .ok (.getfield 32, 3) := by decide +kernel
theorem dX2_faultOf_65 : decode cX2_faultOf 65 = .ok (.ireturn, 1) := by decide +kernel
theorem dX2_goesOn_0 : decode cX2_goesOn 0 = .ok (.iload_n 1, 1) := by decide +kernel
theorem dX2_goesOn_1 : decode cX2_goesOn 1 = .ok (.bipush 32, 2) := by decide +kernel
theorem dX2_goesOn_3 : decode cX2_goesOn 3 = .ok (.if_icmp .ne 18, 3) := by decide +kernel
theorem dX2_goesOn_6 : decode cX2_goesOn 6 = .ok (.aload_n 0, 1) := by decide +kernel
theorem dX2_goesOn_7 : decode cX2_goesOn 7 = .ok (.getfield 11, 3) := by decide +kernel
theorem dX2_goesOn_10 : decode cX2_goesOn 10 = .ok (.iconst 4, 1) := by decide +kernel
theorem dX2_goesOn_11 : decode cX2_goesOn 11 = .ok (.if_icmp .ne 8, 3) := by decide +kernel
theorem dX2_goesOn_14 : decode cX2_goesOn 14 = .ok (.aload_n 0, 1) := by decide +kernel
theorem dX2_goesOn_15 : decode cX2_goesOn 15 = .ok (.iconst 5, 1) := by decide +kernel
theorem dX2_goesOn_16 : decode cX2_goesOn 16 = .ok (.putfield 11, 3) := by decide +kernel
theorem dX2_goesOn_19 : decode cX2_goesOn 19 = .ok (.iconst 1, 1) := by decide +kernel
theorem dX2_goesOn_20 : decode cX2_goesOn 20 = .ok (.ireturn, 1) := by decide +kernel
theorem dX2_goesOn_21 : decode cX2_goesOn 21 = .ok (.aload_n 0, 1) := by decide +kernel
theorem dX2_goesOn_22 : decode cX2_goesOn 22 = .ok (.getfield 11, 3) := by decide +kernel
theorem dX2_goesOn_25 : decode cX2_goesOn 25 = .ok (.tableswitch 104 0 6 #[43, 43, 49, 55, 61, 87, 97], 43) := by decide +kernel
theorem dX2_goesOn_68 : decode cX2_goesOn 68 = .ok (.aload_n 0, 1) := by decide +kernel
theorem dX2_goesOn_69 : decode cX2_goesOn 69 = .ok (.iload_n 1, 1) := by decide +kernel
theorem dX2_goesOn_70 : decode cX2_goesOn 70 = .ok (.invokevirtual 45, 3) := by decide +kernel
theorem dX2_goesOn_73 : decode cX2_goesOn 73 = .ok (.ireturn, 1) := by decide +kernel
theorem dX2_goesOn_74 : decode cX2_goesOn 74 = .ok (.aload_n 0, 1) := by decide +kernel
theorem dX2_goesOn_75 : decode cX2_goesOn 75 = .ok (.iload_n 1, 1) := by decide +kernel
theorem dX2_goesOn_76 : decode cX2_goesOn 76 = .ok (.invokevirtual 49, 3) := by decide +kernel
theorem dX2_goesOn_79 : decode cX2_goesOn 79 = .ok (.ireturn, 1) := by decide +kernel
theorem dX2_goesOn_80 : decode cX2_goesOn 80 = .ok (.aload_n 0, 1) := by decide +kernel
theorem dX2_goesOn_81 : decode cX2_goesOn 81 = .ok (.iload_n 1, 1) := by decide +kernel
theorem dX2_goesOn_82 : decode cX2_goesOn 82 = .ok (.invokevirtual 52, 3) := by decide +kernel
theorem dX2_goesOn_85 : decode cX2_goesOn 85 = .ok (.ireturn, 1) := by decide +kernel
theorem dX2_goesOn_86 : decode cX2_goesOn 86 = .ok (.aload_n 0, 1) := by decide +kernel
theorem dX2_goesOn_87 : decode cX2_goesOn 87 = .ok (.iload_n 1, 1) := by decide +kernel
theorem dX2_goesOn_88 : decode cX2_goesOn 88 = .ok (.invokevirtual 55, 3) := by decide +kernel
theorem dX2_goesOn_91 : decode cX2_goesOn 91 = .ok (.ifCond .ne 15, 3) := by decide +kernel
theorem dX2_goesOn_94 : decode cX2_goesOn 94 = .ok (.aload_n 0, 1) := by decide +kernel
theorem dX2_goesOn_95 : decode cX2_goesOn 95 = .ok (.iload_n 1, 1) := by decide +kernel
theorem dX2_goesOn_96 : decode cX2_goesOn 96 = .ok (.bipush 58, 2) := by decide +kernel
theorem dX2_goesOn_98 : decode cX2_goesOn 98 = .ok (.bipush 6, 2) := by decide +kernel
theorem dX2_goesOn_100 : decode cX2_goesOn 100 = .ok (.invokevirtual 58, 3) := by decide +kernel
theorem dX2_goesOn_103 : decode cX2_goesOn 103 = .ok (.ifCond .eq 7, 3) := by decide +kernel
theorem dX2_goesOn_106 : decode cX2_goesOn 106 = .ok (.iconst 1, 1) := by decide +kernel
theorem dX2_goesOn_107 : decode cX2_goesOn 107 = .ok (.goto 4, 3) := by decide +kernel
theorem dX2_goesOn_110 : decode cX2_goesOn 110 = .ok (.iconst 0, 1) := by decide +kernel
theorem dX2_goesOn_111 : decode cX2_goesOn 111 = .ok (.ireturn, 1) := by decide +kernel
theorem dX2_goesOn_112 : decode cX2_goesOn 112 = .ok (.aload_n 0, 1) := by decide +kernel
theorem dX2_goesOn_113 : decode cX2_goesOn 113 = .ok (.iload_n 1, 1) := by decide +kernel
theorem dX2_goesOn_114 : decode cX2_goesOn 114 = .ok (.bipush 58, 2) := by decide +kernel
theorem dX2_goesOn_116 : decode cX2_goesOn 116 = .ok (.bipush 6, 2) := by decide +kernel
theorem dX2_goesOn_118 : decode cX2_goesOn 118 = .ok (.invokevirtual 58, 3) := by decide +kernel
theorem dX2_goesOn_121 : decode cX2_goesOn 121 = .ok (.ireturn, 1) := by decide +kernel
theorem dX2_goesOn_122 : decode cX2_goesOn 122 = .ok (.aload_n 0, 1) := by decide +kernel
theorem dX2_goesOn_123 : decode cX2_goesOn 123 = .ok (.iload_n 1, 1) := by decide +kernel
theorem dX2_goesOn_124 : decode cX2_goesOn 124 = .ok (.aload_n 2, 1) := by decide +kernel
theorem dX2_goesOn_125 : decode cX2_goesOn 125 = .ok (.invokevirtual 62, 3) := by decide +kernel
theorem dX2_goesOn_128 : decode cX2_goesOn 128 = .ok (.ireturn, 1) := by decide +kernel
theorem dX2_goesOn_129 : decode cX2_goesOn 129 = .ok (.aload_n 0, 1) := by decide +kernel
theorem dX2_goesOn_130 : decode cX2_goesOn 130 = .ok (.iload_n 1, 1) := by decide +kernel
theorem dX2_goesOn_131 : decode cX2_goesOn 131 = .ok (.bipush 59, 2) := by decide +kernel
theorem dX2_goesOn_133 : decode cX2_goesOn 133 = .ok (.iconst 1, 1) := by decide +kernel
theorem dX2_goesOn_134 : decode cX2_goesOn 134 = .ok (.invokevirtual 58, 3) := by decide +kernel
theorem dX2_goesOn_137 : decode cX2_goesOn 137 = .ok (.ireturn, 1) := by decide +kernel
theorem dX2_isDigit_0 : decode cX2_isDigit 0 = .ok (.iload_n 0, 1) := by decide +kernel
theorem dX2_isDigit_1 : decode cX2_isDigit 1 = .ok (.bipush 48, 2) := by decide +kernel
theorem dX2_isDigit_3 : decode cX2_isDigit 3 = .ok (.if_icmp .lt 13, 3) := by decide +kernel
theorem dX2_isDigit_6 : decode cX2_isDigit 6 = .ok (.iload_n 0, 1) := by decide +kernel
theorem dX2_isDigit_7 : decode cX2_isDigit 7 = .ok (.bipush 57, 2) := by decide +kernel
theorem dX2_isDigit_9 : decode cX2_isDigit 9 = .ok (.if_icmp .gt 7, 3) := by decide +kernel
theorem dX2_isDigit_12 : decode cX2_isDigit 12 = .ok (.iconst 1, 1) := by decide +kernel
theorem dX2_isDigit_13 : decode cX2_isDigit 13 = .ok (.goto 4, 3) := by decide +kernel
theorem dX2_isDigit_16 : decode cX2_isDigit 16 = .ok (.iconst 0, 1) := by decide +kernel
theorem dX2_isDigit_17 : decode cX2_isDigit 17 = .ok (.ireturn, 1) := by decide +kernel
theorem dX2_takesDigit_0 : decode cX2_takesDigit 0 = .ok (.iload_n 1, 1) := by decide +kernel
theorem dX2_takesDigit_1 : decode cX2_takesDigit 1 = .ok (.invokestatic 69, 3) := by decide +kernel
theorem dX2_takesDigit_4 : decode cX2_takesDigit 4 = .ok (.ifCond .eq 11, 3) := by decide +kernel
theorem dX2_takesDigit_7 : decode cX2_takesDigit 7 = .ok (.aload_n 0, 1) := by decide +kernel
theorem dX2_takesDigit_8 : decode cX2_takesDigit 8 = .ok (.getfield 24, 3) := by decide +kernel
theorem dX2_takesDigit_11 : decode cX2_takesDigit 11 = .ok (.iconst 3, 1) := by decide +kernel
theorem dX2_takesDigit_12 : decode cX2_takesDigit 12 = .ok (.if_icmp .lt 5, 3) := by decide +kernel
theorem dX2_takesDigit_15 : decode cX2_takesDigit 15 = .ok (.iconst 0, 1) := by decide +kernel
theorem dX2_takesDigit_16 : decode cX2_takesDigit 16 = .ok (.ireturn, 1) := by decide +kernel
theorem dX2_takesDigit_17 : decode cX2_takesDigit 17 = .ok (.aload_n 0, 1) := by decide +kernel
theorem dX2_takesDigit_18 : decode cX2_takesDigit 18 = .ok (.bipush 10, 2) := by decide +kernel
theorem dX2_takesDigit_20 : decode cX2_takesDigit 20 = .ok (.aload_n 0, 1) := by decide +kernel
theorem dX2_takesDigit_21 : decode cX2_takesDigit 21 = .ok (.getfield 21, 3) := by decide +kernel
theorem dX2_takesDigit_24 : decode cX2_takesDigit 24 = .ok (.imul, 1) := by decide +kernel
theorem dX2_takesDigit_25 : decode cX2_takesDigit 25 = .ok (.iload_n 1, 1) := by decide +kernel
theorem dX2_takesDigit_26 : decode cX2_takesDigit 26 = .ok (.iadd, 1) := by decide +kernel
theorem dX2_takesDigit_27 : decode cX2_takesDigit 27 = .ok (.bipush 48, 2) := by decide +kernel
theorem dX2_takesDigit_29 : decode cX2_takesDigit 29 = .ok (.isub, 1) := by decide +kernel
theorem dX2_takesDigit_30 : decode cX2_takesDigit 30 = .ok (.putfield 21, 3) := by decide +kernel
theorem dX2_takesDigit_33 : decode cX2_takesDigit 33 = .ok (.aload_n 0, 1) := by decide +kernel
theorem dX2_takesDigit_34 : decode cX2_takesDigit 34 = .ok (.dup, 1) := by decide +kernel
theorem dX2_takesDigit_35 : decode cX2_takesDigit 35 = .ok (.getfield 24, 3) := by decide +kernel
theorem dX2_takesDigit_38 : decode cX2_takesDigit 38 = .ok (.iconst 1, 1) := by decide +kernel
theorem dX2_takesDigit_39 : decode cX2_takesDigit 39 = .ok (.iadd, 1) := by decide +kernel
theorem dX2_takesDigit_40 : decode cX2_takesDigit 40 = .ok (.putfield 24, 3) := by decide +kernel
theorem dX2_takesDigit_43 : decode cX2_takesDigit 43 = .ok (.aload_n 0, 1) := by decide +kernel
theorem dX2_takesDigit_44 : decode cX2_takesDigit 44 = .ok (.iconst 4, 1) := by decide +kernel
theorem dX2_takesDigit_45 : decode cX2_takesDigit 45 = .ok (.putfield 11, 3) := by decide +kernel
theorem dX2_takesDigit_48 : decode cX2_takesDigit 48 = .ok (.iconst 1, 1) := by decide +kernel
theorem dX2_takesDigit_49 : decode cX2_takesDigit 49 = .ok (.ireturn, 1) := by decide +kernel
theorem dX2_takesFirstDigit_0 : decode cX2_takesFirstDigit 0 = .ok (.aload_n 0, 1) := by decide +kernel
theorem dX2_takesFirstDigit_1 : decode cX2_takesFirstDigit 1 = .ok (.iconst 0, 1) := by decide +kernel
theorem dX2_takesFirstDigit_2 : decode cX2_takesFirstDigit 2 = .ok (.putfield 21, 3) := by decide +kernel
theorem dX2_takesFirstDigit_5 : decode cX2_takesFirstDigit 5 = .ok (.aload_n 0, 1) := by decide +kernel
theorem dX2_takesFirstDigit_6 : decode cX2_takesFirstDigit 6 = .ok (.iconst 0, 1) := by decide +kernel
theorem dX2_takesFirstDigit_7 : decode cX2_takesFirstDigit 7 = .ok (.putfield 24, 3) := by decide +kernel
theorem dX2_takesFirstDigit_10 : decode cX2_takesFirstDigit 10 = .ok (.aload_n 0, 1) := by decide +kernel
theorem dX2_takesFirstDigit_11 : decode cX2_takesFirstDigit 11 = .ok (.iload_n 1, 1) := by decide +kernel
theorem dX2_takesFirstDigit_12 : decode cX2_takesFirstDigit 12 = .ok (.invokevirtual 55, 3) := by decide +kernel
theorem dX2_takesFirstDigit_15 : decode cX2_takesFirstDigit 15 = .ok (.ireturn, 1) := by decide +kernel
theorem dX2_takesLetter_0 : decode cX2_takesLetter 0 = .ok (.iload_n 1, 1) := by decide +kernel
theorem dX2_takesLetter_1 : decode cX2_takesLetter 1 = .ok (.invokestatic 65, 3) := by decide +kernel
theorem dX2_takesLetter_4 : decode cX2_takesLetter 4 = .ok (.istore_n 2, 1) := by decide +kernel
theorem dX2_takesLetter_5 : decode cX2_takesLetter 5 = .ok (.iload_n 2, 1) := by decide +kernel
theorem dX2_takesLetter_6 : decode cX2_takesLetter 6 = .ok (.iconst (-1), 1) := by decide +kernel
theorem dX2_takesLetter_7 : decode cX2_takesLetter 7 = .ok (.if_icmp .ne 5, 3) := by decide +kernel
theorem dX2_takesLetter_10 : decode cX2_takesLetter 10 = .ok (.iconst 0, 1) := by decide +kernel
theorem dX2_takesLetter_11 : decode cX2_takesLetter 11 = .ok (.ireturn, 1) := by decide +kernel
theorem dX2_takesLetter_12 : decode cX2_takesLetter 12 = .ok (.aload_n 0, 1) := by decide +kernel
theorem dX2_takesLetter_13 : decode cX2_takesLetter 13 = .ok (.iload_n 2, 1) := by decide +kernel
theorem dX2_takesLetter_14 : decode cX2_takesLetter 14 = .ok (.putfield 15, 3) := by decide +kernel
theorem dX2_takesLetter_17 : decode cX2_takesLetter 17 = .ok (.aload_n 0, 1) := by decide +kernel
theorem dX2_takesLetter_18 : decode cX2_takesLetter 18 = .ok (.iconst 2, 1) := by decide +kernel
theorem dX2_takesLetter_19 : decode cX2_takesLetter 19 = .ok (.putfield 11, 3) := by decide +kernel
theorem dX2_takesLetter_22 : decode cX2_takesLetter 22 = .ok (.iconst 1, 1) := by decide +kernel
theorem dX2_takesLetter_23 : decode cX2_takesLetter 23 = .ok (.ireturn, 1) := by decide +kernel
theorem dX2_takesMark_0 : decode cX2_takesMark 0 = .ok (.iload_n 1, 1) := by decide +kernel
theorem dX2_takesMark_1 : decode cX2_takesMark 1 = .ok (.iload_n 2, 1) := by decide +kernel
theorem dX2_takesMark_2 : decode cX2_takesMark 2 = .ok (.if_icmp .eq 5, 3) := by decide +kernel
theorem dX2_takesMark_5 : decode cX2_takesMark 5 = .ok (.iconst 0, 1) := by decide +kernel
theorem dX2_takesMark_6 : decode cX2_takesMark 6 = .ok (.ireturn, 1) := by decide +kernel
theorem dX2_takesMark_7 : decode cX2_takesMark 7 = .ok (.aload_n 0, 1) := by decide +kernel
theorem dX2_takesMark_8 : decode cX2_takesMark 8 = .ok (.iload_n 3, 1) := by decide +kernel
theorem dX2_takesMark_9 : decode cX2_takesMark 9 = .ok (.putfield 11, 3) := by decide +kernel
theorem dX2_takesMark_12 : decode cX2_takesMark 12 = .ok (.iconst 1, 1) := by decide +kernel
theorem dX2_takesMark_13 : decode cX2_takesMark 13 = .ok (.ireturn, 1) := by decide +kernel
theorem dX2_takesPace_0 : decode cX2_takesPace 0 = .ok (.iload_n 1, 1) := by decide +kernel
theorem dX2_takesPace_1 : decode cX2_takesPace 1 = .ok (.invokestatic 69, 3) := by decide +kernel
theorem dX2_takesPace_4 : decode cX2_takesPace 4 = .ok (.ifCond .ne 5, 3) := by decide +kernel
theorem dX2_takesPace_7 : decode cX2_takesPace 7 = .ok (.iconst 0, 1) := by decide +kernel
theorem dX2_takesPace_8 : decode cX2_takesPace 8 = .ok (.ireturn, 1) := by decide +kernel
theorem dX2_takesPace_9 : decode cX2_takesPace 9 = .ok (.aload_n 2, 1) := by decide +kernel
theorem dX2_takesPace_10 : decode cX2_takesPace 10 = .ok (.aload_n 0, 1) := by decide +kernel
theorem dX2_takesPace_11 : decode cX2_takesPace 11 = .ok (.getfield 15, 3) := by decide +kernel
theorem dX2_takesPace_14 : decode cX2_takesPace 14 = .ok (.aload_n 0, 1) := by decide +kernel
theorem dX2_takesPace_15 : decode cX2_takesPace 15 = .ok (.getfield 18, 3) := by decide +kernel
theorem dX2_takesPace_18 : decode cX2_takesPace 18 = .ok (.aload_n 0, 1) := by decide +kernel
theorem dX2_takesPace_19 : decode cX2_takesPace 19 = .ok (.getfield 21, 3) := by decide +kernel
theorem dX2_takesPace_22 : decode cX2_takesPace 22 = .ok (.iload_n 1, 1) := by decide +kernel
theorem dX2_takesPace_23 : decode cX2_takesPace 23 = .ok (.bipush 48, 2) := by decide +kernel
theorem dX2_takesPace_25 : decode cX2_takesPace 25 = .ok (.isub, 1) := by decide +kernel
theorem dX2_takesPace_26 : decode cX2_takesPace 26 = .ok (.invokevirtual 72, 3) := by decide +kernel
theorem dX2_takesPace_29 : decode cX2_takesPace 29 = .ok (.aload_n 0, 1) := by decide +kernel
theorem dX2_takesPace_30 : decode cX2_takesPace 30 = .ok (.bipush 7, 2) := by decide +kernel
theorem dX2_takesPace_32 : decode cX2_takesPace 32 = .ok (.putfield 11, 3) := by decide +kernel
theorem dX2_takesPace_35 : decode cX2_takesPace 35 = .ok (.iconst 1, 1) := by decide +kernel
theorem dX2_takesPace_36 : decode cX2_takesPace 36 = .ok (.ireturn, 1) := by decide +kernel
theorem dX2_takesSign_0 : decode cX2_takesSign 0 = .ok (.iload_n 1, 1) := by decide +kernel
theorem dX2_takesSign_1 : decode cX2_takesSign 1 = .ok (.bipush 61, 2) := by decide +kernel
theorem dX2_takesSign_3 : decode cX2_takesSign 3 = .ok (.if_icmp .eq 17, 3) := by decide +kernel
theorem dX2_takesSign_6 : decode cX2_takesSign 6 = .ok (.iload_n 1, 1) := by decide +kernel
theorem dX2_takesSign_7 : decode cX2_takesSign 7 = .ok (.bipush 60, 2) := by decide +kernel
theorem dX2_takesSign_9 : decode cX2_takesSign 9 = .ok (.if_icmp .eq 11, 3) := by decide +kernel
theorem dX2_takesSign_12 : decode cX2_takesSign 12 = .ok (.iload_n 1, 1) := by decide +kernel
theorem dX2_takesSign_13 : decode cX2_takesSign 13 = .ok (.bipush 62, 2) := by decide +kernel
theorem dX2_takesSign_15 : decode cX2_takesSign 15 = .ok (.if_icmp .eq 5, 3) := by decide +kernel
theorem dX2_takesSign_18 : decode cX2_takesSign 18 = .ok (.iconst 0, 1) := by decide +kernel
theorem dX2_takesSign_19 : decode cX2_takesSign 19 = .ok (.ireturn, 1) := by decide +kernel
theorem dX2_takesSign_20 : decode cX2_takesSign 20 = .ok (.aload_n 0, 1) := by decide +kernel
theorem dX2_takesSign_21 : decode cX2_takesSign 21 = .ok (.iload_n 1, 1) := by decide +kernel
theorem dX2_takesSign_22 : decode cX2_takesSign 22 = .ok (.putfield 18, 3) := by decide +kernel
theorem dX2_takesSign_25 : decode cX2_takesSign 25 = .ok (.aload_n 0, 1) := by decide +kernel
theorem dX2_takesSign_26 : decode cX2_takesSign 26 = .ok (.iconst 3, 1) := by decide +kernel
theorem dX2_takesSign_27 : decode cX2_takesSign 27 = .ok (.putfield 11, 3) := by decide +kernel
theorem dX2_takesSign_30 : decode cX2_takesSign 30 = .ok (.iconst 1, 1) := by decide +kernel
theorem dX2_takesSign_31 : decode cX2_takesSign 31 = .ok (.ireturn, 1) := by decide +kernel
theorem dX8_append_0 : decode cX8_append 0 = .ok (.iconst 0, 1) := by decide +kernel
theorem dX8_append_1 : decode cX8_append 1 = .ok (.istore_n 2, 1) := by decide +kernel
theorem dX8_append_2 : decode cX8_append 2 = .ok (.iload_n 2, 1) := by decide +kernel
theorem dX8_append_3 : decode cX8_append 3 = .ok (.iconst 4, 1) := by decide +kernel
theorem dX8_append_4 : decode cX8_append 4 = .ok (.if_icmp .ge 49, 3) := by decide +kernel
theorem dX8_append_7 : decode cX8_append 7 = .ok (.aload_n 0, 1) := by decide +kernel
theorem dX8_append_8 : decode cX8_append 8 = .ok (.iload_n 1, 1) := by decide +kernel
theorem dX8_append_9 : decode cX8_append 9 = .ok (.iload_n 2, 1) := by decide +kernel
theorem dX8_append_10 : decode cX8_append 10 = .ok (.invokevirtual 19, 3) := by decide +kernel
theorem dX8_append_13 : decode cX8_append 13 = .ok (.istore_n 3, 1) := by decide +kernel
theorem dX8_append_14 : decode cX8_append 14 = .ok (.iload_n 3, 1) := by decide +kernel
theorem dX8_append_15 : decode cX8_append 15 = .ok (.ifCond .eq 32, 3) := by decide +kernel
theorem dX8_append_18 : decode cX8_append 18 = .ok (.aload_n 0, 1) := by decide +kernel
theorem dX8_append_19 : decode cX8_append 19 = .ok (.getfield 9, 3) := by decide +kernel
theorem dX8_append_22 : decode cX8_append 22 = .ok (.bipush 100, 2) := by decide +kernel
theorem dX8_append_24 : decode cX8_append 24 = .ok (.if_icmp .ge 23, 3) := by decide +kernel
theorem dX8_append_27 : decode cX8_append 27 = .ok (.aload_n 0, 1) := by decide +kernel
theorem dX8_append_28 : decode cX8_append 28 = .ok (.getfield 15, 3) := by decide +kernel
theorem dX8_append_31 : decode cX8_append 31 = .ok (.aload_n 0, 1) := by decide +kernel
theorem dX8_append_32 : decode cX8_append 32 = .ok (.getfield 9, 3) := by decide +kernel
theorem dX8_append_35 : decode cX8_append 35 = .ok (.iload_n 3, 1) := by decide +kernel
theorem dX8_append_36 : decode cX8_append 36 = .ok (.iastore, 1) := by decide +kernel
theorem dX8_append_37 : decode cX8_append 37 = .ok (.aload_n 0, 1) := by decide +kernel
theorem dX8_append_38 : decode cX8_append 38 = .ok (.dup, 1) := by decide +kernel
theorem dX8_append_39 : decode cX8_append 39 = .ok (.getfield 9, 3) := by decide +kernel
theorem dX8_append_42 : decode cX8_append 42 = .ok (.iconst 1, 1) := by decide +kernel
theorem dX8_append_43 : decode cX8_append 43 = .ok (.iadd, 1) := by decide +kernel
theorem dX8_append_44 : decode cX8_append 44 = .ok (.putfield 9, 3) := by decide +kernel
theorem dX8_append_47 : decode cX8_append 47 = .ok (.iinc 2 1, 3) := by decide +kernel
theorem dX8_append_50 : decode cX8_append 50 = .ok (.goto (-48), 3) := by decide +kernel
theorem dX8_append_53 : decode cX8_append 53 = .ok (.return_, 1) := by decide +kernel
theorem dX8_byteOf_0 : decode cX8_byteOf 0 = .ok (.iload_n 1, 1) := by decide +kernel
theorem dX8_byteOf_1 : decode cX8_byteOf 1 = .ok (.bipush 8, 2) := by decide +kernel
theorem dX8_byteOf_3 : decode cX8_byteOf 3 = .ok (.iconst 3, 1) := by decide +kernel
theorem dX8_byteOf_4 : decode cX8_byteOf 4 = .ok (.iload_n 2, 1) := by decide +kernel
theorem dX8_byteOf_5 : decode cX8_byteOf 5 = .ok (.isub, 1) := by decide +kernel
theorem dX8_byteOf_6 : decode cX8_byteOf 6 = .ok (.imul, 1) := by decide +kernel
theorem dX8_byteOf_7 : decode cX8_byteOf 7 = .ok (.iushr, 1) := by decide +kernel
theorem dX8_byteOf_8 : decode cX8_byteOf 8 = .ok (.sipush 255, 3) := by decide +kernel
theorem dX8_byteOf_11 : decode cX8_byteOf 11 = .ok (.iand, 1) := by decide +kernel
theorem dX8_byteOf_12 : decode cX8_byteOf 12 = .ok (.ireturn, 1) := by decide +kernel
theorem dX8_bytesIn_0 : decode cX8_bytesIn 0 = .ok (.iconst 0, 1) := by decide +kernel
theorem dX8_bytesIn_1 : decode cX8_bytesIn 1 = .ok (.istore_n 2, 1) := by decide +kernel
theorem dX8_bytesIn_2 : decode cX8_bytesIn 2 = .ok (.iconst 0, 1) := by decide +kernel
theorem dX8_bytesIn_3 : decode cX8_bytesIn 3 = .ok (.istore_n 3, 1) := by decide +kernel
theorem dX8_bytesIn_4 : decode cX8_bytesIn 4 = .ok (.iload_n 3, 1) := by decide +kernel
theorem dX8_bytesIn_5 : decode cX8_bytesIn 5 = .ok (.iconst 4, 1) := by decide +kernel
theorem dX8_bytesIn_6 : decode cX8_bytesIn 6 = .ok (.if_icmp .ge 21, 3) := by decide +kernel
theorem dX8_bytesIn_9 : decode cX8_bytesIn 9 = .ok (.aload_n 0, 1) := by decide +kernel
theorem dX8_bytesIn_10 : decode cX8_bytesIn 10 = .ok (.iload_n 1, 1) := by decide +kernel
theorem dX8_bytesIn_11 : decode cX8_bytesIn 11 = .ok (.iload_n 3, 1) := by decide +kernel
theorem dX8_bytesIn_12 : decode cX8_bytesIn 12 = .ok (.invokevirtual 19, 3) := by decide +kernel
theorem dX8_bytesIn_15 : decode cX8_bytesIn 15 = .ok (.ifCond .eq 6, 3) := by decide +kernel
theorem dX8_bytesIn_18 : decode cX8_bytesIn 18 = .ok (.iinc 2 1, 3) := by decide +kernel
theorem dX8_bytesIn_21 : decode cX8_bytesIn 21 = .ok (.iinc 3 1, 3) := by decide +kernel
theorem dX8_bytesIn_24 : decode cX8_bytesIn 24 = .ok (.goto (-20), 3) := by decide +kernel
theorem dX8_bytesIn_27 : decode cX8_bytesIn 27 = .ok (.iload_n 2, 1) := by decide +kernel
theorem dX8_bytesIn_28 : decode cX8_bytesIn 28 = .ok (.ireturn, 1) := by decide +kernel
