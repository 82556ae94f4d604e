/-! ===== a row for each instruction ===== -/
theorem dq_PL_become_0 : decode (fx_cc mq_PL_become) 0 = .ok (.iconst 0, 1) := by decide +kernel
theorem dq_PL_become_1 : decode (fx_cc mq_PL_become) 1 = .ok (.istore_n 2, 1) := by decide +kernel
theorem dq_PL_become_2 : decode (fx_cc mq_PL_become) 2 = .ok (.iload_n 2, 1) := by decide +kernel
theorem dq_PL_become_3 : decode (fx_cc mq_PL_become) 3 = .ok (.bipush 10, 2) := by decide +kernel
theorem dq_PL_become_5 : decode (fx_cc mq_PL_become) 5 = .ok (.if_icmp .ge 24, 3) := by decide +kernel
theorem dq_PL_become_8 : decode (fx_cc mq_PL_become) 8 = .ok (.aload_n 0, 1) := by decide +kernel
theorem dq_PL_become_9 : decode (fx_cc mq_PL_become) 9 = .ok (.getfield 11, 3) := by decide +kernel
theorem dq_PL_become_12 : decode (fx_cc mq_PL_become) 12 = .ok (.iload_n 2, 1) := by decide +kernel
theorem dq_PL_become_13 : decode (fx_cc mq_PL_become) 13 = .ok (.aaload, 1) := by decide +kernel
theorem dq_PL_become_14 : decode (fx_cc mq_PL_become) 14 = .ok (.aload_n 1, 1) := by decide +kernel
theorem dq_PL_become_15 : decode (fx_cc mq_PL_become) 15 = .ok (.getfield 11, 3) := by decide +kernel
theorem dq_PL_become_18 : decode (fx_cc mq_PL_become) 18 = .ok (.iload_n 2, 1) := by decide +kernel
theorem dq_PL_become_19 : decode (fx_cc mq_PL_become) 19 = .ok (.aaload, 1) := by decide +kernel
theorem dq_PL_become_20 : decode (fx_cc mq_PL_become) 20 = .ok (.invokevirtual 33, 3) := by decide +kernel
theorem dq_PL_become_23 : decode (fx_cc mq_PL_become) 23 = .ok (.iinc 2 1, 3) := by decide +kernel
theorem dq_PL_become_26 : decode (fx_cc mq_PL_become) 26 = .ok (.goto (-24), 3) := by decide +kernel
theorem dq_PL_become_29 : decode (fx_cc mq_PL_become) 29 = .ok (.aload_n 0, 1) := by decide +kernel
theorem dq_PL_become_30 : decode (fx_cc mq_PL_become) 30 = .ok (.invokevirtual 37, 3) := by decide +kernel
theorem dq_PL_become_33 : decode (fx_cc mq_PL_become) 33 = .ok (.return_, 1) := by decide +kernel
theorem dq_PN_choose_0 : decode (fx_cc mq_PN_choose) 0 = .ok (.aload_n 0, 1) := by decide +kernel
theorem dq_PN_choose_1 : decode (fx_cc mq_PN_choose) 1 = .ok (.getfield 9, 3) := by decide +kernel
theorem dq_PN_choose_4 : decode (fx_cc mq_PN_choose) 4 = .ok (.iconst (-1), 1) := by decide +kernel
theorem dq_PN_choose_5 : decode (fx_cc mq_PN_choose) 5 = .ok (.invokestatic 37, 3) := by decide +kernel
theorem dq_PN_choose_8 : decode (fx_cc mq_PN_choose) 8 = .ok (.iconst 0, 1) := by decide +kernel
theorem dq_PN_choose_9 : decode (fx_cc mq_PN_choose) 9 = .ok (.istore_n 2, 1) := by decide +kernel
theorem dq_PN_choose_10 : decode (fx_cc mq_PN_choose) 10 = .ok (.aload_n 1, 1) := by decide +kernel
theorem dq_PN_choose_11 : decode (fx_cc mq_PN_choose) 11 = .ok (.getfield 43, 3) := by decide +kernel
theorem dq_PN_choose_14 : decode (fx_cc mq_PN_choose) 14 = .ok (.iconst 1, 1) := by decide +kernel
theorem dq_PN_choose_15 : decode (fx_cc mq_PN_choose) 15 = .ok (.isub, 1) := by decide +kernel
theorem dq_PN_choose_16 : decode (fx_cc mq_PN_choose) 16 = .ok (.istore_n 3, 1) := by decide +kernel
theorem dq_PN_choose_17 : decode (fx_cc mq_PN_choose) 17 = .ok (.iload_n 3, 1) := by decide +kernel
theorem dq_PN_choose_18 : decode (fx_cc mq_PN_choose) 18 = .ok (.ifCond .lt 48, 3) := by decide +kernel
theorem dq_PN_choose_21 : decode (fx_cc mq_PN_choose) 21 = .ok (.iload_n 2, 1) := by decide +kernel
theorem dq_PN_choose_22 : decode (fx_cc mq_PN_choose) 22 = .ok (.iconst 2, 1) := by decide +kernel
theorem dq_PN_choose_23 : decode (fx_cc mq_PN_choose) 23 = .ok (.if_icmp .ge 43, 3) := by decide +kernel
theorem dq_PN_choose_26 : decode (fx_cc mq_PN_choose) 26 = .ok (.aload_n 0, 1) := by decide +kernel
theorem dq_PN_choose_27 : decode (fx_cc mq_PN_choose) 27 = .ok (.aload_n 1, 1) := by decide +kernel
theorem dq_PN_choose_28 : decode (fx_cc mq_PN_choose) 28 = .ok (.iload_n 3, 1) := by decide +kernel
theorem dq_PN_choose_29 : decode (fx_cc mq_PN_choose) 29 = .ok (.invokevirtual 49, 3) := by decide +kernel
theorem dq_PN_choose_32 : decode (fx_cc mq_PN_choose) 32 = .ok (.ifCond .eq 28, 3) := by decide +kernel
theorem dq_PN_choose_35 : decode (fx_cc mq_PN_choose) 35 = .ok (.aload_n 0, 1) := by decide +kernel
theorem dq_PN_choose_36 : decode (fx_cc mq_PN_choose) 36 = .ok (.iload_n 2, 1) := by decide +kernel
theorem dq_PN_choose_37 : decode (fx_cc mq_PN_choose) 37 = .ok (.aload_n 1, 1) := by decide +kernel
theorem dq_PN_choose_38 : decode (fx_cc mq_PN_choose) 38 = .ok (.getfield 53, 3) := by decide +kernel
theorem dq_PN_choose_41 : decode (fx_cc mq_PN_choose) 41 = .ok (.iload_n 3, 1) := by decide +kernel
theorem dq_PN_choose_42 : decode (fx_cc mq_PN_choose) 42 = .ok (.iaload, 1) := by decide +kernel
theorem dq_PN_choose_43 : decode (fx_cc mq_PN_choose) 43 = .ok (.aload_n 1, 1) := by decide +kernel
theorem dq_PN_choose_44 : decode (fx_cc mq_PN_choose) 44 = .ok (.getfield 56, 3) := by decide +kernel
theorem dq_PN_choose_47 : decode (fx_cc mq_PN_choose) 47 = .ok (.aload_n 1, 1) := by decide +kernel
theorem dq_PN_choose_48 : decode (fx_cc mq_PN_choose) 48 = .ok (.getfield 53, 3) := by decide +kernel
theorem dq_PN_choose_51 : decode (fx_cc mq_PN_choose) 51 = .ok (.iload_n 3, 1) := by decide +kernel
theorem dq_PN_choose_52 : decode (fx_cc mq_PN_choose) 52 = .ok (.iaload, 1) := by decide +kernel
theorem dq_PN_choose_53 : decode (fx_cc mq_PN_choose) 53 = .ok (.aaload, 1) := by decide +kernel
theorem dq_PN_choose_54 : decode (fx_cc mq_PN_choose) 54 = .ok (.invokevirtual 60, 3) := by decide +kernel
theorem dq_PN_choose_57 : decode (fx_cc mq_PN_choose) 57 = .ok (.iinc 2 1, 3) := by decide +kernel
theorem dq_PN_choose_60 : decode (fx_cc mq_PN_choose) 60 = .ok (.iinc 3 (-1), 3) := by decide +kernel
theorem dq_PN_choose_63 : decode (fx_cc mq_PN_choose) 63 = .ok (.goto (-46), 3) := by decide +kernel
theorem dq_PN_choose_66 : decode (fx_cc mq_PN_choose) 66 = .ok (.return_, 1) := by decide +kernel
theorem dq_PN_isFit_0 : decode (fx_cc mq_PN_isFit) 0 = .ok (.aload_n 1, 1) := by decide +kernel
theorem dq_PN_isFit_1 : decode (fx_cc mq_PN_isFit) 1 = .ok (.getfield 56, 3) := by decide +kernel
theorem dq_PN_isFit_4 : decode (fx_cc mq_PN_isFit) 4 = .ok (.aload_n 1, 1) := by decide +kernel
theorem dq_PN_isFit_5 : decode (fx_cc mq_PN_isFit) 5 = .ok (.getfield 53, 3) := by decide +kernel
theorem dq_PN_isFit_8 : decode (fx_cc mq_PN_isFit) 8 = .ok (.iload_n 2, 1) := by decide +kernel
theorem dq_PN_isFit_9 : decode (fx_cc mq_PN_isFit) 9 = .ok (.iaload, 1) := by decide +kernel
theorem dq_PN_isFit_10 : decode (fx_cc mq_PN_isFit) 10 = .ok (.aaload, 1) := by decide +kernel
theorem dq_PN_isFit_11 : decode (fx_cc mq_PN_isFit) 11 = .ok (.astore_n 3, 1) := by decide +kernel
theorem dq_PN_isFit_12 : decode (fx_cc mq_PN_isFit) 12 = .ok (.aload_n 3, 1) := by decide +kernel
theorem dq_PN_isFit_13 : decode (fx_cc mq_PN_isFit) 13 = .ok (.getfield 64, 3) := by decide +kernel
theorem dq_PN_isFit_16 : decode (fx_cc mq_PN_isFit) 16 = .ok (.bipush 16, 2) := by decide +kernel
theorem dq_PN_isFit_18 : decode (fx_cc mq_PN_isFit) 18 = .ok (.if_icmp .ne 25, 3) := by decide +kernel
theorem dq_PN_isFit_21 : decode (fx_cc mq_PN_isFit) 21 = .ok (.aload_n 3, 1) := by decide +kernel
theorem dq_PN_isFit_22 : decode (fx_cc mq_PN_isFit) 22 = .ok (.getfield 69, 3) := by decide +kernel
theorem dq_PN_isFit_25 : decode (fx_cc mq_PN_isFit) 25 = .ok (.invokevirtual 72, 3) := by decide +kernel
theorem dq_PN_isFit_28 : decode (fx_cc mq_PN_isFit) 28 = .ok (.ifCond .ne 15, 3) := by decide +kernel
theorem dq_PN_isFit_31 : decode (fx_cc mq_PN_isFit) 31 = .ok (.aload_n 3, 1) := by decide +kernel
theorem dq_PN_isFit_32 : decode (fx_cc mq_PN_isFit) 32 = .ok (.getfield 69, 3) := by decide +kernel
theorem dq_PN_isFit_35 : decode (fx_cc mq_PN_isFit) 35 = .ok (.invokevirtual 76, 3) := by decide +kernel
theorem dq_PN_isFit_38 : decode (fx_cc mq_PN_isFit) 38 = .ok (.bipush 24, 2) := by decide +kernel
theorem dq_PN_isFit_40 : decode (fx_cc mq_PN_isFit) 40 = .ok (.if_icmp .le 5, 3) := by decide +kernel
theorem dq_PN_isFit_43 : decode (fx_cc mq_PN_isFit) 43 = .ok (.iconst 0, 1) := by decide +kernel
theorem dq_PN_isFit_44 : decode (fx_cc mq_PN_isFit) 44 = .ok (.ireturn, 1) := by decide +kernel
theorem dq_PN_isFit_45 : decode (fx_cc mq_PN_isFit) 45 = .ok (.iload_n 2, 1) := by decide +kernel
theorem dq_PN_isFit_46 : decode (fx_cc mq_PN_isFit) 46 = .ok (.iconst 1, 1) := by decide +kernel
theorem dq_PN_isFit_47 : decode (fx_cc mq_PN_isFit) 47 = .ok (.iadd, 1) := by decide +kernel
theorem dq_PN_isFit_48 : decode (fx_cc mq_PN_isFit) 48 = .ok (.istore 4, 2) := by decide +kernel
theorem dq_PN_isFit_50 : decode (fx_cc mq_PN_isFit) 50 = .ok (.iload 4, 2) := by decide +kernel
theorem dq_PN_isFit_52 : decode (fx_cc mq_PN_isFit) 52 = .ok (.aload_n 1, 1) := by decide +kernel
theorem dq_PN_isFit_53 : decode (fx_cc mq_PN_isFit) 53 = .ok (.getfield 43, 3) := by decide +kernel
theorem dq_PN_isFit_56 : decode (fx_cc mq_PN_isFit) 56 = .ok (.if_icmp .ge 36, 3) := by decide +kernel
theorem dq_PN_isFit_59 : decode (fx_cc mq_PN_isFit) 59 = .ok (.aload_n 3, 1) := by decide +kernel
theorem dq_PN_isFit_60 : decode (fx_cc mq_PN_isFit) 60 = .ok (.getfield 69, 3) := by decide +kernel
theorem dq_PN_isFit_63 : decode (fx_cc mq_PN_isFit) 63 = .ok (.aload_n 1, 1) := by decide +kernel
theorem dq_PN_isFit_64 : decode (fx_cc mq_PN_isFit) 64 = .ok (.getfield 56, 3) := by decide +kernel
theorem dq_PN_isFit_67 : decode (fx_cc mq_PN_isFit) 67 = .ok (.aload_n 1, 1) := by decide +kernel
theorem dq_PN_isFit_68 : decode (fx_cc mq_PN_isFit) 68 = .ok (.getfield 53, 3) := by decide +kernel
theorem dq_PN_isFit_71 : decode (fx_cc mq_PN_isFit) 71 = .ok (.iload 4, 2) := by decide +kernel
theorem dq_PN_isFit_73 : decode (fx_cc mq_PN_isFit) 73 = .ok (.iaload, 1) := by decide +kernel
theorem dq_PN_isFit_74 : decode (fx_cc mq_PN_isFit) 74 = .ok (.aaload, 1) := by decide +kernel
theorem dq_PN_isFit_75 : decode (fx_cc mq_PN_isFit) 75 = .ok (.getfield 69, 3) := by decide +kernel
theorem dq_PN_isFit_78 : decode (fx_cc mq_PN_isFit) 78 = .ok (.invokevirtual 80, 3) := by decide +kernel
theorem dq_PN_isFit_81 : decode (fx_cc mq_PN_isFit) 81 = .ok (.ifCond .eq 5, 3) := by decide +kernel
theorem dq_PN_isFit_84 : decode (fx_cc mq_PN_isFit) 84 = .ok (.iconst 0, 1) := by decide +kernel
theorem dq_PN_isFit_85 : decode (fx_cc mq_PN_isFit) 85 = .ok (.ireturn, 1) := by decide +kernel
theorem dq_PN_isFit_86 : decode (fx_cc mq_PN_isFit) 86 = .ok (.iinc 4 1, 3) := by decide +kernel
theorem dq_PN_isFit_89 : decode (fx_cc mq_PN_isFit) 89 = .ok (.goto (-39), 3) := by decide +kernel
theorem dq_PN_isFit_92 : decode (fx_cc mq_PN_isFit) 92 = .ok (.iconst 1, 1) := by decide +kernel
theorem dq_PN_isFit_93 : decode (fx_cc mq_PN_isFit) 93 = .ok (.ireturn, 1) := by decide +kernel
theorem dq_RE_isEmpty_0 : decode (fx_cc mq_RE_isEmpty) 0 = .ok (.aload_n 0, 1) := by decide +kernel
theorem dq_RE_isEmpty_1 : decode (fx_cc mq_RE_isEmpty) 1 = .ok (.getfield 16, 3) := by decide +kernel
theorem dq_RE_isEmpty_4 : decode (fx_cc mq_RE_isEmpty) 4 = .ok (.ifCond .eq 10, 3) := by decide +kernel
theorem dq_RE_isEmpty_7 : decode (fx_cc mq_RE_isEmpty) 7 = .ok (.aload_n 0, 1) := by decide +kernel
theorem dq_RE_isEmpty_8 : decode (fx_cc mq_RE_isEmpty) 8 = .ok (.getfield 19, 3) := by decide +kernel
theorem dq_RE_isEmpty_11 : decode (fx_cc mq_RE_isEmpty) 11 = .ok (.ifCond .ne 7, 3) := by decide +kernel
theorem dq_RE_isEmpty_14 : decode (fx_cc mq_RE_isEmpty) 14 = .ok (.iconst 1, 1) := by decide +kernel
theorem dq_RE_isEmpty_15 : decode (fx_cc mq_RE_isEmpty) 15 = .ok (.goto 4, 3) := by decide +kernel
theorem dq_RE_isEmpty_18 : decode (fx_cc mq_RE_isEmpty) 18 = .ok (.iconst 0, 1) := by decide +kernel
theorem dq_RE_isEmpty_19 : decode (fx_cc mq_RE_isEmpty) 19 = .ok (.ireturn, 1) := by decide +kernel
theorem dq_RE_meets_0 : decode (fx_cc mq_RE_meets) 0 = .ok (.aload_n 0, 1) := by decide +kernel
theorem dq_RE_meets_1 : decode (fx_cc mq_RE_meets) 1 = .ok (.getfield 7, 3) := by decide +kernel
theorem dq_RE_meets_4 : decode (fx_cc mq_RE_meets) 4 = .ok (.aload_n 1, 1) := by decide +kernel
theorem dq_RE_meets_5 : decode (fx_cc mq_RE_meets) 5 = .ok (.getfield 7, 3) := by decide +kernel
theorem dq_RE_meets_8 : decode (fx_cc mq_RE_meets) 8 = .ok (.invokestatic 32, 3) := by decide +kernel
theorem dq_RE_meets_11 : decode (fx_cc mq_RE_meets) 11 = .ok (.aload_n 0, 1) := by decide +kernel
theorem dq_RE_meets_12 : decode (fx_cc mq_RE_meets) 12 = .ok (.getfield 7, 3) := by decide +kernel
theorem dq_RE_meets_15 : decode (fx_cc mq_RE_meets) 15 = .ok (.aload_n 0, 1) := by decide +kernel
theorem dq_RE_meets_16 : decode (fx_cc mq_RE_meets) 16 = .ok (.getfield 16, 3) := by decide +kernel
theorem dq_RE_meets_19 : decode (fx_cc mq_RE_meets) 19 = .ok (.iadd, 1) := by decide +kernel
theorem dq_RE_meets_20 : decode (fx_cc mq_RE_meets) 20 = .ok (.aload_n 1, 1) := by decide +kernel
theorem dq_RE_meets_21 : decode (fx_cc mq_RE_meets) 21 = .ok (.getfield 7, 3) := by decide +kernel
theorem dq_RE_meets_24 : decode (fx_cc mq_RE_meets) 24 = .ok (.aload_n 1, 1) := by decide +kernel
theorem dq_RE_meets_25 : decode (fx_cc mq_RE_meets) 25 = .ok (.getfield 16, 3) := by decide +kernel
theorem dq_RE_meets_28 : decode (fx_cc mq_RE_meets) 28 = .ok (.iadd, 1) := by decide +kernel
theorem dq_RE_meets_29 : decode (fx_cc mq_RE_meets) 29 = .ok (.invokestatic 26, 3) := by decide +kernel
theorem dq_RE_meets_32 : decode (fx_cc mq_RE_meets) 32 = .ok (.if_icmp .ge 42, 3) := by decide +kernel
theorem dq_RE_meets_35 : decode (fx_cc mq_RE_meets) 35 = .ok (.aload_n 0, 1) := by decide +kernel
theorem dq_RE_meets_36 : decode (fx_cc mq_RE_meets) 36 = .ok (.getfield 13, 3) := by decide +kernel
theorem dq_RE_meets_39 : decode (fx_cc mq_RE_meets) 39 = .ok (.aload_n 1, 1) := by decide +kernel
theorem dq_RE_meets_40 : decode (fx_cc mq_RE_meets) 40 = .ok (.getfield 13, 3) := by decide +kernel
theorem dq_RE_meets_43 : decode (fx_cc mq_RE_meets) 43 = .ok (.invokestatic 32, 3) := by decide +kernel
theorem dq_RE_meets_46 : decode (fx_cc mq_RE_meets) 46 = .ok (.aload_n 0, 1) := by decide +kernel
theorem dq_RE_meets_47 : decode (fx_cc mq_RE_meets) 47 = .ok (.getfield 13, 3) := by decide +kernel
theorem dq_RE_meets_50 : decode (fx_cc mq_RE_meets) 50 = .ok (.aload_n 0, 1) := by decide +kernel
theorem dq_RE_meets_51 : decode (fx_cc mq_RE_meets) 51 = .ok (.getfield 19, 3) := by decide +kernel
theorem dq_RE_meets_54 : decode (fx_cc mq_RE_meets) 54 = .ok (.iadd, 1) := by decide +kernel
theorem dq_RE_meets_55 : decode (fx_cc mq_RE_meets) 55 = .ok (.aload_n 1, 1) := by decide +kernel
theorem dq_RE_meets_56 : decode (fx_cc mq_RE_meets) 56 = .ok (.getfield 13, 3) := by decide +kernel
theorem dq_RE_meets_59 : decode (fx_cc mq_RE_meets) 59 = .ok (.aload_n 1, 1) := by decide +kernel
theorem dq_RE_meets_60 : decode (fx_cc mq_RE_meets) 60 = .ok (.getfield 19, 3) := by decide +kernel
theorem dq_RE_meets_63 : decode (fx_cc mq_RE_meets) 63 = .ok (.iadd, 1) := by decide +kernel
theorem dq_RE_meets_64 : decode (fx_cc mq_RE_meets) 64 = .ok (.invokestatic 26, 3) := by decide +kernel
theorem dq_RE_meets_67 : decode (fx_cc mq_RE_meets) 67 = .ok (.if_icmp .ge 7, 3) := by decide +kernel
theorem dq_RE_meets_70 : decode (fx_cc mq_RE_meets) 70 = .ok (.iconst 1, 1) := by decide +kernel
theorem dq_RE_meets_71 : decode (fx_cc mq_RE_meets) 71 = .ok (.goto 4, 3) := by decide +kernel
theorem dq_RE_meets_74 : decode (fx_cc mq_RE_meets) 74 = .ok (.iconst 0, 1) := by decide +kernel
theorem dq_RE_meets_75 : decode (fx_cc mq_RE_meets) 75 = .ok (.ireturn, 1) := by decide +kernel
theorem dq_PN_give_0 : decode (fx_cc mq_PN_give) 0 = .ok (.aload_n 0, 1) := by decide +kernel
theorem dq_PN_give_1 : decode (fx_cc mq_PN_give) 1 = .ok (.getfield 9, 3) := by decide +kernel
theorem dq_PN_give_4 : decode (fx_cc mq_PN_give) 4 = .ok (.iload_n 1, 1) := by decide +kernel
theorem dq_PN_give_5 : decode (fx_cc mq_PN_give) 5 = .ok (.iload_n 2, 1) := by decide +kernel
theorem dq_PN_give_6 : decode (fx_cc mq_PN_give) 6 = .ok (.iastore, 1) := by decide +kernel
theorem dq_PN_give_7 : decode (fx_cc mq_PN_give) 7 = .ok (.aload_n 0, 1) := by decide +kernel
theorem dq_PN_give_8 : decode (fx_cc mq_PN_give) 8 = .ok (.getfield 18, 3) := by decide +kernel
theorem dq_PN_give_11 : decode (fx_cc mq_PN_give) 11 = .ok (.iload_n 1, 1) := by decide +kernel
theorem dq_PN_give_12 : decode (fx_cc mq_PN_give) 12 = .ok (.aaload, 1) := by decide +kernel
theorem dq_PN_give_13 : decode (fx_cc mq_PN_give) 13 = .ok (.astore 4, 2) := by decide +kernel
theorem dq_PN_give_15 : decode (fx_cc mq_PN_give) 15 = .ok (.aload 4, 2) := by decide +kernel
theorem dq_PN_give_17 : decode (fx_cc mq_PN_give) 17 = .ok (.aload_n 3, 1) := by decide +kernel
theorem dq_PN_give_18 : decode (fx_cc mq_PN_give) 18 = .ok (.getfield 69, 3) := by decide +kernel
theorem dq_PN_give_21 : decode (fx_cc mq_PN_give) 21 = .ok (.invokevirtual 27, 3) := by decide +kernel
theorem dq_PN_give_24 : decode (fx_cc mq_PN_give) 24 = .ok (.iconst 0, 1) := by decide +kernel
theorem dq_PN_give_25 : decode (fx_cc mq_PN_give) 25 = .ok (.istore 5, 2) := by decide +kernel
theorem dq_PN_give_27 : decode (fx_cc mq_PN_give) 27 = .ok (.aload 4, 2) := by decide +kernel
theorem dq_PN_give_29 : decode (fx_cc mq_PN_give) 29 = .ok (.getfield 84, 3) := by decide +kernel
theorem dq_PN_give_32 : decode (fx_cc mq_PN_give) 32 = .ok (.istore 6, 2) := by decide +kernel
theorem dq_PN_give_34 : decode (fx_cc mq_PN_give) 34 = .ok (.iload 6, 2) := by decide +kernel
theorem dq_PN_give_36 : decode (fx_cc mq_PN_give) 36 = .ok (.aload 4, 2) := by decide +kernel
theorem dq_PN_give_38 : decode (fx_cc mq_PN_give) 38 = .ok (.getfield 84, 3) := by decide +kernel
theorem dq_PN_give_41 : decode (fx_cc mq_PN_give) 41 = .ok (.aload 4, 2) := by decide +kernel
theorem dq_PN_give_43 : decode (fx_cc mq_PN_give) 43 = .ok (.getfield 87, 3) := by decide +kernel
theorem dq_PN_give_46 : decode (fx_cc mq_PN_give) 46 = .ok (.iadd, 1) := by decide +kernel
theorem dq_PN_give_47 : decode (fx_cc mq_PN_give) 47 = .ok (.if_icmp .ge 58, 3) := by decide +kernel
theorem dq_PN_give_50 : decode (fx_cc mq_PN_give) 50 = .ok (.aload 4, 2) := by decide +kernel
theorem dq_PN_give_52 : decode (fx_cc mq_PN_give) 52 = .ok (.getfield 90, 3) := by decide +kernel
theorem dq_PN_give_55 : decode (fx_cc mq_PN_give) 55 = .ok (.istore 7, 2) := by decide +kernel
theorem dq_PN_give_57 : decode (fx_cc mq_PN_give) 57 = .ok (.iload 7, 2) := by decide +kernel
theorem dq_PN_give_59 : decode (fx_cc mq_PN_give) 59 = .ok (.aload 4, 2) := by decide +kernel
theorem dq_PN_give_61 : decode (fx_cc mq_PN_give) 61 = .ok (.getfield 90, 3) := by decide +kernel
theorem dq_PN_give_64 : decode (fx_cc mq_PN_give) 64 = .ok (.aload 4, 2) := by decide +kernel
theorem dq_PN_give_66 : decode (fx_cc mq_PN_give) 66 = .ok (.getfield 93, 3) := by decide +kernel
theorem dq_PN_give_69 : decode (fx_cc mq_PN_give) 69 = .ok (.iadd, 1) := by decide +kernel
theorem dq_PN_give_70 : decode (fx_cc mq_PN_give) 70 = .ok (.if_icmp .ge 29, 3) := by decide +kernel
theorem dq_PN_give_73 : decode (fx_cc mq_PN_give) 73 = .ok (.aload_n 0, 1) := by decide +kernel
theorem dq_PN_give_74 : decode (fx_cc mq_PN_give) 74 = .ok (.getfield 24, 3) := by decide +kernel
theorem dq_PN_give_77 : decode (fx_cc mq_PN_give) 77 = .ok (.iload_n 1, 1) := by decide +kernel
theorem dq_PN_give_78 : decode (fx_cc mq_PN_give) 78 = .ok (.aaload, 1) := by decide +kernel
theorem dq_PN_give_79 : decode (fx_cc mq_PN_give) 79 = .ok (.iload 5, 2) := by decide +kernel
theorem dq_PN_give_81 : decode (fx_cc mq_PN_give) 81 = .ok (.aload_n 3, 1) := by decide +kernel
theorem dq_PN_give_82 : decode (fx_cc mq_PN_give) 82 = .ok (.iload 7, 2) := by decide +kernel
theorem dq_PN_give_84 : decode (fx_cc mq_PN_give) 84 = .ok (.iload 6, 2) := by decide +kernel
theorem dq_PN_give_86 : decode (fx_cc mq_PN_give) 86 = .ok (.invokevirtual 96, 3) := by decide +kernel
theorem dq_PN_give_89 : decode (fx_cc mq_PN_give) 89 = .ok (.iastore, 1) := by decide +kernel
theorem dq_PN_give_90 : decode (fx_cc mq_PN_give) 90 = .ok (.iinc 5 1, 3) := by decide +kernel
theorem dq_PN_give_93 : decode (fx_cc mq_PN_give) 93 = .ok (.iinc 7 1, 3) := by decide +kernel
theorem dq_PN_give_96 : decode (fx_cc mq_PN_give) 96 = .ok (.goto (-39), 3) := by decide +kernel
theorem dq_PN_give_99 : decode (fx_cc mq_PN_give) 99 = .ok (.iinc 6 1, 3) := by decide +kernel
theorem dq_PN_give_102 : decode (fx_cc mq_PN_give) 102 = .ok (.goto (-68), 3) := by decide +kernel
theorem dq_PN_give_105 : decode (fx_cc mq_PN_give) 105 = .ok (.return_, 1) := by decide +kernel
theorem dq_CO_noteChanges_0 : decode (fx_cc mq_CO_noteChanges) 0 = .ok (.iconst 0, 1) := by decide +kernel
theorem dq_CO_noteChanges_1 : decode (fx_cc mq_CO_noteChanges) 1 = .ok (.istore_n 2, 1) := by decide +kernel
theorem dq_CO_noteChanges_2 : decode (fx_cc mq_CO_noteChanges) 2 = .ok (.iload_n 2, 1) := by decide +kernel
theorem dq_CO_noteChanges_3 : decode (fx_cc mq_CO_noteChanges) 3 = .ok (.bipush 10, 2) := by decide +kernel
theorem dq_CO_noteChanges_5 : decode (fx_cc mq_CO_noteChanges) 5 = .ok (.if_icmp .ge 142, 3) := by decide +kernel
theorem dq_CO_noteChanges_8 : decode (fx_cc mq_CO_noteChanges) 8 = .ok (.aload_n 0, 1) := by decide +kernel
theorem dq_CO_noteChanges_9 : decode (fx_cc mq_CO_noteChanges) 9 = .ok (.getfield 21, 3) := by decide +kernel
theorem dq_CO_noteChanges_12 : decode (fx_cc mq_CO_noteChanges) 12 = .ok (.iload_n 2, 1) := by decide +kernel
theorem dq_CO_noteChanges_13 : decode (fx_cc mq_CO_noteChanges) 13 = .ok (.invokevirtual 82, 3) := by decide +kernel
theorem dq_CO_noteChanges_16 : decode (fx_cc mq_CO_noteChanges) 16 = .ok (.istore_n 3, 1) := by decide +kernel
theorem dq_CO_noteChanges_17 : decode (fx_cc mq_CO_noteChanges) 17 = .ok (.aload_n 1, 1) := by decide +kernel
theorem dq_CO_noteChanges_18 : decode (fx_cc mq_CO_noteChanges) 18 = .ok (.iload_n 2, 1) := by decide +kernel
theorem dq_CO_noteChanges_19 : decode (fx_cc mq_CO_noteChanges) 19 = .ok (.invokevirtual 99, 3) := by decide +kernel
theorem dq_CO_noteChanges_22 : decode (fx_cc mq_CO_noteChanges) 22 = .ok (.ifCond .ne 13, 3) := by decide +kernel
theorem dq_CO_noteChanges_25 : decode (fx_cc mq_CO_noteChanges) 25 = .ok (.iload_n 3, 1) := by decide +kernel
theorem dq_CO_noteChanges_26 : decode (fx_cc mq_CO_noteChanges) 26 = .ok (.aload_n 0, 1) := by decide +kernel
theorem dq_CO_noteChanges_27 : decode (fx_cc mq_CO_noteChanges) 27 = .ok (.getfield 25, 3) := by decide +kernel
theorem dq_CO_noteChanges_30 : decode (fx_cc mq_CO_noteChanges) 30 = .ok (.iload_n 2, 1) := by decide +kernel
theorem dq_CO_noteChanges_31 : decode (fx_cc mq_CO_noteChanges) 31 = .ok (.baload, 1) := by decide +kernel
theorem dq_CO_noteChanges_32 : decode (fx_cc mq_CO_noteChanges) 32 = .ok (.if_icmp .eq 7, 3) := by decide +kernel
theorem dq_CO_noteChanges_35 : decode (fx_cc mq_CO_noteChanges) 35 = .ok (.iconst 1, 1) := by decide +kernel
theorem dq_CO_noteChanges_36 : decode (fx_cc mq_CO_noteChanges) 36 = .ok (.goto 4, 3) := by decide +kernel
theorem dq_CO_noteChanges_39 : decode (fx_cc mq_CO_noteChanges) 39 = .ok (.iconst 0, 1) := by decide +kernel
theorem dq_CO_noteChanges_40 : decode (fx_cc mq_CO_noteChanges) 40 = .ok (.istore 4, 2) := by decide +kernel
theorem dq_CO_noteChanges_42 : decode (fx_cc mq_CO_noteChanges) 42 = .ok (.iload 4, 2) := by decide +kernel
theorem dq_CO_noteChanges_44 : decode (fx_cc mq_CO_noteChanges) 44 = .ok (.ifCond .eq 44, 3) := by decide +kernel
theorem dq_CO_noteChanges_47 : decode (fx_cc mq_CO_noteChanges) 47 = .ok (.aload_n 0, 1) := by decide +kernel
theorem dq_CO_noteChanges_48 : decode (fx_cc mq_CO_noteChanges) 48 = .ok (.getfield 25, 3) := by decide +kernel
theorem dq_CO_noteChanges_51 : decode (fx_cc mq_CO_noteChanges) 51 = .ok (.iload_n 2, 1) := by decide +kernel
theorem dq_CO_noteChanges_52 : decode (fx_cc mq_CO_noteChanges) 52 = .ok (.baload, 1) := by decide +kernel
theorem dq_CO_noteChanges_53 : decode (fx_cc mq_CO_noteChanges) 53 = .ok (.ifCond .ne 35, 3) := by decide +kernel
theorem dq_CO_noteChanges_56 : decode (fx_cc mq_CO_noteChanges) 56 = .ok (.aload_n 0, 1) := by decide +kernel
theorem dq_CO_noteChanges_57 : decode (fx_cc mq_CO_noteChanges) 57 = .ok (.getfield 38, 3) := by decide +kernel
theorem dq_CO_noteChanges_60 : decode (fx_cc mq_CO_noteChanges) 60 = .ok (.getfield 102, 3) := by decide +kernel
theorem dq_CO_noteChanges_63 : decode (fx_cc mq_CO_noteChanges) 63 = .ok (.aload_n 0, 1) := by decide +kernel
theorem dq_CO_noteChanges_64 : decode (fx_cc mq_CO_noteChanges) 64 = .ok (.getfield 31, 3) := by decide +kernel
theorem dq_CO_noteChanges_67 : decode (fx_cc mq_CO_noteChanges) 67 = .ok (.iload_n 2, 1) := by decide +kernel
theorem dq_CO_noteChanges_68 : decode (fx_cc mq_CO_noteChanges) 68 = .ok (.aaload, 1) := by decide +kernel
theorem dq_CO_noteChanges_69 : decode (fx_cc mq_CO_noteChanges) 69 = .ok (.invokevirtual 106, 3) := by decide +kernel
theorem dq_CO_noteChanges_72 : decode (fx_cc mq_CO_noteChanges) 72 = .ok (.aload_n 0, 1) := by decide +kernel
theorem dq_CO_noteChanges_73 : decode (fx_cc mq_CO_noteChanges) 73 = .ok (.getfield 42, 3) := by decide +kernel
theorem dq_CO_noteChanges_76 : decode (fx_cc mq_CO_noteChanges) 76 = .ok (.getfield 102, 3) := by decide +kernel
theorem dq_CO_noteChanges_79 : decode (fx_cc mq_CO_noteChanges) 79 = .ok (.aload_n 0, 1) := by decide +kernel
theorem dq_CO_noteChanges_80 : decode (fx_cc mq_CO_noteChanges) 80 = .ok (.getfield 31, 3) := by decide +kernel
theorem dq_CO_noteChanges_83 : decode (fx_cc mq_CO_noteChanges) 83 = .ok (.iload_n 2, 1) := by decide +kernel
theorem dq_CO_noteChanges_84 : decode (fx_cc mq_CO_noteChanges) 84 = .ok (.aaload, 1) := by decide +kernel
theorem dq_CO_noteChanges_85 : decode (fx_cc mq_CO_noteChanges) 85 = .ok (.invokevirtual 106, 3) := by decide +kernel
theorem dq_CO_noteChanges_88 : decode (fx_cc mq_CO_noteChanges) 88 = .ok (.iload 4, 2) := by decide +kernel
theorem dq_CO_noteChanges_90 : decode (fx_cc mq_CO_noteChanges) 90 = .ok (.ifCond .eq 51, 3) := by decide +kernel
theorem dq_CO_noteChanges_93 : decode (fx_cc mq_CO_noteChanges) 93 = .ok (.iload_n 3, 1) := by decide +kernel
theorem dq_CO_noteChanges_94 : decode (fx_cc mq_CO_noteChanges) 94 = .ok (.ifCond .ne 47, 3) := by decide +kernel
theorem dq_CO_noteChanges_97 : decode (fx_cc mq_CO_noteChanges) 97 = .ok (.aload_n 0, 1) := by decide +kernel
theorem dq_CO_noteChanges_98 : decode (fx_cc mq_CO_noteChanges) 98 = .ok (.getfield 38, 3) := by decide +kernel
theorem dq_CO_noteChanges_101 : decode (fx_cc mq_CO_noteChanges) 101 = .ok (.getfield 102, 3) := by decide +kernel
theorem dq_CO_noteChanges_104 : decode (fx_cc mq_CO_noteChanges) 104 = .ok (.aload_n 0, 1) := by decide +kernel
theorem dq_CO_noteChanges_105 : decode (fx_cc mq_CO_noteChanges) 105 = .ok (.getfield 12, 3) := by decide +kernel
theorem dq_CO_noteChanges_108 : decode (fx_cc mq_CO_noteChanges) 108 = .ok (.getfield 86, 3) := by decide +kernel
theorem dq_CO_noteChanges_111 : decode (fx_cc mq_CO_noteChanges) 111 = .ok (.iload_n 2, 1) := by decide +kernel
theorem dq_CO_noteChanges_112 : decode (fx_cc mq_CO_noteChanges) 112 = .ok (.aaload, 1) := by decide +kernel
theorem dq_CO_noteChanges_113 : decode (fx_cc mq_CO_noteChanges) 113 = .ok (.getfield 90, 3) := by decide +kernel
theorem dq_CO_noteChanges_116 : decode (fx_cc mq_CO_noteChanges) 116 = .ok (.invokevirtual 106, 3) := by decide +kernel
theorem dq_CO_noteChanges_119 : decode (fx_cc mq_CO_noteChanges) 119 = .ok (.aload_n 0, 1) := by decide +kernel
theorem dq_CO_noteChanges_120 : decode (fx_cc mq_CO_noteChanges) 120 = .ok (.getfield 42, 3) := by decide +kernel
theorem dq_CO_noteChanges_123 : decode (fx_cc mq_CO_noteChanges) 123 = .ok (.getfield 102, 3) := by decide +kernel
theorem dq_CO_noteChanges_126 : decode (fx_cc mq_CO_noteChanges) 126 = .ok (.aload_n 0, 1) := by decide +kernel
theorem dq_CO_noteChanges_127 : decode (fx_cc mq_CO_noteChanges) 127 = .ok (.getfield 12, 3) := by decide +kernel
theorem dq_CO_noteChanges_130 : decode (fx_cc mq_CO_noteChanges) 130 = .ok (.getfield 86, 3) := by decide +kernel
theorem dq_CO_noteChanges_133 : decode (fx_cc mq_CO_noteChanges) 133 = .ok (.iload_n 2, 1) := by decide +kernel
theorem dq_CO_noteChanges_134 : decode (fx_cc mq_CO_noteChanges) 134 = .ok (.aaload, 1) := by decide +kernel
theorem dq_CO_noteChanges_135 : decode (fx_cc mq_CO_noteChanges) 135 = .ok (.getfield 90, 3) := by decide +kernel
theorem dq_CO_noteChanges_138 : decode (fx_cc mq_CO_noteChanges) 138 = .ok (.invokevirtual 106, 3) := by decide +kernel
theorem dq_CO_noteChanges_141 : decode (fx_cc mq_CO_noteChanges) 141 = .ok (.iinc 2 1, 3) := by decide +kernel
theorem dq_CO_noteChanges_144 : decode (fx_cc mq_CO_noteChanges) 144 = .ok (.goto (-142), 3) := by decide +kernel
theorem dq_CO_noteChanges_147 : decode (fx_cc mq_CO_noteChanges) 147 = .ok (.return_, 1) := by decide +kernel
theorem dq_DE_isWaiting_0 : decode (fx_cc mq_DE_isWaiting) 0 = .ok (.aload_n 0, 1) := by decide +kernel
theorem dq_DE_isWaiting_1 : decode (fx_cc mq_DE_isWaiting) 1 = .ok (.getfield 24, 3) := by decide +kernel
theorem dq_DE_isWaiting_4 : decode (fx_cc mq_DE_isWaiting) 4 = .ok (.iload_n 1, 1) := by decide +kernel
theorem dq_DE_isWaiting_5 : decode (fx_cc mq_DE_isWaiting) 5 = .ok (.iaload, 1) := by decide +kernel
theorem dq_DE_isWaiting_6 : decode (fx_cc mq_DE_isWaiting) 6 = .ok (.iconst (-1), 1) := by decide +kernel
theorem dq_DE_isWaiting_7 : decode (fx_cc mq_DE_isWaiting) 7 = .ok (.if_icmp .eq 21, 3) := by decide +kernel
theorem dq_DE_isWaiting_10 : decode (fx_cc mq_DE_isWaiting) 10 = .ok (.aload_n 0, 1) := by decide +kernel
theorem dq_DE_isWaiting_11 : decode (fx_cc mq_DE_isWaiting) 11 = .ok (.getfield 32, 3) := by decide +kernel
theorem dq_DE_isWaiting_14 : decode (fx_cc mq_DE_isWaiting) 14 = .ok (.aload_n 0, 1) := by decide +kernel
theorem dq_DE_isWaiting_15 : decode (fx_cc mq_DE_isWaiting) 15 = .ok (.getfield 24, 3) := by decide +kernel
theorem dq_DE_isWaiting_18 : decode (fx_cc mq_DE_isWaiting) 18 = .ok (.iload_n 1, 1) := by decide +kernel
theorem dq_DE_isWaiting_19 : decode (fx_cc mq_DE_isWaiting) 19 = .ok (.iaload, 1) := by decide +kernel
theorem dq_DE_isWaiting_20 : decode (fx_cc mq_DE_isWaiting) 20 = .ok (.baload, 1) := by decide +kernel
theorem dq_DE_isWaiting_21 : decode (fx_cc mq_DE_isWaiting) 21 = .ok (.ifCond .eq 7, 3) := by decide +kernel
theorem dq_DE_isWaiting_24 : decode (fx_cc mq_DE_isWaiting) 24 = .ok (.iconst 1, 1) := by decide +kernel
theorem dq_DE_isWaiting_25 : decode (fx_cc mq_DE_isWaiting) 25 = .ok (.goto 4, 3) := by decide +kernel
theorem dq_DE_isWaiting_28 : decode (fx_cc mq_DE_isWaiting) 28 = .ok (.iconst 0, 1) := by decide +kernel
theorem dq_DE_isWaiting_29 : decode (fx_cc mq_DE_isWaiting) 29 = .ok (.ireturn, 1) := by decide +kernel
theorem dq_MI_add_0 : decode (fx_cc mq_MI_add) 0 = .ok (.aload_n 1, 1) := by decide +kernel
theorem dq_MI_add_1 : decode (fx_cc mq_MI_add) 1 = .ok (.invokevirtual 18, 3) := by decide +kernel
theorem dq_MI_add_4 : decode (fx_cc mq_MI_add) 4 = .ok (.ifCond .ne 11, 3) := by decide +kernel
theorem dq_MI_add_7 : decode (fx_cc mq_MI_add) 7 = .ok (.aload_n 0, 1) := by decide +kernel
theorem dq_MI_add_8 : decode (fx_cc mq_MI_add) 8 = .ok (.aload_n 1, 1) := by decide +kernel
theorem dq_MI_add_9 : decode (fx_cc mq_MI_add) 9 = .ok (.invokevirtual 22, 3) := by decide +kernel
theorem dq_MI_add_12 : decode (fx_cc mq_MI_add) 12 = .ok (.ifCond .eq 4, 3) := by decide +kernel
theorem dq_MI_add_15 : decode (fx_cc mq_MI_add) 15 = .ok (.return_, 1) := by decide +kernel
theorem dq_MI_add_16 : decode (fx_cc mq_MI_add) 16 = .ok (.aload_n 0, 1) := by decide +kernel
theorem dq_MI_add_17 : decode (fx_cc mq_MI_add) 17 = .ok (.getfield 11, 3) := by decide +kernel
theorem dq_MI_add_20 : decode (fx_cc mq_MI_add) 20 = .ok (.aload_n 0, 1) := by decide +kernel
theorem dq_MI_add_21 : decode (fx_cc mq_MI_add) 21 = .ok (.getfield 26, 3) := by decide +kernel
theorem dq_MI_add_24 : decode (fx_cc mq_MI_add) 24 = .ok (.aaload, 1) := by decide +kernel
theorem dq_MI_add_25 : decode (fx_cc mq_MI_add) 25 = .ok (.aload_n 1, 1) := by decide +kernel
theorem dq_MI_add_26 : decode (fx_cc mq_MI_add) 26 = .ok (.invokevirtual 30, 3) := by decide +kernel
theorem dq_MI_add_29 : decode (fx_cc mq_MI_add) 29 = .ok (.aload_n 0, 1) := by decide +kernel
theorem dq_MI_add_30 : decode (fx_cc mq_MI_add) 30 = .ok (.dup, 1) := by decide +kernel
theorem dq_MI_add_31 : decode (fx_cc mq_MI_add) 31 = .ok (.getfield 26, 3) := by decide +kernel
theorem dq_MI_add_34 : decode (fx_cc mq_MI_add) 34 = .ok (.iconst 1, 1) := by decide +kernel
theorem dq_MI_add_35 : decode (fx_cc mq_MI_add) 35 = .ok (.iadd, 1) := by decide +kernel
theorem dq_MI_add_36 : decode (fx_cc mq_MI_add) 36 = .ok (.putfield 26, 3) := by decide +kernel
theorem dq_MI_add_39 : decode (fx_cc mq_MI_add) 39 = .ok (.aload_n 0, 1) := by decide +kernel
theorem dq_MI_add_40 : decode (fx_cc mq_MI_add) 40 = .ok (.getfield 26, 3) := by decide +kernel
theorem dq_MI_add_43 : decode (fx_cc mq_MI_add) 43 = .ok (.bipush 6, 2) := by decide +kernel
theorem dq_MI_add_45 : decode (fx_cc mq_MI_add) 45 = .ok (.if_icmp .le 7, 3) := by decide +kernel
theorem dq_MI_add_48 : decode (fx_cc mq_MI_add) 48 = .ok (.aload_n 0, 1) := by decide +kernel
theorem dq_MI_add_49 : decode (fx_cc mq_MI_add) 49 = .ok (.invokevirtual 34, 3) := by decide +kernel
theorem dq_MI_add_52 : decode (fx_cc mq_MI_add) 52 = .ok (.return_, 1) := by decide +kernel
theorem dq_MI_isCovered_0 : decode (fx_cc mq_MI_isCovered) 0 = .ok (.iconst 0, 1) := by decide +kernel
theorem dq_MI_isCovered_1 : decode (fx_cc mq_MI_isCovered) 1 = .ok (.istore_n 2, 1) := by decide +kernel
theorem dq_MI_isCovered_2 : decode (fx_cc mq_MI_isCovered) 2 = .ok (.iload_n 2, 1) := by decide +kernel
theorem dq_MI_isCovered_3 : decode (fx_cc mq_MI_isCovered) 3 = .ok (.aload_n 0, 1) := by decide +kernel
theorem dq_MI_isCovered_4 : decode (fx_cc mq_MI_isCovered) 4 = .ok (.getfield 26, 3) := by decide +kernel
theorem dq_MI_isCovered_7 : decode (fx_cc mq_MI_isCovered) 7 = .ok (.if_icmp .ge 24, 3) := by decide +kernel
theorem dq_MI_isCovered_10 : decode (fx_cc mq_MI_isCovered) 10 = .ok (.aload_n 0, 1) := by decide +kernel
theorem dq_MI_isCovered_11 : decode (fx_cc mq_MI_isCovered) 11 = .ok (.getfield 11, 3) := by decide +kernel
theorem dq_MI_isCovered_14 : decode (fx_cc mq_MI_isCovered) 14 = .ok (.iload_n 2, 1) := by decide +kernel
theorem dq_MI_isCovered_15 : decode (fx_cc mq_MI_isCovered) 15 = .ok (.aaload, 1) := by decide +kernel
theorem dq_MI_isCovered_16 : decode (fx_cc mq_MI_isCovered) 16 = .ok (.aload_n 1, 1) := by decide +kernel
theorem dq_MI_isCovered_17 : decode (fx_cc mq_MI_isCovered) 17 = .ok (.invokevirtual 37, 3) := by decide +kernel
theorem dq_MI_isCovered_20 : decode (fx_cc mq_MI_isCovered) 20 = .ok (.ifCond .eq 5, 3) := by decide +kernel
theorem dq_MI_isCovered_23 : decode (fx_cc mq_MI_isCovered) 23 = .ok (.iconst 1, 1) := by decide +kernel
theorem dq_MI_isCovered_24 : decode (fx_cc mq_MI_isCovered) 24 = .ok (.ireturn, 1) := by decide +kernel
theorem dq_MI_isCovered_25 : decode (fx_cc mq_MI_isCovered) 25 = .ok (.iinc 2 1, 3) := by decide +kernel
theorem dq_MI_isCovered_28 : decode (fx_cc mq_MI_isCovered) 28 = .ok (.goto (-26), 3) := by decide +kernel
theorem dq_MI_isCovered_31 : decode (fx_cc mq_MI_isCovered) 31 = .ok (.iconst 0, 1) := by decide +kernel
theorem dq_MI_isCovered_32 : decode (fx_cc mq_MI_isCovered) 32 = .ok (.ireturn, 1) := by decide +kernel
theorem dq_RE_contains_0 : decode (fx_cc mq_RE_contains) 0 = .ok (.aload_n 1, 1) := by decide +kernel
theorem dq_RE_contains_1 : decode (fx_cc mq_RE_contains) 1 = .ok (.getfield 7, 3) := by decide +kernel
theorem dq_RE_contains_4 : decode (fx_cc mq_RE_contains) 4 = .ok (.aload_n 0, 1) := by decide +kernel
theorem dq_RE_contains_5 : decode (fx_cc mq_RE_contains) 5 = .ok (.getfield 7, 3) := by decide +kernel
theorem dq_RE_contains_8 : decode (fx_cc mq_RE_contains) 8 = .ok (.if_icmp .lt 60, 3) := by decide +kernel
theorem dq_RE_contains_11 : decode (fx_cc mq_RE_contains) 11 = .ok (.aload_n 1, 1) := by decide +kernel
theorem dq_RE_contains_12 : decode (fx_cc mq_RE_contains) 12 = .ok (.getfield 7, 3) := by decide +kernel
theorem dq_RE_contains_15 : decode (fx_cc mq_RE_contains) 15 = .ok (.aload_n 1, 1) := by decide +kernel
theorem dq_RE_contains_16 : decode (fx_cc mq_RE_contains) 16 = .ok (.getfield 16, 3) := by decide +kernel
theorem dq_RE_contains_19 : decode (fx_cc mq_RE_contains) 19 = .ok (.iadd, 1) := by decide +kernel
theorem dq_RE_contains_20 : decode (fx_cc mq_RE_contains) 20 = .ok (.aload_n 0, 1) := by decide +kernel
theorem dq_RE_contains_21 : decode (fx_cc mq_RE_contains) 21 = .ok (.getfield 7, 3) := by decide +kernel
theorem dq_RE_contains_24 : decode (fx_cc mq_RE_contains) 24 = .ok (.aload_n 0, 1) := by decide +kernel
theorem dq_RE_contains_25 : decode (fx_cc mq_RE_contains) 25 = .ok (.getfield 16, 3) := by decide +kernel
theorem dq_RE_contains_28 : decode (fx_cc mq_RE_contains) 28 = .ok (.iadd, 1) := by decide +kernel
theorem dq_RE_contains_29 : decode (fx_cc mq_RE_contains) 29 = .ok (.if_icmp .gt 39, 3) := by decide +kernel
theorem dq_RE_contains_32 : decode (fx_cc mq_RE_contains) 32 = .ok (.aload_n 1, 1) := by decide +kernel
theorem dq_RE_contains_33 : decode (fx_cc mq_RE_contains) 33 = .ok (.getfield 13, 3) := by decide +kernel
theorem dq_RE_contains_36 : decode (fx_cc mq_RE_contains) 36 = .ok (.aload_n 0, 1) := by decide +kernel
theorem dq_RE_contains_37 : decode (fx_cc mq_RE_contains) 37 = .ok (.getfield 13, 3) := by decide +kernel
theorem dq_RE_contains_40 : decode (fx_cc mq_RE_contains) 40 = .ok (.if_icmp .lt 28, 3) := by decide +kernel
theorem dq_RE_contains_43 : decode (fx_cc mq_RE_contains) 43 = .ok (.aload_n 1, 1) := by decide +kernel
theorem dq_RE_contains_44 : decode (fx_cc mq_RE_contains) 44 = .ok (.getfield 13, 3) := by decide +kernel
theorem dq_RE_contains_47 : decode (fx_cc mq_RE_contains) 47 = .ok (.aload_n 1, 1) := by decide +kernel
theorem dq_RE_contains_48 : decode (fx_cc mq_RE_contains) 48 = .ok (.getfield 19, 3) := by decide +kernel
theorem dq_RE_contains_51 : decode (fx_cc mq_RE_contains) 51 = .ok (.iadd, 1) := by decide +kernel
theorem dq_RE_contains_52 : decode (fx_cc mq_RE_contains) 52 = .ok (.aload_n 0, 1) := by decide +kernel
theorem dq_RE_contains_53 : decode (fx_cc mq_RE_contains) 53 = .ok (.getfield 13, 3) := by decide +kernel
theorem dq_RE_contains_56 : decode (fx_cc mq_RE_contains) 56 = .ok (.aload_n 0, 1) := by decide +kernel
theorem dq_RE_contains_57 : decode (fx_cc mq_RE_contains) 57 = .ok (.getfield 19, 3) := by decide +kernel
theorem dq_RE_contains_60 : decode (fx_cc mq_RE_contains) 60 = .ok (.iadd, 1) := by decide +kernel
theorem dq_RE_contains_61 : decode (fx_cc mq_RE_contains) 61 = .ok (.if_icmp .gt 7, 3) := by decide +kernel
theorem dq_RE_contains_64 : decode (fx_cc mq_RE_contains) 64 = .ok (.iconst 1, 1) := by decide +kernel
theorem dq_RE_contains_65 : decode (fx_cc mq_RE_contains) 65 = .ok (.goto 4, 3) := by decide +kernel
theorem dq_RE_contains_68 : decode (fx_cc mq_RE_contains) 68 = .ok (.iconst 0, 1) := by decide +kernel
theorem dq_RE_contains_69 : decode (fx_cc mq_RE_contains) 69 = .ok (.ireturn, 1) := by decide +kernel
theorem dq_MI_joinNearest_0 : decode (fx_cc mq_MI_joinNearest) 0 = .ok (.iconst 0, 1) := by decide +kernel
theorem dq_MI_joinNearest_1 : decode (fx_cc mq_MI_joinNearest) 1 = .ok (.istore_n 1, 1) := by decide +kernel
theorem dq_MI_joinNearest_2 : decode (fx_cc mq_MI_joinNearest) 2 = .ok (.iconst 1, 1) := by decide +kernel
theorem dq_MI_joinNearest_3 : decode (fx_cc mq_MI_joinNearest) 3 = .ok (.istore_n 2, 1) := by decide +kernel
theorem dq_MI_joinNearest_4 : decode (fx_cc mq_MI_joinNearest) 4 = .ok (.aload_n 0, 1) := by decide +kernel
theorem dq_MI_joinNearest_5 : decode (fx_cc mq_MI_joinNearest) 5 = .ok (.getfield 11, 3) := by decide +kernel
theorem dq_MI_joinNearest_8 : decode (fx_cc mq_MI_joinNearest) 8 = .ok (.iconst 0, 1) := by decide +kernel
theorem dq_MI_joinNearest_9 : decode (fx_cc mq_MI_joinNearest) 9 = .ok (.aaload, 1) := by decide +kernel
theorem dq_MI_joinNearest_10 : decode (fx_cc mq_MI_joinNearest) 10 = .ok (.aload_n 0, 1) := by decide +kernel
theorem dq_MI_joinNearest_11 : decode (fx_cc mq_MI_joinNearest) 11 = .ok (.getfield 11, 3) := by decide +kernel
theorem dq_MI_joinNearest_14 : decode (fx_cc mq_MI_joinNearest) 14 = .ok (.iconst 1, 1) := by decide +kernel
theorem dq_MI_joinNearest_15 : decode (fx_cc mq_MI_joinNearest) 15 = .ok (.aaload, 1) := by decide +kernel
theorem dq_MI_joinNearest_16 : decode (fx_cc mq_MI_joinNearest) 16 = .ok (.invokevirtual 40, 3) := by decide +kernel
theorem dq_MI_joinNearest_19 : decode (fx_cc mq_MI_joinNearest) 19 = .ok (.istore_n 3, 1) := by decide +kernel
theorem dq_MI_joinNearest_20 : decode (fx_cc mq_MI_joinNearest) 20 = .ok (.iconst 0, 1) := by decide +kernel
theorem dq_MI_joinNearest_21 : decode (fx_cc mq_MI_joinNearest) 21 = .ok (.istore 4, 2) := by decide +kernel
theorem dq_MI_joinNearest_23 : decode (fx_cc mq_MI_joinNearest) 23 = .ok (.iload 4, 2) := by decide +kernel
theorem dq_MI_joinNearest_25 : decode (fx_cc mq_MI_joinNearest) 25 = .ok (.aload_n 0, 1) := by decide +kernel
theorem dq_MI_joinNearest_26 : decode (fx_cc mq_MI_joinNearest) 26 = .ok (.getfield 26, 3) := by decide +kernel
theorem dq_MI_joinNearest_29 : decode (fx_cc mq_MI_joinNearest) 29 = .ok (.if_icmp .ge 64, 3) := by decide +kernel
theorem dq_MI_joinNearest_32 : decode (fx_cc mq_MI_joinNearest) 32 = .ok (.iload 4, 2) := by decide +kernel
theorem dq_MI_joinNearest_34 : decode (fx_cc mq_MI_joinNearest) 34 = .ok (.iconst 1, 1) := by decide +kernel
theorem dq_MI_joinNearest_35 : decode (fx_cc mq_MI_joinNearest) 35 = .ok (.iadd, 1) := by decide +kernel
theorem dq_MI_joinNearest_36 : decode (fx_cc mq_MI_joinNearest) 36 = .ok (.istore 5, 2) := by decide +kernel
theorem dq_MI_joinNearest_38 : decode (fx_cc mq_MI_joinNearest) 38 = .ok (.iload 5, 2) := by decide +kernel
theorem dq_MI_joinNearest_40 : decode (fx_cc mq_MI_joinNearest) 40 = .ok (.aload_n 0, 1) := by decide +kernel
theorem dq_MI_joinNearest_41 : decode (fx_cc mq_MI_joinNearest) 41 = .ok (.getfield 26, 3) := by decide +kernel
theorem dq_MI_joinNearest_44 : decode (fx_cc mq_MI_joinNearest) 44 = .ok (.if_icmp .ge 43, 3) := by decide +kernel
theorem dq_MI_joinNearest_47 : decode (fx_cc mq_MI_joinNearest) 47 = .ok (.aload_n 0, 1) := by decide +kernel
theorem dq_MI_joinNearest_48 : decode (fx_cc mq_MI_joinNearest) 48 = .ok (.getfield 11, 3) := by decide +kernel
theorem dq_MI_joinNearest_51 : decode (fx_cc mq_MI_joinNearest) 51 = .ok (.iload 4, 2) := by decide +kernel
theorem dq_MI_joinNearest_53 : decode (fx_cc mq_MI_joinNearest) 53 = .ok (.aaload, 1) := by decide +kernel
theorem dq_MI_joinNearest_54 : decode (fx_cc mq_MI_joinNearest) 54 = .ok (.aload_n 0, 1) := by decide +kernel
theorem dq_MI_joinNearest_55 : decode (fx_cc mq_MI_joinNearest) 55 = .ok (.getfield 11, 3) := by decide +kernel
theorem dq_MI_joinNearest_58 : decode (fx_cc mq_MI_joinNearest) 58 = .ok (.iload 5, 2) := by decide +kernel
theorem dq_MI_joinNearest_60 : decode (fx_cc mq_MI_joinNearest) 60 = .ok (.aaload, 1) := by decide +kernel
theorem dq_MI_joinNearest_61 : decode (fx_cc mq_MI_joinNearest) 61 = .ok (.invokevirtual 40, 3) := by decide +kernel
theorem dq_MI_joinNearest_64 : decode (fx_cc mq_MI_joinNearest) 64 = .ok (.istore 6, 2) := by decide +kernel
theorem dq_MI_joinNearest_66 : decode (fx_cc mq_MI_joinNearest) 66 = .ok (.iload 6, 2) := by decide +kernel
theorem dq_MI_joinNearest_68 : decode (fx_cc mq_MI_joinNearest) 68 = .ok (.iload_n 3, 1) := by decide +kernel
theorem dq_MI_joinNearest_69 : decode (fx_cc mq_MI_joinNearest) 69 = .ok (.if_icmp .ge 12, 3) := by decide +kernel
theorem dq_MI_joinNearest_72 : decode (fx_cc mq_MI_joinNearest) 72 = .ok (.iload 6, 2) := by decide +kernel
theorem dq_MI_joinNearest_74 : decode (fx_cc mq_MI_joinNearest) 74 = .ok (.istore_n 3, 1) := by decide +kernel
theorem dq_MI_joinNearest_75 : decode (fx_cc mq_MI_joinNearest) 75 = .ok (.iload 4, 2) := by decide +kernel
theorem dq_MI_joinNearest_77 : decode (fx_cc mq_MI_joinNearest) 77 = .ok (.istore_n 1, 1) := by decide +kernel
theorem dq_MI_joinNearest_78 : decode (fx_cc mq_MI_joinNearest) 78 = .ok (.iload 5, 2) := by decide +kernel
theorem dq_MI_joinNearest_80 : decode (fx_cc mq_MI_joinNearest) 80 = .ok (.istore_n 2, 1) := by decide +kernel
theorem dq_MI_joinNearest_81 : decode (fx_cc mq_MI_joinNearest) 81 = .ok (.iinc 5 1, 3) := by decide +kernel
theorem dq_MI_joinNearest_84 : decode (fx_cc mq_MI_joinNearest) 84 = .ok (.goto (-46), 3) := by decide +kernel
theorem dq_MI_joinNearest_87 : decode (fx_cc mq_MI_joinNearest) 87 = .ok (.iinc 4 1, 3) := by decide +kernel
theorem dq_MI_joinNearest_90 : decode (fx_cc mq_MI_joinNearest) 90 = .ok (.goto (-67), 3) := by decide +kernel
theorem dq_MI_joinNearest_93 : decode (fx_cc mq_MI_joinNearest) 93 = .ok (.aload_n 0, 1) := by decide +kernel
theorem dq_MI_joinNearest_94 : decode (fx_cc mq_MI_joinNearest) 94 = .ok (.getfield 11, 3) := by decide +kernel
theorem dq_MI_joinNearest_97 : decode (fx_cc mq_MI_joinNearest) 97 = .ok (.iload_n 1, 1) := by decide +kernel
theorem dq_MI_joinNearest_98 : decode (fx_cc mq_MI_joinNearest) 98 = .ok (.aaload, 1) := by decide +kernel
theorem dq_MI_joinNearest_99 : decode (fx_cc mq_MI_joinNearest) 99 = .ok (.aload_n 0, 1) := by decide +kernel
theorem dq_MI_joinNearest_100 : decode (fx_cc mq_MI_joinNearest) 100 = .ok (.getfield 11, 3) := by decide +kernel
theorem dq_MI_joinNearest_103 : decode (fx_cc mq_MI_joinNearest) 103 = .ok (.iload_n 2, 1) := by decide +kernel
theorem dq_MI_joinNearest_104 : decode (fx_cc mq_MI_joinNearest) 104 = .ok (.aaload, 1) := by decide +kernel
theorem dq_MI_joinNearest_105 : decode (fx_cc mq_MI_joinNearest) 105 = .ok (.invokevirtual 44, 3) := by decide +kernel
theorem dq_MI_joinNearest_108 : decode (fx_cc mq_MI_joinNearest) 108 = .ok (.aload_n 0, 1) := by decide +kernel
theorem dq_MI_joinNearest_109 : decode (fx_cc mq_MI_joinNearest) 109 = .ok (.iload_n 2, 1) := by decide +kernel
theorem dq_MI_joinNearest_110 : decode (fx_cc mq_MI_joinNearest) 110 = .ok (.invokevirtual 47, 3) := by decide +kernel
theorem dq_MI_joinNearest_113 : decode (fx_cc mq_MI_joinNearest) 113 = .ok (.return_, 1) := by decide +kernel
theorem dq_RE_wasteWith_0 : decode (fx_cc mq_RE_wasteWith) 0 = .ok (.aload_n 0, 1) := by decide +kernel
theorem dq_RE_wasteWith_1 : decode (fx_cc mq_RE_wasteWith) 1 = .ok (.getfield 7, 3) := by decide +kernel
theorem dq_RE_wasteWith_4 : decode (fx_cc mq_RE_wasteWith) 4 = .ok (.aload_n 0, 1) := by decide +kernel
theorem dq_RE_wasteWith_5 : decode (fx_cc mq_RE_wasteWith) 5 = .ok (.getfield 16, 3) := by decide +kernel
theorem dq_RE_wasteWith_8 : decode (fx_cc mq_RE_wasteWith) 8 = .ok (.iadd, 1) := by decide +kernel
theorem dq_RE_wasteWith_9 : decode (fx_cc mq_RE_wasteWith) 9 = .ok (.aload_n 1, 1) := by decide +kernel
theorem dq_RE_wasteWith_10 : decode (fx_cc mq_RE_wasteWith) 10 = .ok (.getfield 7, 3) := by decide +kernel
theorem dq_RE_wasteWith_13 : decode (fx_cc mq_RE_wasteWith) 13 = .ok (.aload_n 1, 1) := by decide +kernel
theorem dq_RE_wasteWith_14 : decode (fx_cc mq_RE_wasteWith) 14 = .ok (.getfield 16, 3) := by decide +kernel
theorem dq_RE_wasteWith_17 : decode (fx_cc mq_RE_wasteWith) 17 = .ok (.iadd, 1) := by decide +kernel
theorem dq_RE_wasteWith_18 : decode (fx_cc mq_RE_wasteWith) 18 = .ok (.invokestatic 32, 3) := by decide +kernel
theorem dq_RE_wasteWith_21 : decode (fx_cc mq_RE_wasteWith) 21 = .ok (.aload_n 0, 1) := by decide +kernel
theorem dq_RE_wasteWith_22 : decode (fx_cc mq_RE_wasteWith) 22 = .ok (.getfield 7, 3) := by decide +kernel
theorem dq_RE_wasteWith_25 : decode (fx_cc mq_RE_wasteWith) 25 = .ok (.aload_n 1, 1) := by decide +kernel
theorem dq_RE_wasteWith_26 : decode (fx_cc mq_RE_wasteWith) 26 = .ok (.getfield 7, 3) := by decide +kernel
theorem dq_RE_wasteWith_29 : decode (fx_cc mq_RE_wasteWith) 29 = .ok (.invokestatic 26, 3) := by decide +kernel
theorem dq_RE_wasteWith_32 : decode (fx_cc mq_RE_wasteWith) 32 = .ok (.isub, 1) := by decide +kernel
theorem dq_RE_wasteWith_33 : decode (fx_cc mq_RE_wasteWith) 33 = .ok (.istore_n 2, 1) := by decide +kernel
theorem dq_RE_wasteWith_34 : decode (fx_cc mq_RE_wasteWith) 34 = .ok (.aload_n 0, 1) := by decide +kernel
theorem dq_RE_wasteWith_35 : decode (fx_cc mq_RE_wasteWith) 35 = .ok (.getfield 13, 3) := by decide +kernel
theorem dq_RE_wasteWith_38 : decode (fx_cc mq_RE_wasteWith) 38 = .ok (.aload_n 0, 1) := by decide +kernel
theorem dq_RE_wasteWith_39 : decode (fx_cc mq_RE_wasteWith) 39 = .ok (.getfield 19, 3) := by decide +kernel
theorem dq_RE_wasteWith_42 : decode (fx_cc mq_RE_wasteWith) 42 = .ok (.iadd, 1) := by decide +kernel
theorem dq_RE_wasteWith_43 : decode (fx_cc mq_RE_wasteWith) 43 = .ok (.aload_n 1, 1) := by decide +kernel
theorem dq_RE_wasteWith_44 : decode (fx_cc mq_RE_wasteWith) 44 = .ok (.getfield 13, 3) := by decide +kernel
theorem dq_RE_wasteWith_47 : decode (fx_cc mq_RE_wasteWith) 47 = .ok (.aload_n 1, 1) := by decide +kernel
theorem dq_RE_wasteWith_48 : decode (fx_cc mq_RE_wasteWith) 48 = .ok (.getfield 19, 3) := by decide +kernel
theorem dq_RE_wasteWith_51 : decode (fx_cc mq_RE_wasteWith) 51 = .ok (.iadd, 1) := by decide +kernel
theorem dq_RE_wasteWith_52 : decode (fx_cc mq_RE_wasteWith) 52 = .ok (.invokestatic 32, 3) := by decide +kernel
theorem dq_RE_wasteWith_55 : decode (fx_cc mq_RE_wasteWith) 55 = .ok (.aload_n 0, 1) := by decide +kernel
theorem dq_RE_wasteWith_56 : decode (fx_cc mq_RE_wasteWith) 56 = .ok (.getfield 13, 3) := by decide +kernel
theorem dq_RE_wasteWith_59 : decode (fx_cc mq_RE_wasteWith) 59 = .ok (.aload_n 1, 1) := by decide +kernel
theorem dq_RE_wasteWith_60 : decode (fx_cc mq_RE_wasteWith) 60 = .ok (.getfield 13, 3) := by decide +kernel
theorem dq_RE_wasteWith_63 : decode (fx_cc mq_RE_wasteWith) 63 = .ok (.invokestatic 26, 3) := by decide +kernel
theorem dq_RE_wasteWith_66 : decode (fx_cc mq_RE_wasteWith) 66 = .ok (.isub, 1) := by decide +kernel
theorem dq_RE_wasteWith_67 : decode (fx_cc mq_RE_wasteWith) 67 = .ok (.istore_n 3, 1) := by decide +kernel
theorem dq_RE_wasteWith_68 : decode (fx_cc mq_RE_wasteWith) 68 = .ok (.iload_n 2, 1) := by decide +kernel
theorem dq_RE_wasteWith_69 : decode (fx_cc mq_RE_wasteWith) 69 = .ok (.iload_n 3, 1) := by decide +kernel
theorem dq_RE_wasteWith_70 : decode (fx_cc mq_RE_wasteWith) 70 = .ok (.imul, 1) := by decide +kernel
theorem dq_RE_wasteWith_71 : decode (fx_cc mq_RE_wasteWith) 71 = .ok (.aload_n 0, 1) := by decide +kernel
theorem dq_RE_wasteWith_72 : decode (fx_cc mq_RE_wasteWith) 72 = .ok (.getfield 16, 3) := by decide +kernel
theorem dq_RE_wasteWith_75 : decode (fx_cc mq_RE_wasteWith) 75 = .ok (.aload_n 0, 1) := by decide +kernel
theorem dq_RE_wasteWith_76 : decode (fx_cc mq_RE_wasteWith) 76 = .ok (.getfield 19, 3) := by decide +kernel
theorem dq_RE_wasteWith_79 : decode (fx_cc mq_RE_wasteWith) 79 = .ok (.imul, 1) := by decide +kernel
theorem dq_RE_wasteWith_80 : decode (fx_cc mq_RE_wasteWith) 80 = .ok (.isub, 1) := by decide +kernel
theorem dq_RE_wasteWith_81 : decode (fx_cc mq_RE_wasteWith) 81 = .ok (.aload_n 1, 1) := by decide +kernel
theorem dq_RE_wasteWith_82 : decode (fx_cc mq_RE_wasteWith) 82 = .ok (.getfield 16, 3) := by decide +kernel
theorem dq_RE_wasteWith_85 : decode (fx_cc mq_RE_wasteWith) 85 = .ok (.aload_n 1, 1) := by decide +kernel
theorem dq_RE_wasteWith_86 : decode (fx_cc mq_RE_wasteWith) 86 = .ok (.getfield 19, 3) := by decide +kernel
theorem dq_RE_wasteWith_89 : decode (fx_cc mq_RE_wasteWith) 89 = .ok (.imul, 1) := by decide +kernel
theorem dq_RE_wasteWith_90 : decode (fx_cc mq_RE_wasteWith) 90 = .ok (.isub, 1) := by decide +kernel
theorem dq_RE_wasteWith_91 : decode (fx_cc mq_RE_wasteWith) 91 = .ok (.ireturn, 1) := by decide +kernel
theorem dq_RE_growOver_0 : decode (fx_cc mq_RE_growOver) 0 = .ok (.aload_n 0, 1) := by decide +kernel
theorem dq_RE_growOver_1 : decode (fx_cc mq_RE_growOver) 1 = .ok (.getfield 7, 3) := by decide +kernel
theorem dq_RE_growOver_4 : decode (fx_cc mq_RE_growOver) 4 = .ok (.aload_n 0, 1) := by decide +kernel
theorem dq_RE_growOver_5 : decode (fx_cc mq_RE_growOver) 5 = .ok (.getfield 16, 3) := by decide +kernel
theorem dq_RE_growOver_8 : decode (fx_cc mq_RE_growOver) 8 = .ok (.iadd, 1) := by decide +kernel
theorem dq_RE_growOver_9 : decode (fx_cc mq_RE_growOver) 9 = .ok (.aload_n 1, 1) := by decide +kernel
theorem dq_RE_growOver_10 : decode (fx_cc mq_RE_growOver) 10 = .ok (.getfield 7, 3) := by decide +kernel
theorem dq_RE_growOver_13 : decode (fx_cc mq_RE_growOver) 13 = .ok (.aload_n 1, 1) := by decide +kernel
theorem dq_RE_growOver_14 : decode (fx_cc mq_RE_growOver) 14 = .ok (.getfield 16, 3) := by decide +kernel
theorem dq_RE_growOver_17 : decode (fx_cc mq_RE_growOver) 17 = .ok (.iadd, 1) := by decide +kernel
theorem dq_RE_growOver_18 : decode (fx_cc mq_RE_growOver) 18 = .ok (.invokestatic 32, 3) := by decide +kernel
theorem dq_RE_growOver_21 : decode (fx_cc mq_RE_growOver) 21 = .ok (.istore_n 2, 1) := by decide +kernel
theorem dq_RE_growOver_22 : decode (fx_cc mq_RE_growOver) 22 = .ok (.aload_n 0, 1) := by decide +kernel
theorem dq_RE_growOver_23 : decode (fx_cc mq_RE_growOver) 23 = .ok (.getfield 13, 3) := by decide +kernel
theorem dq_RE_growOver_26 : decode (fx_cc mq_RE_growOver) 26 = .ok (.aload_n 0, 1) := by decide +kernel
theorem dq_RE_growOver_27 : decode (fx_cc mq_RE_growOver) 27 = .ok (.getfield 19, 3) := by decide +kernel
theorem dq_RE_growOver_30 : decode (fx_cc mq_RE_growOver) 30 = .ok (.iadd, 1) := by decide +kernel
theorem dq_RE_growOver_31 : decode (fx_cc mq_RE_growOver) 31 = .ok (.aload_n 1, 1) := by decide +kernel
theorem dq_RE_growOver_32 : decode (fx_cc mq_RE_growOver) 32 = .ok (.getfield 13, 3) := by decide +kernel
theorem dq_RE_growOver_35 : decode (fx_cc mq_RE_growOver) 35 = .ok (.aload_n 1, 1) := by decide +kernel
theorem dq_RE_growOver_36 : decode (fx_cc mq_RE_growOver) 36 = .ok (.getfield 19, 3) := by decide +kernel
theorem dq_RE_growOver_39 : decode (fx_cc mq_RE_growOver) 39 = .ok (.iadd, 1) := by decide +kernel
theorem dq_RE_growOver_40 : decode (fx_cc mq_RE_growOver) 40 = .ok (.invokestatic 32, 3) := by decide +kernel
theorem dq_RE_growOver_43 : decode (fx_cc mq_RE_growOver) 43 = .ok (.istore_n 3, 1) := by decide +kernel
theorem dq_RE_growOver_44 : decode (fx_cc mq_RE_growOver) 44 = .ok (.aload_n 0, 1) := by decide +kernel
theorem dq_RE_growOver_45 : decode (fx_cc mq_RE_growOver) 45 = .ok (.aload_n 0, 1) := by decide +kernel
theorem dq_RE_growOver_46 : decode (fx_cc mq_RE_growOver) 46 = .ok (.getfield 7, 3) := by decide +kernel
theorem dq_RE_growOver_49 : decode (fx_cc mq_RE_growOver) 49 = .ok (.aload_n 1, 1) := by decide +kernel
theorem dq_RE_growOver_50 : decode (fx_cc mq_RE_growOver) 50 = .ok (.getfield 7, 3) := by decide +kernel
theorem dq_RE_growOver_53 : decode (fx_cc mq_RE_growOver) 53 = .ok (.invokestatic 26, 3) := by decide +kernel
theorem dq_RE_growOver_56 : decode (fx_cc mq_RE_growOver) 56 = .ok (.putfield 7, 3) := by decide +kernel
theorem dq_RE_growOver_59 : decode (fx_cc mq_RE_growOver) 59 = .ok (.aload_n 0, 1) := by decide +kernel
theorem dq_RE_growOver_60 : decode (fx_cc mq_RE_growOver) 60 = .ok (.aload_n 0, 1) := by decide +kernel
theorem dq_RE_growOver_61 : decode (fx_cc mq_RE_growOver) 61 = .ok (.getfield 13, 3) := by decide +kernel
theorem dq_RE_growOver_64 : decode (fx_cc mq_RE_growOver) 64 = .ok (.aload_n 1, 1) := by decide +kernel
theorem dq_RE_growOver_65 : decode (fx_cc mq_RE_growOver) 65 = .ok (.getfield 13, 3) := by decide +kernel
theorem dq_RE_growOver_68 : decode (fx_cc mq_RE_growOver) 68 = .ok (.invokestatic 26, 3) := by decide +kernel
theorem dq_RE_growOver_71 : decode (fx_cc mq_RE_growOver) 71 = .ok (.putfield 13, 3) := by decide +kernel
theorem dq_RE_growOver_74 : decode (fx_cc mq_RE_growOver) 74 = .ok (.aload_n 0, 1) := by decide +kernel
theorem dq_RE_growOver_75 : decode (fx_cc mq_RE_growOver) 75 = .ok (.iload_n 2, 1) := by decide +kernel
theorem dq_RE_growOver_76 : decode (fx_cc mq_RE_growOver) 76 = .ok (.aload_n 0, 1) := by decide +kernel
theorem dq_RE_growOver_77 : decode (fx_cc mq_RE_growOver) 77 = .ok (.getfield 7, 3) := by decide +kernel
theorem dq_RE_growOver_80 : decode (fx_cc mq_RE_growOver) 80 = .ok (.isub, 1) := by decide +kernel
theorem dq_RE_growOver_81 : decode (fx_cc mq_RE_growOver) 81 = .ok (.putfield 16, 3) := by decide +kernel
theorem dq_RE_growOver_84 : decode (fx_cc mq_RE_growOver) 84 = .ok (.aload_n 0, 1) := by decide +kernel
theorem dq_RE_growOver_85 : decode (fx_cc mq_RE_growOver) 85 = .ok (.iload_n 3, 1) := by decide +kernel
theorem dq_RE_growOver_86 : decode (fx_cc mq_RE_growOver) 86 = .ok (.aload_n 0, 1) := by decide +kernel
theorem dq_RE_growOver_87 : decode (fx_cc mq_RE_growOver) 87 = .ok (.getfield 13, 3) := by decide +kernel
theorem dq_RE_growOver_90 : decode (fx_cc mq_RE_growOver) 90 = .ok (.isub, 1) := by decide +kernel
theorem dq_RE_growOver_91 : decode (fx_cc mq_RE_growOver) 91 = .ok (.putfield 19, 3) := by decide +kernel
theorem dq_RE_growOver_94 : decode (fx_cc mq_RE_growOver) 94 = .ok (.return_, 1) := by decide +kernel
theorem dq_MI_dropAt_0 : decode (fx_cc mq_MI_dropAt) 0 = .ok (.aload_n 0, 1) := by decide +kernel
theorem dq_MI_dropAt_1 : decode (fx_cc mq_MI_dropAt) 1 = .ok (.dup, 1) := by decide +kernel
theorem dq_MI_dropAt_2 : decode (fx_cc mq_MI_dropAt) 2 = .ok (.getfield 26, 3) := by decide +kernel
theorem dq_MI_dropAt_5 : decode (fx_cc mq_MI_dropAt) 5 = .ok (.iconst 1, 1) := by decide +kernel
theorem dq_MI_dropAt_6 : decode (fx_cc mq_MI_dropAt) 6 = .ok (.isub, 1) := by decide +kernel
theorem dq_MI_dropAt_7 : decode (fx_cc mq_MI_dropAt) 7 = .ok (.putfield 26, 3) := by decide +kernel
theorem dq_MI_dropAt_10 : decode (fx_cc mq_MI_dropAt) 10 = .ok (.iload_n 1, 1) := by decide +kernel
theorem dq_MI_dropAt_11 : decode (fx_cc mq_MI_dropAt) 11 = .ok (.istore_n 2, 1) := by decide +kernel
theorem dq_MI_dropAt_12 : decode (fx_cc mq_MI_dropAt) 12 = .ok (.iload_n 2, 1) := by decide +kernel
theorem dq_MI_dropAt_13 : decode (fx_cc mq_MI_dropAt) 13 = .ok (.aload_n 0, 1) := by decide +kernel
theorem dq_MI_dropAt_14 : decode (fx_cc mq_MI_dropAt) 14 = .ok (.getfield 26, 3) := by decide +kernel
theorem dq_MI_dropAt_17 : decode (fx_cc mq_MI_dropAt) 17 = .ok (.if_icmp .ge 26, 3) := by decide +kernel
theorem dq_MI_dropAt_20 : decode (fx_cc mq_MI_dropAt) 20 = .ok (.aload_n 0, 1) := by decide +kernel
theorem dq_MI_dropAt_21 : decode (fx_cc mq_MI_dropAt) 21 = .ok (.getfield 11, 3) := by decide +kernel
theorem dq_MI_dropAt_24 : decode (fx_cc mq_MI_dropAt) 24 = .ok (.iload_n 2, 1) := by decide +kernel
theorem dq_MI_dropAt_25 : decode (fx_cc mq_MI_dropAt) 25 = .ok (.aaload, 1) := by decide +kernel
theorem dq_MI_dropAt_26 : decode (fx_cc mq_MI_dropAt) 26 = .ok (.aload_n 0, 1) := by decide +kernel
theorem dq_MI_dropAt_27 : decode (fx_cc mq_MI_dropAt) 27 = .ok (.getfield 11, 3) := by decide +kernel
theorem dq_MI_dropAt_30 : decode (fx_cc mq_MI_dropAt) 30 = .ok (.iload_n 2, 1) := by decide +kernel
theorem dq_MI_dropAt_31 : decode (fx_cc mq_MI_dropAt) 31 = .ok (.iconst 1, 1) := by decide +kernel
theorem dq_MI_dropAt_32 : decode (fx_cc mq_MI_dropAt) 32 = .ok (.iadd, 1) := by decide +kernel
theorem dq_MI_dropAt_33 : decode (fx_cc mq_MI_dropAt) 33 = .ok (.aaload, 1) := by decide +kernel
theorem dq_MI_dropAt_34 : decode (fx_cc mq_MI_dropAt) 34 = .ok (.invokevirtual 30, 3) := by decide +kernel
theorem dq_MI_dropAt_37 : decode (fx_cc mq_MI_dropAt) 37 = .ok (.iinc 2 1, 3) := by decide +kernel
theorem dq_MI_dropAt_40 : decode (fx_cc mq_MI_dropAt) 40 = .ok (.goto (-28), 3) := by decide +kernel
theorem dq_MI_dropAt_43 : decode (fx_cc mq_MI_dropAt) 43 = .ok (.return_, 1) := by decide +kernel
theorem dq_DE_allTaken_0 : decode (fx_cc mq_DE_allTaken) 0 = .ok (.iconst 0, 1) := by decide +kernel
theorem dq_DE_allTaken_1 : decode (fx_cc mq_DE_allTaken) 1 = .ok (.istore_n 1, 1) := by decide +kernel
theorem dq_DE_allTaken_2 : decode (fx_cc mq_DE_allTaken) 2 = .ok (.iload_n 1, 1) := by decide +kernel
theorem dq_DE_allTaken_3 : decode (fx_cc mq_DE_allTaken) 3 = .ok (.bipush 10, 2) := by decide +kernel
theorem dq_DE_allTaken_5 : decode (fx_cc mq_DE_allTaken) 5 = .ok (.if_icmp .ge 60, 3) := by decide +kernel
theorem dq_DE_allTaken_8 : decode (fx_cc mq_DE_allTaken) 8 = .ok (.aload_n 0, 1) := by decide +kernel
theorem dq_DE_allTaken_9 : decode (fx_cc mq_DE_allTaken) 9 = .ok (.getfield 28, 3) := by decide +kernel
theorem dq_DE_allTaken_12 : decode (fx_cc mq_DE_allTaken) 12 = .ok (.iload_n 1, 1) := by decide +kernel
theorem dq_DE_allTaken_13 : decode (fx_cc mq_DE_allTaken) 13 = .ok (.baload, 1) := by decide +kernel
theorem dq_DE_allTaken_14 : decode (fx_cc mq_DE_allTaken) 14 = .ok (.ifCond .eq 45, 3) := by decide +kernel
theorem dq_DE_allTaken_17 : decode (fx_cc mq_DE_allTaken) 17 = .ok (.aload_n 0, 1) := by decide +kernel
theorem dq_DE_allTaken_18 : decode (fx_cc mq_DE_allTaken) 18 = .ok (.getfield 28, 3) := by decide +kernel
theorem dq_DE_allTaken_21 : decode (fx_cc mq_DE_allTaken) 21 = .ok (.iload_n 1, 1) := by decide +kernel
theorem dq_DE_allTaken_22 : decode (fx_cc mq_DE_allTaken) 22 = .ok (.iconst 0, 1) := by decide +kernel
theorem dq_DE_allTaken_23 : decode (fx_cc mq_DE_allTaken) 23 = .ok (.bastore, 1) := by decide +kernel
theorem dq_DE_allTaken_24 : decode (fx_cc mq_DE_allTaken) 24 = .ok (.aload_n 0, 1) := by decide +kernel
theorem dq_DE_allTaken_25 : decode (fx_cc mq_DE_allTaken) 25 = .ok (.getfield 24, 3) := by decide +kernel
theorem dq_DE_allTaken_28 : decode (fx_cc mq_DE_allTaken) 28 = .ok (.iload_n 1, 1) := by decide +kernel
theorem dq_DE_allTaken_29 : decode (fx_cc mq_DE_allTaken) 29 = .ok (.iconst (-1), 1) := by decide +kernel
theorem dq_DE_allTaken_30 : decode (fx_cc mq_DE_allTaken) 30 = .ok (.iastore, 1) := by decide +kernel
theorem dq_DE_allTaken_31 : decode (fx_cc mq_DE_allTaken) 31 = .ok (.aload_n 0, 1) := by decide +kernel
theorem dq_DE_allTaken_32 : decode (fx_cc mq_DE_allTaken) 32 = .ok (.dup, 1) := by decide +kernel
theorem dq_DE_allTaken_33 : decode (fx_cc mq_DE_allTaken) 33 = .ok (.getfield 35, 3) := by decide +kernel
theorem dq_DE_allTaken_36 : decode (fx_cc mq_DE_allTaken) 36 = .ok (.aload_n 0, 1) := by decide +kernel
theorem dq_DE_allTaken_37 : decode (fx_cc mq_DE_allTaken) 37 = .ok (.getfield 11, 3) := by decide +kernel
theorem dq_DE_allTaken_40 : decode (fx_cc mq_DE_allTaken) 40 = .ok (.iload_n 1, 1) := by decide +kernel
theorem dq_DE_allTaken_41 : decode (fx_cc mq_DE_allTaken) 41 = .ok (.aaload, 1) := by decide +kernel
theorem dq_DE_allTaken_42 : decode (fx_cc mq_DE_allTaken) 42 = .ok (.getfield 61, 3) := by decide +kernel
theorem dq_DE_allTaken_45 : decode (fx_cc mq_DE_allTaken) 45 = .ok (.aload_n 0, 1) := by decide +kernel
theorem dq_DE_allTaken_46 : decode (fx_cc mq_DE_allTaken) 46 = .ok (.getfield 11, 3) := by decide +kernel
theorem dq_DE_allTaken_49 : decode (fx_cc mq_DE_allTaken) 49 = .ok (.iload_n 1, 1) := by decide +kernel
theorem dq_DE_allTaken_50 : decode (fx_cc mq_DE_allTaken) 50 = .ok (.aaload, 1) := by decide +kernel
theorem dq_DE_allTaken_51 : decode (fx_cc mq_DE_allTaken) 51 = .ok (.getfield 64, 3) := by decide +kernel
theorem dq_DE_allTaken_54 : decode (fx_cc mq_DE_allTaken) 54 = .ok (.imul, 1) := by decide +kernel
theorem dq_DE_allTaken_55 : decode (fx_cc mq_DE_allTaken) 55 = .ok (.iadd, 1) := by decide +kernel
theorem dq_DE_allTaken_56 : decode (fx_cc mq_DE_allTaken) 56 = .ok (.putfield 35, 3) := by decide +kernel
theorem dq_DE_allTaken_59 : decode (fx_cc mq_DE_allTaken) 59 = .ok (.iinc 1 1, 3) := by decide +kernel
theorem dq_DE_allTaken_62 : decode (fx_cc mq_DE_allTaken) 62 = .ok (.goto (-60), 3) := by decide +kernel
theorem dq_DE_allTaken_65 : decode (fx_cc mq_DE_allTaken) 65 = .ok (.iconst 0, 1) := by decide +kernel
theorem dq_DE_allTaken_66 : decode (fx_cc mq_DE_allTaken) 66 = .ok (.istore_n 1, 1) := by decide +kernel
theorem dq_DE_allTaken_67 : decode (fx_cc mq_DE_allTaken) 67 = .ok (.iload_n 1, 1) := by decide +kernel
theorem dq_DE_allTaken_68 : decode (fx_cc mq_DE_allTaken) 68 = .ok (.iconst 4, 1) := by decide +kernel
theorem dq_DE_allTaken_69 : decode (fx_cc mq_DE_allTaken) 69 = .ok (.if_icmp .ge 16, 3) := by decide +kernel
theorem dq_DE_allTaken_72 : decode (fx_cc mq_DE_allTaken) 72 = .ok (.aload_n 0, 1) := by decide +kernel
theorem dq_DE_allTaken_73 : decode (fx_cc mq_DE_allTaken) 73 = .ok (.getfield 32, 3) := by decide +kernel
theorem dq_DE_allTaken_76 : decode (fx_cc mq_DE_allTaken) 76 = .ok (.iload_n 1, 1) := by decide +kernel
theorem dq_DE_allTaken_77 : decode (fx_cc mq_DE_allTaken) 77 = .ok (.iconst 0, 1) := by decide +kernel
theorem dq_DE_allTaken_78 : decode (fx_cc mq_DE_allTaken) 78 = .ok (.bastore, 1) := by decide +kernel
theorem dq_DE_allTaken_79 : decode (fx_cc mq_DE_allTaken) 79 = .ok (.iinc 1 1, 3) := by decide +kernel
theorem dq_DE_allTaken_82 : decode (fx_cc mq_DE_allTaken) 82 = .ok (.goto (-15), 3) := by decide +kernel
theorem dq_DE_allTaken_85 : decode (fx_cc mq_DE_allTaken) 85 = .ok (.return_, 1) := by decide +kernel
theorem dq_CO_startHole_0 : decode (fx_cc mq_CO_startHole) 0 = .ok (.aload_n 0, 1) := by decide +kernel
theorem dq_CO_startHole_1 : decode (fx_cc mq_CO_startHole) 1 = .ok (.iload_n 1, 1) := by decide +kernel
theorem dq_CO_startHole_2 : decode (fx_cc mq_CO_startHole) 2 = .ok (.putfield 111, 3) := by decide +kernel
theorem dq_CO_startHole_5 : decode (fx_cc mq_CO_startHole) 5 = .ok (.aload_n 0, 1) := by decide +kernel
theorem dq_CO_startHole_6 : decode (fx_cc mq_CO_startHole) 6 = .ok (.iconst (-1), 1) := by decide +kernel
theorem dq_CO_startHole_7 : decode (fx_cc mq_CO_startHole) 7 = .ok (.putfield 114, 3) := by decide +kernel
theorem dq_CO_startHole_10 : decode (fx_cc mq_CO_startHole) 10 = .ok (.aload_n 0, 1) := by decide +kernel
theorem dq_CO_startHole_11 : decode (fx_cc mq_CO_startHole) 11 = .ok (.getfield 111, 3) := by decide +kernel
theorem dq_CO_startHole_14 : decode (fx_cc mq_CO_startHole) 14 = .ok (.aload_n 0, 1) := by decide +kernel
theorem dq_CO_startHole_15 : decode (fx_cc mq_CO_startHole) 15 = .ok (.getfield 42, 3) := by decide +kernel
theorem dq_CO_startHole_18 : decode (fx_cc mq_CO_startHole) 18 = .ok (.getfield 102, 3) := by decide +kernel
theorem dq_CO_startHole_21 : decode (fx_cc mq_CO_startHole) 21 = .ok (.getfield 117, 3) := by decide +kernel
theorem dq_CO_startHole_24 : decode (fx_cc mq_CO_startHole) 24 = .ok (.if_icmp .lt 19, 3) := by decide +kernel
theorem dq_CO_startHole_27 : decode (fx_cc mq_CO_startHole) 27 = .ok (.aload_n 0, 1) := by decide +kernel
theorem dq_CO_startHole_28 : decode (fx_cc mq_CO_startHole) 28 = .ok (.getfield 42, 3) := by decide +kernel
theorem dq_CO_startHole_31 : decode (fx_cc mq_CO_startHole) 31 = .ok (.getfield 102, 3) := by decide +kernel
theorem dq_CO_startHole_34 : decode (fx_cc mq_CO_startHole) 34 = .ok (.iconst 0, 1) := by decide +kernel
theorem dq_CO_startHole_35 : decode (fx_cc mq_CO_startHole) 35 = .ok (.putfield 117, 3) := by decide +kernel
theorem dq_CO_startHole_38 : decode (fx_cc mq_CO_startHole) 38 = .ok (.aload_n 0, 1) := by decide +kernel
theorem dq_CO_startHole_39 : decode (fx_cc mq_CO_startHole) 39 = .ok (.iconst 2, 1) := by decide +kernel
theorem dq_CO_startHole_40 : decode (fx_cc mq_CO_startHole) 40 = .ok (.putfield 45, 3) := by decide +kernel
theorem dq_CO_startHole_43 : decode (fx_cc mq_CO_startHole) 43 = .ok (.return_, 1) := by decide +kernel
theorem dq_CO_makeSteps_0 : decode (fx_cc mq_CO_makeSteps) 0 = .ok (.iconst 0, 1) := by decide +kernel
theorem dq_CO_makeSteps_1 : decode (fx_cc mq_CO_makeSteps) 1 = .ok (.istore_n 2, 1) := by decide +kernel
theorem dq_CO_makeSteps_2 : decode (fx_cc mq_CO_makeSteps) 2 = .ok (.iload_n 2, 1) := by decide +kernel
theorem dq_CO_makeSteps_3 : decode (fx_cc mq_CO_makeSteps) 3 = .ok (.iload_n 1, 1) := by decide +kernel
theorem dq_CO_makeSteps_4 : decode (fx_cc mq_CO_makeSteps) 4 = .ok (.if_icmp .ge 21, 3) := by decide +kernel
theorem dq_CO_makeSteps_7 : decode (fx_cc mq_CO_makeSteps) 7 = .ok (.aload_n 0, 1) := by decide +kernel
theorem dq_CO_makeSteps_8 : decode (fx_cc mq_CO_makeSteps) 8 = .ok (.getfield 45, 3) := by decide +kernel
theorem dq_CO_makeSteps_11 : decode (fx_cc mq_CO_makeSteps) 11 = .ok (.iconst 1, 1) := by decide +kernel
theorem dq_CO_makeSteps_12 : decode (fx_cc mq_CO_makeSteps) 12 = .ok (.if_icmp .ne 13, 3) := by decide +kernel
theorem dq_CO_makeSteps_15 : decode (fx_cc mq_CO_makeSteps) 15 = .ok (.aload_n 0, 1) := by decide +kernel
theorem dq_CO_makeSteps_16 : decode (fx_cc mq_CO_makeSteps) 16 = .ok (.invokevirtual 120, 3) := by decide +kernel
theorem dq_CO_makeSteps_19 : decode (fx_cc mq_CO_makeSteps) 19 = .ok (.iinc 2 1, 3) := by decide +kernel
theorem dq_CO_makeSteps_22 : decode (fx_cc mq_CO_makeSteps) 22 = .ok (.goto (-20), 3) := by decide +kernel
theorem dq_CO_makeSteps_25 : decode (fx_cc mq_CO_makeSteps) 25 = .ok (.iload_n 2, 1) := by decide +kernel
theorem dq_CO_makeSteps_26 : decode (fx_cc mq_CO_makeSteps) 26 = .ok (.ireturn, 1) := by decide +kernel
theorem dq_CO_makeStep_0 : decode (fx_cc mq_CO_makeStep) 0 = .ok (.aload_n 0, 1) := by decide +kernel
theorem dq_CO_makeStep_1 : decode (fx_cc mq_CO_makeStep) 1 = .ok (.getfield 42, 3) := by decide +kernel
theorem dq_CO_makeStep_4 : decode (fx_cc mq_CO_makeStep) 4 = .ok (.getfield 102, 3) := by decide +kernel
theorem dq_CO_makeStep_7 : decode (fx_cc mq_CO_makeStep) 7 = .ok (.getfield 123, 3) := by decide +kernel
theorem dq_CO_makeStep_10 : decode (fx_cc mq_CO_makeStep) 10 = .ok (.aload_n 0, 1) := by decide +kernel
theorem dq_CO_makeStep_11 : decode (fx_cc mq_CO_makeStep) 11 = .ok (.getfield 111, 3) := by decide +kernel
theorem dq_CO_makeStep_14 : decode (fx_cc mq_CO_makeStep) 14 = .ok (.aaload, 1) := by decide +kernel
theorem dq_CO_makeStep_15 : decode (fx_cc mq_CO_makeStep) 15 = .ok (.astore_n 1, 1) := by decide +kernel
theorem dq_CO_makeStep_16 : decode (fx_cc mq_CO_makeStep) 16 = .ok (.aload_n 0, 1) := by decide +kernel
theorem dq_CO_makeStep_17 : decode (fx_cc mq_CO_makeStep) 17 = .ok (.getfield 114, 3) := by decide +kernel
theorem dq_CO_makeStep_20 : decode (fx_cc mq_CO_makeStep) 20 = .ok (.iconst (-1), 1) := by decide +kernel
theorem dq_CO_makeStep_21 : decode (fx_cc mq_CO_makeStep) 21 = .ok (.if_icmp .ne 14, 3) := by decide +kernel
theorem dq_CO_makeStep_24 : decode (fx_cc mq_CO_makeStep) 24 = .ok (.aload_n 0, 1) := by decide +kernel
theorem dq_CO_makeStep_25 : decode (fx_cc mq_CO_makeStep) 25 = .ok (.getfield 42, 3) := by decide +kernel
theorem dq_CO_makeStep_28 : decode (fx_cc mq_CO_makeStep) 28 = .ok (.aload_n 1, 1) := by decide +kernel
theorem dq_CO_makeStep_29 : decode (fx_cc mq_CO_makeStep) 29 = .ok (.invokevirtual 126, 3) := by decide +kernel
theorem dq_CO_makeStep_32 : decode (fx_cc mq_CO_makeStep) 32 = .ok (.goto 31, 3) := by decide +kernel
theorem dq_CO_makeStep_35 : decode (fx_cc mq_CO_makeStep) 35 = .ok (.aload_n 0, 1) := by decide +kernel
theorem dq_CO_makeStep_36 : decode (fx_cc mq_CO_makeStep) 36 = .ok (.getfield 42, 3) := by decide +kernel
theorem dq_CO_makeStep_39 : decode (fx_cc mq_CO_makeStep) 39 = .ok (.aload_n 0, 1) := by decide +kernel
theorem dq_CO_makeStep_40 : decode (fx_cc mq_CO_makeStep) 40 = .ok (.getfield 12, 3) := by decide +kernel
theorem dq_CO_makeStep_43 : decode (fx_cc mq_CO_makeStep) 43 = .ok (.getfield 86, 3) := by decide +kernel
theorem dq_CO_makeStep_46 : decode (fx_cc mq_CO_makeStep) 46 = .ok (.aload_n 0, 1) := by decide +kernel
theorem dq_CO_makeStep_47 : decode (fx_cc mq_CO_makeStep) 47 = .ok (.getfield 12, 3) := by decide +kernel
theorem dq_CO_makeStep_50 : decode (fx_cc mq_CO_makeStep) 50 = .ok (.getfield 129, 3) := by decide +kernel
theorem dq_CO_makeStep_53 : decode (fx_cc mq_CO_makeStep) 53 = .ok (.aload_n 0, 1) := by decide +kernel
theorem dq_CO_makeStep_54 : decode (fx_cc mq_CO_makeStep) 54 = .ok (.getfield 114, 3) := by decide +kernel
theorem dq_CO_makeStep_57 : decode (fx_cc mq_CO_makeStep) 57 = .ok (.iaload, 1) := by decide +kernel
theorem dq_CO_makeStep_58 : decode (fx_cc mq_CO_makeStep) 58 = .ok (.aaload, 1) := by decide +kernel
theorem dq_CO_makeStep_59 : decode (fx_cc mq_CO_makeStep) 59 = .ok (.aload_n 1, 1) := by decide +kernel
theorem dq_CO_makeStep_60 : decode (fx_cc mq_CO_makeStep) 60 = .ok (.invokevirtual 133, 3) := by decide +kernel
theorem dq_CO_makeStep_63 : decode (fx_cc mq_CO_makeStep) 63 = .ok (.aload_n 0, 1) := by decide +kernel
theorem dq_CO_makeStep_64 : decode (fx_cc mq_CO_makeStep) 64 = .ok (.aload_n 0, 1) := by decide +kernel
theorem dq_CO_makeStep_65 : decode (fx_cc mq_CO_makeStep) 65 = .ok (.aload_n 1, 1) := by decide +kernel
theorem dq_CO_makeStep_66 : decode (fx_cc mq_CO_makeStep) 66 = .ok (.invokevirtual 137, 3) := by decide +kernel
theorem dq_CO_makeStep_69 : decode (fx_cc mq_CO_makeStep) 69 = .ok (.putfield 114, 3) := by decide +kernel
theorem dq_CO_makeStep_72 : decode (fx_cc mq_CO_makeStep) 72 = .ok (.aload_n 0, 1) := by decide +kernel
theorem dq_CO_makeStep_73 : decode (fx_cc mq_CO_makeStep) 73 = .ok (.getfield 114, 3) := by decide +kernel
theorem dq_CO_makeStep_76 : decode (fx_cc mq_CO_makeStep) 76 = .ok (.aload_n 0, 1) := by decide +kernel
theorem dq_CO_makeStep_77 : decode (fx_cc mq_CO_makeStep) 77 = .ok (.getfield 12, 3) := by decide +kernel
theorem dq_CO_makeStep_80 : decode (fx_cc mq_CO_makeStep) 80 = .ok (.getfield 141, 3) := by decide +kernel
theorem dq_CO_makeStep_83 : decode (fx_cc mq_CO_makeStep) 83 = .ok (.if_icmp .ne 13, 3) := by decide +kernel
theorem dq_CO_makeStep_86 : decode (fx_cc mq_CO_makeStep) 86 = .ok (.aload_n 0, 1) := by decide +kernel
theorem dq_CO_makeStep_87 : decode (fx_cc mq_CO_makeStep) 87 = .ok (.aload_n 0, 1) := by decide +kernel
theorem dq_CO_makeStep_88 : decode (fx_cc mq_CO_makeStep) 88 = .ok (.getfield 111, 3) := by decide +kernel
theorem dq_CO_makeStep_91 : decode (fx_cc mq_CO_makeStep) 91 = .ok (.iconst 1, 1) := by decide +kernel
theorem dq_CO_makeStep_92 : decode (fx_cc mq_CO_makeStep) 92 = .ok (.iadd, 1) := by decide +kernel
theorem dq_CO_makeStep_93 : decode (fx_cc mq_CO_makeStep) 93 = .ok (.invokevirtual 78, 3) := by decide +kernel
theorem dq_CO_makeStep_96 : decode (fx_cc mq_CO_makeStep) 96 = .ok (.return_, 1) := by decide +kernel
theorem dq_ME_blacken_0 : decode (fx_cc mq_ME_blacken) 0 = .ok (.aload_n 1, 1) := by decide +kernel
theorem dq_ME_blacken_1 : decode (fx_cc mq_ME_blacken) 1 = .ok (.getfield 22, 3) := by decide +kernel
theorem dq_ME_blacken_4 : decode (fx_cc mq_ME_blacken) 4 = .ok (.istore_n 2, 1) := by decide +kernel
theorem dq_ME_blacken_5 : decode (fx_cc mq_ME_blacken) 5 = .ok (.iload_n 2, 1) := by decide +kernel
theorem dq_ME_blacken_6 : decode (fx_cc mq_ME_blacken) 6 = .ok (.aload_n 1, 1) := by decide +kernel
theorem dq_ME_blacken_7 : decode (fx_cc mq_ME_blacken) 7 = .ok (.getfield 22, 3) := by decide +kernel
theorem dq_ME_blacken_10 : decode (fx_cc mq_ME_blacken) 10 = .ok (.aload_n 1, 1) := by decide +kernel
theorem dq_ME_blacken_11 : decode (fx_cc mq_ME_blacken) 11 = .ok (.getfield 28, 3) := by decide +kernel
theorem dq_ME_blacken_14 : decode (fx_cc mq_ME_blacken) 14 = .ok (.iadd, 1) := by decide +kernel
theorem dq_ME_blacken_15 : decode (fx_cc mq_ME_blacken) 15 = .ok (.if_icmp .ge 45, 3) := by decide +kernel
theorem dq_ME_blacken_18 : decode (fx_cc mq_ME_blacken) 18 = .ok (.aload_n 1, 1) := by decide +kernel
theorem dq_ME_blacken_19 : decode (fx_cc mq_ME_blacken) 19 = .ok (.getfield 31, 3) := by decide +kernel
theorem dq_ME_blacken_22 : decode (fx_cc mq_ME_blacken) 22 = .ok (.istore_n 3, 1) := by decide +kernel
theorem dq_ME_blacken_23 : decode (fx_cc mq_ME_blacken) 23 = .ok (.iload_n 3, 1) := by decide +kernel
theorem dq_ME_blacken_24 : decode (fx_cc mq_ME_blacken) 24 = .ok (.aload_n 1, 1) := by decide +kernel
theorem dq_ME_blacken_25 : decode (fx_cc mq_ME_blacken) 25 = .ok (.getfield 31, 3) := by decide +kernel
theorem dq_ME_blacken_28 : decode (fx_cc mq_ME_blacken) 28 = .ok (.aload_n 1, 1) := by decide +kernel
theorem dq_ME_blacken_29 : decode (fx_cc mq_ME_blacken) 29 = .ok (.getfield 34, 3) := by decide +kernel
theorem dq_ME_blacken_32 : decode (fx_cc mq_ME_blacken) 32 = .ok (.iadd, 1) := by decide +kernel
theorem dq_ME_blacken_33 : decode (fx_cc mq_ME_blacken) 33 = .ok (.if_icmp .ge 21, 3) := by decide +kernel
theorem dq_ME_blacken_36 : decode (fx_cc mq_ME_blacken) 36 = .ok (.aload_n 0, 1) := by decide +kernel
theorem dq_ME_blacken_37 : decode (fx_cc mq_ME_blacken) 37 = .ok (.getfield 9, 3) := by decide +kernel
theorem dq_ME_blacken_40 : decode (fx_cc mq_ME_blacken) 40 = .ok (.iload_n 2, 1) := by decide +kernel
theorem dq_ME_blacken_41 : decode (fx_cc mq_ME_blacken) 41 = .ok (.bipush 20, 2) := by decide +kernel
theorem dq_ME_blacken_43 : decode (fx_cc mq_ME_blacken) 43 = .ok (.imul, 1) := by decide +kernel
theorem dq_ME_blacken_44 : decode (fx_cc mq_ME_blacken) 44 = .ok (.iload_n 3, 1) := by decide +kernel
theorem dq_ME_blacken_45 : decode (fx_cc mq_ME_blacken) 45 = .ok (.iadd, 1) := by decide +kernel
theorem dq_ME_blacken_46 : decode (fx_cc mq_ME_blacken) 46 = .ok (.iconst 0, 1) := by decide +kernel
theorem dq_ME_blacken_47 : decode (fx_cc mq_ME_blacken) 47 = .ok (.iastore, 1) := by decide +kernel
theorem dq_ME_blacken_48 : decode (fx_cc mq_ME_blacken) 48 = .ok (.iinc 3 1, 3) := by decide +kernel
theorem dq_ME_blacken_51 : decode (fx_cc mq_ME_blacken) 51 = .ok (.goto (-28), 3) := by decide +kernel
theorem dq_ME_blacken_54 : decode (fx_cc mq_ME_blacken) 54 = .ok (.iinc 2 1, 3) := by decide +kernel
theorem dq_ME_blacken_57 : decode (fx_cc mq_ME_blacken) 57 = .ok (.goto (-52), 3) := by decide +kernel
theorem dq_ME_blacken_60 : decode (fx_cc mq_ME_blacken) 60 = .ok (.return_, 1) := by decide +kernel
theorem dq_ME_paint_0 : decode (fx_cc mq_ME_paint) 0 = .ok (.aload_n 2, 1) := by decide +kernel
theorem dq_ME_paint_1 : decode (fx_cc mq_ME_paint) 1 = .ok (.getfield 22, 3) := by decide +kernel
theorem dq_ME_paint_4 : decode (fx_cc mq_ME_paint) 4 = .ok (.istore_n 3, 1) := by decide +kernel
theorem dq_ME_paint_5 : decode (fx_cc mq_ME_paint) 5 = .ok (.iload_n 3, 1) := by decide +kernel
theorem dq_ME_paint_6 : decode (fx_cc mq_ME_paint) 6 = .ok (.aload_n 2, 1) := by decide +kernel
theorem dq_ME_paint_7 : decode (fx_cc mq_ME_paint) 7 = .ok (.getfield 22, 3) := by decide +kernel
theorem dq_ME_paint_10 : decode (fx_cc mq_ME_paint) 10 = .ok (.aload_n 2, 1) := by decide +kernel
theorem dq_ME_paint_11 : decode (fx_cc mq_ME_paint) 11 = .ok (.getfield 28, 3) := by decide +kernel
theorem dq_ME_paint_14 : decode (fx_cc mq_ME_paint) 14 = .ok (.iadd, 1) := by decide +kernel
theorem dq_ME_paint_15 : decode (fx_cc mq_ME_paint) 15 = .ok (.if_icmp .ge 85, 3) := by decide +kernel
theorem dq_ME_paint_18 : decode (fx_cc mq_ME_paint) 18 = .ok (.aload_n 2, 1) := by decide +kernel
theorem dq_ME_paint_19 : decode (fx_cc mq_ME_paint) 19 = .ok (.getfield 31, 3) := by decide +kernel
theorem dq_ME_paint_22 : decode (fx_cc mq_ME_paint) 22 = .ok (.istore 4, 2) := by decide +kernel
theorem dq_ME_paint_24 : decode (fx_cc mq_ME_paint) 24 = .ok (.iload 4, 2) := by decide +kernel
theorem dq_ME_paint_26 : decode (fx_cc mq_ME_paint) 26 = .ok (.aload_n 2, 1) := by decide +kernel
theorem dq_ME_paint_27 : decode (fx_cc mq_ME_paint) 27 = .ok (.getfield 31, 3) := by decide +kernel
theorem dq_ME_paint_30 : decode (fx_cc mq_ME_paint) 30 = .ok (.aload_n 2, 1) := by decide +kernel
theorem dq_ME_paint_31 : decode (fx_cc mq_ME_paint) 31 = .ok (.getfield 34, 3) := by decide +kernel
theorem dq_ME_paint_34 : decode (fx_cc mq_ME_paint) 34 = .ok (.iadd, 1) := by decide +kernel
theorem dq_ME_paint_35 : decode (fx_cc mq_ME_paint) 35 = .ok (.if_icmp .ge 59, 3) := by decide +kernel
theorem dq_ME_paint_38 : decode (fx_cc mq_ME_paint) 38 = .ok (.aload_n 1, 1) := by decide +kernel
theorem dq_ME_paint_39 : decode (fx_cc mq_ME_paint) 39 = .ok (.getfield 37, 3) := by decide +kernel
theorem dq_ME_paint_42 : decode (fx_cc mq_ME_paint) 42 = .ok (.iload 4, 2) := by decide +kernel
theorem dq_ME_paint_44 : decode (fx_cc mq_ME_paint) 44 = .ok (.iload_n 3, 1) := by decide +kernel
theorem dq_ME_paint_45 : decode (fx_cc mq_ME_paint) 45 = .ok (.invokevirtual 43, 3) := by decide +kernel
theorem dq_ME_paint_48 : decode (fx_cc mq_ME_paint) 48 = .ok (.ifCond .eq 40, 3) := by decide +kernel
theorem dq_ME_paint_51 : decode (fx_cc mq_ME_paint) 51 = .ok (.iload_n 3, 1) := by decide +kernel
theorem dq_ME_paint_52 : decode (fx_cc mq_ME_paint) 52 = .ok (.bipush 20, 2) := by decide +kernel
theorem dq_ME_paint_54 : decode (fx_cc mq_ME_paint) 54 = .ok (.imul, 1) := by decide +kernel
theorem dq_ME_paint_55 : decode (fx_cc mq_ME_paint) 55 = .ok (.iload 4, 2) := by decide +kernel
theorem dq_ME_paint_57 : decode (fx_cc mq_ME_paint) 57 = .ok (.iadd, 1) := by decide +kernel
theorem dq_ME_paint_58 : decode (fx_cc mq_ME_paint) 58 = .ok (.istore 5, 2) := by decide +kernel
theorem dq_ME_paint_60 : decode (fx_cc mq_ME_paint) 60 = .ok (.aload_n 0, 1) := by decide +kernel
theorem dq_ME_paint_61 : decode (fx_cc mq_ME_paint) 61 = .ok (.getfield 9, 3) := by decide +kernel
theorem dq_ME_paint_64 : decode (fx_cc mq_ME_paint) 64 = .ok (.iload 5, 2) := by decide +kernel
theorem dq_ME_paint_66 : decode (fx_cc mq_ME_paint) 66 = .ok (.aload_n 1, 1) := by decide +kernel
theorem dq_ME_paint_67 : decode (fx_cc mq_ME_paint) 67 = .ok (.iload 4, 2) := by decide +kernel
theorem dq_ME_paint_69 : decode (fx_cc mq_ME_paint) 69 = .ok (.iload_n 3, 1) := by decide +kernel
theorem dq_ME_paint_70 : decode (fx_cc mq_ME_paint) 70 = .ok (.invokevirtual 47, 3) := by decide +kernel
theorem dq_ME_paint_73 : decode (fx_cc mq_ME_paint) 73 = .ok (.aload_n 0, 1) := by decide +kernel
theorem dq_ME_paint_74 : decode (fx_cc mq_ME_paint) 74 = .ok (.getfield 9, 3) := by decide +kernel
theorem dq_ME_paint_77 : decode (fx_cc mq_ME_paint) 77 = .ok (.iload 5, 2) := by decide +kernel
theorem dq_ME_paint_79 : decode (fx_cc mq_ME_paint) 79 = .ok (.iaload, 1) := by decide +kernel
theorem dq_ME_paint_80 : decode (fx_cc mq_ME_paint) 80 = .ok (.aload_n 1, 1) := by decide +kernel
theorem dq_ME_paint_81 : decode (fx_cc mq_ME_paint) 81 = .ok (.getfield 51, 3) := by decide +kernel
theorem dq_ME_paint_84 : decode (fx_cc mq_ME_paint) 84 = .ok (.invokestatic 54, 3) := by decide +kernel
theorem dq_ME_paint_87 : decode (fx_cc mq_ME_paint) 87 = .ok (.iastore, 1) := by decide +kernel
theorem dq_ME_paint_88 : decode (fx_cc mq_ME_paint) 88 = .ok (.iinc 4 1, 3) := by decide +kernel
theorem dq_ME_paint_91 : decode (fx_cc mq_ME_paint) 91 = .ok (.goto (-67), 3) := by decide +kernel
theorem dq_ME_paint_94 : decode (fx_cc mq_ME_paint) 94 = .ok (.iinc 3 1, 3) := by decide +kernel
theorem dq_ME_paint_97 : decode (fx_cc mq_ME_paint) 97 = .ok (.goto (-92), 3) := by decide +kernel
theorem dq_ME_paint_100 : decode (fx_cc mq_ME_paint) 100 = .ok (.return_, 1) := by decide +kernel
theorem dq_CO_nextLevel_0 : decode (fx_cc mq_CO_nextLevel) 0 = .ok (.aload_n 0, 1) := by decide +kernel
theorem dq_CO_nextLevel_1 : decode (fx_cc mq_CO_nextLevel) 1 = .ok (.getfield 114, 3) := by decide +kernel
theorem dq_CO_nextLevel_4 : decode (fx_cc mq_CO_nextLevel) 4 = .ok (.iconst 1, 1) := by decide +kernel
theorem dq_CO_nextLevel_5 : decode (fx_cc mq_CO_nextLevel) 5 = .ok (.iadd, 1) := by decide +kernel
theorem dq_CO_nextLevel_6 : decode (fx_cc mq_CO_nextLevel) 6 = .ok (.istore_n 2, 1) := by decide +kernel
theorem dq_CO_nextLevel_7 : decode (fx_cc mq_CO_nextLevel) 7 = .ok (.iload_n 2, 1) := by decide +kernel
theorem dq_CO_nextLevel_8 : decode (fx_cc mq_CO_nextLevel) 8 = .ok (.aload_n 0, 1) := by decide +kernel
theorem dq_CO_nextLevel_9 : decode (fx_cc mq_CO_nextLevel) 9 = .ok (.getfield 12, 3) := by decide +kernel
theorem dq_CO_nextLevel_12 : decode (fx_cc mq_CO_nextLevel) 12 = .ok (.getfield 141, 3) := by decide +kernel
theorem dq_CO_nextLevel_15 : decode (fx_cc mq_CO_nextLevel) 15 = .ok (.if_icmp .ge 51, 3) := by decide +kernel
theorem dq_CO_nextLevel_18 : decode (fx_cc mq_CO_nextLevel) 18 = .ok (.aload_n 0, 1) := by decide +kernel
theorem dq_CO_nextLevel_19 : decode (fx_cc mq_CO_nextLevel) 19 = .ok (.getfield 12, 3) := by decide +kernel
theorem dq_CO_nextLevel_22 : decode (fx_cc mq_CO_nextLevel) 22 = .ok (.getfield 129, 3) := by decide +kernel
theorem dq_CO_nextLevel_25 : decode (fx_cc mq_CO_nextLevel) 25 = .ok (.iload_n 2, 1) := by decide +kernel
theorem dq_CO_nextLevel_26 : decode (fx_cc mq_CO_nextLevel) 26 = .ok (.iaload, 1) := by decide +kernel
theorem dq_CO_nextLevel_27 : decode (fx_cc mq_CO_nextLevel) 27 = .ok (.istore_n 3, 1) := by decide +kernel
theorem dq_CO_nextLevel_28 : decode (fx_cc mq_CO_nextLevel) 28 = .ok (.aload_n 0, 1) := by decide +kernel
theorem dq_CO_nextLevel_29 : decode (fx_cc mq_CO_nextLevel) 29 = .ok (.getfield 21, 3) := by decide +kernel
theorem dq_CO_nextLevel_32 : decode (fx_cc mq_CO_nextLevel) 32 = .ok (.iload_n 3, 1) := by decide +kernel
theorem dq_CO_nextLevel_33 : decode (fx_cc mq_CO_nextLevel) 33 = .ok (.invokevirtual 82, 3) := by decide +kernel
theorem dq_CO_nextLevel_36 : decode (fx_cc mq_CO_nextLevel) 36 = .ok (.ifCond .ne 24, 3) := by decide +kernel
theorem dq_CO_nextLevel_39 : decode (fx_cc mq_CO_nextLevel) 39 = .ok (.aload_n 0, 1) := by decide +kernel
theorem dq_CO_nextLevel_40 : decode (fx_cc mq_CO_nextLevel) 40 = .ok (.getfield 12, 3) := by decide +kernel
theorem dq_CO_nextLevel_43 : decode (fx_cc mq_CO_nextLevel) 43 = .ok (.getfield 86, 3) := by decide +kernel
theorem dq_CO_nextLevel_46 : decode (fx_cc mq_CO_nextLevel) 46 = .ok (.iload_n 3, 1) := by decide +kernel
theorem dq_CO_nextLevel_47 : decode (fx_cc mq_CO_nextLevel) 47 = .ok (.aaload, 1) := by decide +kernel
theorem dq_CO_nextLevel_48 : decode (fx_cc mq_CO_nextLevel) 48 = .ok (.getfield 90, 3) := by decide +kernel
theorem dq_CO_nextLevel_51 : decode (fx_cc mq_CO_nextLevel) 51 = .ok (.aload_n 1, 1) := by decide +kernel
theorem dq_CO_nextLevel_52 : decode (fx_cc mq_CO_nextLevel) 52 = .ok (.invokevirtual 144, 3) := by decide +kernel
theorem dq_CO_nextLevel_55 : decode (fx_cc mq_CO_nextLevel) 55 = .ok (.ifCond .eq 5, 3) := by decide +kernel
theorem dq_CO_nextLevel_58 : decode (fx_cc mq_CO_nextLevel) 58 = .ok (.iload_n 2, 1) := by decide +kernel
theorem dq_CO_nextLevel_59 : decode (fx_cc mq_CO_nextLevel) 59 = .ok (.ireturn, 1) := by decide +kernel
theorem dq_CO_nextLevel_60 : decode (fx_cc mq_CO_nextLevel) 60 = .ok (.iinc 2 1, 3) := by decide +kernel
theorem dq_CO_nextLevel_63 : decode (fx_cc mq_CO_nextLevel) 63 = .ok (.goto (-56), 3) := by decide +kernel
theorem dq_CO_nextLevel_66 : decode (fx_cc mq_CO_nextLevel) 66 = .ok (.aload_n 0, 1) := by decide +kernel
theorem dq_CO_nextLevel_67 : decode (fx_cc mq_CO_nextLevel) 67 = .ok (.getfield 12, 3) := by decide +kernel
theorem dq_CO_nextLevel_70 : decode (fx_cc mq_CO_nextLevel) 70 = .ok (.getfield 141, 3) := by decide +kernel
theorem dq_CO_nextLevel_73 : decode (fx_cc mq_CO_nextLevel) 73 = .ok (.ireturn, 1) := by decide +kernel
theorem dq_MO_init_0 : decode (fx_cc mq_MO_init) 0 = .ok (.aload_n 0, 1) := by decide +kernel
theorem dq_MO_init_1 : decode (fx_cc mq_MO_init) 1 = .ok (.invokespecial 1, 3) := by decide +kernel
theorem dq_MO_init_4 : decode (fx_cc mq_MO_init) 4 = .ok (.aload_n 0, 1) := by decide +kernel
theorem dq_MO_init_5 : decode (fx_cc mq_MO_init) 5 = .ok (.bipush 10, 2) := by decide +kernel
theorem dq_MO_init_7 : decode (fx_cc mq_MO_init) 7 = .ok (.newarray .boolean, 2) := by decide +kernel
theorem dq_MO_init_9 : decode (fx_cc mq_MO_init) 9 = .ok (.putfield 7, 3) := by decide +kernel
theorem dq_MO_init_12 : decode (fx_cc mq_MO_init) 12 = .ok (.aload_n 0, 1) := by decide +kernel
theorem dq_MO_init_13 : decode (fx_cc mq_MO_init) 13 = .ok (.bipush 10, 2) := by decide +kernel
theorem dq_MO_init_15 : decode (fx_cc mq_MO_init) 15 = .ok (.newarray .int, 2) := by decide +kernel
theorem dq_MO_init_17 : decode (fx_cc mq_MO_init) 17 = .ok (.putfield 13, 3) := by decide +kernel
theorem dq_MO_init_20 : decode (fx_cc mq_MO_init) 20 = .ok (.aload_n 0, 1) := by decide +kernel
theorem dq_MO_init_21 : decode (fx_cc mq_MO_init) 21 = .ok (.bipush 10, 2) := by decide +kernel
theorem dq_MO_init_23 : decode (fx_cc mq_MO_init) 23 = .ok (.newarray .int, 2) := by decide +kernel
theorem dq_MO_init_25 : decode (fx_cc mq_MO_init) 25 = .ok (.putfield 17, 3) := by decide +kernel
theorem dq_MO_init_28 : decode (fx_cc mq_MO_init) 28 = .ok (.aload_n 0, 1) := by decide +kernel
theorem dq_MO_init_29 : decode (fx_cc mq_MO_init) 29 = .ok (.bipush 10, 2) := by decide +kernel
theorem dq_MO_init_31 : decode (fx_cc mq_MO_init) 31 = .ok (.newarray .int, 2) := by decide +kernel
theorem dq_MO_init_33 : decode (fx_cc mq_MO_init) 33 = .ok (.putfield 20, 3) := by decide +kernel
theorem dq_MO_init_36 : decode (fx_cc mq_MO_init) 36 = .ok (.aload_n 0, 1) := by decide +kernel
theorem dq_MO_init_37 : decode (fx_cc mq_MO_init) 37 = .ok (.bipush 10, 2) := by decide +kernel
theorem dq_MO_init_39 : decode (fx_cc mq_MO_init) 39 = .ok (.newarray .boolean, 2) := by decide +kernel
theorem dq_MO_init_41 : decode (fx_cc mq_MO_init) 41 = .ok (.putfield 23, 3) := by decide +kernel
theorem dq_MO_init_44 : decode (fx_cc mq_MO_init) 44 = .ok (.aload_n 0, 1) := by decide +kernel
theorem dq_MO_init_45 : decode (fx_cc mq_MO_init) 45 = .ok (.bipush 10, 2) := by decide +kernel
theorem dq_MO_init_47 : decode (fx_cc mq_MO_init) 47 = .ok (.newarray .boolean, 2) := by decide +kernel
theorem dq_MO_init_49 : decode (fx_cc mq_MO_init) 49 = .ok (.putfield 26, 3) := by decide +kernel
theorem dq_MO_init_52 : decode (fx_cc mq_MO_init) 52 = .ok (.aload_n 0, 1) := by decide +kernel
theorem dq_MO_init_53 : decode (fx_cc mq_MO_init) 53 = .ok (.bipush 30, 2) := by decide +kernel
theorem dq_MO_init_55 : decode (fx_cc mq_MO_init) 55 = .ok (.newarray .boolean, 2) := by decide +kernel
theorem dq_MO_init_57 : decode (fx_cc mq_MO_init) 57 = .ok (.putfield 29, 3) := by decide +kernel
theorem dq_MO_init_60 : decode (fx_cc mq_MO_init) 60 = .ok (.aload_n 0, 1) := by decide +kernel
theorem dq_MO_init_61 : decode (fx_cc mq_MO_init) 61 = .ok (.bipush 30, 2) := by decide +kernel
theorem dq_MO_init_63 : decode (fx_cc mq_MO_init) 63 = .ok (.newarray .int, 2) := by decide +kernel
theorem dq_MO_init_65 : decode (fx_cc mq_MO_init) 65 = .ok (.putfield 32, 3) := by decide +kernel
theorem dq_MO_init_68 : decode (fx_cc mq_MO_init) 68 = .ok (.aload_n 0, 1) := by decide +kernel
theorem dq_MO_init_69 : decode (fx_cc mq_MO_init) 69 = .ok (.bipush 30, 2) := by decide +kernel
theorem dq_MO_init_71 : decode (fx_cc mq_MO_init) 71 = .ok (.newarray .int, 2) := by decide +kernel
theorem dq_MO_init_73 : decode (fx_cc mq_MO_init) 73 = .ok (.putfield 35, 3) := by decide +kernel
theorem dq_MO_init_76 : decode (fx_cc mq_MO_init) 76 = .ok (.aload_n 0, 1) := by decide +kernel
theorem dq_MO_init_77 : decode (fx_cc mq_MO_init) 77 = .ok (.bipush 30, 2) := by decide +kernel
theorem dq_MO_init_79 : decode (fx_cc mq_MO_init) 79 = .ok (.newarray .int, 2) := by decide +kernel
theorem dq_MO_init_81 : decode (fx_cc mq_MO_init) 81 = .ok (.putfield 38, 3) := by decide +kernel
theorem dq_MO_init_84 : decode (fx_cc mq_MO_init) 84 = .ok (.aload_n 0, 1) := by decide +kernel
theorem dq_MO_init_85 : decode (fx_cc mq_MO_init) 85 = .ok (.bipush 30, 2) := by decide +kernel
theorem dq_MO_init_87 : decode (fx_cc mq_MO_init) 87 = .ok (.newarray .int, 2) := by decide +kernel
theorem dq_MO_init_89 : decode (fx_cc mq_MO_init) 89 = .ok (.putfield 41, 3) := by decide +kernel
theorem dq_MO_init_92 : decode (fx_cc mq_MO_init) 92 = .ok (.aload_n 0, 1) := by decide +kernel
theorem dq_MO_init_93 : decode (fx_cc mq_MO_init) 93 = .ok (.bipush 30, 2) := by decide +kernel
theorem dq_MO_init_95 : decode (fx_cc mq_MO_init) 95 = .ok (.newarray .boolean, 2) := by decide +kernel
theorem dq_MO_init_97 : decode (fx_cc mq_MO_init) 97 = .ok (.putfield 44, 3) := by decide +kernel
theorem dq_MO_init_100 : decode (fx_cc mq_MO_init) 100 = .ok (.aload_n 0, 1) := by decide +kernel
theorem dq_MO_init_101 : decode (fx_cc mq_MO_init) 101 = .ok (.bipush 30, 2) := by decide +kernel
theorem dq_MO_init_103 : decode (fx_cc mq_MO_init) 103 = .ok (.newarray .int, 2) := by decide +kernel
theorem dq_MO_init_105 : decode (fx_cc mq_MO_init) 105 = .ok (.putfield 47, 3) := by decide +kernel
theorem dq_MO_init_108 : decode (fx_cc mq_MO_init) 108 = .ok (.aload_n 0, 1) := by decide +kernel
theorem dq_MO_init_109 : decode (fx_cc mq_MO_init) 109 = .ok (.bipush 30, 2) := by decide +kernel
theorem dq_MO_init_111 : decode (fx_cc mq_MO_init) 111 = .ok (.newarray .int, 2) := by decide +kernel
theorem dq_MO_init_113 : decode (fx_cc mq_MO_init) 113 = .ok (.putfield 50, 3) := by decide +kernel
theorem dq_MO_init_116 : decode (fx_cc mq_MO_init) 116 = .ok (.aload_n 0, 1) := by decide +kernel
theorem dq_MO_init_117 : decode (fx_cc mq_MO_init) 117 = .ok (.bipush 30, 2) := by decide +kernel
theorem dq_MO_init_119 : decode (fx_cc mq_MO_init) 119 = .ok (.newarray .int, 2) := by decide +kernel
theorem dq_MO_init_121 : decode (fx_cc mq_MO_init) 121 = .ok (.putfield 53, 3) := by decide +kernel
theorem dq_MO_init_124 : decode (fx_cc mq_MO_init) 124 = .ok (.aload_n 0, 1) := by decide +kernel
theorem dq_MO_init_125 : decode (fx_cc mq_MO_init) 125 = .ok (.bipush 30, 2) := by decide +kernel
