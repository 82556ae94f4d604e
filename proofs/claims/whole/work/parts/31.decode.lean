/-! ===== a row for each instruction ===== -/
theorem dq_PI_findShown_38 : decode (fx_cc mq_PI_findShown) 38 = .ok (.getfield 22, 3) := by decide +kernel
theorem dq_PI_findShown_41 : decode (fx_cc mq_PI_findShown) 41 = .ok (.aload_n 0, 1) := by decide +kernel
theorem dq_PI_findShown_42 : decode (fx_cc mq_PI_findShown) 42 = .ok (.getfield 36, 3) := by decide +kernel
theorem dq_PI_findShown_45 : decode (fx_cc mq_PI_findShown) 45 = .ok (.aload_n 0, 1) := by decide +kernel
theorem dq_PI_findShown_46 : decode (fx_cc mq_PI_findShown) 46 = .ok (.getfield 39, 3) := by decide +kernel
theorem dq_PI_findShown_49 : decode (fx_cc mq_PI_findShown) 49 = .ok (.invokevirtual 74, 3) := by decide +kernel
theorem dq_PI_findShown_52 : decode (fx_cc mq_PI_findShown) 52 = .ok (.aload_n 0, 1) := by decide +kernel
theorem dq_PI_findShown_53 : decode (fx_cc mq_PI_findShown) 53 = .ok (.getfield 22, 3) := by decide +kernel
theorem dq_PI_findShown_56 : decode (fx_cc mq_PI_findShown) 56 = .ok (.bipush 20, 2) := by decide +kernel
theorem dq_PI_findShown_58 : decode (fx_cc mq_PI_findShown) 58 = .ok (.bipush 10, 2) := by decide +kernel
theorem dq_PI_findShown_60 : decode (fx_cc mq_PI_findShown) 60 = .ok (.invokevirtual 78, 3) := by decide +kernel
theorem dq_PI_findShown_63 : decode (fx_cc mq_PI_findShown) 63 = .ok (.return_, 1) := by decide +kernel
theorem dq_RE_shift_0 : decode (fx_cc mq_RE_shift) 0 = .ok (.aload_n 0, 1) := by decide +kernel
theorem dq_RE_shift_1 : decode (fx_cc mq_RE_shift) 1 = .ok (.dup, 1) := by decide +kernel
theorem dq_RE_shift_2 : decode (fx_cc mq_RE_shift) 2 = .ok (.getfield 7, 3) := by decide +kernel
theorem dq_RE_shift_5 : decode (fx_cc mq_RE_shift) 5 = .ok (.iload_n 1, 1) := by decide +kernel
theorem dq_RE_shift_6 : decode (fx_cc mq_RE_shift) 6 = .ok (.iadd, 1) := by decide +kernel
theorem dq_RE_shift_7 : decode (fx_cc mq_RE_shift) 7 = .ok (.putfield 7, 3) := by decide +kernel
theorem dq_RE_shift_10 : decode (fx_cc mq_RE_shift) 10 = .ok (.aload_n 0, 1) := by decide +kernel
theorem dq_RE_shift_11 : decode (fx_cc mq_RE_shift) 11 = .ok (.dup, 1) := by decide +kernel
theorem dq_RE_shift_12 : decode (fx_cc mq_RE_shift) 12 = .ok (.getfield 13, 3) := by decide +kernel
theorem dq_RE_shift_15 : decode (fx_cc mq_RE_shift) 15 = .ok (.iload_n 2, 1) := by decide +kernel
theorem dq_RE_shift_16 : decode (fx_cc mq_RE_shift) 16 = .ok (.iadd, 1) := by decide +kernel
theorem dq_RE_shift_17 : decode (fx_cc mq_RE_shift) 17 = .ok (.putfield 13, 3) := by decide +kernel
theorem dq_RE_shift_20 : decode (fx_cc mq_RE_shift) 20 = .ok (.return_, 1) := by decide +kernel
theorem dq_RE_cut_0 : decode (fx_cc mq_RE_cut) 0 = .ok (.aload_n 0, 1) := by decide +kernel
theorem dq_RE_cut_1 : decode (fx_cc mq_RE_cut) 1 = .ok (.getfield 7, 3) := by decide +kernel
theorem dq_RE_cut_4 : decode (fx_cc mq_RE_cut) 4 = .ok (.aload_n 0, 1) := by decide +kernel
theorem dq_RE_cut_5 : decode (fx_cc mq_RE_cut) 5 = .ok (.getfield 16, 3) := by decide +kernel
theorem dq_RE_cut_8 : decode (fx_cc mq_RE_cut) 8 = .ok (.iadd, 1) := by decide +kernel
theorem dq_RE_cut_9 : decode (fx_cc mq_RE_cut) 9 = .ok (.iload_n 1, 1) := by decide +kernel
theorem dq_RE_cut_10 : decode (fx_cc mq_RE_cut) 10 = .ok (.invokestatic 26, 3) := by decide +kernel
theorem dq_RE_cut_13 : decode (fx_cc mq_RE_cut) 13 = .ok (.istore_n 3, 1) := by decide +kernel
theorem dq_RE_cut_14 : decode (fx_cc mq_RE_cut) 14 = .ok (.aload_n 0, 1) := by decide +kernel
theorem dq_RE_cut_15 : decode (fx_cc mq_RE_cut) 15 = .ok (.getfield 13, 3) := by decide +kernel
theorem dq_RE_cut_18 : decode (fx_cc mq_RE_cut) 18 = .ok (.aload_n 0, 1) := by decide +kernel
theorem dq_RE_cut_19 : decode (fx_cc mq_RE_cut) 19 = .ok (.getfield 19, 3) := by decide +kernel
theorem dq_RE_cut_22 : decode (fx_cc mq_RE_cut) 22 = .ok (.iadd, 1) := by decide +kernel
theorem dq_RE_cut_23 : decode (fx_cc mq_RE_cut) 23 = .ok (.iload_n 2, 1) := by decide +kernel
theorem dq_RE_cut_24 : decode (fx_cc mq_RE_cut) 24 = .ok (.invokestatic 26, 3) := by decide +kernel
theorem dq_RE_cut_27 : decode (fx_cc mq_RE_cut) 27 = .ok (.istore 4, 2) := by decide +kernel
theorem dq_RE_cut_29 : decode (fx_cc mq_RE_cut) 29 = .ok (.aload_n 0, 1) := by decide +kernel
theorem dq_RE_cut_30 : decode (fx_cc mq_RE_cut) 30 = .ok (.aload_n 0, 1) := by decide +kernel
theorem dq_RE_cut_31 : decode (fx_cc mq_RE_cut) 31 = .ok (.getfield 7, 3) := by decide +kernel
theorem dq_RE_cut_34 : decode (fx_cc mq_RE_cut) 34 = .ok (.iconst 0, 1) := by decide +kernel
theorem dq_RE_cut_35 : decode (fx_cc mq_RE_cut) 35 = .ok (.invokestatic 32, 3) := by decide +kernel
theorem dq_RE_cut_38 : decode (fx_cc mq_RE_cut) 38 = .ok (.putfield 7, 3) := by decide +kernel
theorem dq_RE_cut_41 : decode (fx_cc mq_RE_cut) 41 = .ok (.aload_n 0, 1) := by decide +kernel
theorem dq_RE_cut_42 : decode (fx_cc mq_RE_cut) 42 = .ok (.aload_n 0, 1) := by decide +kernel
theorem dq_RE_cut_43 : decode (fx_cc mq_RE_cut) 43 = .ok (.getfield 13, 3) := by decide +kernel
theorem dq_RE_cut_46 : decode (fx_cc mq_RE_cut) 46 = .ok (.iconst 0, 1) := by decide +kernel
theorem dq_RE_cut_47 : decode (fx_cc mq_RE_cut) 47 = .ok (.invokestatic 32, 3) := by decide +kernel
theorem dq_RE_cut_50 : decode (fx_cc mq_RE_cut) 50 = .ok (.putfield 13, 3) := by decide +kernel
theorem dq_RE_cut_53 : decode (fx_cc mq_RE_cut) 53 = .ok (.aload_n 0, 1) := by decide +kernel
theorem dq_RE_cut_54 : decode (fx_cc mq_RE_cut) 54 = .ok (.iload_n 3, 1) := by decide +kernel
theorem dq_RE_cut_55 : decode (fx_cc mq_RE_cut) 55 = .ok (.aload_n 0, 1) := by decide +kernel
theorem dq_RE_cut_56 : decode (fx_cc mq_RE_cut) 56 = .ok (.getfield 7, 3) := by decide +kernel
theorem dq_RE_cut_59 : decode (fx_cc mq_RE_cut) 59 = .ok (.isub, 1) := by decide +kernel
theorem dq_RE_cut_60 : decode (fx_cc mq_RE_cut) 60 = .ok (.iconst 0, 1) := by decide +kernel
theorem dq_RE_cut_61 : decode (fx_cc mq_RE_cut) 61 = .ok (.invokestatic 32, 3) := by decide +kernel
theorem dq_RE_cut_64 : decode (fx_cc mq_RE_cut) 64 = .ok (.putfield 16, 3) := by decide +kernel
theorem dq_RE_cut_67 : decode (fx_cc mq_RE_cut) 67 = .ok (.aload_n 0, 1) := by decide +kernel
theorem dq_RE_cut_68 : decode (fx_cc mq_RE_cut) 68 = .ok (.iload 4, 2) := by decide +kernel
theorem dq_RE_cut_70 : decode (fx_cc mq_RE_cut) 70 = .ok (.aload_n 0, 1) := by decide +kernel
theorem dq_RE_cut_71 : decode (fx_cc mq_RE_cut) 71 = .ok (.getfield 13, 3) := by decide +kernel
theorem dq_RE_cut_74 : decode (fx_cc mq_RE_cut) 74 = .ok (.isub, 1) := by decide +kernel
theorem dq_RE_cut_75 : decode (fx_cc mq_RE_cut) 75 = .ok (.iconst 0, 1) := by decide +kernel
theorem dq_RE_cut_76 : decode (fx_cc mq_RE_cut) 76 = .ok (.invokestatic 32, 3) := by decide +kernel
theorem dq_RE_cut_79 : decode (fx_cc mq_RE_cut) 79 = .ok (.putfield 19, 3) := by decide +kernel
theorem dq_RE_cut_82 : decode (fx_cc mq_RE_cut) 82 = .ok (.return_, 1) := by decide +kernel
theorem dq_LA_destroy_0 : decode (fx_cc mq_LA_destroy) 0 = .ok (.aload_n 0, 1) := by decide +kernel
theorem dq_LA_destroy_1 : decode (fx_cc mq_LA_destroy) 1 = .ok (.iload_n 1, 1) := by decide +kernel
theorem dq_LA_destroy_2 : decode (fx_cc mq_LA_destroy) 2 = .ok (.invokevirtual 17, 3) := by decide +kernel
theorem dq_LA_destroy_5 : decode (fx_cc mq_LA_destroy) 5 = .ok (.goto 6, 3) := by decide +kernel
theorem dq_LA_destroy_8 : decode (fx_cc mq_LA_destroy) 8 = .ok (.astore_n 2, 1) := by decide +kernel
theorem dq_LA_destroy_9 : decode (fx_cc mq_LA_destroy) 9 = .ok (.iconst 1, 1) := by decide +kernel
theorem dq_LA_destroy_10 : decode (fx_cc mq_LA_destroy) 10 = .ok (.ireturn, 1) := by decide +kernel
theorem dq_LA_destroy_11 : decode (fx_cc mq_LA_destroy) 11 = .ok (.iconst 0, 1) := by decide +kernel
theorem dq_LA_destroy_12 : decode (fx_cc mq_LA_destroy) 12 = .ok (.ireturn, 1) := by decide +kernel
theorem dq_FS_destroy_0 : decode (fx_cc mq_FS_destroy) 0 = .ok (.aload_n 0, 1) := by decide +kernel
theorem dq_FS_destroy_1 : decode (fx_cc mq_FS_destroy) 1 = .ok (.getfield 10, 3) := by decide +kernel
theorem dq_FS_destroy_4 : decode (fx_cc mq_FS_destroy) 4 = .ok (.iload_n 1, 1) := by decide +kernel
theorem dq_FS_destroy_5 : decode (fx_cc mq_FS_destroy) 5 = .ok (.invokevirtual 71, 3) := by decide +kernel
theorem dq_FS_destroy_8 : decode (fx_cc mq_FS_destroy) 8 = .ok (.invokestatic 52, 3) := by decide +kernel
theorem dq_FS_destroy_11 : decode (fx_cc mq_FS_destroy) 11 = .ok (.aload_n 0, 1) := by decide +kernel
theorem dq_FS_destroy_12 : decode (fx_cc mq_FS_destroy) 12 = .ok (.getfield 10, 3) := by decide +kernel
theorem dq_FS_destroy_15 : decode (fx_cc mq_FS_destroy) 15 = .ok (.getfield 74, 3) := by decide +kernel
theorem dq_FS_destroy_18 : decode (fx_cc mq_FS_destroy) 18 = .ok (.iload_n 1, 1) := by decide +kernel
theorem dq_FS_destroy_19 : decode (fx_cc mq_FS_destroy) 19 = .ok (.aaload, 1) := by decide +kernel
theorem dq_FS_destroy_20 : decode (fx_cc mq_FS_destroy) 20 = .ok (.invokevirtual 78, 3) := by decide +kernel
theorem dq_FS_destroy_23 : decode (fx_cc mq_FS_destroy) 23 = .ok (.return_, 1) := by decide +kernel
theorem dq_DE_hasDraft_0 : decode (fx_cc mq_DE_hasDraft) 0 = .ok (.iload_n 1, 1) := by decide +kernel
theorem dq_DE_hasDraft_1 : decode (fx_cc mq_DE_hasDraft) 1 = .ok (.ifCond .lt 25, 3) := by decide +kernel
theorem dq_DE_hasDraft_4 : decode (fx_cc mq_DE_hasDraft) 4 = .ok (.iload_n 1, 1) := by decide +kernel
theorem dq_DE_hasDraft_5 : decode (fx_cc mq_DE_hasDraft) 5 = .ok (.bipush 10, 2) := by decide +kernel
theorem dq_DE_hasDraft_7 : decode (fx_cc mq_DE_hasDraft) 7 = .ok (.if_icmp .ge 19, 3) := by decide +kernel
theorem dq_DE_hasDraft_10 : decode (fx_cc mq_DE_hasDraft) 10 = .ok (.aload_n 0, 1) := by decide +kernel
theorem dq_DE_hasDraft_11 : decode (fx_cc mq_DE_hasDraft) 11 = .ok (.getfield 11, 3) := by decide +kernel
theorem dq_DE_hasDraft_14 : decode (fx_cc mq_DE_hasDraft) 14 = .ok (.iload_n 1, 1) := by decide +kernel
theorem dq_DE_hasDraft_15 : decode (fx_cc mq_DE_hasDraft) 15 = .ok (.aaload, 1) := by decide +kernel
theorem dq_DE_hasDraft_16 : decode (fx_cc mq_DE_hasDraft) 16 = .ok (.getfield 40, 3) := by decide +kernel
theorem dq_DE_hasDraft_19 : decode (fx_cc mq_DE_hasDraft) 19 = .ok (.ifCond .eq 7, 3) := by decide +kernel
theorem dq_DE_hasDraft_22 : decode (fx_cc mq_DE_hasDraft) 22 = .ok (.iconst 1, 1) := by decide +kernel
theorem dq_DE_hasDraft_23 : decode (fx_cc mq_DE_hasDraft) 23 = .ok (.goto 4, 3) := by decide +kernel
theorem dq_DE_hasDraft_26 : decode (fx_cc mq_DE_hasDraft) 26 = .ok (.iconst 0, 1) := by decide +kernel
theorem dq_DE_hasDraft_27 : decode (fx_cc mq_DE_hasDraft) 27 = .ok (.ireturn, 1) := by decide +kernel
theorem dq_PI_remove_0 : decode (fx_cc mq_PI_remove) 0 = .ok (.aload_n 0, 1) := by decide +kernel
theorem dq_PI_remove_1 : decode (fx_cc mq_PI_remove) 1 = .ok (.iconst 0, 1) := by decide +kernel
theorem dq_PI_remove_2 : decode (fx_cc mq_PI_remove) 2 = .ok (.putfield 25, 3) := by decide +kernel
theorem dq_PI_remove_5 : decode (fx_cc mq_PI_remove) 5 = .ok (.aload_n 0, 1) := by decide +kernel
theorem dq_PI_remove_6 : decode (fx_cc mq_PI_remove) 6 = .ok (.invokevirtual 61, 3) := by decide +kernel
theorem dq_PI_remove_9 : decode (fx_cc mq_PI_remove) 9 = .ok (.return_, 1) := by decide +kernel
theorem dq_LA_place_0 : decode (fx_cc mq_LA_place) 0 = .ok (.aload_n 0, 1) := by decide +kernel
theorem dq_LA_place_1 : decode (fx_cc mq_LA_place) 1 = .ok (.iload_n 1, 1) := by decide +kernel
theorem dq_LA_place_2 : decode (fx_cc mq_LA_place) 2 = .ok (.iload_n 2, 1) := by decide +kernel
theorem dq_LA_place_3 : decode (fx_cc mq_LA_place) 3 = .ok (.iload_n 3, 1) := by decide +kernel
theorem dq_LA_place_4 : decode (fx_cc mq_LA_place) 4 = .ok (.iload 4, 2) := by decide +kernel
theorem dq_LA_place_6 : decode (fx_cc mq_LA_place) 6 = .ok (.iload 5, 2) := by decide +kernel
theorem dq_LA_place_8 : decode (fx_cc mq_LA_place) 8 = .ok (.iload 6, 2) := by decide +kernel
theorem dq_LA_place_10 : decode (fx_cc mq_LA_place) 10 = .ok (.invokevirtual 21, 3) := by decide +kernel
theorem dq_LA_place_13 : decode (fx_cc mq_LA_place) 13 = .ok (.goto 7, 3) := by decide +kernel
theorem dq_LA_place_16 : decode (fx_cc mq_LA_place) 16 = .ok (.astore 7, 2) := by decide +kernel
theorem dq_LA_place_18 : decode (fx_cc mq_LA_place) 18 = .ok (.iconst 1, 1) := by decide +kernel
theorem dq_LA_place_19 : decode (fx_cc mq_LA_place) 19 = .ok (.ireturn, 1) := by decide +kernel
theorem dq_LA_place_20 : decode (fx_cc mq_LA_place) 20 = .ok (.iconst 0, 1) := by decide +kernel
theorem dq_LA_place_21 : decode (fx_cc mq_LA_place) 21 = .ok (.ireturn, 1) := by decide +kernel
theorem dq_FS_place_0 : decode (fx_cc mq_FS_place) 0 = .ok (.aload_n 0, 1) := by decide +kernel
theorem dq_FS_place_1 : decode (fx_cc mq_FS_place) 1 = .ok (.getfield 10, 3) := by decide +kernel
theorem dq_FS_place_4 : decode (fx_cc mq_FS_place) 4 = .ok (.iload_n 1, 1) := by decide +kernel
theorem dq_FS_place_5 : decode (fx_cc mq_FS_place) 5 = .ok (.invokevirtual 71, 3) := by decide +kernel
theorem dq_FS_place_8 : decode (fx_cc mq_FS_place) 8 = .ok (.ifCond .eq 21, 3) := by decide +kernel
theorem dq_FS_place_11 : decode (fx_cc mq_FS_place) 11 = .ok (.iload_n 2, 1) := by decide +kernel
theorem dq_FS_place_12 : decode (fx_cc mq_FS_place) 12 = .ok (.invokestatic 81, 3) := by decide +kernel
theorem dq_FS_place_15 : decode (fx_cc mq_FS_place) 15 = .ok (.ifCond .eq 14, 3) := by decide +kernel
theorem dq_FS_place_18 : decode (fx_cc mq_FS_place) 18 = .ok (.iload_n 3, 1) := by decide +kernel
theorem dq_FS_place_19 : decode (fx_cc mq_FS_place) 19 = .ok (.invokestatic 81, 3) := by decide +kernel
theorem dq_FS_place_22 : decode (fx_cc mq_FS_place) 22 = .ok (.ifCond .eq 7, 3) := by decide +kernel
theorem dq_FS_place_25 : decode (fx_cc mq_FS_place) 25 = .ok (.iconst 1, 1) := by decide +kernel
theorem dq_FS_place_26 : decode (fx_cc mq_FS_place) 26 = .ok (.goto 4, 3) := by decide +kernel
theorem dq_FS_place_29 : decode (fx_cc mq_FS_place) 29 = .ok (.iconst 0, 1) := by decide +kernel
theorem dq_FS_place_30 : decode (fx_cc mq_FS_place) 30 = .ok (.invokestatic 52, 3) := by decide +kernel
theorem dq_FS_place_33 : decode (fx_cc mq_FS_place) 33 = .ok (.iload 4, 2) := by decide +kernel
theorem dq_FS_place_35 : decode (fx_cc mq_FS_place) 35 = .ok (.iconst 0, 1) := by decide +kernel
theorem dq_FS_place_36 : decode (fx_cc mq_FS_place) 36 = .ok (.bipush 9, 2) := by decide +kernel
theorem dq_FS_place_38 : decode (fx_cc mq_FS_place) 38 = .ok (.invokestatic 48, 3) := by decide +kernel
theorem dq_FS_place_41 : decode (fx_cc mq_FS_place) 41 = .ok (.ifCond .eq 18, 3) := by decide +kernel
theorem dq_FS_place_44 : decode (fx_cc mq_FS_place) 44 = .ok (.iload 5, 2) := by decide +kernel
theorem dq_FS_place_46 : decode (fx_cc mq_FS_place) 46 = .ok (.iconst 0, 1) := by decide +kernel
theorem dq_FS_place_47 : decode (fx_cc mq_FS_place) 47 = .ok (.bipush 16, 2) := by decide +kernel
theorem dq_FS_place_49 : decode (fx_cc mq_FS_place) 49 = .ok (.invokestatic 48, 3) := by decide +kernel
theorem dq_FS_place_52 : decode (fx_cc mq_FS_place) 52 = .ok (.ifCond .eq 7, 3) := by decide +kernel
theorem dq_FS_place_55 : decode (fx_cc mq_FS_place) 55 = .ok (.iconst 1, 1) := by decide +kernel
theorem dq_FS_place_56 : decode (fx_cc mq_FS_place) 56 = .ok (.goto 4, 3) := by decide +kernel
theorem dq_FS_place_59 : decode (fx_cc mq_FS_place) 59 = .ok (.iconst 0, 1) := by decide +kernel
theorem dq_FS_place_60 : decode (fx_cc mq_FS_place) 60 = .ok (.invokestatic 52, 3) := by decide +kernel
theorem dq_FS_place_63 : decode (fx_cc mq_FS_place) 63 = .ok (.aload_n 0, 1) := by decide +kernel
theorem dq_FS_place_64 : decode (fx_cc mq_FS_place) 64 = .ok (.getfield 10, 3) := by decide +kernel
theorem dq_FS_place_67 : decode (fx_cc mq_FS_place) 67 = .ok (.getfield 74, 3) := by decide +kernel
theorem dq_FS_place_70 : decode (fx_cc mq_FS_place) 70 = .ok (.iload_n 1, 1) := by decide +kernel
theorem dq_FS_place_71 : decode (fx_cc mq_FS_place) 71 = .ok (.aaload, 1) := by decide +kernel
theorem dq_FS_place_72 : decode (fx_cc mq_FS_place) 72 = .ok (.astore 7, 2) := by decide +kernel
theorem dq_FS_place_74 : decode (fx_cc mq_FS_place) 74 = .ok (.aload 7, 2) := by decide +kernel
theorem dq_FS_place_76 : decode (fx_cc mq_FS_place) 76 = .ok (.iload_n 2, 1) := by decide +kernel
theorem dq_FS_place_77 : decode (fx_cc mq_FS_place) 77 = .ok (.putfield 84, 3) := by decide +kernel
theorem dq_FS_place_80 : decode (fx_cc mq_FS_place) 80 = .ok (.aload 7, 2) := by decide +kernel
theorem dq_FS_place_82 : decode (fx_cc mq_FS_place) 82 = .ok (.iload_n 3, 1) := by decide +kernel
theorem dq_FS_place_83 : decode (fx_cc mq_FS_place) 83 = .ok (.putfield 87, 3) := by decide +kernel
theorem dq_FS_place_86 : decode (fx_cc mq_FS_place) 86 = .ok (.aload 7, 2) := by decide +kernel
theorem dq_FS_place_88 : decode (fx_cc mq_FS_place) 88 = .ok (.iload 4, 2) := by decide +kernel
theorem dq_FS_place_90 : decode (fx_cc mq_FS_place) 90 = .ok (.putfield 90, 3) := by decide +kernel
theorem dq_FS_place_93 : decode (fx_cc mq_FS_place) 93 = .ok (.aload 7, 2) := by decide +kernel
theorem dq_FS_place_95 : decode (fx_cc mq_FS_place) 95 = .ok (.iload 5, 2) := by decide +kernel
theorem dq_FS_place_97 : decode (fx_cc mq_FS_place) 97 = .ok (.putfield 93, 3) := by decide +kernel
theorem dq_FS_place_100 : decode (fx_cc mq_FS_place) 100 = .ok (.aload 7, 2) := by decide +kernel
theorem dq_FS_place_102 : decode (fx_cc mq_FS_place) 102 = .ok (.iload 6, 2) := by decide +kernel
theorem dq_FS_place_104 : decode (fx_cc mq_FS_place) 104 = .ok (.putfield 96, 3) := by decide +kernel
theorem dq_FS_place_107 : decode (fx_cc mq_FS_place) 107 = .ok (.aload 7, 2) := by decide +kernel
theorem dq_FS_place_109 : decode (fx_cc mq_FS_place) 109 = .ok (.invokevirtual 100, 3) := by decide +kernel
theorem dq_FS_place_112 : decode (fx_cc mq_FS_place) 112 = .ok (.return_, 1) := by decide +kernel
theorem dq_FS_isPlace_0 : decode (fx_cc mq_FS_isPlace) 0 = .ok (.iload_n 0, 1) := by decide +kernel
theorem dq_FS_isPlace_1 : decode (fx_cc mq_FS_isPlace) 1 = .ok (.bipush (-20), 2) := by decide +kernel
theorem dq_FS_isPlace_3 : decode (fx_cc mq_FS_isPlace) 3 = .ok (.bipush 30, 2) := by decide +kernel
theorem dq_FS_isPlace_5 : decode (fx_cc mq_FS_isPlace) 5 = .ok (.invokestatic 48, 3) := by decide +kernel
theorem dq_FS_isPlace_8 : decode (fx_cc mq_FS_isPlace) 8 = .ok (.ireturn, 1) := by decide +kernel
theorem dq_LA_clip_0 : decode (fx_cc mq_LA_clip) 0 = .ok (.aload_n 0, 1) := by decide +kernel
theorem dq_LA_clip_1 : decode (fx_cc mq_LA_clip) 1 = .ok (.iload_n 1, 1) := by decide +kernel
theorem dq_LA_clip_2 : decode (fx_cc mq_LA_clip) 2 = .ok (.iload_n 2, 1) := by decide +kernel
theorem dq_LA_clip_3 : decode (fx_cc mq_LA_clip) 3 = .ok (.iload_n 3, 1) := by decide +kernel
theorem dq_LA_clip_4 : decode (fx_cc mq_LA_clip) 4 = .ok (.iload 4, 2) := by decide +kernel
theorem dq_LA_clip_6 : decode (fx_cc mq_LA_clip) 6 = .ok (.iload 5, 2) := by decide +kernel
theorem dq_LA_clip_8 : decode (fx_cc mq_LA_clip) 8 = .ok (.invokevirtual 25, 3) := by decide +kernel
theorem dq_LA_clip_11 : decode (fx_cc mq_LA_clip) 11 = .ok (.goto 7, 3) := by decide +kernel
theorem dq_LA_clip_14 : decode (fx_cc mq_LA_clip) 14 = .ok (.astore 6, 2) := by decide +kernel
theorem dq_LA_clip_16 : decode (fx_cc mq_LA_clip) 16 = .ok (.iconst 1, 1) := by decide +kernel
theorem dq_LA_clip_17 : decode (fx_cc mq_LA_clip) 17 = .ok (.ireturn, 1) := by decide +kernel
theorem dq_LA_clip_18 : decode (fx_cc mq_LA_clip) 18 = .ok (.iconst 0, 1) := by decide +kernel
theorem dq_LA_clip_19 : decode (fx_cc mq_LA_clip) 19 = .ok (.ireturn, 1) := by decide +kernel
theorem dq_FS_clip_0 : decode (fx_cc mq_FS_clip) 0 = .ok (.aload_n 0, 1) := by decide +kernel
theorem dq_FS_clip_1 : decode (fx_cc mq_FS_clip) 1 = .ok (.getfield 10, 3) := by decide +kernel
theorem dq_FS_clip_4 : decode (fx_cc mq_FS_clip) 4 = .ok (.iload_n 1, 1) := by decide +kernel
theorem dq_FS_clip_5 : decode (fx_cc mq_FS_clip) 5 = .ok (.invokevirtual 71, 3) := by decide +kernel
theorem dq_FS_clip_8 : decode (fx_cc mq_FS_clip) 8 = .ok (.ifCond .eq 19, 3) := by decide +kernel
theorem dq_FS_clip_11 : decode (fx_cc mq_FS_clip) 11 = .ok (.iload_n 2, 1) := by decide +kernel
theorem dq_FS_clip_12 : decode (fx_cc mq_FS_clip) 12 = .ok (.iload_n 3, 1) := by decide +kernel
theorem dq_FS_clip_13 : decode (fx_cc mq_FS_clip) 13 = .ok (.iload 4, 2) := by decide +kernel
theorem dq_FS_clip_15 : decode (fx_cc mq_FS_clip) 15 = .ok (.iload 5, 2) := by decide +kernel
theorem dq_FS_clip_17 : decode (fx_cc mq_FS_clip) 17 = .ok (.invokestatic 103, 3) := by decide +kernel
theorem dq_FS_clip_20 : decode (fx_cc mq_FS_clip) 20 = .ok (.ifCond .eq 7, 3) := by decide +kernel
theorem dq_FS_clip_23 : decode (fx_cc mq_FS_clip) 23 = .ok (.iconst 1, 1) := by decide +kernel
theorem dq_FS_clip_24 : decode (fx_cc mq_FS_clip) 24 = .ok (.goto 4, 3) := by decide +kernel
theorem dq_FS_clip_27 : decode (fx_cc mq_FS_clip) 27 = .ok (.iconst 0, 1) := by decide +kernel
theorem dq_FS_clip_28 : decode (fx_cc mq_FS_clip) 28 = .ok (.invokestatic 52, 3) := by decide +kernel
theorem dq_FS_clip_31 : decode (fx_cc mq_FS_clip) 31 = .ok (.aload_n 0, 1) := by decide +kernel
theorem dq_FS_clip_32 : decode (fx_cc mq_FS_clip) 32 = .ok (.getfield 10, 3) := by decide +kernel
theorem dq_FS_clip_35 : decode (fx_cc mq_FS_clip) 35 = .ok (.getfield 74, 3) := by decide +kernel
theorem dq_FS_clip_38 : decode (fx_cc mq_FS_clip) 38 = .ok (.iload_n 1, 1) := by decide +kernel
theorem dq_FS_clip_39 : decode (fx_cc mq_FS_clip) 39 = .ok (.aaload, 1) := by decide +kernel
theorem dq_FS_clip_40 : decode (fx_cc mq_FS_clip) 40 = .ok (.astore 6, 2) := by decide +kernel
theorem dq_FS_clip_42 : decode (fx_cc mq_FS_clip) 42 = .ok (.aload 6, 2) := by decide +kernel
theorem dq_FS_clip_44 : decode (fx_cc mq_FS_clip) 44 = .ok (.getfield 107, 3) := by decide +kernel
theorem dq_FS_clip_47 : decode (fx_cc mq_FS_clip) 47 = .ok (.iload_n 2, 1) := by decide +kernel
theorem dq_FS_clip_48 : decode (fx_cc mq_FS_clip) 48 = .ok (.iload_n 3, 1) := by decide +kernel
theorem dq_FS_clip_49 : decode (fx_cc mq_FS_clip) 49 = .ok (.iload 4, 2) := by decide +kernel
theorem dq_FS_clip_51 : decode (fx_cc mq_FS_clip) 51 = .ok (.iload 5, 2) := by decide +kernel
theorem dq_FS_clip_53 : decode (fx_cc mq_FS_clip) 53 = .ok (.invokevirtual 110, 3) := by decide +kernel
theorem dq_FS_clip_56 : decode (fx_cc mq_FS_clip) 56 = .ok (.aload 6, 2) := by decide +kernel
theorem dq_FS_clip_58 : decode (fx_cc mq_FS_clip) 58 = .ok (.getfield 107, 3) := by decide +kernel
theorem dq_FS_clip_61 : decode (fx_cc mq_FS_clip) 61 = .ok (.aload 6, 2) := by decide +kernel
theorem dq_FS_clip_63 : decode (fx_cc mq_FS_clip) 63 = .ok (.getfield 113, 3) := by decide +kernel
theorem dq_FS_clip_66 : decode (fx_cc mq_FS_clip) 66 = .ok (.aload 6, 2) := by decide +kernel
theorem dq_FS_clip_68 : decode (fx_cc mq_FS_clip) 68 = .ok (.getfield 116, 3) := by decide +kernel
theorem dq_FS_clip_71 : decode (fx_cc mq_FS_clip) 71 = .ok (.invokevirtual 119, 3) := by decide +kernel
theorem dq_FS_clip_74 : decode (fx_cc mq_FS_clip) 74 = .ok (.aload 6, 2) := by decide +kernel
theorem dq_FS_clip_76 : decode (fx_cc mq_FS_clip) 76 = .ok (.invokevirtual 100, 3) := by decide +kernel
theorem dq_FS_clip_79 : decode (fx_cc mq_FS_clip) 79 = .ok (.return_, 1) := by decide +kernel
theorem dq_FS_isArea_0 : decode (fx_cc mq_FS_isArea) 0 = .ok (.iload_n 0, 1) := by decide +kernel
theorem dq_FS_isArea_1 : decode (fx_cc mq_FS_isArea) 1 = .ok (.invokestatic 81, 3) := by decide +kernel
theorem dq_FS_isArea_4 : decode (fx_cc mq_FS_isArea) 4 = .ok (.ifCond .eq 34, 3) := by decide +kernel
theorem dq_FS_isArea_7 : decode (fx_cc mq_FS_isArea) 7 = .ok (.iload_n 1, 1) := by decide +kernel
theorem dq_FS_isArea_8 : decode (fx_cc mq_FS_isArea) 8 = .ok (.invokestatic 81, 3) := by decide +kernel
theorem dq_FS_isArea_11 : decode (fx_cc mq_FS_isArea) 11 = .ok (.ifCond .eq 27, 3) := by decide +kernel
theorem dq_FS_isArea_14 : decode (fx_cc mq_FS_isArea) 14 = .ok (.iload_n 2, 1) := by decide +kernel
theorem dq_FS_isArea_15 : decode (fx_cc mq_FS_isArea) 15 = .ok (.iconst 0, 1) := by decide +kernel
theorem dq_FS_isArea_16 : decode (fx_cc mq_FS_isArea) 16 = .ok (.bipush 30, 2) := by decide +kernel
theorem dq_FS_isArea_18 : decode (fx_cc mq_FS_isArea) 18 = .ok (.invokestatic 48, 3) := by decide +kernel
theorem dq_FS_isArea_21 : decode (fx_cc mq_FS_isArea) 21 = .ok (.ifCond .eq 17, 3) := by decide +kernel
theorem dq_FS_isArea_24 : decode (fx_cc mq_FS_isArea) 24 = .ok (.iload_n 3, 1) := by decide +kernel
theorem dq_FS_isArea_25 : decode (fx_cc mq_FS_isArea) 25 = .ok (.iconst 0, 1) := by decide +kernel
theorem dq_FS_isArea_26 : decode (fx_cc mq_FS_isArea) 26 = .ok (.bipush 30, 2) := by decide +kernel
theorem dq_FS_isArea_28 : decode (fx_cc mq_FS_isArea) 28 = .ok (.invokestatic 48, 3) := by decide +kernel
theorem dq_FS_isArea_31 : decode (fx_cc mq_FS_isArea) 31 = .ok (.ifCond .eq 7, 3) := by decide +kernel
theorem dq_FS_isArea_34 : decode (fx_cc mq_FS_isArea) 34 = .ok (.iconst 1, 1) := by decide +kernel
theorem dq_FS_isArea_35 : decode (fx_cc mq_FS_isArea) 35 = .ok (.goto 4, 3) := by decide +kernel
theorem dq_FS_isArea_38 : decode (fx_cc mq_FS_isArea) 38 = .ok (.iconst 0, 1) := by decide +kernel
theorem dq_FS_isArea_39 : decode (fx_cc mq_FS_isArea) 39 = .ok (.ireturn, 1) := by decide +kernel
theorem dq_LA_put_0 : decode (fx_cc mq_LA_put) 0 = .ok (.aload_n 0, 1) := by decide +kernel
theorem dq_LA_put_1 : decode (fx_cc mq_LA_put) 1 = .ok (.iload_n 1, 1) := by decide +kernel
theorem dq_LA_put_2 : decode (fx_cc mq_LA_put) 2 = .ok (.iload_n 2, 1) := by decide +kernel
theorem dq_LA_put_3 : decode (fx_cc mq_LA_put) 3 = .ok (.iload_n 3, 1) := by decide +kernel
theorem dq_LA_put_4 : decode (fx_cc mq_LA_put) 4 = .ok (.iload 4, 2) := by decide +kernel
theorem dq_LA_put_6 : decode (fx_cc mq_LA_put) 6 = .ok (.invokevirtual 29, 3) := by decide +kernel
theorem dq_LA_put_9 : decode (fx_cc mq_LA_put) 9 = .ok (.goto 11, 3) := by decide +kernel
theorem dq_LA_put_12 : decode (fx_cc mq_LA_put) 12 = .ok (.astore 5, 2) := by decide +kernel
theorem dq_LA_put_14 : decode (fx_cc mq_LA_put) 14 = .ok (.iconst 1, 1) := by decide +kernel
theorem dq_LA_put_15 : decode (fx_cc mq_LA_put) 15 = .ok (.ireturn, 1) := by decide +kernel
theorem dq_LA_put_16 : decode (fx_cc mq_LA_put) 16 = .ok (.astore 5, 2) := by decide +kernel
theorem dq_LA_put_18 : decode (fx_cc mq_LA_put) 18 = .ok (.iconst 2, 1) := by decide +kernel
theorem dq_LA_put_19 : decode (fx_cc mq_LA_put) 19 = .ok (.ireturn, 1) := by decide +kernel
theorem dq_LA_put_20 : decode (fx_cc mq_LA_put) 20 = .ok (.iconst 0, 1) := by decide +kernel
theorem dq_LA_put_21 : decode (fx_cc mq_LA_put) 21 = .ok (.ireturn, 1) := by decide +kernel
theorem dq_FS_put_0 : decode (fx_cc mq_FS_put) 0 = .ok (.aload_n 0, 1) := by decide +kernel
theorem dq_FS_put_1 : decode (fx_cc mq_FS_put) 1 = .ok (.getfield 10, 3) := by decide +kernel
theorem dq_FS_put_4 : decode (fx_cc mq_FS_put) 4 = .ok (.iload_n 1, 1) := by decide +kernel
theorem dq_FS_put_5 : decode (fx_cc mq_FS_put) 5 = .ok (.invokevirtual 71, 3) := by decide +kernel
theorem dq_FS_put_8 : decode (fx_cc mq_FS_put) 8 = .ok (.ifCond .eq 15, 3) := by decide +kernel
theorem dq_FS_put_11 : decode (fx_cc mq_FS_put) 11 = .ok (.iload 4, 2) := by decide +kernel
theorem dq_FS_put_13 : decode (fx_cc mq_FS_put) 13 = .ok (.invokestatic 123, 3) := by decide +kernel
theorem dq_FS_put_16 : decode (fx_cc mq_FS_put) 16 = .ok (.ifCond .eq 7, 3) := by decide +kernel
theorem dq_FS_put_19 : decode (fx_cc mq_FS_put) 19 = .ok (.iconst 1, 1) := by decide +kernel
theorem dq_FS_put_20 : decode (fx_cc mq_FS_put) 20 = .ok (.goto 4, 3) := by decide +kernel
theorem dq_FS_put_23 : decode (fx_cc mq_FS_put) 23 = .ok (.iconst 0, 1) := by decide +kernel
theorem dq_FS_put_24 : decode (fx_cc mq_FS_put) 24 = .ok (.invokestatic 52, 3) := by decide +kernel
theorem dq_FS_put_27 : decode (fx_cc mq_FS_put) 27 = .ok (.aload_n 0, 1) := by decide +kernel
theorem dq_FS_put_28 : decode (fx_cc mq_FS_put) 28 = .ok (.getfield 10, 3) := by decide +kernel
theorem dq_FS_put_31 : decode (fx_cc mq_FS_put) 31 = .ok (.getfield 74, 3) := by decide +kernel
theorem dq_FS_put_34 : decode (fx_cc mq_FS_put) 34 = .ok (.iload_n 1, 1) := by decide +kernel
theorem dq_FS_put_35 : decode (fx_cc mq_FS_put) 35 = .ok (.aaload, 1) := by decide +kernel
theorem dq_FS_put_36 : decode (fx_cc mq_FS_put) 36 = .ok (.astore 5, 2) := by decide +kernel
theorem dq_FS_put_38 : decode (fx_cc mq_FS_put) 38 = .ok (.iload_n 2, 1) := by decide +kernel
theorem dq_FS_put_39 : decode (fx_cc mq_FS_put) 39 = .ok (.iconst 0, 1) := by decide +kernel
theorem dq_FS_put_40 : decode (fx_cc mq_FS_put) 40 = .ok (.aload 5, 2) := by decide +kernel
theorem dq_FS_put_42 : decode (fx_cc mq_FS_put) 42 = .ok (.getfield 113, 3) := by decide +kernel
theorem dq_FS_put_45 : decode (fx_cc mq_FS_put) 45 = .ok (.iconst 1, 1) := by decide +kernel
theorem dq_FS_put_46 : decode (fx_cc mq_FS_put) 46 = .ok (.isub, 1) := by decide +kernel
theorem dq_FS_put_47 : decode (fx_cc mq_FS_put) 47 = .ok (.invokestatic 48, 3) := by decide +kernel
theorem dq_FS_put_50 : decode (fx_cc mq_FS_put) 50 = .ok (.ifCond .eq 18, 3) := by decide +kernel
theorem dq_FS_put_53 : decode (fx_cc mq_FS_put) 53 = .ok (.iload_n 3, 1) := by decide +kernel
theorem dq_FS_put_54 : decode (fx_cc mq_FS_put) 54 = .ok (.iconst 0, 1) := by decide +kernel
theorem dq_FS_put_55 : decode (fx_cc mq_FS_put) 55 = .ok (.aload 5, 2) := by decide +kernel
theorem dq_FS_put_57 : decode (fx_cc mq_FS_put) 57 = .ok (.getfield 116, 3) := by decide +kernel
theorem dq_FS_put_60 : decode (fx_cc mq_FS_put) 60 = .ok (.iconst 1, 1) := by decide +kernel
theorem dq_FS_put_61 : decode (fx_cc mq_FS_put) 61 = .ok (.isub, 1) := by decide +kernel
theorem dq_FS_put_62 : decode (fx_cc mq_FS_put) 62 = .ok (.invokestatic 48, 3) := by decide +kernel
theorem dq_FS_put_65 : decode (fx_cc mq_FS_put) 65 = .ok (.ifCond .ne 11, 3) := by decide +kernel
theorem dq_FS_put_68 : decode (fx_cc mq_FS_put) 68 = .ok (.new 126, 3) := by decide +kernel
theorem dq_FS_put_71 : decode (fx_cc mq_FS_put) 71 = .ok (.dup, 1) := by decide +kernel
theorem dq_FS_put_72 : decode (fx_cc mq_FS_put) 72 = .ok (.invokespecial 128, 3) := by decide +kernel
theorem dq_FS_put_75 : decode (fx_cc mq_FS_put) 75 = .ok (.athrow, 1) := by decide +kernel
theorem dq_FS_put_76 : decode (fx_cc mq_FS_put) 76 = .ok (.aload 5, 2) := by decide +kernel
theorem dq_FS_put_78 : decode (fx_cc mq_FS_put) 78 = .ok (.getfield 129, 3) := by decide +kernel
theorem dq_FS_put_81 : decode (fx_cc mq_FS_put) 81 = .ok (.iload_n 3, 1) := by decide +kernel
theorem dq_FS_put_82 : decode (fx_cc mq_FS_put) 82 = .ok (.aload 5, 2) := by decide +kernel
theorem dq_FS_put_84 : decode (fx_cc mq_FS_put) 84 = .ok (.getfield 113, 3) := by decide +kernel
theorem dq_FS_put_87 : decode (fx_cc mq_FS_put) 87 = .ok (.imul, 1) := by decide +kernel
theorem dq_FS_put_88 : decode (fx_cc mq_FS_put) 88 = .ok (.iload_n 2, 1) := by decide +kernel
theorem dq_FS_put_89 : decode (fx_cc mq_FS_put) 89 = .ok (.iadd, 1) := by decide +kernel
theorem dq_FS_put_90 : decode (fx_cc mq_FS_put) 90 = .ok (.iload 4, 2) := by decide +kernel
theorem dq_FS_put_92 : decode (fx_cc mq_FS_put) 92 = .ok (.iastore, 1) := by decide +kernel
theorem dq_FS_put_93 : decode (fx_cc mq_FS_put) 93 = .ok (.return_, 1) := by decide +kernel
theorem dq_FS_isColor_0 : decode (fx_cc mq_FS_isColor) 0 = .ok (.iload_n 0, 1) := by decide +kernel
theorem dq_FS_isColor_1 : decode (fx_cc mq_FS_isColor) 1 = .ok (.iconst 0, 1) := by decide +kernel
theorem dq_FS_isColor_2 : decode (fx_cc mq_FS_isColor) 2 = .ok (.ldc_w 257, 3) := by decide +kernel
theorem dq_FS_isColor_5 : decode (fx_cc mq_FS_isColor) 5 = .ok (.invokestatic 48, 3) := by decide +kernel
theorem dq_FS_isColor_8 : decode (fx_cc mq_FS_isColor) 8 = .ok (.ireturn, 1) := by decide +kernel
theorem dq_LA_fill_0 : decode (fx_cc mq_LA_fill) 0 = .ok (.aload 7, 2) := by decide +kernel
theorem dq_LA_fill_2 : decode (fx_cc mq_LA_fill) 2 = .ok (.iconst 0, 1) := by decide +kernel
theorem dq_LA_fill_3 : decode (fx_cc mq_LA_fill) 3 = .ok (.aload_n 0, 1) := by decide +kernel
theorem dq_LA_fill_4 : decode (fx_cc mq_LA_fill) 4 = .ok (.iload_n 1, 1) := by decide +kernel
theorem dq_LA_fill_5 : decode (fx_cc mq_LA_fill) 5 = .ok (.iload_n 2, 1) := by decide +kernel
theorem dq_LA_fill_6 : decode (fx_cc mq_LA_fill) 6 = .ok (.iload_n 3, 1) := by decide +kernel
theorem dq_LA_fill_7 : decode (fx_cc mq_LA_fill) 7 = .ok (.iload 4, 2) := by decide +kernel
theorem dq_LA_fill_9 : decode (fx_cc mq_LA_fill) 9 = .ok (.iload 5, 2) := by decide +kernel
theorem dq_LA_fill_11 : decode (fx_cc mq_LA_fill) 11 = .ok (.iload 6, 2) := by decide +kernel
theorem dq_LA_fill_13 : decode (fx_cc mq_LA_fill) 13 = .ok (.invokevirtual 35, 3) := by decide +kernel
theorem dq_LA_fill_16 : decode (fx_cc mq_LA_fill) 16 = .ok (.i2l, 1) := by decide +kernel
theorem dq_LA_fill_17 : decode (fx_cc mq_LA_fill) 17 = .ok (.lastore, 1) := by decide +kernel
theorem dq_LA_fill_18 : decode (fx_cc mq_LA_fill) 18 = .ok (.goto 7, 3) := by decide +kernel
theorem dq_LA_fill_21 : decode (fx_cc mq_LA_fill) 21 = .ok (.astore 8, 2) := by decide +kernel
theorem dq_LA_fill_23 : decode (fx_cc mq_LA_fill) 23 = .ok (.iconst 1, 1) := by decide +kernel
theorem dq_LA_fill_24 : decode (fx_cc mq_LA_fill) 24 = .ok (.ireturn, 1) := by decide +kernel
theorem dq_LA_fill_25 : decode (fx_cc mq_LA_fill) 25 = .ok (.iconst 0, 1) := by decide +kernel
theorem dq_LA_fill_26 : decode (fx_cc mq_LA_fill) 26 = .ok (.ireturn, 1) := by decide +kernel
theorem dq_FS_fill_0 : decode (fx_cc mq_FS_fill) 0 = .ok (.aload_n 0, 1) := by decide +kernel
theorem dq_FS_fill_1 : decode (fx_cc mq_FS_fill) 1 = .ok (.getfield 10, 3) := by decide +kernel
theorem dq_FS_fill_4 : decode (fx_cc mq_FS_fill) 4 = .ok (.iload_n 1, 1) := by decide +kernel
theorem dq_FS_fill_5 : decode (fx_cc mq_FS_fill) 5 = .ok (.invokevirtual 71, 3) := by decide +kernel
theorem dq_FS_fill_8 : decode (fx_cc mq_FS_fill) 8 = .ok (.ifCond .eq 27, 3) := by decide +kernel
theorem dq_FS_fill_11 : decode (fx_cc mq_FS_fill) 11 = .ok (.iload 6, 2) := by decide +kernel
theorem dq_FS_fill_13 : decode (fx_cc mq_FS_fill) 13 = .ok (.invokestatic 123, 3) := by decide +kernel
theorem dq_FS_fill_16 : decode (fx_cc mq_FS_fill) 16 = .ok (.ifCond .eq 19, 3) := by decide +kernel
theorem dq_FS_fill_19 : decode (fx_cc mq_FS_fill) 19 = .ok (.iload_n 2, 1) := by decide +kernel
theorem dq_FS_fill_20 : decode (fx_cc mq_FS_fill) 20 = .ok (.iload_n 3, 1) := by decide +kernel
theorem dq_FS_fill_21 : decode (fx_cc mq_FS_fill) 21 = .ok (.iload 4, 2) := by decide +kernel
theorem dq_FS_fill_23 : decode (fx_cc mq_FS_fill) 23 = .ok (.iload 5, 2) := by decide +kernel
theorem dq_FS_fill_25 : decode (fx_cc mq_FS_fill) 25 = .ok (.invokestatic 103, 3) := by decide +kernel
theorem dq_FS_fill_28 : decode (fx_cc mq_FS_fill) 28 = .ok (.ifCond .eq 7, 3) := by decide +kernel
theorem dq_FS_fill_31 : decode (fx_cc mq_FS_fill) 31 = .ok (.iconst 1, 1) := by decide +kernel
theorem dq_FS_fill_32 : decode (fx_cc mq_FS_fill) 32 = .ok (.goto 4, 3) := by decide +kernel
theorem dq_FS_fill_35 : decode (fx_cc mq_FS_fill) 35 = .ok (.iconst 0, 1) := by decide +kernel
theorem dq_FS_fill_36 : decode (fx_cc mq_FS_fill) 36 = .ok (.invokestatic 52, 3) := by decide +kernel
theorem dq_FS_fill_39 : decode (fx_cc mq_FS_fill) 39 = .ok (.aload_n 0, 1) := by decide +kernel
theorem dq_FS_fill_40 : decode (fx_cc mq_FS_fill) 40 = .ok (.getfield 10, 3) := by decide +kernel
theorem dq_FS_fill_43 : decode (fx_cc mq_FS_fill) 43 = .ok (.getfield 74, 3) := by decide +kernel
theorem dq_FS_fill_46 : decode (fx_cc mq_FS_fill) 46 = .ok (.iload_n 1, 1) := by decide +kernel
theorem dq_FS_fill_47 : decode (fx_cc mq_FS_fill) 47 = .ok (.aaload, 1) := by decide +kernel
theorem dq_FS_fill_48 : decode (fx_cc mq_FS_fill) 48 = .ok (.astore 7, 2) := by decide +kernel
theorem dq_FS_fill_50 : decode (fx_cc mq_FS_fill) 50 = .ok (.aload_n 0, 1) := by decide +kernel
theorem dq_FS_fill_51 : decode (fx_cc mq_FS_fill) 51 = .ok (.getfield 33, 3) := by decide +kernel
theorem dq_FS_fill_54 : decode (fx_cc mq_FS_fill) 54 = .ok (.iload_n 2, 1) := by decide +kernel
theorem dq_FS_fill_55 : decode (fx_cc mq_FS_fill) 55 = .ok (.iload_n 3, 1) := by decide +kernel
theorem dq_FS_fill_56 : decode (fx_cc mq_FS_fill) 56 = .ok (.iload 4, 2) := by decide +kernel
theorem dq_FS_fill_58 : decode (fx_cc mq_FS_fill) 58 = .ok (.iload 5, 2) := by decide +kernel
theorem dq_FS_fill_60 : decode (fx_cc mq_FS_fill) 60 = .ok (.invokevirtual 110, 3) := by decide +kernel
theorem dq_FS_fill_63 : decode (fx_cc mq_FS_fill) 63 = .ok (.aload_n 0, 1) := by decide +kernel
theorem dq_FS_fill_64 : decode (fx_cc mq_FS_fill) 64 = .ok (.getfield 33, 3) := by decide +kernel
theorem dq_FS_fill_67 : decode (fx_cc mq_FS_fill) 67 = .ok (.aload 7, 2) := by decide +kernel
theorem dq_FS_fill_69 : decode (fx_cc mq_FS_fill) 69 = .ok (.getfield 113, 3) := by decide +kernel
theorem dq_FS_fill_72 : decode (fx_cc mq_FS_fill) 72 = .ok (.aload 7, 2) := by decide +kernel
theorem dq_FS_fill_74 : decode (fx_cc mq_FS_fill) 74 = .ok (.getfield 116, 3) := by decide +kernel
theorem dq_FS_fill_77 : decode (fx_cc mq_FS_fill) 77 = .ok (.invokevirtual 119, 3) := by decide +kernel
theorem dq_FS_fill_80 : decode (fx_cc mq_FS_fill) 80 = .ok (.aload 7, 2) := by decide +kernel
theorem dq_FS_fill_82 : decode (fx_cc mq_FS_fill) 82 = .ok (.aload_n 0, 1) := by decide +kernel
theorem dq_FS_fill_83 : decode (fx_cc mq_FS_fill) 83 = .ok (.getfield 33, 3) := by decide +kernel
theorem dq_FS_fill_86 : decode (fx_cc mq_FS_fill) 86 = .ok (.iload 6, 2) := by decide +kernel
theorem dq_FS_fill_88 : decode (fx_cc mq_FS_fill) 88 = .ok (.invokevirtual 133, 3) := by decide +kernel
theorem dq_FS_fill_91 : decode (fx_cc mq_FS_fill) 91 = .ok (.aload_n 0, 1) := by decide +kernel
theorem dq_FS_fill_92 : decode (fx_cc mq_FS_fill) 92 = .ok (.getfield 33, 3) := by decide +kernel
theorem dq_FS_fill_95 : decode (fx_cc mq_FS_fill) 95 = .ok (.invokevirtual 137, 3) := by decide +kernel
theorem dq_FS_fill_98 : decode (fx_cc mq_FS_fill) 98 = .ok (.ireturn, 1) := by decide +kernel
theorem dq_PI_paintOver_0 : decode (fx_cc mq_PI_paintOver) 0 = .ok (.aload_n 1, 1) := by decide +kernel
theorem dq_PI_paintOver_1 : decode (fx_cc mq_PI_paintOver) 1 = .ok (.getfield 81, 3) := by decide +kernel
theorem dq_PI_paintOver_4 : decode (fx_cc mq_PI_paintOver) 4 = .ok (.istore_n 3, 1) := by decide +kernel
theorem dq_PI_paintOver_5 : decode (fx_cc mq_PI_paintOver) 5 = .ok (.iload_n 3, 1) := by decide +kernel
theorem dq_PI_paintOver_6 : decode (fx_cc mq_PI_paintOver) 6 = .ok (.aload_n 1, 1) := by decide +kernel
theorem dq_PI_paintOver_7 : decode (fx_cc mq_PI_paintOver) 7 = .ok (.getfield 81, 3) := by decide +kernel
theorem dq_PI_paintOver_10 : decode (fx_cc mq_PI_paintOver) 10 = .ok (.aload_n 1, 1) := by decide +kernel
theorem dq_PI_paintOver_11 : decode (fx_cc mq_PI_paintOver) 11 = .ok (.getfield 82, 3) := by decide +kernel
theorem dq_PI_paintOver_14 : decode (fx_cc mq_PI_paintOver) 14 = .ok (.iadd, 1) := by decide +kernel
theorem dq_PI_paintOver_15 : decode (fx_cc mq_PI_paintOver) 15 = .ok (.if_icmp .ge 50, 3) := by decide +kernel
theorem dq_PI_paintOver_18 : decode (fx_cc mq_PI_paintOver) 18 = .ok (.aload_n 1, 1) := by decide +kernel
theorem dq_PI_paintOver_19 : decode (fx_cc mq_PI_paintOver) 19 = .ok (.getfield 83, 3) := by decide +kernel
theorem dq_PI_paintOver_22 : decode (fx_cc mq_PI_paintOver) 22 = .ok (.istore 4, 2) := by decide +kernel
theorem dq_PI_paintOver_24 : decode (fx_cc mq_PI_paintOver) 24 = .ok (.iload 4, 2) := by decide +kernel
theorem dq_PI_paintOver_26 : decode (fx_cc mq_PI_paintOver) 26 = .ok (.aload_n 1, 1) := by decide +kernel
theorem dq_PI_paintOver_27 : decode (fx_cc mq_PI_paintOver) 27 = .ok (.getfield 83, 3) := by decide +kernel
theorem dq_PI_paintOver_30 : decode (fx_cc mq_PI_paintOver) 30 = .ok (.aload_n 1, 1) := by decide +kernel
theorem dq_PI_paintOver_31 : decode (fx_cc mq_PI_paintOver) 31 = .ok (.getfield 84, 3) := by decide +kernel
theorem dq_PI_paintOver_34 : decode (fx_cc mq_PI_paintOver) 34 = .ok (.iadd, 1) := by decide +kernel
theorem dq_PI_paintOver_35 : decode (fx_cc mq_PI_paintOver) 35 = .ok (.if_icmp .ge 24, 3) := by decide +kernel
theorem dq_PI_paintOver_38 : decode (fx_cc mq_PI_paintOver) 38 = .ok (.aload_n 0, 1) := by decide +kernel
theorem dq_PI_paintOver_39 : decode (fx_cc mq_PI_paintOver) 39 = .ok (.getfield 9, 3) := by decide +kernel
theorem dq_PI_paintOver_42 : decode (fx_cc mq_PI_paintOver) 42 = .ok (.iload_n 3, 1) := by decide +kernel
theorem dq_PI_paintOver_43 : decode (fx_cc mq_PI_paintOver) 43 = .ok (.aload_n 0, 1) := by decide +kernel
theorem dq_PI_paintOver_44 : decode (fx_cc mq_PI_paintOver) 44 = .ok (.getfield 29, 3) := by decide +kernel
theorem dq_PI_paintOver_47 : decode (fx_cc mq_PI_paintOver) 47 = .ok (.imul, 1) := by decide +kernel
theorem dq_PI_paintOver_48 : decode (fx_cc mq_PI_paintOver) 48 = .ok (.iload 4, 2) := by decide +kernel
theorem dq_PI_paintOver_50 : decode (fx_cc mq_PI_paintOver) 50 = .ok (.iadd, 1) := by decide +kernel
theorem dq_PI_paintOver_51 : decode (fx_cc mq_PI_paintOver) 51 = .ok (.iload_n 2, 1) := by decide +kernel
theorem dq_PI_paintOver_52 : decode (fx_cc mq_PI_paintOver) 52 = .ok (.iastore, 1) := by decide +kernel
theorem dq_PI_paintOver_53 : decode (fx_cc mq_PI_paintOver) 53 = .ok (.iinc 4 1, 3) := by decide +kernel
theorem dq_PI_paintOver_56 : decode (fx_cc mq_PI_paintOver) 56 = .ok (.goto (-32), 3) := by decide +kernel
theorem dq_PI_paintOver_59 : decode (fx_cc mq_PI_paintOver) 59 = .ok (.iinc 3 1, 3) := by decide +kernel
theorem dq_PI_paintOver_62 : decode (fx_cc mq_PI_paintOver) 62 = .ok (.goto (-57), 3) := by decide +kernel
theorem dq_PI_paintOver_65 : decode (fx_cc mq_PI_paintOver) 65 = .ok (.return_, 1) := by decide +kernel
theorem dq_RE_pixels_0 : decode (fx_cc mq_RE_pixels) 0 = .ok (.aload_n 0, 1) := by decide +kernel
theorem dq_RE_pixels_1 : decode (fx_cc mq_RE_pixels) 1 = .ok (.getfield 16, 3) := by decide +kernel
theorem dq_RE_pixels_4 : decode (fx_cc mq_RE_pixels) 4 = .ok (.aload_n 0, 1) := by decide +kernel
theorem dq_RE_pixels_5 : decode (fx_cc mq_RE_pixels) 5 = .ok (.getfield 19, 3) := by decide +kernel
theorem dq_RE_pixels_8 : decode (fx_cc mq_RE_pixels) 8 = .ok (.imul, 1) := by decide +kernel
theorem dq_RE_pixels_9 : decode (fx_cc mq_RE_pixels) 9 = .ok (.ireturn, 1) := by decide +kernel
theorem dq_LA_copy_0 : decode (fx_cc mq_LA_copy) 0 = .ok (.aload 9, 2) := by decide +kernel
theorem dq_LA_copy_2 : decode (fx_cc mq_LA_copy) 2 = .ok (.iconst 0, 1) := by decide +kernel
theorem dq_LA_copy_3 : decode (fx_cc mq_LA_copy) 3 = .ok (.aload_n 0, 1) := by decide +kernel
theorem dq_LA_copy_4 : decode (fx_cc mq_LA_copy) 4 = .ok (.iload_n 1, 1) := by decide +kernel
theorem dq_LA_copy_5 : decode (fx_cc mq_LA_copy) 5 = .ok (.iload_n 2, 1) := by decide +kernel
theorem dq_LA_copy_6 : decode (fx_cc mq_LA_copy) 6 = .ok (.iload_n 3, 1) := by decide +kernel
theorem dq_LA_copy_7 : decode (fx_cc mq_LA_copy) 7 = .ok (.iload 4, 2) := by decide +kernel
theorem dq_LA_copy_9 : decode (fx_cc mq_LA_copy) 9 = .ok (.iload 5, 2) := by decide +kernel
theorem dq_LA_copy_11 : decode (fx_cc mq_LA_copy) 11 = .ok (.iload 6, 2) := by decide +kernel
theorem dq_LA_copy_13 : decode (fx_cc mq_LA_copy) 13 = .ok (.iload 7, 2) := by decide +kernel
theorem dq_LA_copy_15 : decode (fx_cc mq_LA_copy) 15 = .ok (.iload 8, 2) := by decide +kernel
theorem dq_LA_copy_17 : decode (fx_cc mq_LA_copy) 17 = .ok (.invokevirtual 39, 3) := by decide +kernel
theorem dq_LA_copy_20 : decode (fx_cc mq_LA_copy) 20 = .ok (.i2l, 1) := by decide +kernel
theorem dq_LA_copy_21 : decode (fx_cc mq_LA_copy) 21 = .ok (.lastore, 1) := by decide +kernel
theorem dq_LA_copy_22 : decode (fx_cc mq_LA_copy) 22 = .ok (.goto 7, 3) := by decide +kernel
theorem dq_LA_copy_25 : decode (fx_cc mq_LA_copy) 25 = .ok (.astore 10, 2) := by decide +kernel
theorem dq_LA_copy_27 : decode (fx_cc mq_LA_copy) 27 = .ok (.iconst 1, 1) := by decide +kernel
theorem dq_LA_copy_28 : decode (fx_cc mq_LA_copy) 28 = .ok (.ireturn, 1) := by decide +kernel
theorem dq_LA_copy_29 : decode (fx_cc mq_LA_copy) 29 = .ok (.iconst 0, 1) := by decide +kernel
theorem dq_LA_copy_30 : decode (fx_cc mq_LA_copy) 30 = .ok (.ireturn, 1) := by decide +kernel
theorem dq_FS_copy_0 : decode (fx_cc mq_FS_copy) 0 = .ok (.aload_n 0, 1) := by decide +kernel
theorem dq_FS_copy_1 : decode (fx_cc mq_FS_copy) 1 = .ok (.getfield 10, 3) := by decide +kernel
theorem dq_FS_copy_4 : decode (fx_cc mq_FS_copy) 4 = .ok (.iload_n 1, 1) := by decide +kernel
theorem dq_FS_copy_5 : decode (fx_cc mq_FS_copy) 5 = .ok (.invokevirtual 71, 3) := by decide +kernel
theorem dq_FS_copy_8 : decode (fx_cc mq_FS_copy) 8 = .ok (.ifCond .eq 18, 3) := by decide +kernel
theorem dq_FS_copy_11 : decode (fx_cc mq_FS_copy) 11 = .ok (.aload_n 0, 1) := by decide +kernel
theorem dq_FS_copy_12 : decode (fx_cc mq_FS_copy) 12 = .ok (.getfield 10, 3) := by decide +kernel
theorem dq_FS_copy_15 : decode (fx_cc mq_FS_copy) 15 = .ok (.iload_n 2, 1) := by decide +kernel
theorem dq_FS_copy_16 : decode (fx_cc mq_FS_copy) 16 = .ok (.invokevirtual 71, 3) := by decide +kernel
theorem dq_FS_copy_19 : decode (fx_cc mq_FS_copy) 19 = .ok (.ifCond .eq 7, 3) := by decide +kernel
theorem dq_FS_copy_22 : decode (fx_cc mq_FS_copy) 22 = .ok (.iconst 1, 1) := by decide +kernel
theorem dq_FS_copy_23 : decode (fx_cc mq_FS_copy) 23 = .ok (.goto 4, 3) := by decide +kernel
theorem dq_FS_copy_26 : decode (fx_cc mq_FS_copy) 26 = .ok (.iconst 0, 1) := by decide +kernel
theorem dq_FS_copy_27 : decode (fx_cc mq_FS_copy) 27 = .ok (.invokestatic 52, 3) := by decide +kernel
theorem dq_FS_copy_30 : decode (fx_cc mq_FS_copy) 30 = .ok (.aload_n 0, 1) := by decide +kernel
theorem dq_FS_copy_31 : decode (fx_cc mq_FS_copy) 31 = .ok (.getfield 10, 3) := by decide +kernel
theorem dq_FS_copy_34 : decode (fx_cc mq_FS_copy) 34 = .ok (.getfield 139, 3) := by decide +kernel
theorem dq_FS_copy_37 : decode (fx_cc mq_FS_copy) 37 = .ok (.iload_n 1, 1) := by decide +kernel
theorem dq_FS_copy_38 : decode (fx_cc mq_FS_copy) 38 = .ok (.iaload, 1) := by decide +kernel
theorem dq_FS_copy_39 : decode (fx_cc mq_FS_copy) 39 = .ok (.aload_n 0, 1) := by decide +kernel
theorem dq_FS_copy_40 : decode (fx_cc mq_FS_copy) 40 = .ok (.getfield 10, 3) := by decide +kernel
theorem dq_FS_copy_43 : decode (fx_cc mq_FS_copy) 43 = .ok (.getfield 139, 3) := by decide +kernel
theorem dq_FS_copy_46 : decode (fx_cc mq_FS_copy) 46 = .ok (.iload_n 2, 1) := by decide +kernel
theorem dq_FS_copy_47 : decode (fx_cc mq_FS_copy) 47 = .ok (.iaload, 1) := by decide +kernel
theorem dq_FS_copy_48 : decode (fx_cc mq_FS_copy) 48 = .ok (.if_icmp .ne 7, 3) := by decide +kernel
theorem dq_FS_copy_51 : decode (fx_cc mq_FS_copy) 51 = .ok (.iconst 1, 1) := by decide +kernel
theorem dq_FS_copy_52 : decode (fx_cc mq_FS_copy) 52 = .ok (.goto 4, 3) := by decide +kernel
theorem dq_FS_copy_55 : decode (fx_cc mq_FS_copy) 55 = .ok (.iconst 0, 1) := by decide +kernel
theorem dq_FS_copy_56 : decode (fx_cc mq_FS_copy) 56 = .ok (.invokestatic 52, 3) := by decide +kernel
theorem dq_FS_copy_59 : decode (fx_cc mq_FS_copy) 59 = .ok (.iload_n 3, 1) := by decide +kernel
theorem dq_FS_copy_60 : decode (fx_cc mq_FS_copy) 60 = .ok (.iload 4, 2) := by decide +kernel
theorem dq_FS_copy_62 : decode (fx_cc mq_FS_copy) 62 = .ok (.iload 5, 2) := by decide +kernel
theorem dq_FS_copy_64 : decode (fx_cc mq_FS_copy) 64 = .ok (.iload 6, 2) := by decide +kernel
theorem dq_FS_copy_66 : decode (fx_cc mq_FS_copy) 66 = .ok (.invokestatic 103, 3) := by decide +kernel
theorem dq_FS_copy_69 : decode (fx_cc mq_FS_copy) 69 = .ok (.ifCond .eq 23, 3) := by decide +kernel
theorem dq_FS_copy_72 : decode (fx_cc mq_FS_copy) 72 = .ok (.iload 7, 2) := by decide +kernel
theorem dq_FS_copy_74 : decode (fx_cc mq_FS_copy) 74 = .ok (.invokestatic 81, 3) := by decide +kernel
theorem dq_FS_copy_77 : decode (fx_cc mq_FS_copy) 77 = .ok (.ifCond .eq 15, 3) := by decide +kernel
theorem dq_FS_copy_80 : decode (fx_cc mq_FS_copy) 80 = .ok (.iload 8, 2) := by decide +kernel
theorem dq_FS_copy_82 : decode (fx_cc mq_FS_copy) 82 = .ok (.invokestatic 81, 3) := by decide +kernel
theorem dq_FS_copy_85 : decode (fx_cc mq_FS_copy) 85 = .ok (.ifCond .eq 7, 3) := by decide +kernel
theorem dq_FS_copy_88 : decode (fx_cc mq_FS_copy) 88 = .ok (.iconst 1, 1) := by decide +kernel
theorem dq_FS_copy_89 : decode (fx_cc mq_FS_copy) 89 = .ok (.goto 4, 3) := by decide +kernel
theorem dq_FS_copy_92 : decode (fx_cc mq_FS_copy) 92 = .ok (.iconst 0, 1) := by decide +kernel
theorem dq_FS_copy_93 : decode (fx_cc mq_FS_copy) 93 = .ok (.invokestatic 52, 3) := by decide +kernel
theorem dq_FS_copy_96 : decode (fx_cc mq_FS_copy) 96 = .ok (.aload_n 0, 1) := by decide +kernel
theorem dq_FS_copy_97 : decode (fx_cc mq_FS_copy) 97 = .ok (.getfield 10, 3) := by decide +kernel
theorem dq_FS_copy_100 : decode (fx_cc mq_FS_copy) 100 = .ok (.getfield 74, 3) := by decide +kernel
theorem dq_FS_copy_103 : decode (fx_cc mq_FS_copy) 103 = .ok (.iload_n 1, 1) := by decide +kernel
theorem dq_FS_copy_104 : decode (fx_cc mq_FS_copy) 104 = .ok (.aaload, 1) := by decide +kernel
theorem dq_FS_copy_105 : decode (fx_cc mq_FS_copy) 105 = .ok (.astore 9, 2) := by decide +kernel
theorem dq_FS_copy_107 : decode (fx_cc mq_FS_copy) 107 = .ok (.aload_n 0, 1) := by decide +kernel
theorem dq_FS_copy_108 : decode (fx_cc mq_FS_copy) 108 = .ok (.getfield 10, 3) := by decide +kernel
theorem dq_FS_copy_111 : decode (fx_cc mq_FS_copy) 111 = .ok (.getfield 74, 3) := by decide +kernel
theorem dq_FS_copy_114 : decode (fx_cc mq_FS_copy) 114 = .ok (.iload_n 2, 1) := by decide +kernel
theorem dq_FS_copy_115 : decode (fx_cc mq_FS_copy) 115 = .ok (.aaload, 1) := by decide +kernel
theorem dq_FS_copy_116 : decode (fx_cc mq_FS_copy) 116 = .ok (.astore 10, 2) := by decide +kernel
theorem dq_FS_copy_118 : decode (fx_cc mq_FS_copy) 118 = .ok (.aload_n 0, 1) := by decide +kernel
theorem dq_FS_copy_119 : decode (fx_cc mq_FS_copy) 119 = .ok (.getfield 33, 3) := by decide +kernel
theorem dq_FS_copy_122 : decode (fx_cc mq_FS_copy) 122 = .ok (.iload_n 3, 1) := by decide +kernel
theorem dq_FS_copy_123 : decode (fx_cc mq_FS_copy) 123 = .ok (.iload 4, 2) := by decide +kernel
theorem dq_FS_copy_125 : decode (fx_cc mq_FS_copy) 125 = .ok (.iload 5, 2) := by decide +kernel
theorem dq_FS_copy_127 : decode (fx_cc mq_FS_copy) 127 = .ok (.iload 6, 2) := by decide +kernel
theorem dq_FS_copy_129 : decode (fx_cc mq_FS_copy) 129 = .ok (.invokevirtual 110, 3) := by decide +kernel
theorem dq_FS_copy_132 : decode (fx_cc mq_FS_copy) 132 = .ok (.aload_n 0, 1) := by decide +kernel
theorem dq_FS_copy_133 : decode (fx_cc mq_FS_copy) 133 = .ok (.getfield 33, 3) := by decide +kernel
theorem dq_FS_copy_136 : decode (fx_cc mq_FS_copy) 136 = .ok (.aload 9, 2) := by decide +kernel
theorem dq_FS_copy_138 : decode (fx_cc mq_FS_copy) 138 = .ok (.getfield 113, 3) := by decide +kernel
theorem dq_FS_copy_141 : decode (fx_cc mq_FS_copy) 141 = .ok (.aload 9, 2) := by decide +kernel
theorem dq_FS_copy_143 : decode (fx_cc mq_FS_copy) 143 = .ok (.getfield 116, 3) := by decide +kernel
theorem dq_FS_copy_146 : decode (fx_cc mq_FS_copy) 146 = .ok (.invokevirtual 119, 3) := by decide +kernel
theorem dq_FS_copy_149 : decode (fx_cc mq_FS_copy) 149 = .ok (.aload_n 0, 1) := by decide +kernel
theorem dq_FS_copy_150 : decode (fx_cc mq_FS_copy) 150 = .ok (.getfield 33, 3) := by decide +kernel
theorem dq_FS_copy_153 : decode (fx_cc mq_FS_copy) 153 = .ok (.iload 7, 2) := by decide +kernel
theorem dq_FS_copy_155 : decode (fx_cc mq_FS_copy) 155 = .ok (.iload_n 3, 1) := by decide +kernel
theorem dq_FS_copy_156 : decode (fx_cc mq_FS_copy) 156 = .ok (.isub, 1) := by decide +kernel
theorem dq_FS_copy_157 : decode (fx_cc mq_FS_copy) 157 = .ok (.iload 8, 2) := by decide +kernel
theorem dq_FS_copy_159 : decode (fx_cc mq_FS_copy) 159 = .ok (.iload 4, 2) := by decide +kernel
theorem dq_FS_copy_161 : decode (fx_cc mq_FS_copy) 161 = .ok (.isub, 1) := by decide +kernel
theorem dq_FS_copy_162 : decode (fx_cc mq_FS_copy) 162 = .ok (.invokevirtual 142, 3) := by decide +kernel
theorem dq_FS_copy_165 : decode (fx_cc mq_FS_copy) 165 = .ok (.aload_n 0, 1) := by decide +kernel
theorem dq_FS_copy_166 : decode (fx_cc mq_FS_copy) 166 = .ok (.getfield 33, 3) := by decide +kernel
theorem dq_FS_copy_169 : decode (fx_cc mq_FS_copy) 169 = .ok (.aload 10, 2) := by decide +kernel
theorem dq_FS_copy_171 : decode (fx_cc mq_FS_copy) 171 = .ok (.getfield 113, 3) := by decide +kernel
theorem dq_FS_copy_174 : decode (fx_cc mq_FS_copy) 174 = .ok (.aload 10, 2) := by decide +kernel
theorem dq_FS_copy_176 : decode (fx_cc mq_FS_copy) 176 = .ok (.getfield 116, 3) := by decide +kernel
theorem dq_FS_copy_179 : decode (fx_cc mq_FS_copy) 179 = .ok (.invokevirtual 119, 3) := by decide +kernel
theorem dq_FS_copy_182 : decode (fx_cc mq_FS_copy) 182 = .ok (.aload_n 0, 1) := by decide +kernel
theorem dq_FS_copy_183 : decode (fx_cc mq_FS_copy) 183 = .ok (.getfield 40, 3) := by decide +kernel
theorem dq_FS_copy_186 : decode (fx_cc mq_FS_copy) 186 = .ok (.aload 9, 2) := by decide +kernel
theorem dq_FS_copy_188 : decode (fx_cc mq_FS_copy) 188 = .ok (.invokevirtual 145, 3) := by decide +kernel
theorem dq_FS_copy_191 : decode (fx_cc mq_FS_copy) 191 = .ok (.aload_n 0, 1) := by decide +kernel
theorem dq_FS_copy_192 : decode (fx_cc mq_FS_copy) 192 = .ok (.getfield 40, 3) := by decide +kernel
theorem dq_FS_copy_195 : decode (fx_cc mq_FS_copy) 195 = .ok (.iload 7, 2) := by decide +kernel
theorem dq_FS_copy_197 : decode (fx_cc mq_FS_copy) 197 = .ok (.iload_n 3, 1) := by decide +kernel
theorem dq_FS_copy_198 : decode (fx_cc mq_FS_copy) 198 = .ok (.isub, 1) := by decide +kernel
theorem dq_FS_copy_199 : decode (fx_cc mq_FS_copy) 199 = .ok (.putfield 84, 3) := by decide +kernel
theorem dq_FS_copy_202 : decode (fx_cc mq_FS_copy) 202 = .ok (.aload_n 0, 1) := by decide +kernel
theorem dq_FS_copy_203 : decode (fx_cc mq_FS_copy) 203 = .ok (.getfield 40, 3) := by decide +kernel
theorem dq_FS_copy_206 : decode (fx_cc mq_FS_copy) 206 = .ok (.iload 8, 2) := by decide +kernel
theorem dq_FS_copy_208 : decode (fx_cc mq_FS_copy) 208 = .ok (.iload 4, 2) := by decide +kernel
theorem dq_FS_copy_210 : decode (fx_cc mq_FS_copy) 210 = .ok (.isub, 1) := by decide +kernel
theorem dq_FS_copy_211 : decode (fx_cc mq_FS_copy) 211 = .ok (.putfield 87, 3) := by decide +kernel
theorem dq_FS_copy_214 : decode (fx_cc mq_FS_copy) 214 = .ok (.aload 10, 2) := by decide +kernel
theorem dq_FS_copy_216 : decode (fx_cc mq_FS_copy) 216 = .ok (.aload_n 0, 1) := by decide +kernel
theorem dq_FS_copy_217 : decode (fx_cc mq_FS_copy) 217 = .ok (.getfield 33, 3) := by decide +kernel
theorem dq_FS_copy_220 : decode (fx_cc mq_FS_copy) 220 = .ok (.aload_n 0, 1) := by decide +kernel
theorem dq_FS_copy_221 : decode (fx_cc mq_FS_copy) 221 = .ok (.getfield 40, 3) := by decide +kernel
theorem dq_FS_copy_224 : decode (fx_cc mq_FS_copy) 224 = .ok (.invokevirtual 149, 3) := by decide +kernel
theorem dq_FS_copy_227 : decode (fx_cc mq_FS_copy) 227 = .ok (.aload_n 0, 1) := by decide +kernel
theorem dq_FS_copy_228 : decode (fx_cc mq_FS_copy) 228 = .ok (.getfield 33, 3) := by decide +kernel
theorem dq_FS_copy_231 : decode (fx_cc mq_FS_copy) 231 = .ok (.invokevirtual 137, 3) := by decide +kernel
theorem dq_FS_copy_234 : decode (fx_cc mq_FS_copy) 234 = .ok (.ireturn, 1) := by decide +kernel
theorem dq_PI_become_0 : decode (fx_cc mq_PI_become) 0 = .ok (.aload_n 0, 1) := by decide +kernel
theorem dq_PI_become_1 : decode (fx_cc mq_PI_become) 1 = .ok (.aload_n 1, 1) := by decide +kernel
theorem dq_PI_become_2 : decode (fx_cc mq_PI_become) 2 = .ok (.getfield 25, 3) := by decide +kernel
theorem dq_PI_become_5 : decode (fx_cc mq_PI_become) 5 = .ok (.putfield 25, 3) := by decide +kernel
theorem dq_PI_become_8 : decode (fx_cc mq_PI_become) 8 = .ok (.aload_n 0, 1) := by decide +kernel
theorem dq_PI_become_9 : decode (fx_cc mq_PI_become) 9 = .ok (.aload_n 1, 1) := by decide +kernel
theorem dq_PI_become_10 : decode (fx_cc mq_PI_become) 10 = .ok (.getfield 29, 3) := by decide +kernel
theorem dq_PI_become_13 : decode (fx_cc mq_PI_become) 13 = .ok (.putfield 29, 3) := by decide +kernel
theorem dq_PI_become_16 : decode (fx_cc mq_PI_become) 16 = .ok (.aload_n 0, 1) := by decide +kernel
theorem dq_PI_become_17 : decode (fx_cc mq_PI_become) 17 = .ok (.aload_n 1, 1) := by decide +kernel
theorem dq_PI_become_18 : decode (fx_cc mq_PI_become) 18 = .ok (.getfield 33, 3) := by decide +kernel
theorem dq_PI_become_21 : decode (fx_cc mq_PI_become) 21 = .ok (.putfield 33, 3) := by decide +kernel
theorem dq_PI_become_24 : decode (fx_cc mq_PI_become) 24 = .ok (.aload_n 0, 1) := by decide +kernel
theorem dq_PI_become_25 : decode (fx_cc mq_PI_become) 25 = .ok (.aload_n 1, 1) := by decide +kernel
theorem dq_PI_become_26 : decode (fx_cc mq_PI_become) 26 = .ok (.getfield 36, 3) := by decide +kernel
theorem dq_PI_become_29 : decode (fx_cc mq_PI_become) 29 = .ok (.putfield 36, 3) := by decide +kernel
theorem dq_PI_become_32 : decode (fx_cc mq_PI_become) 32 = .ok (.aload_n 0, 1) := by decide +kernel
theorem dq_PI_become_33 : decode (fx_cc mq_PI_become) 33 = .ok (.aload_n 1, 1) := by decide +kernel
theorem dq_PI_become_34 : decode (fx_cc mq_PI_become) 34 = .ok (.getfield 39, 3) := by decide +kernel
theorem dq_PI_become_37 : decode (fx_cc mq_PI_become) 37 = .ok (.putfield 39, 3) := by decide +kernel
theorem dq_PI_become_40 : decode (fx_cc mq_PI_become) 40 = .ok (.aload_n 0, 1) := by decide +kernel
theorem dq_PI_become_41 : decode (fx_cc mq_PI_become) 41 = .ok (.aload_n 1, 1) := by decide +kernel
theorem dq_PI_become_42 : decode (fx_cc mq_PI_become) 42 = .ok (.getfield 42, 3) := by decide +kernel
theorem dq_PI_become_45 : decode (fx_cc mq_PI_become) 45 = .ok (.putfield 42, 3) := by decide +kernel
theorem dq_PI_become_48 : decode (fx_cc mq_PI_become) 48 = .ok (.aload_n 0, 1) := by decide +kernel
theorem dq_PI_become_49 : decode (fx_cc mq_PI_become) 49 = .ok (.aload_n 1, 1) := by decide +kernel
theorem dq_PI_become_50 : decode (fx_cc mq_PI_become) 50 = .ok (.getfield 45, 3) := by decide +kernel
theorem dq_PI_become_53 : decode (fx_cc mq_PI_become) 53 = .ok (.putfield 45, 3) := by decide +kernel
theorem dq_PI_become_56 : decode (fx_cc mq_PI_become) 56 = .ok (.aload_n 0, 1) := by decide +kernel
theorem dq_PI_become_57 : decode (fx_cc mq_PI_become) 57 = .ok (.aload_n 1, 1) := by decide +kernel
theorem dq_PI_become_58 : decode (fx_cc mq_PI_become) 58 = .ok (.getfield 48, 3) := by decide +kernel
theorem dq_PI_become_61 : decode (fx_cc mq_PI_become) 61 = .ok (.putfield 48, 3) := by decide +kernel
theorem dq_PI_become_64 : decode (fx_cc mq_PI_become) 64 = .ok (.aload_n 1, 1) := by decide +kernel
theorem dq_PI_become_65 : decode (fx_cc mq_PI_become) 65 = .ok (.getfield 9, 3) := by decide +kernel
theorem dq_PI_become_68 : decode (fx_cc mq_PI_become) 68 = .ok (.iconst 0, 1) := by decide +kernel
theorem dq_PI_become_69 : decode (fx_cc mq_PI_become) 69 = .ok (.aload_n 0, 1) := by decide +kernel
theorem dq_PI_become_70 : decode (fx_cc mq_PI_become) 70 = .ok (.getfield 9, 3) := by decide +kernel
theorem dq_PI_become_73 : decode (fx_cc mq_PI_become) 73 = .ok (.iconst 0, 1) := by decide +kernel
theorem dq_PI_become_74 : decode (fx_cc mq_PI_become) 74 = .ok (.aload_n 0, 1) := by decide +kernel
theorem dq_PI_become_75 : decode (fx_cc mq_PI_become) 75 = .ok (.getfield 9, 3) := by decide +kernel
theorem dq_PI_become_78 : decode (fx_cc mq_PI_become) 78 = .ok (.arraylength, 1) := by decide +kernel
theorem dq_PI_become_79 : decode (fx_cc mq_PI_become) 79 = .ok (.invokestatic 64, 3) := by decide +kernel
theorem dq_PI_become_82 : decode (fx_cc mq_PI_become) 82 = .ok (.aload_n 0, 1) := by decide +kernel
theorem dq_PI_become_83 : decode (fx_cc mq_PI_become) 83 = .ok (.getfield 18, 3) := by decide +kernel
theorem dq_PI_become_86 : decode (fx_cc mq_PI_become) 86 = .ok (.aload_n 1, 1) := by decide +kernel
theorem dq_PI_become_87 : decode (fx_cc mq_PI_become) 87 = .ok (.getfield 18, 3) := by decide +kernel
theorem dq_PI_become_90 : decode (fx_cc mq_PI_become) 90 = .ok (.invokevirtual 70, 3) := by decide +kernel
theorem dq_PI_become_93 : decode (fx_cc mq_PI_become) 93 = .ok (.aload_n 0, 1) := by decide +kernel
theorem dq_PI_become_94 : decode (fx_cc mq_PI_become) 94 = .ok (.getfield 22, 3) := by decide +kernel
theorem dq_PI_become_97 : decode (fx_cc mq_PI_become) 97 = .ok (.aload_n 1, 1) := by decide +kernel
theorem dq_PI_become_98 : decode (fx_cc mq_PI_become) 98 = .ok (.getfield 22, 3) := by decide +kernel
theorem dq_PI_become_101 : decode (fx_cc mq_PI_become) 101 = .ok (.invokevirtual 70, 3) := by decide +kernel
theorem dq_PI_become_104 : decode (fx_cc mq_PI_become) 104 = .ok (.return_, 1) := by decide +kernel
theorem dq_PI_layDown_0 : decode (fx_cc mq_PI_layDown) 0 = .ok (.aload_n 1, 1) := by decide +kernel
theorem dq_PI_layDown_1 : decode (fx_cc mq_PI_layDown) 1 = .ok (.getfield 81, 3) := by decide +kernel
theorem dq_PI_layDown_4 : decode (fx_cc mq_PI_layDown) 4 = .ok (.istore_n 3, 1) := by decide +kernel
theorem dq_PI_layDown_5 : decode (fx_cc mq_PI_layDown) 5 = .ok (.iload_n 3, 1) := by decide +kernel
theorem dq_PI_layDown_6 : decode (fx_cc mq_PI_layDown) 6 = .ok (.aload_n 1, 1) := by decide +kernel
theorem dq_PI_layDown_7 : decode (fx_cc mq_PI_layDown) 7 = .ok (.getfield 81, 3) := by decide +kernel
theorem dq_PI_layDown_10 : decode (fx_cc mq_PI_layDown) 10 = .ok (.aload_n 1, 1) := by decide +kernel
theorem dq_PI_layDown_11 : decode (fx_cc mq_PI_layDown) 11 = .ok (.getfield 82, 3) := by decide +kernel
theorem dq_PI_layDown_14 : decode (fx_cc mq_PI_layDown) 14 = .ok (.iadd, 1) := by decide +kernel
theorem dq_PI_layDown_15 : decode (fx_cc mq_PI_layDown) 15 = .ok (.if_icmp .ge 56, 3) := by decide +kernel
theorem dq_PI_layDown_18 : decode (fx_cc mq_PI_layDown) 18 = .ok (.aload_n 1, 1) := by decide +kernel
theorem dq_PI_layDown_19 : decode (fx_cc mq_PI_layDown) 19 = .ok (.getfield 83, 3) := by decide +kernel
theorem dq_PI_layDown_22 : decode (fx_cc mq_PI_layDown) 22 = .ok (.istore 4, 2) := by decide +kernel
theorem dq_PI_layDown_24 : decode (fx_cc mq_PI_layDown) 24 = .ok (.iload 4, 2) := by decide +kernel
theorem dq_PI_layDown_26 : decode (fx_cc mq_PI_layDown) 26 = .ok (.aload_n 1, 1) := by decide +kernel
theorem dq_PI_layDown_27 : decode (fx_cc mq_PI_layDown) 27 = .ok (.getfield 83, 3) := by decide +kernel
theorem dq_PI_layDown_30 : decode (fx_cc mq_PI_layDown) 30 = .ok (.aload_n 1, 1) := by decide +kernel
theorem dq_PI_layDown_31 : decode (fx_cc mq_PI_layDown) 31 = .ok (.getfield 84, 3) := by decide +kernel
theorem dq_PI_layDown_34 : decode (fx_cc mq_PI_layDown) 34 = .ok (.iadd, 1) := by decide +kernel
theorem dq_PI_layDown_35 : decode (fx_cc mq_PI_layDown) 35 = .ok (.if_icmp .ge 30, 3) := by decide +kernel
theorem dq_PI_layDown_38 : decode (fx_cc mq_PI_layDown) 38 = .ok (.aload_n 0, 1) := by decide +kernel
theorem dq_PI_layDown_39 : decode (fx_cc mq_PI_layDown) 39 = .ok (.getfield 9, 3) := by decide +kernel
theorem dq_PI_layDown_42 : decode (fx_cc mq_PI_layDown) 42 = .ok (.iload_n 3, 1) := by decide +kernel
theorem dq_PI_layDown_43 : decode (fx_cc mq_PI_layDown) 43 = .ok (.aload_n 0, 1) := by decide +kernel
theorem dq_PI_layDown_44 : decode (fx_cc mq_PI_layDown) 44 = .ok (.getfield 29, 3) := by decide +kernel
theorem dq_PI_layDown_47 : decode (fx_cc mq_PI_layDown) 47 = .ok (.imul, 1) := by decide +kernel
theorem dq_PI_layDown_48 : decode (fx_cc mq_PI_layDown) 48 = .ok (.iload 4, 2) := by decide +kernel
theorem dq_PI_layDown_50 : decode (fx_cc mq_PI_layDown) 50 = .ok (.iadd, 1) := by decide +kernel
theorem dq_PI_layDown_51 : decode (fx_cc mq_PI_layDown) 51 = .ok (.aload_n 2, 1) := by decide +kernel
theorem dq_PI_layDown_52 : decode (fx_cc mq_PI_layDown) 52 = .ok (.iload 4, 2) := by decide +kernel
theorem dq_PI_layDown_54 : decode (fx_cc mq_PI_layDown) 54 = .ok (.iload_n 3, 1) := by decide +kernel
theorem dq_PI_layDown_55 : decode (fx_cc mq_PI_layDown) 55 = .ok (.invokevirtual 85, 3) := by decide +kernel
theorem dq_PI_layDown_58 : decode (fx_cc mq_PI_layDown) 58 = .ok (.iastore, 1) := by decide +kernel
theorem dq_PI_layDown_59 : decode (fx_cc mq_PI_layDown) 59 = .ok (.iinc 4 1, 3) := by decide +kernel
theorem dq_PI_layDown_62 : decode (fx_cc mq_PI_layDown) 62 = .ok (.goto (-38), 3) := by decide +kernel
theorem dq_PI_layDown_65 : decode (fx_cc mq_PI_layDown) 65 = .ok (.iinc 3 1, 3) := by decide +kernel
theorem dq_PI_layDown_68 : decode (fx_cc mq_PI_layDown) 68 = .ok (.goto (-63), 3) := by decide +kernel
theorem dq_PI_layDown_71 : decode (fx_cc mq_PI_layDown) 71 = .ok (.return_, 1) := by decide +kernel
theorem dq_LA_commit_0 : decode (fx_cc mq_LA_commit) 0 = .ok (.aload_n 2, 1) := by decide +kernel
theorem dq_LA_commit_1 : decode (fx_cc mq_LA_commit) 1 = .ok (.iconst 0, 1) := by decide +kernel
theorem dq_LA_commit_2 : decode (fx_cc mq_LA_commit) 2 = .ok (.aload_n 0, 1) := by decide +kernel
theorem dq_LA_commit_3 : decode (fx_cc mq_LA_commit) 3 = .ok (.iload_n 1, 1) := by decide +kernel
theorem dq_LA_commit_4 : decode (fx_cc mq_LA_commit) 4 = .ok (.invokevirtual 43, 3) := by decide +kernel
theorem dq_LA_commit_7 : decode (fx_cc mq_LA_commit) 7 = .ok (.i2l, 1) := by decide +kernel
theorem dq_LA_commit_8 : decode (fx_cc mq_LA_commit) 8 = .ok (.lastore, 1) := by decide +kernel
theorem dq_LA_commit_9 : decode (fx_cc mq_LA_commit) 9 = .ok (.goto 9, 3) := by decide +kernel
theorem dq_LA_commit_12 : decode (fx_cc mq_LA_commit) 12 = .ok (.astore_n 3, 1) := by decide +kernel
theorem dq_LA_commit_13 : decode (fx_cc mq_LA_commit) 13 = .ok (.iconst 1, 1) := by decide +kernel
theorem dq_LA_commit_14 : decode (fx_cc mq_LA_commit) 14 = .ok (.ireturn, 1) := by decide +kernel
theorem dq_LA_commit_15 : decode (fx_cc mq_LA_commit) 15 = .ok (.astore_n 3, 1) := by decide +kernel
theorem dq_LA_commit_16 : decode (fx_cc mq_LA_commit) 16 = .ok (.iconst 2, 1) := by decide +kernel
theorem dq_LA_commit_17 : decode (fx_cc mq_LA_commit) 17 = .ok (.ireturn, 1) := by decide +kernel
theorem dq_LA_commit_18 : decode (fx_cc mq_LA_commit) 18 = .ok (.iconst 0, 1) := by decide +kernel
theorem dq_LA_commit_19 : decode (fx_cc mq_LA_commit) 19 = .ok (.ireturn, 1) := by decide +kernel
theorem dq_FS_commit_0 : decode (fx_cc mq_FS_commit) 0 = .ok (.iload_n 1, 1) := by decide +kernel
theorem dq_FS_commit_1 : decode (fx_cc mq_FS_commit) 1 = .ok (.invokestatic 44, 3) := by decide +kernel
theorem dq_FS_commit_4 : decode (fx_cc mq_FS_commit) 4 = .ok (.invokestatic 52, 3) := by decide +kernel
theorem dq_FS_commit_7 : decode (fx_cc mq_FS_commit) 7 = .ok (.aload_n 0, 1) := by decide +kernel
theorem dq_FS_commit_8 : decode (fx_cc mq_FS_commit) 8 = .ok (.getfield 10, 3) := by decide +kernel
theorem dq_FS_commit_11 : decode (fx_cc mq_FS_commit) 11 = .ok (.getfield 153, 3) := by decide +kernel
theorem dq_FS_commit_14 : decode (fx_cc mq_FS_commit) 14 = .ok (.aload_n 0, 1) := by decide +kernel
theorem dq_FS_commit_15 : decode (fx_cc mq_FS_commit) 15 = .ok (.getfield 19, 3) := by decide +kernel
theorem dq_FS_commit_18 : decode (fx_cc mq_FS_commit) 18 = .ok (.getfield 156, 3) := by decide +kernel
theorem dq_FS_commit_21 : decode (fx_cc mq_FS_commit) 21 = .ok (.isub, 1) := by decide +kernel
theorem dq_FS_commit_22 : decode (fx_cc mq_FS_commit) 22 = .ok (.bipush 6, 2) := by decide +kernel
theorem dq_FS_commit_24 : decode (fx_cc mq_FS_commit) 24 = .ok (.if_icmp .lt 11, 3) := by decide +kernel
theorem dq_FS_commit_27 : decode (fx_cc mq_FS_commit) 27 = .ok (.new 64, 3) := by decide +kernel
theorem dq_FS_commit_30 : decode (fx_cc mq_FS_commit) 30 = .ok (.dup, 1) := by decide +kernel
theorem dq_FS_commit_31 : decode (fx_cc mq_FS_commit) 31 = .ok (.invokespecial 66, 3) := by decide +kernel
theorem dq_FS_commit_34 : decode (fx_cc mq_FS_commit) 34 = .ok (.athrow, 1) := by decide +kernel
theorem dq_FS_commit_35 : decode (fx_cc mq_FS_commit) 35 = .ok (.aload_n 0, 1) := by decide +kernel
theorem dq_FS_commit_36 : decode (fx_cc mq_FS_commit) 36 = .ok (.getfield 10, 3) := by decide +kernel
theorem dq_FS_commit_39 : decode (fx_cc mq_FS_commit) 39 = .ok (.iload_n 1, 1) := by decide +kernel
theorem dq_FS_commit_40 : decode (fx_cc mq_FS_commit) 40 = .ok (.invokevirtual 159, 3) := by decide +kernel
theorem dq_FS_commit_43 : decode (fx_cc mq_FS_commit) 43 = .ok (.aload_n 0, 1) := by decide +kernel
theorem dq_FS_commit_44 : decode (fx_cc mq_FS_commit) 44 = .ok (.getfield 10, 3) := by decide +kernel
theorem dq_FS_commit_47 : decode (fx_cc mq_FS_commit) 47 = .ok (.getfield 153, 3) := by decide +kernel
theorem dq_FS_commit_50 : decode (fx_cc mq_FS_commit) 50 = .ok (.ireturn, 1) := by decide +kernel
theorem dq_DE_commitAll_0 : decode (fx_cc mq_DE_commitAll) 0 = .ok (.iconst 0, 1) := by decide +kernel
theorem dq_DE_commitAll_1 : decode (fx_cc mq_DE_commitAll) 1 = .ok (.istore_n 2, 1) := by decide +kernel
theorem dq_DE_commitAll_2 : decode (fx_cc mq_DE_commitAll) 2 = .ok (.iload_n 2, 1) := by decide +kernel
theorem dq_DE_commitAll_3 : decode (fx_cc mq_DE_commitAll) 3 = .ok (.bipush 10, 2) := by decide +kernel
theorem dq_DE_commitAll_5 : decode (fx_cc mq_DE_commitAll) 5 = .ok (.if_icmp .ge 60, 3) := by decide +kernel
theorem dq_DE_commitAll_8 : decode (fx_cc mq_DE_commitAll) 8 = .ok (.aload_n 0, 1) := by decide +kernel
theorem dq_DE_commitAll_9 : decode (fx_cc mq_DE_commitAll) 9 = .ok (.getfield 24, 3) := by decide +kernel
theorem dq_DE_commitAll_12 : decode (fx_cc mq_DE_commitAll) 12 = .ok (.iload_n 2, 1) := by decide +kernel
theorem dq_DE_commitAll_13 : decode (fx_cc mq_DE_commitAll) 13 = .ok (.iaload, 1) := by decide +kernel
theorem dq_DE_commitAll_14 : decode (fx_cc mq_DE_commitAll) 14 = .ok (.iload_n 1, 1) := by decide +kernel
theorem dq_DE_commitAll_15 : decode (fx_cc mq_DE_commitAll) 15 = .ok (.if_icmp .ne 44, 3) := by decide +kernel
theorem dq_DE_commitAll_18 : decode (fx_cc mq_DE_commitAll) 18 = .ok (.aload_n 0, 1) := by decide +kernel
theorem dq_DE_commitAll_19 : decode (fx_cc mq_DE_commitAll) 19 = .ok (.getfield 20, 3) := by decide +kernel
theorem dq_DE_commitAll_22 : decode (fx_cc mq_DE_commitAll) 22 = .ok (.getfield 48, 3) := by decide +kernel
theorem dq_DE_commitAll_25 : decode (fx_cc mq_DE_commitAll) 25 = .ok (.iload_n 2, 1) := by decide +kernel
theorem dq_DE_commitAll_26 : decode (fx_cc mq_DE_commitAll) 26 = .ok (.aaload, 1) := by decide +kernel
theorem dq_DE_commitAll_27 : decode (fx_cc mq_DE_commitAll) 27 = .ok (.aload_n 0, 1) := by decide +kernel
theorem dq_DE_commitAll_28 : decode (fx_cc mq_DE_commitAll) 28 = .ok (.getfield 11, 3) := by decide +kernel
theorem dq_DE_commitAll_31 : decode (fx_cc mq_DE_commitAll) 31 = .ok (.iload_n 2, 1) := by decide +kernel
theorem dq_DE_commitAll_32 : decode (fx_cc mq_DE_commitAll) 32 = .ok (.aaload, 1) := by decide +kernel
theorem dq_DE_commitAll_33 : decode (fx_cc mq_DE_commitAll) 33 = .ok (.invokevirtual 51, 3) := by decide +kernel
theorem dq_DE_commitAll_36 : decode (fx_cc mq_DE_commitAll) 36 = .ok (.aload_n 0, 1) := by decide +kernel
theorem dq_DE_commitAll_37 : decode (fx_cc mq_DE_commitAll) 37 = .ok (.getfield 28, 3) := by decide +kernel
theorem dq_DE_commitAll_40 : decode (fx_cc mq_DE_commitAll) 40 = .ok (.iload_n 2, 1) := by decide +kernel
theorem dq_DE_commitAll_41 : decode (fx_cc mq_DE_commitAll) 41 = .ok (.aload_n 0, 1) := by decide +kernel
theorem dq_DE_commitAll_42 : decode (fx_cc mq_DE_commitAll) 42 = .ok (.getfield 11, 3) := by decide +kernel
theorem dq_DE_commitAll_45 : decode (fx_cc mq_DE_commitAll) 45 = .ok (.iload_n 2, 1) := by decide +kernel
theorem dq_DE_commitAll_46 : decode (fx_cc mq_DE_commitAll) 46 = .ok (.aaload, 1) := by decide +kernel
theorem dq_DE_commitAll_47 : decode (fx_cc mq_DE_commitAll) 47 = .ok (.getfield 40, 3) := by decide +kernel
theorem dq_DE_commitAll_50 : decode (fx_cc mq_DE_commitAll) 50 = .ok (.ifCond .ne 7, 3) := by decide +kernel
theorem dq_DE_commitAll_53 : decode (fx_cc mq_DE_commitAll) 53 = .ok (.iconst 1, 1) := by decide +kernel
theorem dq_DE_commitAll_54 : decode (fx_cc mq_DE_commitAll) 54 = .ok (.goto 4, 3) := by decide +kernel
theorem dq_DE_commitAll_57 : decode (fx_cc mq_DE_commitAll) 57 = .ok (.iconst 0, 1) := by decide +kernel
theorem dq_DE_commitAll_58 : decode (fx_cc mq_DE_commitAll) 58 = .ok (.bastore, 1) := by decide +kernel
theorem dq_DE_commitAll_59 : decode (fx_cc mq_DE_commitAll) 59 = .ok (.iinc 2 1, 3) := by decide +kernel
theorem dq_DE_commitAll_62 : decode (fx_cc mq_DE_commitAll) 62 = .ok (.goto (-60), 3) := by decide +kernel
theorem dq_DE_commitAll_65 : decode (fx_cc mq_DE_commitAll) 65 = .ok (.aload_n 0, 1) := by decide +kernel
theorem dq_DE_commitAll_66 : decode (fx_cc mq_DE_commitAll) 66 = .ok (.getfield 20, 3) := by decide +kernel
theorem dq_DE_commitAll_69 : decode (fx_cc mq_DE_commitAll) 69 = .ok (.invokevirtual 55, 3) := by decide +kernel
theorem dq_DE_commitAll_72 : decode (fx_cc mq_DE_commitAll) 72 = .ok (.aload_n 0, 1) := by decide +kernel
theorem dq_DE_commitAll_73 : decode (fx_cc mq_DE_commitAll) 73 = .ok (.getfield 32, 3) := by decide +kernel
theorem dq_DE_commitAll_76 : decode (fx_cc mq_DE_commitAll) 76 = .ok (.iload_n 1, 1) := by decide +kernel
theorem dq_DE_commitAll_77 : decode (fx_cc mq_DE_commitAll) 77 = .ok (.iconst 1, 1) := by decide +kernel
theorem dq_DE_commitAll_78 : decode (fx_cc mq_DE_commitAll) 78 = .ok (.bastore, 1) := by decide +kernel
theorem dq_DE_commitAll_79 : decode (fx_cc mq_DE_commitAll) 79 = .ok (.aload_n 0, 1) := by decide +kernel
theorem dq_DE_commitAll_80 : decode (fx_cc mq_DE_commitAll) 80 = .ok (.dup, 1) := by decide +kernel
theorem dq_DE_commitAll_81 : decode (fx_cc mq_DE_commitAll) 81 = .ok (.getfield 58, 3) := by decide +kernel
theorem dq_DE_commitAll_84 : decode (fx_cc mq_DE_commitAll) 84 = .ok (.iconst 1, 1) := by decide +kernel
theorem dq_DE_commitAll_85 : decode (fx_cc mq_DE_commitAll) 85 = .ok (.iadd, 1) := by decide +kernel
theorem dq_DE_commitAll_86 : decode (fx_cc mq_DE_commitAll) 86 = .ok (.putfield 58, 3) := by decide +kernel
theorem dq_DE_commitAll_89 : decode (fx_cc mq_DE_commitAll) 89 = .ok (.return_, 1) := by decide +kernel
theorem dq_PL_sort_0 : decode (fx_cc mq_PL_sort) 0 = .ok (.aload_n 0, 1) := by decide +kernel
theorem dq_PL_sort_1 : decode (fx_cc mq_PL_sort) 1 = .ok (.iconst 0, 1) := by decide +kernel
theorem dq_PL_sort_2 : decode (fx_cc mq_PL_sort) 2 = .ok (.putfield 22, 3) := by decide +kernel
theorem dq_PL_sort_5 : decode (fx_cc mq_PL_sort) 5 = .ok (.iconst 0, 1) := by decide +kernel
theorem dq_PL_sort_6 : decode (fx_cc mq_PL_sort) 6 = .ok (.istore_n 1, 1) := by decide +kernel
theorem dq_PL_sort_7 : decode (fx_cc mq_PL_sort) 7 = .ok (.iload_n 1, 1) := by decide +kernel
theorem dq_PL_sort_8 : decode (fx_cc mq_PL_sort) 8 = .ok (.bipush 9, 2) := by decide +kernel
theorem dq_PL_sort_10 : decode (fx_cc mq_PL_sort) 10 = .ok (.if_icmp .gt 68, 3) := by decide +kernel
theorem dq_PL_sort_13 : decode (fx_cc mq_PL_sort) 13 = .ok (.iconst 0, 1) := by decide +kernel
theorem dq_PL_sort_14 : decode (fx_cc mq_PL_sort) 14 = .ok (.istore_n 2, 1) := by decide +kernel
theorem dq_PL_sort_15 : decode (fx_cc mq_PL_sort) 15 = .ok (.iload_n 2, 1) := by decide +kernel
theorem dq_PL_sort_16 : decode (fx_cc mq_PL_sort) 16 = .ok (.bipush 10, 2) := by decide +kernel
theorem dq_PL_sort_18 : decode (fx_cc mq_PL_sort) 18 = .ok (.if_icmp .ge 54, 3) := by decide +kernel
theorem dq_PL_sort_21 : decode (fx_cc mq_PL_sort) 21 = .ok (.aload_n 0, 1) := by decide +kernel
theorem dq_PL_sort_22 : decode (fx_cc mq_PL_sort) 22 = .ok (.getfield 11, 3) := by decide +kernel
theorem dq_PL_sort_25 : decode (fx_cc mq_PL_sort) 25 = .ok (.iload_n 2, 1) := by decide +kernel
theorem dq_PL_sort_26 : decode (fx_cc mq_PL_sort) 26 = .ok (.aaload, 1) := by decide +kernel
theorem dq_PL_sort_27 : decode (fx_cc mq_PL_sort) 27 = .ok (.getfield 26, 3) := by decide +kernel
theorem dq_PL_sort_30 : decode (fx_cc mq_PL_sort) 30 = .ok (.ifCond .eq 36, 3) := by decide +kernel
theorem dq_PL_sort_33 : decode (fx_cc mq_PL_sort) 33 = .ok (.aload_n 0, 1) := by decide +kernel
theorem dq_PL_sort_34 : decode (fx_cc mq_PL_sort) 34 = .ok (.getfield 11, 3) := by decide +kernel
theorem dq_PL_sort_37 : decode (fx_cc mq_PL_sort) 37 = .ok (.iload_n 2, 1) := by decide +kernel
theorem dq_PL_sort_38 : decode (fx_cc mq_PL_sort) 38 = .ok (.aaload, 1) := by decide +kernel
theorem dq_PL_sort_39 : decode (fx_cc mq_PL_sort) 39 = .ok (.getfield 30, 3) := by decide +kernel
theorem dq_PL_sort_42 : decode (fx_cc mq_PL_sort) 42 = .ok (.iload_n 1, 1) := by decide +kernel
theorem dq_PL_sort_43 : decode (fx_cc mq_PL_sort) 43 = .ok (.if_icmp .ne 23, 3) := by decide +kernel
theorem dq_PL_sort_46 : decode (fx_cc mq_PL_sort) 46 = .ok (.aload_n 0, 1) := by decide +kernel
theorem dq_PL_sort_47 : decode (fx_cc mq_PL_sort) 47 = .ok (.getfield 17, 3) := by decide +kernel
theorem dq_PL_sort_50 : decode (fx_cc mq_PL_sort) 50 = .ok (.aload_n 0, 1) := by decide +kernel
theorem dq_PL_sort_51 : decode (fx_cc mq_PL_sort) 51 = .ok (.getfield 22, 3) := by decide +kernel
theorem dq_PL_sort_54 : decode (fx_cc mq_PL_sort) 54 = .ok (.iload_n 2, 1) := by decide +kernel
theorem dq_PL_sort_55 : decode (fx_cc mq_PL_sort) 55 = .ok (.iastore, 1) := by decide +kernel
theorem dq_PL_sort_56 : decode (fx_cc mq_PL_sort) 56 = .ok (.aload_n 0, 1) := by decide +kernel
theorem dq_PL_sort_57 : decode (fx_cc mq_PL_sort) 57 = .ok (.dup, 1) := by decide +kernel
theorem dq_PL_sort_58 : decode (fx_cc mq_PL_sort) 58 = .ok (.getfield 22, 3) := by decide +kernel
theorem dq_PL_sort_61 : decode (fx_cc mq_PL_sort) 61 = .ok (.iconst 1, 1) := by decide +kernel
theorem dq_PL_sort_62 : decode (fx_cc mq_PL_sort) 62 = .ok (.iadd, 1) := by decide +kernel
theorem dq_PL_sort_63 : decode (fx_cc mq_PL_sort) 63 = .ok (.putfield 22, 3) := by decide +kernel
theorem dq_PL_sort_66 : decode (fx_cc mq_PL_sort) 66 = .ok (.iinc 2 1, 3) := by decide +kernel
theorem dq_PL_sort_69 : decode (fx_cc mq_PL_sort) 69 = .ok (.goto (-54), 3) := by decide +kernel
theorem dq_PL_sort_72 : decode (fx_cc mq_PL_sort) 72 = .ok (.iinc 1 1, 3) := by decide +kernel
theorem dq_PL_sort_75 : decode (fx_cc mq_PL_sort) 75 = .ok (.goto (-68), 3) := by decide +kernel
theorem dq_PL_sort_78 : decode (fx_cc mq_PL_sort) 78 = .ok (.return_, 1) := by decide +kernel
theorem dq_LA_draw_0 : decode (fx_cc mq_LA_draw) 0 = .ok (.aload_n 2, 1) := by decide +kernel
theorem dq_LA_draw_1 : decode (fx_cc mq_LA_draw) 1 = .ok (.iconst 0, 1) := by decide +kernel
theorem dq_LA_draw_2 : decode (fx_cc mq_LA_draw) 2 = .ok (.aload_n 0, 1) := by decide +kernel
theorem dq_LA_draw_3 : decode (fx_cc mq_LA_draw) 3 = .ok (.iload_n 1, 1) := by decide +kernel
theorem dq_LA_draw_4 : decode (fx_cc mq_LA_draw) 4 = .ok (.invokevirtual 47, 3) := by decide +kernel
theorem dq_LA_draw_7 : decode (fx_cc mq_LA_draw) 7 = .ok (.i2l, 1) := by decide +kernel
theorem dq_LA_draw_8 : decode (fx_cc mq_LA_draw) 8 = .ok (.lastore, 1) := by decide +kernel
theorem dq_LA_draw_9 : decode (fx_cc mq_LA_draw) 9 = .ok (.goto 6, 3) := by decide +kernel
theorem dq_LA_draw_12 : decode (fx_cc mq_LA_draw) 12 = .ok (.astore_n 3, 1) := by decide +kernel
theorem dq_LA_draw_13 : decode (fx_cc mq_LA_draw) 13 = .ok (.iconst 1, 1) := by decide +kernel
theorem dq_LA_draw_14 : decode (fx_cc mq_LA_draw) 14 = .ok (.ireturn, 1) := by decide +kernel
theorem dq_LA_draw_15 : decode (fx_cc mq_LA_draw) 15 = .ok (.iconst 0, 1) := by decide +kernel
theorem dq_LA_draw_16 : decode (fx_cc mq_LA_draw) 16 = .ok (.ireturn, 1) := by decide +kernel
theorem dq_FS_draw_0 : decode (fx_cc mq_FS_draw) 0 = .ok (.iload_n 1, 1) := by decide +kernel
theorem dq_FS_draw_1 : decode (fx_cc mq_FS_draw) 1 = .ok (.iconst 0, 1) := by decide +kernel
theorem dq_FS_draw_2 : decode (fx_cc mq_FS_draw) 2 = .ok (.sipush 200, 3) := by decide +kernel
theorem dq_FS_draw_5 : decode (fx_cc mq_FS_draw) 5 = .ok (.invokestatic 48, 3) := by decide +kernel
theorem dq_FS_draw_8 : decode (fx_cc mq_FS_draw) 8 = .ok (.invokestatic 52, 3) := by decide +kernel
theorem dq_FS_draw_11 : decode (fx_cc mq_FS_draw) 11 = .ok (.iload_n 1, 1) := by decide +kernel
theorem dq_FS_draw_12 : decode (fx_cc mq_FS_draw) 12 = .ok (.ifCond .eq 41, 3) := by decide +kernel
theorem dq_FS_draw_15 : decode (fx_cc mq_FS_draw) 15 = .ok (.aload_n 0, 1) := by decide +kernel
theorem dq_FS_draw_16 : decode (fx_cc mq_FS_draw) 16 = .ok (.getfield 19, 3) := by decide +kernel
theorem dq_FS_draw_19 : decode (fx_cc mq_FS_draw) 19 = .ok (.getfield 163, 3) := by decide +kernel
theorem dq_FS_draw_22 : decode (fx_cc mq_FS_draw) 22 = .ok (.ifCond .ne 31, 3) := by decide +kernel
theorem dq_FS_draw_25 : decode (fx_cc mq_FS_draw) 25 = .ok (.aload_n 0, 1) := by decide +kernel
theorem dq_FS_draw_26 : decode (fx_cc mq_FS_draw) 26 = .ok (.getfield 19, 3) := by decide +kernel
theorem dq_FS_draw_29 : decode (fx_cc mq_FS_draw) 29 = .ok (.getfield 156, 3) := by decide +kernel
theorem dq_FS_draw_32 : decode (fx_cc mq_FS_draw) 32 = .ok (.aload_n 0, 1) := by decide +kernel
theorem dq_FS_draw_33 : decode (fx_cc mq_FS_draw) 33 = .ok (.getfield 10, 3) := by decide +kernel
theorem dq_FS_draw_36 : decode (fx_cc mq_FS_draw) 36 = .ok (.getfield 153, 3) := by decide +kernel
theorem dq_FS_draw_39 : decode (fx_cc mq_FS_draw) 39 = .ok (.if_icmp .ge 14, 3) := by decide +kernel
theorem dq_FS_draw_42 : decode (fx_cc mq_FS_draw) 42 = .ok (.aload_n 0, 1) := by decide +kernel
theorem dq_FS_draw_43 : decode (fx_cc mq_FS_draw) 43 = .ok (.getfield 19, 3) := by decide +kernel
theorem dq_FS_draw_46 : decode (fx_cc mq_FS_draw) 46 = .ok (.aload_n 0, 1) := by decide +kernel
theorem dq_FS_draw_47 : decode (fx_cc mq_FS_draw) 47 = .ok (.getfield 10, 3) := by decide +kernel
theorem dq_FS_draw_50 : decode (fx_cc mq_FS_draw) 50 = .ok (.invokevirtual 166, 3) := by decide +kernel
theorem dq_FS_draw_53 : decode (fx_cc mq_FS_draw) 53 = .ok (.aload_n 0, 1) := by decide +kernel
theorem dq_FS_draw_54 : decode (fx_cc mq_FS_draw) 54 = .ok (.getfield 19, 3) := by decide +kernel
theorem dq_FS_draw_57 : decode (fx_cc mq_FS_draw) 57 = .ok (.iload_n 1, 1) := by decide +kernel
theorem dq_FS_draw_58 : decode (fx_cc mq_FS_draw) 58 = .ok (.invokevirtual 170, 3) := by decide +kernel
theorem dq_FS_draw_61 : decode (fx_cc mq_FS_draw) 61 = .ok (.ireturn, 1) := by decide +kernel
theorem dq_CO_begin_0 : decode (fx_cc mq_CO_begin) 0 = .ok (.aload_n 0, 1) := by decide +kernel
theorem dq_CO_begin_1 : decode (fx_cc mq_CO_begin) 1 = .ok (.invokevirtual 50, 3) := by decide +kernel
theorem dq_CO_begin_4 : decode (fx_cc mq_CO_begin) 4 = .ok (.aload_n 0, 1) := by decide +kernel
theorem dq_CO_begin_5 : decode (fx_cc mq_CO_begin) 5 = .ok (.getfield 12, 3) := by decide +kernel
theorem dq_CO_begin_8 : decode (fx_cc mq_CO_begin) 8 = .ok (.aload_n 1, 1) := by decide +kernel
theorem dq_CO_begin_9 : decode (fx_cc mq_CO_begin) 9 = .ok (.getfield 53, 3) := by decide +kernel
theorem dq_CO_begin_12 : decode (fx_cc mq_CO_begin) 12 = .ok (.invokevirtual 58, 3) := by decide +kernel
theorem dq_CO_begin_15 : decode (fx_cc mq_CO_begin) 15 = .ok (.aload_n 0, 1) := by decide +kernel
theorem dq_CO_begin_16 : decode (fx_cc mq_CO_begin) 16 = .ok (.aload_n 1, 1) := by decide +kernel
theorem dq_CO_begin_17 : decode (fx_cc mq_CO_begin) 17 = .ok (.getfield 62, 3) := by decide +kernel
theorem dq_CO_begin_20 : decode (fx_cc mq_CO_begin) 20 = .ok (.putfield 65, 3) := by decide +kernel
theorem dq_CO_begin_23 : decode (fx_cc mq_CO_begin) 23 = .ok (.aload_n 0, 1) := by decide +kernel
theorem dq_CO_begin_24 : decode (fx_cc mq_CO_begin) 24 = .ok (.getfield 21, 3) := by decide +kernel
theorem dq_CO_begin_27 : decode (fx_cc mq_CO_begin) 27 = .ok (.aload_n 0, 1) := by decide +kernel
theorem dq_CO_begin_28 : decode (fx_cc mq_CO_begin) 28 = .ok (.getfield 12, 3) := by decide +kernel
theorem dq_CO_begin_31 : decode (fx_cc mq_CO_begin) 31 = .ok (.invokevirtual 68, 3) := by decide +kernel
theorem dq_CO_begin_34 : decode (fx_cc mq_CO_begin) 34 = .ok (.aload_n 0, 1) := by decide +kernel
theorem dq_CO_begin_35 : decode (fx_cc mq_CO_begin) 35 = .ok (.aload_n 1, 1) := by decide +kernel
theorem dq_CO_begin_36 : decode (fx_cc mq_CO_begin) 36 = .ok (.invokevirtual 71, 3) := by decide +kernel
theorem dq_CO_begin_39 : decode (fx_cc mq_CO_begin) 39 = .ok (.aload_n 1, 1) := by decide +kernel
theorem dq_CO_begin_40 : decode (fx_cc mq_CO_begin) 40 = .ok (.invokevirtual 75, 3) := by decide +kernel
theorem dq_CO_begin_43 : decode (fx_cc mq_CO_begin) 43 = .ok (.aload_n 0, 1) := by decide +kernel
theorem dq_CO_begin_44 : decode (fx_cc mq_CO_begin) 44 = .ok (.iconst 1, 1) := by decide +kernel
theorem dq_CO_begin_45 : decode (fx_cc mq_CO_begin) 45 = .ok (.putfield 45, 3) := by decide +kernel
theorem dq_CO_begin_48 : decode (fx_cc mq_CO_begin) 48 = .ok (.aload_n 0, 1) := by decide +kernel
theorem dq_CO_begin_49 : decode (fx_cc mq_CO_begin) 49 = .ok (.iconst 0, 1) := by decide +kernel
theorem dq_CO_begin_50 : decode (fx_cc mq_CO_begin) 50 = .ok (.invokevirtual 78, 3) := by decide +kernel
theorem dq_CO_begin_53 : decode (fx_cc mq_CO_begin) 53 = .ok (.return_, 1) := by decide +kernel
theorem dq_CO_rememberBefore_0 : decode (fx_cc mq_CO_rememberBefore) 0 = .ok (.iconst 0, 1) := by decide +kernel
theorem dq_CO_rememberBefore_1 : decode (fx_cc mq_CO_rememberBefore) 1 = .ok (.istore_n 1, 1) := by decide +kernel
theorem dq_CO_rememberBefore_2 : decode (fx_cc mq_CO_rememberBefore) 2 = .ok (.iload_n 1, 1) := by decide +kernel
theorem dq_CO_rememberBefore_3 : decode (fx_cc mq_CO_rememberBefore) 3 = .ok (.bipush 10, 2) := by decide +kernel
theorem dq_CO_rememberBefore_5 : decode (fx_cc mq_CO_rememberBefore) 5 = .ok (.if_icmp .ge 44, 3) := by decide +kernel
theorem dq_CO_rememberBefore_8 : decode (fx_cc mq_CO_rememberBefore) 8 = .ok (.aload_n 0, 1) := by decide +kernel
theorem dq_CO_rememberBefore_9 : decode (fx_cc mq_CO_rememberBefore) 9 = .ok (.getfield 25, 3) := by decide +kernel
theorem dq_CO_rememberBefore_12 : decode (fx_cc mq_CO_rememberBefore) 12 = .ok (.iload_n 1, 1) := by decide +kernel
theorem dq_CO_rememberBefore_13 : decode (fx_cc mq_CO_rememberBefore) 13 = .ok (.aload_n 0, 1) := by decide +kernel
theorem dq_CO_rememberBefore_14 : decode (fx_cc mq_CO_rememberBefore) 14 = .ok (.getfield 21, 3) := by decide +kernel
theorem dq_CO_rememberBefore_17 : decode (fx_cc mq_CO_rememberBefore) 17 = .ok (.iload_n 1, 1) := by decide +kernel
theorem dq_CO_rememberBefore_18 : decode (fx_cc mq_CO_rememberBefore) 18 = .ok (.invokevirtual 82, 3) := by decide +kernel
theorem dq_CO_rememberBefore_21 : decode (fx_cc mq_CO_rememberBefore) 21 = .ok (.bastore, 1) := by decide +kernel
theorem dq_CO_rememberBefore_22 : decode (fx_cc mq_CO_rememberBefore) 22 = .ok (.aload_n 0, 1) := by decide +kernel
theorem dq_CO_rememberBefore_23 : decode (fx_cc mq_CO_rememberBefore) 23 = .ok (.getfield 31, 3) := by decide +kernel
theorem dq_CO_rememberBefore_26 : decode (fx_cc mq_CO_rememberBefore) 26 = .ok (.iload_n 1, 1) := by decide +kernel
theorem dq_CO_rememberBefore_27 : decode (fx_cc mq_CO_rememberBefore) 27 = .ok (.aaload, 1) := by decide +kernel
theorem dq_CO_rememberBefore_28 : decode (fx_cc mq_CO_rememberBefore) 28 = .ok (.aload_n 0, 1) := by decide +kernel
theorem dq_CO_rememberBefore_29 : decode (fx_cc mq_CO_rememberBefore) 29 = .ok (.getfield 12, 3) := by decide +kernel
theorem dq_CO_rememberBefore_32 : decode (fx_cc mq_CO_rememberBefore) 32 = .ok (.getfield 86, 3) := by decide +kernel
theorem dq_CO_rememberBefore_35 : decode (fx_cc mq_CO_rememberBefore) 35 = .ok (.iload_n 1, 1) := by decide +kernel
theorem dq_CO_rememberBefore_36 : decode (fx_cc mq_CO_rememberBefore) 36 = .ok (.aaload, 1) := by decide +kernel
theorem dq_CO_rememberBefore_37 : decode (fx_cc mq_CO_rememberBefore) 37 = .ok (.getfield 90, 3) := by decide +kernel
theorem dq_CO_rememberBefore_40 : decode (fx_cc mq_CO_rememberBefore) 40 = .ok (.invokevirtual 96, 3) := by decide +kernel
theorem dq_CO_rememberBefore_43 : decode (fx_cc mq_CO_rememberBefore) 43 = .ok (.iinc 1 1, 3) := by decide +kernel
theorem dq_CO_rememberBefore_46 : decode (fx_cc mq_CO_rememberBefore) 46 = .ok (.goto (-44), 3) := by decide +kernel
theorem dq_CO_rememberBefore_49 : decode (fx_cc mq_CO_rememberBefore) 49 = .ok (.return_, 1) := by decide +kernel
theorem dq_PN_has_0 : decode (fx_cc mq_PN_has) 0 = .ok (.aload_n 0, 1) := by decide +kernel
theorem dq_PN_has_1 : decode (fx_cc mq_PN_has) 1 = .ok (.getfield 9, 3) := by decide +kernel
theorem dq_PN_has_4 : decode (fx_cc mq_PN_has) 4 = .ok (.iconst 0, 1) := by decide +kernel
theorem dq_PN_has_5 : decode (fx_cc mq_PN_has) 5 = .ok (.iaload, 1) := by decide +kernel
theorem dq_PN_has_6 : decode (fx_cc mq_PN_has) 6 = .ok (.iload_n 1, 1) := by decide +kernel
theorem dq_PN_has_7 : decode (fx_cc mq_PN_has) 7 = .ok (.if_icmp .eq 13, 3) := by decide +kernel
theorem dq_PN_has_10 : decode (fx_cc mq_PN_has) 10 = .ok (.aload_n 0, 1) := by decide +kernel
theorem dq_PN_has_11 : decode (fx_cc mq_PN_has) 11 = .ok (.getfield 9, 3) := by decide +kernel
theorem dq_PN_has_14 : decode (fx_cc mq_PN_has) 14 = .ok (.iconst 1, 1) := by decide +kernel
theorem dq_PN_has_15 : decode (fx_cc mq_PN_has) 15 = .ok (.iaload, 1) := by decide +kernel
theorem dq_PN_has_16 : decode (fx_cc mq_PN_has) 16 = .ok (.iload_n 1, 1) := by decide +kernel
theorem dq_PN_has_17 : decode (fx_cc mq_PN_has) 17 = .ok (.if_icmp .ne 7, 3) := by decide +kernel
theorem dq_PN_has_20 : decode (fx_cc mq_PN_has) 20 = .ok (.iconst 1, 1) := by decide +kernel
theorem dq_PN_has_21 : decode (fx_cc mq_PN_has) 21 = .ok (.goto 4, 3) := by decide +kernel
theorem dq_PN_has_24 : decode (fx_cc mq_PN_has) 24 = .ok (.iconst 0, 1) := by decide +kernel
theorem dq_PN_has_25 : decode (fx_cc mq_PN_has) 25 = .ok (.ireturn, 1) := by decide +kernel
