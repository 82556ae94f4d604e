/-! ===== a row for each instruction ===== -/
theorem dq_MO_wanted_15 : decode (fx_cc mq_MO_wanted) 15 = .ok (.iconst 0, 1) := by decide +kernel
theorem dq_MO_wanted_16 : decode (fx_cc mq_MO_wanted) 16 = .ok (.istore_n 3, 1) := by decide +kernel
theorem dq_MO_wanted_17 : decode (fx_cc mq_MO_wanted) 17 = .ok (.iconst 0, 1) := by decide +kernel
theorem dq_MO_wanted_18 : decode (fx_cc mq_MO_wanted) 18 = .ok (.istore 4, 2) := by decide +kernel
theorem dq_MO_wanted_20 : decode (fx_cc mq_MO_wanted) 20 = .ok (.iload 4, 2) := by decide +kernel
theorem dq_MO_wanted_22 : decode (fx_cc mq_MO_wanted) 22 = .ok (.bipush 10, 2) := by decide +kernel
theorem dq_MO_wanted_24 : decode (fx_cc mq_MO_wanted) 24 = .ok (.if_icmp .ge 94, 3) := by decide +kernel
theorem dq_MO_wanted_27 : decode (fx_cc mq_MO_wanted) 27 = .ok (.aload_n 0, 1) := by decide +kernel
theorem dq_MO_wanted_28 : decode (fx_cc mq_MO_wanted) 28 = .ok (.bipush 10, 2) := by decide +kernel
theorem dq_MO_wanted_30 : decode (fx_cc mq_MO_wanted) 30 = .ok (.iload 4, 2) := by decide +kernel
theorem dq_MO_wanted_32 : decode (fx_cc mq_MO_wanted) 32 = .ok (.invokevirtual 201, 3) := by decide +kernel
theorem dq_MO_wanted_35 : decode (fx_cc mq_MO_wanted) 35 = .ok (.istore 5, 2) := by decide +kernel
theorem dq_MO_wanted_37 : decode (fx_cc mq_MO_wanted) 37 = .ok (.iload 5, 2) := by decide +kernel
theorem dq_MO_wanted_39 : decode (fx_cc mq_MO_wanted) 39 = .ok (.ifCond .ge 5, 3) := by decide +kernel
theorem dq_MO_wanted_42 : decode (fx_cc mq_MO_wanted) 42 = .ok (.iload_n 3, 1) := by decide +kernel
theorem dq_MO_wanted_43 : decode (fx_cc mq_MO_wanted) 43 = .ok (.ireturn, 1) := by decide +kernel
theorem dq_MO_wanted_44 : decode (fx_cc mq_MO_wanted) 44 = .ok (.aload_n 0, 1) := by decide +kernel
theorem dq_MO_wanted_45 : decode (fx_cc mq_MO_wanted) 45 = .ok (.iload 5, 2) := by decide +kernel
theorem dq_MO_wanted_47 : decode (fx_cc mq_MO_wanted) 47 = .ok (.invokevirtual 204, 3) := by decide +kernel
theorem dq_MO_wanted_50 : decode (fx_cc mq_MO_wanted) 50 = .ok (.iload_n 1, 1) := by decide +kernel
theorem dq_MO_wanted_51 : decode (fx_cc mq_MO_wanted) 51 = .ok (.aload_n 0, 1) := by decide +kernel
theorem dq_MO_wanted_52 : decode (fx_cc mq_MO_wanted) 52 = .ok (.getfield 141, 3) := by decide +kernel
theorem dq_MO_wanted_55 : decode (fx_cc mq_MO_wanted) 55 = .ok (.if_icmp .lt 57, 3) := by decide +kernel
theorem dq_MO_wanted_58 : decode (fx_cc mq_MO_wanted) 58 = .ok (.iload_n 1, 1) := by decide +kernel
theorem dq_MO_wanted_59 : decode (fx_cc mq_MO_wanted) 59 = .ok (.aload_n 0, 1) := by decide +kernel
theorem dq_MO_wanted_60 : decode (fx_cc mq_MO_wanted) 60 = .ok (.getfield 141, 3) := by decide +kernel
theorem dq_MO_wanted_63 : decode (fx_cc mq_MO_wanted) 63 = .ok (.aload_n 0, 1) := by decide +kernel
theorem dq_MO_wanted_64 : decode (fx_cc mq_MO_wanted) 64 = .ok (.getfield 144, 3) := by decide +kernel
theorem dq_MO_wanted_67 : decode (fx_cc mq_MO_wanted) 67 = .ok (.iadd, 1) := by decide +kernel
theorem dq_MO_wanted_68 : decode (fx_cc mq_MO_wanted) 68 = .ok (.if_icmp .ge 44, 3) := by decide +kernel
theorem dq_MO_wanted_71 : decode (fx_cc mq_MO_wanted) 71 = .ok (.iload_n 2, 1) := by decide +kernel
theorem dq_MO_wanted_72 : decode (fx_cc mq_MO_wanted) 72 = .ok (.aload_n 0, 1) := by decide +kernel
theorem dq_MO_wanted_73 : decode (fx_cc mq_MO_wanted) 73 = .ok (.getfield 147, 3) := by decide +kernel
theorem dq_MO_wanted_76 : decode (fx_cc mq_MO_wanted) 76 = .ok (.if_icmp .lt 36, 3) := by decide +kernel
theorem dq_MO_wanted_79 : decode (fx_cc mq_MO_wanted) 79 = .ok (.iload_n 2, 1) := by decide +kernel
theorem dq_MO_wanted_80 : decode (fx_cc mq_MO_wanted) 80 = .ok (.aload_n 0, 1) := by decide +kernel
theorem dq_MO_wanted_81 : decode (fx_cc mq_MO_wanted) 81 = .ok (.getfield 147, 3) := by decide +kernel
theorem dq_MO_wanted_84 : decode (fx_cc mq_MO_wanted) 84 = .ok (.aload_n 0, 1) := by decide +kernel
theorem dq_MO_wanted_85 : decode (fx_cc mq_MO_wanted) 85 = .ok (.getfield 150, 3) := by decide +kernel
theorem dq_MO_wanted_88 : decode (fx_cc mq_MO_wanted) 88 = .ok (.iadd, 1) := by decide +kernel
theorem dq_MO_wanted_89 : decode (fx_cc mq_MO_wanted) 89 = .ok (.if_icmp .ge 23, 3) := by decide +kernel
theorem dq_MO_wanted_92 : decode (fx_cc mq_MO_wanted) 92 = .ok (.aload_n 0, 1) := by decide +kernel
theorem dq_MO_wanted_93 : decode (fx_cc mq_MO_wanted) 93 = .ok (.iload 5, 2) := by decide +kernel
theorem dq_MO_wanted_95 : decode (fx_cc mq_MO_wanted) 95 = .ok (.iload_n 1, 1) := by decide +kernel
theorem dq_MO_wanted_96 : decode (fx_cc mq_MO_wanted) 96 = .ok (.iload_n 2, 1) := by decide +kernel
theorem dq_MO_wanted_97 : decode (fx_cc mq_MO_wanted) 97 = .ok (.invokevirtual 225, 3) := by decide +kernel
theorem dq_MO_wanted_100 : decode (fx_cc mq_MO_wanted) 100 = .ok (.iload_n 3, 1) := by decide +kernel
theorem dq_MO_wanted_101 : decode (fx_cc mq_MO_wanted) 101 = .ok (.aload_n 0, 1) := by decide +kernel
theorem dq_MO_wanted_102 : decode (fx_cc mq_MO_wanted) 102 = .ok (.getfield 41, 3) := by decide +kernel
theorem dq_MO_wanted_105 : decode (fx_cc mq_MO_wanted) 105 = .ok (.iload 5, 2) := by decide +kernel
theorem dq_MO_wanted_107 : decode (fx_cc mq_MO_wanted) 107 = .ok (.iaload, 1) := by decide +kernel
theorem dq_MO_wanted_108 : decode (fx_cc mq_MO_wanted) 108 = .ok (.invokestatic 229, 3) := by decide +kernel
theorem dq_MO_wanted_111 : decode (fx_cc mq_MO_wanted) 111 = .ok (.istore_n 3, 1) := by decide +kernel
theorem dq_MO_wanted_112 : decode (fx_cc mq_MO_wanted) 112 = .ok (.iinc 4 1, 3) := by decide +kernel
theorem dq_MO_wanted_115 : decode (fx_cc mq_MO_wanted) 115 = .ok (.goto (-95), 3) := by decide +kernel
theorem dq_MO_wanted_118 : decode (fx_cc mq_MO_wanted) 118 = .ok (.iload_n 3, 1) := by decide +kernel
theorem dq_MO_wanted_119 : decode (fx_cc mq_MO_wanted) 119 = .ok (.ireturn, 1) := by decide +kernel
theorem dq_MO_count_0 : decode (fx_cc mq_MO_count) 0 = .ok (.aload_n 0, 1) := by decide +kernel
theorem dq_MO_count_1 : decode (fx_cc mq_MO_count) 1 = .ok (.iconst 0, 1) := by decide +kernel
theorem dq_MO_count_2 : decode (fx_cc mq_MO_count) 2 = .ok (.putfield 126, 3) := by decide +kernel
theorem dq_MO_count_5 : decode (fx_cc mq_MO_count) 5 = .ok (.iload_n 1, 1) := by decide +kernel
theorem dq_MO_count_6 : decode (fx_cc mq_MO_count) 6 = .ok (.ifCond .ne 10, 3) := by decide +kernel
theorem dq_MO_count_9 : decode (fx_cc mq_MO_count) 9 = .ok (.aload_n 0, 1) := by decide +kernel
theorem dq_MO_count_10 : decode (fx_cc mq_MO_count) 10 = .ok (.getfield 253, 3) := by decide +kernel
theorem dq_MO_count_13 : decode (fx_cc mq_MO_count) 13 = .ok (.goto 28, 3) := by decide +kernel
theorem dq_MO_count_16 : decode (fx_cc mq_MO_count) 16 = .ok (.iload_n 1, 1) := by decide +kernel
theorem dq_MO_count_17 : decode (fx_cc mq_MO_count) 17 = .ok (.iconst 1, 1) := by decide +kernel
theorem dq_MO_count_18 : decode (fx_cc mq_MO_count) 18 = .ok (.if_icmp .ne 10, 3) := by decide +kernel
theorem dq_MO_count_21 : decode (fx_cc mq_MO_count) 21 = .ok (.aload_n 0, 1) := by decide +kernel
theorem dq_MO_count_22 : decode (fx_cc mq_MO_count) 22 = .ok (.getfield 250, 3) := by decide +kernel
theorem dq_MO_count_25 : decode (fx_cc mq_MO_count) 25 = .ok (.goto 16, 3) := by decide +kernel
theorem dq_MO_count_28 : decode (fx_cc mq_MO_count) 28 = .ok (.iload_n 1, 1) := by decide +kernel
theorem dq_MO_count_29 : decode (fx_cc mq_MO_count) 29 = .ok (.iconst 2, 1) := by decide +kernel
theorem dq_MO_count_30 : decode (fx_cc mq_MO_count) 30 = .ok (.if_icmp .ne 10, 3) := by decide +kernel
theorem dq_MO_count_33 : decode (fx_cc mq_MO_count) 33 = .ok (.aload_n 0, 1) := by decide +kernel
theorem dq_MO_count_34 : decode (fx_cc mq_MO_count) 34 = .ok (.getfield 167, 3) := by decide +kernel
theorem dq_MO_count_37 : decode (fx_cc mq_MO_count) 37 = .ok (.goto 4, 3) := by decide +kernel
theorem dq_MO_count_40 : decode (fx_cc mq_MO_count) 40 = .ok (.iconst (-1), 1) := by decide +kernel
theorem dq_MO_count_41 : decode (fx_cc mq_MO_count) 41 = .ok (.ireturn, 1) := by decide +kernel
theorem dq_MO_missed_0 : decode (fx_cc mq_MO_missed) 0 = .ok (.aload_n 0, 1) := by decide +kernel
theorem dq_MO_missed_1 : decode (fx_cc mq_MO_missed) 1 = .ok (.iconst 0, 1) := by decide +kernel
theorem dq_MO_missed_2 : decode (fx_cc mq_MO_missed) 2 = .ok (.putfield 126, 3) := by decide +kernel
theorem dq_MO_missed_5 : decode (fx_cc mq_MO_missed) 5 = .ok (.iload_n 1, 1) := by decide +kernel
theorem dq_MO_missed_6 : decode (fx_cc mq_MO_missed) 6 = .ok (.ifCond .lt 16, 3) := by decide +kernel
theorem dq_MO_missed_9 : decode (fx_cc mq_MO_missed) 9 = .ok (.iload_n 1, 1) := by decide +kernel
theorem dq_MO_missed_10 : decode (fx_cc mq_MO_missed) 10 = .ok (.aload_n 0, 1) := by decide +kernel
theorem dq_MO_missed_11 : decode (fx_cc mq_MO_missed) 11 = .ok (.getfield 75, 3) := by decide +kernel
theorem dq_MO_missed_14 : decode (fx_cc mq_MO_missed) 14 = .ok (.aload_n 0, 1) := by decide +kernel
theorem dq_MO_missed_15 : decode (fx_cc mq_MO_missed) 15 = .ok (.getfield 68, 3) := by decide +kernel
theorem dq_MO_missed_18 : decode (fx_cc mq_MO_missed) 18 = .ok (.iaload, 1) := by decide +kernel
theorem dq_MO_missed_19 : decode (fx_cc mq_MO_missed) 19 = .ok (.if_icmp .lt 5, 3) := by decide +kernel
theorem dq_MO_missed_22 : decode (fx_cc mq_MO_missed) 22 = .ok (.iconst (-1), 1) := by decide +kernel
theorem dq_MO_missed_23 : decode (fx_cc mq_MO_missed) 23 = .ok (.ireturn, 1) := by decide +kernel
theorem dq_MO_missed_24 : decode (fx_cc mq_MO_missed) 24 = .ok (.bipush 7, 2) := by decide +kernel
theorem dq_MO_missed_26 : decode (fx_cc mq_MO_missed) 26 = .ok (.aload_n 0, 1) := by decide +kernel
theorem dq_MO_missed_27 : decode (fx_cc mq_MO_missed) 27 = .ok (.getfield 68, 3) := by decide +kernel
theorem dq_MO_missed_30 : decode (fx_cc mq_MO_missed) 30 = .ok (.imul, 1) := by decide +kernel
theorem dq_MO_missed_31 : decode (fx_cc mq_MO_missed) 31 = .ok (.iload_n 1, 1) := by decide +kernel
theorem dq_MO_missed_32 : decode (fx_cc mq_MO_missed) 32 = .ok (.iadd, 1) := by decide +kernel
theorem dq_MO_missed_33 : decode (fx_cc mq_MO_missed) 33 = .ok (.istore_n 3, 1) := by decide +kernel
theorem dq_MO_missed_34 : decode (fx_cc mq_MO_missed) 34 = .ok (.iload_n 2, 1) := by decide +kernel
theorem dq_MO_missed_35 : decode (fx_cc mq_MO_missed) 35 = .ok (.ifCond .ne 12, 3) := by decide +kernel
theorem dq_MO_missed_38 : decode (fx_cc mq_MO_missed) 38 = .ok (.aload_n 0, 1) := by decide +kernel
theorem dq_MO_missed_39 : decode (fx_cc mq_MO_missed) 39 = .ok (.getfield 78, 3) := by decide +kernel
theorem dq_MO_missed_42 : decode (fx_cc mq_MO_missed) 42 = .ok (.iload_n 3, 1) := by decide +kernel
theorem dq_MO_missed_43 : decode (fx_cc mq_MO_missed) 43 = .ok (.iaload, 1) := by decide +kernel
theorem dq_MO_missed_44 : decode (fx_cc mq_MO_missed) 44 = .ok (.goto 46, 3) := by decide +kernel
theorem dq_MO_missed_47 : decode (fx_cc mq_MO_missed) 47 = .ok (.iload_n 2, 1) := by decide +kernel
theorem dq_MO_missed_48 : decode (fx_cc mq_MO_missed) 48 = .ok (.iconst 1, 1) := by decide +kernel
theorem dq_MO_missed_49 : decode (fx_cc mq_MO_missed) 49 = .ok (.if_icmp .ne 12, 3) := by decide +kernel
theorem dq_MO_missed_52 : decode (fx_cc mq_MO_missed) 52 = .ok (.aload_n 0, 1) := by decide +kernel
theorem dq_MO_missed_53 : decode (fx_cc mq_MO_missed) 53 = .ok (.getfield 81, 3) := by decide +kernel
theorem dq_MO_missed_56 : decode (fx_cc mq_MO_missed) 56 = .ok (.iload_n 3, 1) := by decide +kernel
theorem dq_MO_missed_57 : decode (fx_cc mq_MO_missed) 57 = .ok (.iaload, 1) := by decide +kernel
theorem dq_MO_missed_58 : decode (fx_cc mq_MO_missed) 58 = .ok (.goto 32, 3) := by decide +kernel
theorem dq_MO_missed_61 : decode (fx_cc mq_MO_missed) 61 = .ok (.iload_n 2, 1) := by decide +kernel
theorem dq_MO_missed_62 : decode (fx_cc mq_MO_missed) 62 = .ok (.iconst 2, 1) := by decide +kernel
theorem dq_MO_missed_63 : decode (fx_cc mq_MO_missed) 63 = .ok (.if_icmp .ne 12, 3) := by decide +kernel
theorem dq_MO_missed_66 : decode (fx_cc mq_MO_missed) 66 = .ok (.aload_n 0, 1) := by decide +kernel
theorem dq_MO_missed_67 : decode (fx_cc mq_MO_missed) 67 = .ok (.getfield 84, 3) := by decide +kernel
theorem dq_MO_missed_70 : decode (fx_cc mq_MO_missed) 70 = .ok (.iload_n 3, 1) := by decide +kernel
theorem dq_MO_missed_71 : decode (fx_cc mq_MO_missed) 71 = .ok (.iaload, 1) := by decide +kernel
theorem dq_MO_missed_72 : decode (fx_cc mq_MO_missed) 72 = .ok (.goto 18, 3) := by decide +kernel
theorem dq_MO_missed_75 : decode (fx_cc mq_MO_missed) 75 = .ok (.iload_n 2, 1) := by decide +kernel
theorem dq_MO_missed_76 : decode (fx_cc mq_MO_missed) 76 = .ok (.iconst 3, 1) := by decide +kernel
theorem dq_MO_missed_77 : decode (fx_cc mq_MO_missed) 77 = .ok (.if_icmp .ne 12, 3) := by decide +kernel
theorem dq_MO_missed_80 : decode (fx_cc mq_MO_missed) 80 = .ok (.aload_n 0, 1) := by decide +kernel
theorem dq_MO_missed_81 : decode (fx_cc mq_MO_missed) 81 = .ok (.getfield 87, 3) := by decide +kernel
theorem dq_MO_missed_84 : decode (fx_cc mq_MO_missed) 84 = .ok (.iload_n 3, 1) := by decide +kernel
theorem dq_MO_missed_85 : decode (fx_cc mq_MO_missed) 85 = .ok (.iaload, 1) := by decide +kernel
theorem dq_MO_missed_86 : decode (fx_cc mq_MO_missed) 86 = .ok (.goto 4, 3) := by decide +kernel
theorem dq_MO_missed_89 : decode (fx_cc mq_MO_missed) 89 = .ok (.iconst (-1), 1) := by decide +kernel
theorem dq_MO_missed_90 : decode (fx_cc mq_MO_missed) 90 = .ok (.ireturn, 1) := by decide +kernel
theorem dq_MO_plane_0 : decode (fx_cc mq_MO_plane) 0 = .ok (.aload_n 0, 1) := by decide +kernel
theorem dq_MO_plane_1 : decode (fx_cc mq_MO_plane) 1 = .ok (.iconst 0, 1) := by decide +kernel
theorem dq_MO_plane_2 : decode (fx_cc mq_MO_plane) 2 = .ok (.putfield 126, 3) := by decide +kernel
theorem dq_MO_plane_5 : decode (fx_cc mq_MO_plane) 5 = .ok (.iload_n 1, 1) := by decide +kernel
theorem dq_MO_plane_6 : decode (fx_cc mq_MO_plane) 6 = .ok (.ifCond .eq 8, 3) := by decide +kernel
theorem dq_MO_plane_9 : decode (fx_cc mq_MO_plane) 9 = .ok (.iload_n 1, 1) := by decide +kernel
theorem dq_MO_plane_10 : decode (fx_cc mq_MO_plane) 10 = .ok (.iconst 1, 1) := by decide +kernel
theorem dq_MO_plane_11 : decode (fx_cc mq_MO_plane) 11 = .ok (.if_icmp .ne 12, 3) := by decide +kernel
theorem dq_MO_plane_14 : decode (fx_cc mq_MO_plane) 14 = .ok (.aload_n 0, 1) := by decide +kernel
theorem dq_MO_plane_15 : decode (fx_cc mq_MO_plane) 15 = .ok (.getfield 90, 3) := by decide +kernel
theorem dq_MO_plane_18 : decode (fx_cc mq_MO_plane) 18 = .ok (.iload_n 1, 1) := by decide +kernel
theorem dq_MO_plane_19 : decode (fx_cc mq_MO_plane) 19 = .ok (.iaload, 1) := by decide +kernel
theorem dq_MO_plane_20 : decode (fx_cc mq_MO_plane) 20 = .ok (.goto 4, 3) := by decide +kernel
theorem dq_MO_plane_23 : decode (fx_cc mq_MO_plane) 23 = .ok (.iconst (-1), 1) := by decide +kernel
theorem dq_MO_plane_24 : decode (fx_cc mq_MO_plane) 24 = .ok (.ireturn, 1) := by decide +kernel
theorem dq_MO_free_0 : decode (fx_cc mq_MO_free) 0 = .ok (.aload_n 0, 1) := by decide +kernel
theorem dq_MO_free_1 : decode (fx_cc mq_MO_free) 1 = .ok (.iconst 0, 1) := by decide +kernel
theorem dq_MO_free_2 : decode (fx_cc mq_MO_free) 2 = .ok (.putfield 126, 3) := by decide +kernel
theorem dq_MO_free_5 : decode (fx_cc mq_MO_free) 5 = .ok (.aload_n 0, 1) := by decide +kernel
theorem dq_MO_free_6 : decode (fx_cc mq_MO_free) 6 = .ok (.invokevirtual 133, 3) := by decide +kernel
theorem dq_MO_free_9 : decode (fx_cc mq_MO_free) 9 = .ok (.ireturn, 1) := by decide +kernel
theorem dq_AR_fill_0 : decode (fx_cc mq_AR_fill) 0 = .ok (.iconst 0, 1) := by decide +kernel
theorem dq_AR_fill_1 : decode (fx_cc mq_AR_fill) 1 = .ok (.istore_n 2, 1) := by decide +kernel
theorem dq_AR_fill_2 : decode (fx_cc mq_AR_fill) 2 = .ok (.aload_n 0, 1) := by decide +kernel
theorem dq_AR_fill_3 : decode (fx_cc mq_AR_fill) 3 = .ok (.arraylength, 1) := by decide +kernel
theorem dq_AR_fill_4 : decode (fx_cc mq_AR_fill) 4 = .ok (.istore_n 3, 1) := by decide +kernel
theorem dq_AR_fill_5 : decode (fx_cc mq_AR_fill) 5 = .ok (.iload_n 2, 1) := by decide +kernel
theorem dq_AR_fill_6 : decode (fx_cc mq_AR_fill) 6 = .ok (.iload_n 3, 1) := by decide +kernel
theorem dq_AR_fill_7 : decode (fx_cc mq_AR_fill) 7 = .ok (.if_icmp .ge 13, 3) := by decide +kernel
theorem dq_AR_fill_10 : decode (fx_cc mq_AR_fill) 10 = .ok (.aload_n 0, 1) := by decide +kernel
theorem dq_AR_fill_11 : decode (fx_cc mq_AR_fill) 11 = .ok (.iload_n 2, 1) := by decide +kernel
theorem dq_AR_fill_12 : decode (fx_cc mq_AR_fill) 12 = .ok (.iload_n 1, 1) := by decide +kernel
theorem dq_AR_fill_13 : decode (fx_cc mq_AR_fill) 13 = .ok (.iastore, 1) := by decide +kernel
theorem dq_AR_fill_14 : decode (fx_cc mq_AR_fill) 14 = .ok (.iinc 2 1, 3) := by decide +kernel
theorem dq_AR_fill_17 : decode (fx_cc mq_AR_fill) 17 = .ok (.goto (-12), 3) := by decide +kernel
theorem dq_AR_fill_20 : decode (fx_cc mq_AR_fill) 20 = .ok (.return_, 1) := by decide +kernel
