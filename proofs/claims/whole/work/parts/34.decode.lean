/-! ===== a row for each instruction ===== -/
theorem dq_MO_copyPicture_6 : decode (fx_cc mq_MO_copyPicture) 6 = .ok (.getfield 29, 3) := by decide +kernel
theorem dq_MO_copyPicture_9 : decode (fx_cc mq_MO_copyPicture) 9 = .ok (.iload_n 1, 1) := by decide +kernel
theorem dq_MO_copyPicture_10 : decode (fx_cc mq_MO_copyPicture) 10 = .ok (.baload, 1) := by decide +kernel
theorem dq_MO_copyPicture_11 : decode (fx_cc mq_MO_copyPicture) 11 = .ok (.bastore, 1) := by decide +kernel
theorem dq_MO_copyPicture_12 : decode (fx_cc mq_MO_copyPicture) 12 = .ok (.aload_n 0, 1) := by decide +kernel
theorem dq_MO_copyPicture_13 : decode (fx_cc mq_MO_copyPicture) 13 = .ok (.getfield 32, 3) := by decide +kernel
theorem dq_MO_copyPicture_16 : decode (fx_cc mq_MO_copyPicture) 16 = .ok (.iload_n 2, 1) := by decide +kernel
theorem dq_MO_copyPicture_17 : decode (fx_cc mq_MO_copyPicture) 17 = .ok (.aload_n 0, 1) := by decide +kernel
theorem dq_MO_copyPicture_18 : decode (fx_cc mq_MO_copyPicture) 18 = .ok (.getfield 32, 3) := by decide +kernel
theorem dq_MO_copyPicture_21 : decode (fx_cc mq_MO_copyPicture) 21 = .ok (.iload_n 1, 1) := by decide +kernel
theorem dq_MO_copyPicture_22 : decode (fx_cc mq_MO_copyPicture) 22 = .ok (.iaload, 1) := by decide +kernel
theorem dq_MO_copyPicture_23 : decode (fx_cc mq_MO_copyPicture) 23 = .ok (.iastore, 1) := by decide +kernel
theorem dq_MO_copyPicture_24 : decode (fx_cc mq_MO_copyPicture) 24 = .ok (.aload_n 0, 1) := by decide +kernel
theorem dq_MO_copyPicture_25 : decode (fx_cc mq_MO_copyPicture) 25 = .ok (.getfield 35, 3) := by decide +kernel
theorem dq_MO_copyPicture_28 : decode (fx_cc mq_MO_copyPicture) 28 = .ok (.iload_n 2, 1) := by decide +kernel
theorem dq_MO_copyPicture_29 : decode (fx_cc mq_MO_copyPicture) 29 = .ok (.aload_n 0, 1) := by decide +kernel
theorem dq_MO_copyPicture_30 : decode (fx_cc mq_MO_copyPicture) 30 = .ok (.getfield 35, 3) := by decide +kernel
theorem dq_MO_copyPicture_33 : decode (fx_cc mq_MO_copyPicture) 33 = .ok (.iload_n 1, 1) := by decide +kernel
theorem dq_MO_copyPicture_34 : decode (fx_cc mq_MO_copyPicture) 34 = .ok (.iaload, 1) := by decide +kernel
theorem dq_MO_copyPicture_35 : decode (fx_cc mq_MO_copyPicture) 35 = .ok (.iastore, 1) := by decide +kernel
theorem dq_MO_copyPicture_36 : decode (fx_cc mq_MO_copyPicture) 36 = .ok (.aload_n 0, 1) := by decide +kernel
theorem dq_MO_copyPicture_37 : decode (fx_cc mq_MO_copyPicture) 37 = .ok (.getfield 38, 3) := by decide +kernel
theorem dq_MO_copyPicture_40 : decode (fx_cc mq_MO_copyPicture) 40 = .ok (.iload_n 2, 1) := by decide +kernel
theorem dq_MO_copyPicture_41 : decode (fx_cc mq_MO_copyPicture) 41 = .ok (.aload_n 0, 1) := by decide +kernel
theorem dq_MO_copyPicture_42 : decode (fx_cc mq_MO_copyPicture) 42 = .ok (.getfield 38, 3) := by decide +kernel
theorem dq_MO_copyPicture_45 : decode (fx_cc mq_MO_copyPicture) 45 = .ok (.iload_n 1, 1) := by decide +kernel
theorem dq_MO_copyPicture_46 : decode (fx_cc mq_MO_copyPicture) 46 = .ok (.iaload, 1) := by decide +kernel
theorem dq_MO_copyPicture_47 : decode (fx_cc mq_MO_copyPicture) 47 = .ok (.iastore, 1) := by decide +kernel
theorem dq_MO_copyPicture_48 : decode (fx_cc mq_MO_copyPicture) 48 = .ok (.aload_n 0, 1) := by decide +kernel
theorem dq_MO_copyPicture_49 : decode (fx_cc mq_MO_copyPicture) 49 = .ok (.getfield 41, 3) := by decide +kernel
theorem dq_MO_copyPicture_52 : decode (fx_cc mq_MO_copyPicture) 52 = .ok (.iload_n 2, 1) := by decide +kernel
theorem dq_MO_copyPicture_53 : decode (fx_cc mq_MO_copyPicture) 53 = .ok (.aload_n 0, 1) := by decide +kernel
theorem dq_MO_copyPicture_54 : decode (fx_cc mq_MO_copyPicture) 54 = .ok (.getfield 41, 3) := by decide +kernel
theorem dq_MO_copyPicture_57 : decode (fx_cc mq_MO_copyPicture) 57 = .ok (.iload_n 1, 1) := by decide +kernel
theorem dq_MO_copyPicture_58 : decode (fx_cc mq_MO_copyPicture) 58 = .ok (.iaload, 1) := by decide +kernel
theorem dq_MO_copyPicture_59 : decode (fx_cc mq_MO_copyPicture) 59 = .ok (.iastore, 1) := by decide +kernel
theorem dq_MO_copyPicture_60 : decode (fx_cc mq_MO_copyPicture) 60 = .ok (.aload_n 0, 1) := by decide +kernel
theorem dq_MO_copyPicture_61 : decode (fx_cc mq_MO_copyPicture) 61 = .ok (.getfield 44, 3) := by decide +kernel
theorem dq_MO_copyPicture_64 : decode (fx_cc mq_MO_copyPicture) 64 = .ok (.iload_n 2, 1) := by decide +kernel
theorem dq_MO_copyPicture_65 : decode (fx_cc mq_MO_copyPicture) 65 = .ok (.aload_n 0, 1) := by decide +kernel
theorem dq_MO_copyPicture_66 : decode (fx_cc mq_MO_copyPicture) 66 = .ok (.getfield 44, 3) := by decide +kernel
theorem dq_MO_copyPicture_69 : decode (fx_cc mq_MO_copyPicture) 69 = .ok (.iload_n 1, 1) := by decide +kernel
theorem dq_MO_copyPicture_70 : decode (fx_cc mq_MO_copyPicture) 70 = .ok (.baload, 1) := by decide +kernel
theorem dq_MO_copyPicture_71 : decode (fx_cc mq_MO_copyPicture) 71 = .ok (.bastore, 1) := by decide +kernel
theorem dq_MO_copyPicture_72 : decode (fx_cc mq_MO_copyPicture) 72 = .ok (.aload_n 0, 1) := by decide +kernel
theorem dq_MO_copyPicture_73 : decode (fx_cc mq_MO_copyPicture) 73 = .ok (.getfield 47, 3) := by decide +kernel
theorem dq_MO_copyPicture_76 : decode (fx_cc mq_MO_copyPicture) 76 = .ok (.iload_n 2, 1) := by decide +kernel
theorem dq_MO_copyPicture_77 : decode (fx_cc mq_MO_copyPicture) 77 = .ok (.aload_n 0, 1) := by decide +kernel
theorem dq_MO_copyPicture_78 : decode (fx_cc mq_MO_copyPicture) 78 = .ok (.getfield 47, 3) := by decide +kernel
theorem dq_MO_copyPicture_81 : decode (fx_cc mq_MO_copyPicture) 81 = .ok (.iload_n 1, 1) := by decide +kernel
theorem dq_MO_copyPicture_82 : decode (fx_cc mq_MO_copyPicture) 82 = .ok (.iaload, 1) := by decide +kernel
theorem dq_MO_copyPicture_83 : decode (fx_cc mq_MO_copyPicture) 83 = .ok (.iastore, 1) := by decide +kernel
theorem dq_MO_copyPicture_84 : decode (fx_cc mq_MO_copyPicture) 84 = .ok (.aload_n 0, 1) := by decide +kernel
theorem dq_MO_copyPicture_85 : decode (fx_cc mq_MO_copyPicture) 85 = .ok (.getfield 50, 3) := by decide +kernel
theorem dq_MO_copyPicture_88 : decode (fx_cc mq_MO_copyPicture) 88 = .ok (.iload_n 2, 1) := by decide +kernel
theorem dq_MO_copyPicture_89 : decode (fx_cc mq_MO_copyPicture) 89 = .ok (.aload_n 0, 1) := by decide +kernel
theorem dq_MO_copyPicture_90 : decode (fx_cc mq_MO_copyPicture) 90 = .ok (.getfield 50, 3) := by decide +kernel
theorem dq_MO_copyPicture_93 : decode (fx_cc mq_MO_copyPicture) 93 = .ok (.iload_n 1, 1) := by decide +kernel
theorem dq_MO_copyPicture_94 : decode (fx_cc mq_MO_copyPicture) 94 = .ok (.iaload, 1) := by decide +kernel
theorem dq_MO_copyPicture_95 : decode (fx_cc mq_MO_copyPicture) 95 = .ok (.iastore, 1) := by decide +kernel
theorem dq_MO_copyPicture_96 : decode (fx_cc mq_MO_copyPicture) 96 = .ok (.aload_n 0, 1) := by decide +kernel
theorem dq_MO_copyPicture_97 : decode (fx_cc mq_MO_copyPicture) 97 = .ok (.getfield 53, 3) := by decide +kernel
theorem dq_MO_copyPicture_100 : decode (fx_cc mq_MO_copyPicture) 100 = .ok (.iload_n 2, 1) := by decide +kernel
theorem dq_MO_copyPicture_101 : decode (fx_cc mq_MO_copyPicture) 101 = .ok (.aload_n 0, 1) := by decide +kernel
theorem dq_MO_copyPicture_102 : decode (fx_cc mq_MO_copyPicture) 102 = .ok (.getfield 53, 3) := by decide +kernel
theorem dq_MO_copyPicture_105 : decode (fx_cc mq_MO_copyPicture) 105 = .ok (.iload_n 1, 1) := by decide +kernel
theorem dq_MO_copyPicture_106 : decode (fx_cc mq_MO_copyPicture) 106 = .ok (.iaload, 1) := by decide +kernel
theorem dq_MO_copyPicture_107 : decode (fx_cc mq_MO_copyPicture) 107 = .ok (.iastore, 1) := by decide +kernel
theorem dq_MO_copyPicture_108 : decode (fx_cc mq_MO_copyPicture) 108 = .ok (.aload_n 0, 1) := by decide +kernel
theorem dq_MO_copyPicture_109 : decode (fx_cc mq_MO_copyPicture) 109 = .ok (.getfield 56, 3) := by decide +kernel
theorem dq_MO_copyPicture_112 : decode (fx_cc mq_MO_copyPicture) 112 = .ok (.iload_n 2, 1) := by decide +kernel
theorem dq_MO_copyPicture_113 : decode (fx_cc mq_MO_copyPicture) 113 = .ok (.aload_n 0, 1) := by decide +kernel
theorem dq_MO_copyPicture_114 : decode (fx_cc mq_MO_copyPicture) 114 = .ok (.getfield 56, 3) := by decide +kernel
theorem dq_MO_copyPicture_117 : decode (fx_cc mq_MO_copyPicture) 117 = .ok (.iload_n 1, 1) := by decide +kernel
theorem dq_MO_copyPicture_118 : decode (fx_cc mq_MO_copyPicture) 118 = .ok (.iaload, 1) := by decide +kernel
theorem dq_MO_copyPicture_119 : decode (fx_cc mq_MO_copyPicture) 119 = .ok (.iastore, 1) := by decide +kernel
theorem dq_MO_copyPicture_120 : decode (fx_cc mq_MO_copyPicture) 120 = .ok (.iconst 0, 1) := by decide +kernel
theorem dq_MO_copyPicture_121 : decode (fx_cc mq_MO_copyPicture) 121 = .ok (.istore_n 3, 1) := by decide +kernel
theorem dq_MO_copyPicture_122 : decode (fx_cc mq_MO_copyPicture) 122 = .ok (.iload_n 3, 1) := by decide +kernel
theorem dq_MO_copyPicture_123 : decode (fx_cc mq_MO_copyPicture) 123 = .ok (.bipush 96, 2) := by decide +kernel
theorem dq_MO_copyPicture_125 : decode (fx_cc mq_MO_copyPicture) 125 = .ok (.if_icmp .ge 31, 3) := by decide +kernel
theorem dq_MO_copyPicture_128 : decode (fx_cc mq_MO_copyPicture) 128 = .ok (.aload_n 0, 1) := by decide +kernel
theorem dq_MO_copyPicture_129 : decode (fx_cc mq_MO_copyPicture) 129 = .ok (.getfield 59, 3) := by decide +kernel
theorem dq_MO_copyPicture_132 : decode (fx_cc mq_MO_copyPicture) 132 = .ok (.bipush 96, 2) := by decide +kernel
theorem dq_MO_copyPicture_134 : decode (fx_cc mq_MO_copyPicture) 134 = .ok (.iload_n 2, 1) := by decide +kernel
theorem dq_MO_copyPicture_135 : decode (fx_cc mq_MO_copyPicture) 135 = .ok (.imul, 1) := by decide +kernel
theorem dq_MO_copyPicture_136 : decode (fx_cc mq_MO_copyPicture) 136 = .ok (.iload_n 3, 1) := by decide +kernel
theorem dq_MO_copyPicture_137 : decode (fx_cc mq_MO_copyPicture) 137 = .ok (.iadd, 1) := by decide +kernel
theorem dq_MO_copyPicture_138 : decode (fx_cc mq_MO_copyPicture) 138 = .ok (.aload_n 0, 1) := by decide +kernel
theorem dq_MO_copyPicture_139 : decode (fx_cc mq_MO_copyPicture) 139 = .ok (.getfield 59, 3) := by decide +kernel
theorem dq_MO_copyPicture_142 : decode (fx_cc mq_MO_copyPicture) 142 = .ok (.bipush 96, 2) := by decide +kernel
theorem dq_MO_copyPicture_144 : decode (fx_cc mq_MO_copyPicture) 144 = .ok (.iload_n 1, 1) := by decide +kernel
theorem dq_MO_copyPicture_145 : decode (fx_cc mq_MO_copyPicture) 145 = .ok (.imul, 1) := by decide +kernel
theorem dq_MO_copyPicture_146 : decode (fx_cc mq_MO_copyPicture) 146 = .ok (.iload_n 3, 1) := by decide +kernel
theorem dq_MO_copyPicture_147 : decode (fx_cc mq_MO_copyPicture) 147 = .ok (.iadd, 1) := by decide +kernel
theorem dq_MO_copyPicture_148 : decode (fx_cc mq_MO_copyPicture) 148 = .ok (.iaload, 1) := by decide +kernel
theorem dq_MO_copyPicture_149 : decode (fx_cc mq_MO_copyPicture) 149 = .ok (.iastore, 1) := by decide +kernel
theorem dq_MO_copyPicture_150 : decode (fx_cc mq_MO_copyPicture) 150 = .ok (.iinc 3 1, 3) := by decide +kernel
theorem dq_MO_copyPicture_153 : decode (fx_cc mq_MO_copyPicture) 153 = .ok (.goto (-31), 3) := by decide +kernel
theorem dq_MO_copyPicture_156 : decode (fx_cc mq_MO_copyPicture) 156 = .ok (.return_, 1) := by decide +kernel
theorem dq_MO_draw_0 : decode (fx_cc mq_MO_draw) 0 = .ok (.aload_n 0, 1) := by decide +kernel
theorem dq_MO_draw_1 : decode (fx_cc mq_MO_draw) 1 = .ok (.iload_n 1, 1) := by decide +kernel
theorem dq_MO_draw_2 : decode (fx_cc mq_MO_draw) 2 = .ok (.iconst 0, 1) := by decide +kernel
theorem dq_MO_draw_3 : decode (fx_cc mq_MO_draw) 3 = .ok (.sipush 200, 3) := by decide +kernel
theorem dq_MO_draw_6 : decode (fx_cc mq_MO_draw) 6 = .ok (.invokestatic 129, 3) := by decide +kernel
theorem dq_MO_draw_9 : decode (fx_cc mq_MO_draw) 9 = .ok (.ifCond .eq 7, 3) := by decide +kernel
theorem dq_MO_draw_12 : decode (fx_cc mq_MO_draw) 12 = .ok (.iconst 0, 1) := by decide +kernel
theorem dq_MO_draw_13 : decode (fx_cc mq_MO_draw) 13 = .ok (.goto 4, 3) := by decide +kernel
theorem dq_MO_draw_16 : decode (fx_cc mq_MO_draw) 16 = .ok (.iconst 1, 1) := by decide +kernel
theorem dq_MO_draw_17 : decode (fx_cc mq_MO_draw) 17 = .ok (.putfield 126, 3) := by decide +kernel
theorem dq_MO_draw_20 : decode (fx_cc mq_MO_draw) 20 = .ok (.aload_n 0, 1) := by decide +kernel
theorem dq_MO_draw_21 : decode (fx_cc mq_MO_draw) 21 = .ok (.getfield 126, 3) := by decide +kernel
theorem dq_MO_draw_24 : decode (fx_cc mq_MO_draw) 24 = .ok (.ifCond .eq 5, 3) := by decide +kernel
theorem dq_MO_draw_27 : decode (fx_cc mq_MO_draw) 27 = .ok (.iconst 0, 1) := by decide +kernel
theorem dq_MO_draw_28 : decode (fx_cc mq_MO_draw) 28 = .ok (.ireturn, 1) := by decide +kernel
theorem dq_MO_draw_29 : decode (fx_cc mq_MO_draw) 29 = .ok (.aload_n 0, 1) := by decide +kernel
theorem dq_MO_draw_30 : decode (fx_cc mq_MO_draw) 30 = .ok (.getfield 216, 3) := by decide +kernel
theorem dq_MO_draw_33 : decode (fx_cc mq_MO_draw) 33 = .ok (.ifCond .ne 26, 3) := by decide +kernel
theorem dq_MO_draw_36 : decode (fx_cc mq_MO_draw) 36 = .ok (.iload_n 1, 1) := by decide +kernel
theorem dq_MO_draw_37 : decode (fx_cc mq_MO_draw) 37 = .ok (.ifCond .le 22, 3) := by decide +kernel
theorem dq_MO_draw_40 : decode (fx_cc mq_MO_draw) 40 = .ok (.aload_n 0, 1) := by decide +kernel
theorem dq_MO_draw_41 : decode (fx_cc mq_MO_draw) 41 = .ok (.getfield 164, 3) := by decide +kernel
theorem dq_MO_draw_44 : decode (fx_cc mq_MO_draw) 44 = .ok (.aload_n 0, 1) := by decide +kernel
theorem dq_MO_draw_45 : decode (fx_cc mq_MO_draw) 45 = .ok (.getfield 167, 3) := by decide +kernel
theorem dq_MO_draw_48 : decode (fx_cc mq_MO_draw) 48 = .ok (.if_icmp .le 11, 3) := by decide +kernel
theorem dq_MO_draw_51 : decode (fx_cc mq_MO_draw) 51 = .ok (.aload_n 0, 1) := by decide +kernel
theorem dq_MO_draw_52 : decode (fx_cc mq_MO_draw) 52 = .ok (.invokevirtual 241, 3) := by decide +kernel
theorem dq_MO_draw_55 : decode (fx_cc mq_MO_draw) 55 = .ok (.aload_n 0, 1) := by decide +kernel
theorem dq_MO_draw_56 : decode (fx_cc mq_MO_draw) 56 = .ok (.invokevirtual 238, 3) := by decide +kernel
theorem dq_MO_draw_59 : decode (fx_cc mq_MO_draw) 59 = .ok (.iconst 0, 1) := by decide +kernel
theorem dq_MO_draw_60 : decode (fx_cc mq_MO_draw) 60 = .ok (.istore_n 2, 1) := by decide +kernel
theorem dq_MO_draw_61 : decode (fx_cc mq_MO_draw) 61 = .ok (.iload_n 2, 1) := by decide +kernel
theorem dq_MO_draw_62 : decode (fx_cc mq_MO_draw) 62 = .ok (.iload_n 1, 1) := by decide +kernel
theorem dq_MO_draw_63 : decode (fx_cc mq_MO_draw) 63 = .ok (.if_icmp .ge 21, 3) := by decide +kernel
theorem dq_MO_draw_66 : decode (fx_cc mq_MO_draw) 66 = .ok (.aload_n 0, 1) := by decide +kernel
theorem dq_MO_draw_67 : decode (fx_cc mq_MO_draw) 67 = .ok (.getfield 216, 3) := by decide +kernel
theorem dq_MO_draw_70 : decode (fx_cc mq_MO_draw) 70 = .ok (.iconst 1, 1) := by decide +kernel
theorem dq_MO_draw_71 : decode (fx_cc mq_MO_draw) 71 = .ok (.if_icmp .ne 13, 3) := by decide +kernel
theorem dq_MO_draw_74 : decode (fx_cc mq_MO_draw) 74 = .ok (.aload_n 0, 1) := by decide +kernel
theorem dq_MO_draw_75 : decode (fx_cc mq_MO_draw) 75 = .ok (.invokevirtual 244, 3) := by decide +kernel
theorem dq_MO_draw_78 : decode (fx_cc mq_MO_draw) 78 = .ok (.iinc 2 1, 3) := by decide +kernel
theorem dq_MO_draw_81 : decode (fx_cc mq_MO_draw) 81 = .ok (.goto (-20), 3) := by decide +kernel
theorem dq_MO_draw_84 : decode (fx_cc mq_MO_draw) 84 = .ok (.iload_n 2, 1) := by decide +kernel
theorem dq_MO_draw_85 : decode (fx_cc mq_MO_draw) 85 = .ok (.ireturn, 1) := by decide +kernel
theorem dq_MO_begin_0 : decode (fx_cc mq_MO_begin) 0 = .ok (.iconst 0, 1) := by decide +kernel
theorem dq_MO_begin_1 : decode (fx_cc mq_MO_begin) 1 = .ok (.istore_n 1, 1) := by decide +kernel
theorem dq_MO_begin_2 : decode (fx_cc mq_MO_begin) 2 = .ok (.iload_n 1, 1) := by decide +kernel
theorem dq_MO_begin_3 : decode (fx_cc mq_MO_begin) 3 = .ok (.bipush 10, 2) := by decide +kernel
theorem dq_MO_begin_5 : decode (fx_cc mq_MO_begin) 5 = .ok (.if_icmp .ge 81, 3) := by decide +kernel
theorem dq_MO_begin_8 : decode (fx_cc mq_MO_begin) 8 = .ok (.aload_n 0, 1) := by decide +kernel
theorem dq_MO_begin_9 : decode (fx_cc mq_MO_begin) 9 = .ok (.bipush 20, 2) := by decide +kernel
theorem dq_MO_begin_11 : decode (fx_cc mq_MO_begin) 11 = .ok (.iload_n 1, 1) := by decide +kernel
theorem dq_MO_begin_12 : decode (fx_cc mq_MO_begin) 12 = .ok (.iadd, 1) := by decide +kernel
theorem dq_MO_begin_13 : decode (fx_cc mq_MO_begin) 13 = .ok (.invokevirtual 204, 3) := by decide +kernel
theorem dq_MO_begin_16 : decode (fx_cc mq_MO_begin) 16 = .ok (.aload_n 0, 1) := by decide +kernel
theorem dq_MO_begin_17 : decode (fx_cc mq_MO_begin) 17 = .ok (.getfield 105, 3) := by decide +kernel
theorem dq_MO_begin_20 : decode (fx_cc mq_MO_begin) 20 = .ok (.iload_n 1, 1) := by decide +kernel
theorem dq_MO_begin_21 : decode (fx_cc mq_MO_begin) 21 = .ok (.aload_n 0, 1) := by decide +kernel
theorem dq_MO_begin_22 : decode (fx_cc mq_MO_begin) 22 = .ok (.iload_n 1, 1) := by decide +kernel
theorem dq_MO_begin_23 : decode (fx_cc mq_MO_begin) 23 = .ok (.invokevirtual 207, 3) := by decide +kernel
theorem dq_MO_begin_26 : decode (fx_cc mq_MO_begin) 26 = .ok (.bastore, 1) := by decide +kernel
theorem dq_MO_begin_27 : decode (fx_cc mq_MO_begin) 27 = .ok (.aload_n 0, 1) := by decide +kernel
theorem dq_MO_begin_28 : decode (fx_cc mq_MO_begin) 28 = .ok (.getfield 93, 3) := by decide +kernel
theorem dq_MO_begin_31 : decode (fx_cc mq_MO_begin) 31 = .ok (.iload_n 1, 1) := by decide +kernel
theorem dq_MO_begin_32 : decode (fx_cc mq_MO_begin) 32 = .ok (.aload_n 0, 1) := by decide +kernel
theorem dq_MO_begin_33 : decode (fx_cc mq_MO_begin) 33 = .ok (.getfield 141, 3) := by decide +kernel
theorem dq_MO_begin_36 : decode (fx_cc mq_MO_begin) 36 = .ok (.iastore, 1) := by decide +kernel
theorem dq_MO_begin_37 : decode (fx_cc mq_MO_begin) 37 = .ok (.aload_n 0, 1) := by decide +kernel
theorem dq_MO_begin_38 : decode (fx_cc mq_MO_begin) 38 = .ok (.getfield 96, 3) := by decide +kernel
theorem dq_MO_begin_41 : decode (fx_cc mq_MO_begin) 41 = .ok (.iload_n 1, 1) := by decide +kernel
theorem dq_MO_begin_42 : decode (fx_cc mq_MO_begin) 42 = .ok (.aload_n 0, 1) := by decide +kernel
theorem dq_MO_begin_43 : decode (fx_cc mq_MO_begin) 43 = .ok (.getfield 147, 3) := by decide +kernel
theorem dq_MO_begin_46 : decode (fx_cc mq_MO_begin) 46 = .ok (.iastore, 1) := by decide +kernel
theorem dq_MO_begin_47 : decode (fx_cc mq_MO_begin) 47 = .ok (.aload_n 0, 1) := by decide +kernel
theorem dq_MO_begin_48 : decode (fx_cc mq_MO_begin) 48 = .ok (.getfield 99, 3) := by decide +kernel
theorem dq_MO_begin_51 : decode (fx_cc mq_MO_begin) 51 = .ok (.iload_n 1, 1) := by decide +kernel
theorem dq_MO_begin_52 : decode (fx_cc mq_MO_begin) 52 = .ok (.aload_n 0, 1) := by decide +kernel
theorem dq_MO_begin_53 : decode (fx_cc mq_MO_begin) 53 = .ok (.getfield 105, 3) := by decide +kernel
theorem dq_MO_begin_56 : decode (fx_cc mq_MO_begin) 56 = .ok (.iload_n 1, 1) := by decide +kernel
theorem dq_MO_begin_57 : decode (fx_cc mq_MO_begin) 57 = .ok (.baload, 1) := by decide +kernel
theorem dq_MO_begin_58 : decode (fx_cc mq_MO_begin) 58 = .ok (.ifCond .eq 7, 3) := by decide +kernel
theorem dq_MO_begin_61 : decode (fx_cc mq_MO_begin) 61 = .ok (.iconst 0, 1) := by decide +kernel
theorem dq_MO_begin_62 : decode (fx_cc mq_MO_begin) 62 = .ok (.goto 7, 3) := by decide +kernel
theorem dq_MO_begin_65 : decode (fx_cc mq_MO_begin) 65 = .ok (.aload_n 0, 1) := by decide +kernel
theorem dq_MO_begin_66 : decode (fx_cc mq_MO_begin) 66 = .ok (.getfield 144, 3) := by decide +kernel
theorem dq_MO_begin_69 : decode (fx_cc mq_MO_begin) 69 = .ok (.iastore, 1) := by decide +kernel
theorem dq_MO_begin_70 : decode (fx_cc mq_MO_begin) 70 = .ok (.aload_n 0, 1) := by decide +kernel
theorem dq_MO_begin_71 : decode (fx_cc mq_MO_begin) 71 = .ok (.getfield 102, 3) := by decide +kernel
theorem dq_MO_begin_74 : decode (fx_cc mq_MO_begin) 74 = .ok (.iload_n 1, 1) := by decide +kernel
theorem dq_MO_begin_75 : decode (fx_cc mq_MO_begin) 75 = .ok (.aload_n 0, 1) := by decide +kernel
theorem dq_MO_begin_76 : decode (fx_cc mq_MO_begin) 76 = .ok (.getfield 150, 3) := by decide +kernel
theorem dq_MO_begin_79 : decode (fx_cc mq_MO_begin) 79 = .ok (.iastore, 1) := by decide +kernel
theorem dq_MO_begin_80 : decode (fx_cc mq_MO_begin) 80 = .ok (.iinc 1 1, 3) := by decide +kernel
theorem dq_MO_begin_83 : decode (fx_cc mq_MO_begin) 83 = .ok (.goto (-81), 3) := by decide +kernel
theorem dq_MO_begin_86 : decode (fx_cc mq_MO_begin) 86 = .ok (.iconst 0, 1) := by decide +kernel
theorem dq_MO_begin_87 : decode (fx_cc mq_MO_begin) 87 = .ok (.istore_n 1, 1) := by decide +kernel
theorem dq_MO_begin_88 : decode (fx_cc mq_MO_begin) 88 = .ok (.iload_n 1, 1) := by decide +kernel
theorem dq_MO_begin_89 : decode (fx_cc mq_MO_begin) 89 = .ok (.bipush 10, 2) := by decide +kernel
theorem dq_MO_begin_91 : decode (fx_cc mq_MO_begin) 91 = .ok (.if_icmp .ge 30, 3) := by decide +kernel
theorem dq_MO_begin_94 : decode (fx_cc mq_MO_begin) 94 = .ok (.aload_n 0, 1) := by decide +kernel
theorem dq_MO_begin_95 : decode (fx_cc mq_MO_begin) 95 = .ok (.getfield 7, 3) := by decide +kernel
theorem dq_MO_begin_98 : decode (fx_cc mq_MO_begin) 98 = .ok (.iload_n 1, 1) := by decide +kernel
theorem dq_MO_begin_99 : decode (fx_cc mq_MO_begin) 99 = .ok (.baload, 1) := by decide +kernel
theorem dq_MO_begin_100 : decode (fx_cc mq_MO_begin) 100 = .ok (.ifCond .eq 15, 3) := by decide +kernel
theorem dq_MO_begin_103 : decode (fx_cc mq_MO_begin) 103 = .ok (.aload_n 0, 1) := by decide +kernel
theorem dq_MO_begin_104 : decode (fx_cc mq_MO_begin) 104 = .ok (.bipush 10, 2) := by decide +kernel
theorem dq_MO_begin_106 : decode (fx_cc mq_MO_begin) 106 = .ok (.iload_n 1, 1) := by decide +kernel
theorem dq_MO_begin_107 : decode (fx_cc mq_MO_begin) 107 = .ok (.iadd, 1) := by decide +kernel
theorem dq_MO_begin_108 : decode (fx_cc mq_MO_begin) 108 = .ok (.bipush 20, 2) := by decide +kernel
theorem dq_MO_begin_110 : decode (fx_cc mq_MO_begin) 110 = .ok (.iload_n 1, 1) := by decide +kernel
theorem dq_MO_begin_111 : decode (fx_cc mq_MO_begin) 111 = .ok (.iadd, 1) := by decide +kernel
theorem dq_MO_begin_112 : decode (fx_cc mq_MO_begin) 112 = .ok (.invokevirtual 170, 3) := by decide +kernel
theorem dq_MO_begin_115 : decode (fx_cc mq_MO_begin) 115 = .ok (.iinc 1 1, 3) := by decide +kernel
theorem dq_MO_begin_118 : decode (fx_cc mq_MO_begin) 118 = .ok (.goto (-30), 3) := by decide +kernel
theorem dq_MO_begin_121 : decode (fx_cc mq_MO_begin) 121 = .ok (.aload_n 0, 1) := by decide +kernel
theorem dq_MO_begin_122 : decode (fx_cc mq_MO_begin) 122 = .ok (.invokevirtual 210, 3) := by decide +kernel
theorem dq_MO_begin_125 : decode (fx_cc mq_MO_begin) 125 = .ok (.iconst 0, 1) := by decide +kernel
theorem dq_MO_begin_126 : decode (fx_cc mq_MO_begin) 126 = .ok (.istore_n 1, 1) := by decide +kernel
theorem dq_MO_begin_127 : decode (fx_cc mq_MO_begin) 127 = .ok (.iload_n 1, 1) := by decide +kernel
theorem dq_MO_begin_128 : decode (fx_cc mq_MO_begin) 128 = .ok (.bipush 10, 2) := by decide +kernel
theorem dq_MO_begin_130 : decode (fx_cc mq_MO_begin) 130 = .ok (.if_icmp .ge 126, 3) := by decide +kernel
theorem dq_MO_begin_133 : decode (fx_cc mq_MO_begin) 133 = .ok (.aload_n 0, 1) := by decide +kernel
theorem dq_MO_begin_134 : decode (fx_cc mq_MO_begin) 134 = .ok (.getfield 7, 3) := by decide +kernel
theorem dq_MO_begin_137 : decode (fx_cc mq_MO_begin) 137 = .ok (.iload_n 1, 1) := by decide +kernel
theorem dq_MO_begin_138 : decode (fx_cc mq_MO_begin) 138 = .ok (.baload, 1) := by decide +kernel
theorem dq_MO_begin_139 : decode (fx_cc mq_MO_begin) 139 = .ok (.ifCond .eq 17, 3) := by decide +kernel
theorem dq_MO_begin_142 : decode (fx_cc mq_MO_begin) 142 = .ok (.aload_n 0, 1) := by decide +kernel
theorem dq_MO_begin_143 : decode (fx_cc mq_MO_begin) 143 = .ok (.getfield 65, 3) := by decide +kernel
theorem dq_MO_begin_146 : decode (fx_cc mq_MO_begin) 146 = .ok (.aload_n 0, 1) := by decide +kernel
theorem dq_MO_begin_147 : decode (fx_cc mq_MO_begin) 147 = .ok (.getfield 13, 3) := by decide +kernel
theorem dq_MO_begin_150 : decode (fx_cc mq_MO_begin) 150 = .ok (.iload_n 1, 1) := by decide +kernel
theorem dq_MO_begin_151 : decode (fx_cc mq_MO_begin) 151 = .ok (.iaload, 1) := by decide +kernel
theorem dq_MO_begin_152 : decode (fx_cc mq_MO_begin) 152 = .ok (.baload, 1) := by decide +kernel
theorem dq_MO_begin_153 : decode (fx_cc mq_MO_begin) 153 = .ok (.ifCond .ne 17, 3) := by decide +kernel
theorem dq_MO_begin_156 : decode (fx_cc mq_MO_begin) 156 = .ok (.aload_n 0, 1) := by decide +kernel
theorem dq_MO_begin_157 : decode (fx_cc mq_MO_begin) 157 = .ok (.getfield 105, 3) := by decide +kernel
theorem dq_MO_begin_160 : decode (fx_cc mq_MO_begin) 160 = .ok (.iload_n 1, 1) := by decide +kernel
theorem dq_MO_begin_161 : decode (fx_cc mq_MO_begin) 161 = .ok (.baload, 1) := by decide +kernel
theorem dq_MO_begin_162 : decode (fx_cc mq_MO_begin) 162 = .ok (.aload_n 0, 1) := by decide +kernel
theorem dq_MO_begin_163 : decode (fx_cc mq_MO_begin) 163 = .ok (.iload_n 1, 1) := by decide +kernel
theorem dq_MO_begin_164 : decode (fx_cc mq_MO_begin) 164 = .ok (.invokevirtual 207, 3) := by decide +kernel
theorem dq_MO_begin_167 : decode (fx_cc mq_MO_begin) 167 = .ok (.if_icmp .eq 7, 3) := by decide +kernel
theorem dq_MO_begin_170 : decode (fx_cc mq_MO_begin) 170 = .ok (.iconst 1, 1) := by decide +kernel
theorem dq_MO_begin_171 : decode (fx_cc mq_MO_begin) 171 = .ok (.goto 4, 3) := by decide +kernel
theorem dq_MO_begin_174 : decode (fx_cc mq_MO_begin) 174 = .ok (.iconst 0, 1) := by decide +kernel
theorem dq_MO_begin_175 : decode (fx_cc mq_MO_begin) 175 = .ok (.istore_n 2, 1) := by decide +kernel
theorem dq_MO_begin_176 : decode (fx_cc mq_MO_begin) 176 = .ok (.iload_n 2, 1) := by decide +kernel
theorem dq_MO_begin_177 : decode (fx_cc mq_MO_begin) 177 = .ok (.ifCond .ne 6, 3) := by decide +kernel
theorem dq_MO_begin_180 : decode (fx_cc mq_MO_begin) 180 = .ok (.goto 70, 3) := by decide +kernel
theorem dq_MO_begin_183 : decode (fx_cc mq_MO_begin) 183 = .ok (.aload_n 0, 1) := by decide +kernel
theorem dq_MO_begin_184 : decode (fx_cc mq_MO_begin) 184 = .ok (.aload_n 0, 1) := by decide +kernel
theorem dq_MO_begin_185 : decode (fx_cc mq_MO_begin) 185 = .ok (.getfield 93, 3) := by decide +kernel
theorem dq_MO_begin_188 : decode (fx_cc mq_MO_begin) 188 = .ok (.iload_n 1, 1) := by decide +kernel
theorem dq_MO_begin_189 : decode (fx_cc mq_MO_begin) 189 = .ok (.iaload, 1) := by decide +kernel
theorem dq_MO_begin_190 : decode (fx_cc mq_MO_begin) 190 = .ok (.putfield 141, 3) := by decide +kernel
theorem dq_MO_begin_193 : decode (fx_cc mq_MO_begin) 193 = .ok (.aload_n 0, 1) := by decide +kernel
theorem dq_MO_begin_194 : decode (fx_cc mq_MO_begin) 194 = .ok (.aload_n 0, 1) := by decide +kernel
theorem dq_MO_begin_195 : decode (fx_cc mq_MO_begin) 195 = .ok (.getfield 96, 3) := by decide +kernel
theorem dq_MO_begin_198 : decode (fx_cc mq_MO_begin) 198 = .ok (.iload_n 1, 1) := by decide +kernel
theorem dq_MO_begin_199 : decode (fx_cc mq_MO_begin) 199 = .ok (.iaload, 1) := by decide +kernel
theorem dq_MO_begin_200 : decode (fx_cc mq_MO_begin) 200 = .ok (.putfield 147, 3) := by decide +kernel
theorem dq_MO_begin_203 : decode (fx_cc mq_MO_begin) 203 = .ok (.aload_n 0, 1) := by decide +kernel
theorem dq_MO_begin_204 : decode (fx_cc mq_MO_begin) 204 = .ok (.aload_n 0, 1) := by decide +kernel
theorem dq_MO_begin_205 : decode (fx_cc mq_MO_begin) 205 = .ok (.getfield 99, 3) := by decide +kernel
theorem dq_MO_begin_208 : decode (fx_cc mq_MO_begin) 208 = .ok (.iload_n 1, 1) := by decide +kernel
theorem dq_MO_begin_209 : decode (fx_cc mq_MO_begin) 209 = .ok (.iaload, 1) := by decide +kernel
theorem dq_MO_begin_210 : decode (fx_cc mq_MO_begin) 210 = .ok (.putfield 144, 3) := by decide +kernel
theorem dq_MO_begin_213 : decode (fx_cc mq_MO_begin) 213 = .ok (.aload_n 0, 1) := by decide +kernel
theorem dq_MO_begin_214 : decode (fx_cc mq_MO_begin) 214 = .ok (.aload_n 0, 1) := by decide +kernel
theorem dq_MO_begin_215 : decode (fx_cc mq_MO_begin) 215 = .ok (.getfield 102, 3) := by decide +kernel
theorem dq_MO_begin_218 : decode (fx_cc mq_MO_begin) 218 = .ok (.iload_n 1, 1) := by decide +kernel
theorem dq_MO_begin_219 : decode (fx_cc mq_MO_begin) 219 = .ok (.iaload, 1) := by decide +kernel
theorem dq_MO_begin_220 : decode (fx_cc mq_MO_begin) 220 = .ok (.putfield 150, 3) := by decide +kernel
theorem dq_MO_begin_223 : decode (fx_cc mq_MO_begin) 223 = .ok (.aload_n 0, 1) := by decide +kernel
theorem dq_MO_begin_224 : decode (fx_cc mq_MO_begin) 224 = .ok (.invokevirtual 213, 3) := by decide +kernel
theorem dq_MO_begin_227 : decode (fx_cc mq_MO_begin) 227 = .ok (.aload_n 0, 1) := by decide +kernel
theorem dq_MO_begin_228 : decode (fx_cc mq_MO_begin) 228 = .ok (.iload_n 1, 1) := by decide +kernel
theorem dq_MO_begin_229 : decode (fx_cc mq_MO_begin) 229 = .ok (.invokevirtual 207, 3) := by decide +kernel
theorem dq_MO_begin_232 : decode (fx_cc mq_MO_begin) 232 = .ok (.ifCond .eq 6, 3) := by decide +kernel
theorem dq_MO_begin_235 : decode (fx_cc mq_MO_begin) 235 = .ok (.goto 15, 3) := by decide +kernel
theorem dq_MO_begin_238 : decode (fx_cc mq_MO_begin) 238 = .ok (.aload_n 0, 1) := by decide +kernel
theorem dq_MO_begin_239 : decode (fx_cc mq_MO_begin) 239 = .ok (.bipush 20, 2) := by decide +kernel
theorem dq_MO_begin_241 : decode (fx_cc mq_MO_begin) 241 = .ok (.iload_n 1, 1) := by decide +kernel
theorem dq_MO_begin_242 : decode (fx_cc mq_MO_begin) 242 = .ok (.iadd, 1) := by decide +kernel
theorem dq_MO_begin_243 : decode (fx_cc mq_MO_begin) 243 = .ok (.invokevirtual 204, 3) := by decide +kernel
theorem dq_MO_begin_246 : decode (fx_cc mq_MO_begin) 246 = .ok (.aload_n 0, 1) := by decide +kernel
theorem dq_MO_begin_247 : decode (fx_cc mq_MO_begin) 247 = .ok (.invokevirtual 213, 3) := by decide +kernel
theorem dq_MO_begin_250 : decode (fx_cc mq_MO_begin) 250 = .ok (.iinc 1 1, 3) := by decide +kernel
theorem dq_MO_begin_253 : decode (fx_cc mq_MO_begin) 253 = .ok (.goto (-126), 3) := by decide +kernel
theorem dq_MO_begin_256 : decode (fx_cc mq_MO_begin) 256 = .ok (.iconst 0, 1) := by decide +kernel
theorem dq_MO_begin_257 : decode (fx_cc mq_MO_begin) 257 = .ok (.istore_n 1, 1) := by decide +kernel
theorem dq_MO_begin_258 : decode (fx_cc mq_MO_begin) 258 = .ok (.iload_n 1, 1) := by decide +kernel
theorem dq_MO_begin_259 : decode (fx_cc mq_MO_begin) 259 = .ok (.bipush 10, 2) := by decide +kernel
theorem dq_MO_begin_261 : decode (fx_cc mq_MO_begin) 261 = .ok (.if_icmp .ge 57, 3) := by decide +kernel
theorem dq_MO_begin_264 : decode (fx_cc mq_MO_begin) 264 = .ok (.aload_n 0, 1) := by decide +kernel
theorem dq_MO_begin_265 : decode (fx_cc mq_MO_begin) 265 = .ok (.getfield 7, 3) := by decide +kernel
theorem dq_MO_begin_268 : decode (fx_cc mq_MO_begin) 268 = .ok (.iload_n 1, 1) := by decide +kernel
theorem dq_MO_begin_269 : decode (fx_cc mq_MO_begin) 269 = .ok (.baload, 1) := by decide +kernel
theorem dq_MO_begin_270 : decode (fx_cc mq_MO_begin) 270 = .ok (.ifCond .eq 42, 3) := by decide +kernel
theorem dq_MO_begin_273 : decode (fx_cc mq_MO_begin) 273 = .ok (.aload_n 0, 1) := by decide +kernel
theorem dq_MO_begin_274 : decode (fx_cc mq_MO_begin) 274 = .ok (.getfield 26, 3) := by decide +kernel
theorem dq_MO_begin_277 : decode (fx_cc mq_MO_begin) 277 = .ok (.iload_n 1, 1) := by decide +kernel
theorem dq_MO_begin_278 : decode (fx_cc mq_MO_begin) 278 = .ok (.baload, 1) := by decide +kernel
theorem dq_MO_begin_279 : decode (fx_cc mq_MO_begin) 279 = .ok (.ifCond .ne 6, 3) := by decide +kernel
theorem dq_MO_begin_282 : decode (fx_cc mq_MO_begin) 282 = .ok (.goto 30, 3) := by decide +kernel
theorem dq_MO_begin_285 : decode (fx_cc mq_MO_begin) 285 = .ok (.aload_n 0, 1) := by decide +kernel
theorem dq_MO_begin_286 : decode (fx_cc mq_MO_begin) 286 = .ok (.getfield 7, 3) := by decide +kernel
theorem dq_MO_begin_289 : decode (fx_cc mq_MO_begin) 289 = .ok (.iload_n 1, 1) := by decide +kernel
theorem dq_MO_begin_290 : decode (fx_cc mq_MO_begin) 290 = .ok (.iconst 0, 1) := by decide +kernel
theorem dq_MO_begin_291 : decode (fx_cc mq_MO_begin) 291 = .ok (.bastore, 1) := by decide +kernel
theorem dq_MO_begin_292 : decode (fx_cc mq_MO_begin) 292 = .ok (.aload_n 0, 1) := by decide +kernel
theorem dq_MO_begin_293 : decode (fx_cc mq_MO_begin) 293 = .ok (.getfield 29, 3) := by decide +kernel
theorem dq_MO_begin_296 : decode (fx_cc mq_MO_begin) 296 = .ok (.bipush 10, 2) := by decide +kernel
theorem dq_MO_begin_298 : decode (fx_cc mq_MO_begin) 298 = .ok (.iload_n 1, 1) := by decide +kernel
theorem dq_MO_begin_299 : decode (fx_cc mq_MO_begin) 299 = .ok (.iadd, 1) := by decide +kernel
theorem dq_MO_begin_300 : decode (fx_cc mq_MO_begin) 300 = .ok (.iconst 0, 1) := by decide +kernel
theorem dq_MO_begin_301 : decode (fx_cc mq_MO_begin) 301 = .ok (.bastore, 1) := by decide +kernel
theorem dq_MO_begin_302 : decode (fx_cc mq_MO_begin) 302 = .ok (.aload_n 0, 1) := by decide +kernel
theorem dq_MO_begin_303 : decode (fx_cc mq_MO_begin) 303 = .ok (.getfield 29, 3) := by decide +kernel
theorem dq_MO_begin_306 : decode (fx_cc mq_MO_begin) 306 = .ok (.bipush 20, 2) := by decide +kernel
theorem dq_MO_begin_308 : decode (fx_cc mq_MO_begin) 308 = .ok (.iload_n 1, 1) := by decide +kernel
theorem dq_MO_begin_309 : decode (fx_cc mq_MO_begin) 309 = .ok (.iadd, 1) := by decide +kernel
theorem dq_MO_begin_310 : decode (fx_cc mq_MO_begin) 310 = .ok (.iconst 0, 1) := by decide +kernel
theorem dq_MO_begin_311 : decode (fx_cc mq_MO_begin) 311 = .ok (.bastore, 1) := by decide +kernel
theorem dq_MO_begin_312 : decode (fx_cc mq_MO_begin) 312 = .ok (.iinc 1 1, 3) := by decide +kernel
theorem dq_MO_begin_315 : decode (fx_cc mq_MO_begin) 315 = .ok (.goto (-57), 3) := by decide +kernel
theorem dq_MO_begin_318 : decode (fx_cc mq_MO_begin) 318 = .ok (.iconst 0, 1) := by decide +kernel
theorem dq_MO_begin_319 : decode (fx_cc mq_MO_begin) 319 = .ok (.istore_n 1, 1) := by decide +kernel
theorem dq_MO_begin_320 : decode (fx_cc mq_MO_begin) 320 = .ok (.iload_n 1, 1) := by decide +kernel
theorem dq_MO_begin_321 : decode (fx_cc mq_MO_begin) 321 = .ok (.iconst 4, 1) := by decide +kernel
theorem dq_MO_begin_322 : decode (fx_cc mq_MO_begin) 322 = .ok (.if_icmp .ge 16, 3) := by decide +kernel
theorem dq_MO_begin_325 : decode (fx_cc mq_MO_begin) 325 = .ok (.aload_n 0, 1) := by decide +kernel
theorem dq_MO_begin_326 : decode (fx_cc mq_MO_begin) 326 = .ok (.getfield 65, 3) := by decide +kernel
theorem dq_MO_begin_329 : decode (fx_cc mq_MO_begin) 329 = .ok (.iload_n 1, 1) := by decide +kernel
theorem dq_MO_begin_330 : decode (fx_cc mq_MO_begin) 330 = .ok (.iconst 0, 1) := by decide +kernel
theorem dq_MO_begin_331 : decode (fx_cc mq_MO_begin) 331 = .ok (.bastore, 1) := by decide +kernel
theorem dq_MO_begin_332 : decode (fx_cc mq_MO_begin) 332 = .ok (.iinc 1 1, 3) := by decide +kernel
theorem dq_MO_begin_335 : decode (fx_cc mq_MO_begin) 335 = .ok (.goto (-15), 3) := by decide +kernel
theorem dq_MO_begin_338 : decode (fx_cc mq_MO_begin) 338 = .ok (.aload_n 0, 1) := by decide +kernel
theorem dq_MO_begin_339 : decode (fx_cc mq_MO_begin) 339 = .ok (.aload_n 0, 1) := by decide +kernel
theorem dq_MO_begin_340 : decode (fx_cc mq_MO_begin) 340 = .ok (.getfield 164, 3) := by decide +kernel
theorem dq_MO_begin_343 : decode (fx_cc mq_MO_begin) 343 = .ok (.putfield 167, 3) := by decide +kernel
theorem dq_MO_begin_346 : decode (fx_cc mq_MO_begin) 346 = .ok (.aload_n 0, 1) := by decide +kernel
theorem dq_MO_begin_347 : decode (fx_cc mq_MO_begin) 347 = .ok (.iconst 1, 1) := by decide +kernel
theorem dq_MO_begin_348 : decode (fx_cc mq_MO_begin) 348 = .ok (.putfield 216, 3) := by decide +kernel
theorem dq_MO_begin_351 : decode (fx_cc mq_MO_begin) 351 = .ok (.aload_n 0, 1) := by decide +kernel
theorem dq_MO_begin_352 : decode (fx_cc mq_MO_begin) 352 = .ok (.iconst 0, 1) := by decide +kernel
theorem dq_MO_begin_353 : decode (fx_cc mq_MO_begin) 353 = .ok (.putfield 219, 3) := by decide +kernel
theorem dq_MO_begin_356 : decode (fx_cc mq_MO_begin) 356 = .ok (.aload_n 0, 1) := by decide +kernel
theorem dq_MO_begin_357 : decode (fx_cc mq_MO_begin) 357 = .ok (.iconst 0, 1) := by decide +kernel
theorem dq_MO_begin_358 : decode (fx_cc mq_MO_begin) 358 = .ok (.putfield 222, 3) := by decide +kernel
theorem dq_MO_begin_361 : decode (fx_cc mq_MO_begin) 361 = .ok (.return_, 1) := by decide +kernel
theorem dq_MO_show_0 : decode (fx_cc mq_MO_show) 0 = .ok (.aload_n 0, 1) := by decide +kernel
theorem dq_MO_show_1 : decode (fx_cc mq_MO_show) 1 = .ok (.getfield 29, 3) := by decide +kernel
theorem dq_MO_show_4 : decode (fx_cc mq_MO_show) 4 = .ok (.iload_n 1, 1) := by decide +kernel
theorem dq_MO_show_5 : decode (fx_cc mq_MO_show) 5 = .ok (.baload, 1) := by decide +kernel
theorem dq_MO_show_6 : decode (fx_cc mq_MO_show) 6 = .ok (.ifCond .eq 12, 3) := by decide +kernel
theorem dq_MO_show_9 : decode (fx_cc mq_MO_show) 9 = .ok (.aload_n 0, 1) := by decide +kernel
theorem dq_MO_show_10 : decode (fx_cc mq_MO_show) 10 = .ok (.getfield 44, 3) := by decide +kernel
theorem dq_MO_show_13 : decode (fx_cc mq_MO_show) 13 = .ok (.iload_n 1, 1) := by decide +kernel
theorem dq_MO_show_14 : decode (fx_cc mq_MO_show) 14 = .ok (.baload, 1) := by decide +kernel
theorem dq_MO_show_15 : decode (fx_cc mq_MO_show) 15 = .ok (.ifCond .ne 14, 3) := by decide +kernel
theorem dq_MO_show_18 : decode (fx_cc mq_MO_show) 18 = .ok (.aload_n 0, 1) := by decide +kernel
theorem dq_MO_show_19 : decode (fx_cc mq_MO_show) 19 = .ok (.iconst 0, 1) := by decide +kernel
theorem dq_MO_show_20 : decode (fx_cc mq_MO_show) 20 = .ok (.putfield 144, 3) := by decide +kernel
theorem dq_MO_show_23 : decode (fx_cc mq_MO_show) 23 = .ok (.aload_n 0, 1) := by decide +kernel
theorem dq_MO_show_24 : decode (fx_cc mq_MO_show) 24 = .ok (.iconst 0, 1) := by decide +kernel
theorem dq_MO_show_25 : decode (fx_cc mq_MO_show) 25 = .ok (.putfield 150, 3) := by decide +kernel
theorem dq_MO_show_28 : decode (fx_cc mq_MO_show) 28 = .ok (.return_, 1) := by decide +kernel
theorem dq_MO_show_29 : decode (fx_cc mq_MO_show) 29 = .ok (.aload_n 0, 1) := by decide +kernel
theorem dq_MO_show_30 : decode (fx_cc mq_MO_show) 30 = .ok (.aload_n 0, 1) := by decide +kernel
theorem dq_MO_show_31 : decode (fx_cc mq_MO_show) 31 = .ok (.getfield 32, 3) := by decide +kernel
theorem dq_MO_show_34 : decode (fx_cc mq_MO_show) 34 = .ok (.iload_n 1, 1) := by decide +kernel
theorem dq_MO_show_35 : decode (fx_cc mq_MO_show) 35 = .ok (.iaload, 1) := by decide +kernel
theorem dq_MO_show_36 : decode (fx_cc mq_MO_show) 36 = .ok (.aload_n 0, 1) := by decide +kernel
theorem dq_MO_show_37 : decode (fx_cc mq_MO_show) 37 = .ok (.getfield 47, 3) := by decide +kernel
theorem dq_MO_show_40 : decode (fx_cc mq_MO_show) 40 = .ok (.iload_n 1, 1) := by decide +kernel
theorem dq_MO_show_41 : decode (fx_cc mq_MO_show) 41 = .ok (.iaload, 1) := by decide +kernel
theorem dq_MO_show_42 : decode (fx_cc mq_MO_show) 42 = .ok (.iadd, 1) := by decide +kernel
theorem dq_MO_show_43 : decode (fx_cc mq_MO_show) 43 = .ok (.putfield 141, 3) := by decide +kernel
theorem dq_MO_show_46 : decode (fx_cc mq_MO_show) 46 = .ok (.aload_n 0, 1) := by decide +kernel
theorem dq_MO_show_47 : decode (fx_cc mq_MO_show) 47 = .ok (.aload_n 0, 1) := by decide +kernel
theorem dq_MO_show_48 : decode (fx_cc mq_MO_show) 48 = .ok (.getfield 35, 3) := by decide +kernel
theorem dq_MO_show_51 : decode (fx_cc mq_MO_show) 51 = .ok (.iload_n 1, 1) := by decide +kernel
theorem dq_MO_show_52 : decode (fx_cc mq_MO_show) 52 = .ok (.iaload, 1) := by decide +kernel
theorem dq_MO_show_53 : decode (fx_cc mq_MO_show) 53 = .ok (.aload_n 0, 1) := by decide +kernel
theorem dq_MO_show_54 : decode (fx_cc mq_MO_show) 54 = .ok (.getfield 50, 3) := by decide +kernel
theorem dq_MO_show_57 : decode (fx_cc mq_MO_show) 57 = .ok (.iload_n 1, 1) := by decide +kernel
theorem dq_MO_show_58 : decode (fx_cc mq_MO_show) 58 = .ok (.iaload, 1) := by decide +kernel
theorem dq_MO_show_59 : decode (fx_cc mq_MO_show) 59 = .ok (.iadd, 1) := by decide +kernel
theorem dq_MO_show_60 : decode (fx_cc mq_MO_show) 60 = .ok (.putfield 147, 3) := by decide +kernel
theorem dq_MO_show_63 : decode (fx_cc mq_MO_show) 63 = .ok (.aload_n 0, 1) := by decide +kernel
theorem dq_MO_show_64 : decode (fx_cc mq_MO_show) 64 = .ok (.aload_n 0, 1) := by decide +kernel
theorem dq_MO_show_65 : decode (fx_cc mq_MO_show) 65 = .ok (.getfield 53, 3) := by decide +kernel
theorem dq_MO_show_68 : decode (fx_cc mq_MO_show) 68 = .ok (.iload_n 1, 1) := by decide +kernel
theorem dq_MO_show_69 : decode (fx_cc mq_MO_show) 69 = .ok (.iaload, 1) := by decide +kernel
theorem dq_MO_show_70 : decode (fx_cc mq_MO_show) 70 = .ok (.putfield 144, 3) := by decide +kernel
theorem dq_MO_show_73 : decode (fx_cc mq_MO_show) 73 = .ok (.aload_n 0, 1) := by decide +kernel
theorem dq_MO_show_74 : decode (fx_cc mq_MO_show) 74 = .ok (.aload_n 0, 1) := by decide +kernel
theorem dq_MO_show_75 : decode (fx_cc mq_MO_show) 75 = .ok (.getfield 56, 3) := by decide +kernel
theorem dq_MO_show_78 : decode (fx_cc mq_MO_show) 78 = .ok (.iload_n 1, 1) := by decide +kernel
theorem dq_MO_show_79 : decode (fx_cc mq_MO_show) 79 = .ok (.iaload, 1) := by decide +kernel
theorem dq_MO_show_80 : decode (fx_cc mq_MO_show) 80 = .ok (.putfield 150, 3) := by decide +kernel
theorem dq_MO_show_83 : decode (fx_cc mq_MO_show) 83 = .ok (.aload_n 0, 1) := by decide +kernel
theorem dq_MO_show_84 : decode (fx_cc mq_MO_show) 84 = .ok (.iconst 0, 1) := by decide +kernel
theorem dq_MO_show_85 : decode (fx_cc mq_MO_show) 85 = .ok (.iconst 0, 1) := by decide +kernel
theorem dq_MO_show_86 : decode (fx_cc mq_MO_show) 86 = .ok (.bipush 20, 2) := by decide +kernel
theorem dq_MO_show_88 : decode (fx_cc mq_MO_show) 88 = .ok (.bipush 10, 2) := by decide +kernel
theorem dq_MO_show_90 : decode (fx_cc mq_MO_show) 90 = .ok (.invokevirtual 174, 3) := by decide +kernel
theorem dq_MO_show_93 : decode (fx_cc mq_MO_show) 93 = .ok (.return_, 1) := by decide +kernel
theorem dq_MO_cut_0 : decode (fx_cc mq_MO_cut) 0 = .ok (.aload_n 0, 1) := by decide +kernel
theorem dq_MO_cut_1 : decode (fx_cc mq_MO_cut) 1 = .ok (.getfield 141, 3) := by decide +kernel
theorem dq_MO_cut_4 : decode (fx_cc mq_MO_cut) 4 = .ok (.aload_n 0, 1) := by decide +kernel
theorem dq_MO_cut_5 : decode (fx_cc mq_MO_cut) 5 = .ok (.getfield 144, 3) := by decide +kernel
theorem dq_MO_cut_8 : decode (fx_cc mq_MO_cut) 8 = .ok (.iadd, 1) := by decide +kernel
theorem dq_MO_cut_9 : decode (fx_cc mq_MO_cut) 9 = .ok (.iload_n 3, 1) := by decide +kernel
theorem dq_MO_cut_10 : decode (fx_cc mq_MO_cut) 10 = .ok (.if_icmp .ge 15, 3) := by decide +kernel
theorem dq_MO_cut_13 : decode (fx_cc mq_MO_cut) 13 = .ok (.aload_n 0, 1) := by decide +kernel
theorem dq_MO_cut_14 : decode (fx_cc mq_MO_cut) 14 = .ok (.getfield 141, 3) := by decide +kernel
theorem dq_MO_cut_17 : decode (fx_cc mq_MO_cut) 17 = .ok (.aload_n 0, 1) := by decide +kernel
theorem dq_MO_cut_18 : decode (fx_cc mq_MO_cut) 18 = .ok (.getfield 144, 3) := by decide +kernel
theorem dq_MO_cut_21 : decode (fx_cc mq_MO_cut) 21 = .ok (.iadd, 1) := by decide +kernel
theorem dq_MO_cut_22 : decode (fx_cc mq_MO_cut) 22 = .ok (.goto 4, 3) := by decide +kernel
theorem dq_MO_cut_25 : decode (fx_cc mq_MO_cut) 25 = .ok (.iload_n 3, 1) := by decide +kernel
theorem dq_MO_cut_26 : decode (fx_cc mq_MO_cut) 26 = .ok (.istore 5, 2) := by decide +kernel
theorem dq_MO_cut_28 : decode (fx_cc mq_MO_cut) 28 = .ok (.aload_n 0, 1) := by decide +kernel
theorem dq_MO_cut_29 : decode (fx_cc mq_MO_cut) 29 = .ok (.getfield 147, 3) := by decide +kernel
theorem dq_MO_cut_32 : decode (fx_cc mq_MO_cut) 32 = .ok (.aload_n 0, 1) := by decide +kernel
theorem dq_MO_cut_33 : decode (fx_cc mq_MO_cut) 33 = .ok (.getfield 150, 3) := by decide +kernel
theorem dq_MO_cut_36 : decode (fx_cc mq_MO_cut) 36 = .ok (.iadd, 1) := by decide +kernel
theorem dq_MO_cut_37 : decode (fx_cc mq_MO_cut) 37 = .ok (.iload 4, 2) := by decide +kernel
theorem dq_MO_cut_39 : decode (fx_cc mq_MO_cut) 39 = .ok (.if_icmp .ge 15, 3) := by decide +kernel
theorem dq_MO_cut_42 : decode (fx_cc mq_MO_cut) 42 = .ok (.aload_n 0, 1) := by decide +kernel
theorem dq_MO_cut_43 : decode (fx_cc mq_MO_cut) 43 = .ok (.getfield 147, 3) := by decide +kernel
theorem dq_MO_cut_46 : decode (fx_cc mq_MO_cut) 46 = .ok (.aload_n 0, 1) := by decide +kernel
theorem dq_MO_cut_47 : decode (fx_cc mq_MO_cut) 47 = .ok (.getfield 150, 3) := by decide +kernel
theorem dq_MO_cut_50 : decode (fx_cc mq_MO_cut) 50 = .ok (.iadd, 1) := by decide +kernel
theorem dq_MO_cut_51 : decode (fx_cc mq_MO_cut) 51 = .ok (.goto 5, 3) := by decide +kernel
theorem dq_MO_cut_54 : decode (fx_cc mq_MO_cut) 54 = .ok (.iload 4, 2) := by decide +kernel
theorem dq_MO_cut_56 : decode (fx_cc mq_MO_cut) 56 = .ok (.istore 6, 2) := by decide +kernel
theorem dq_MO_cut_58 : decode (fx_cc mq_MO_cut) 58 = .ok (.aload_n 0, 1) := by decide +kernel
theorem dq_MO_cut_59 : decode (fx_cc mq_MO_cut) 59 = .ok (.aload_n 0, 1) := by decide +kernel
theorem dq_MO_cut_60 : decode (fx_cc mq_MO_cut) 60 = .ok (.getfield 141, 3) := by decide +kernel
theorem dq_MO_cut_63 : decode (fx_cc mq_MO_cut) 63 = .ok (.iload_n 1, 1) := by decide +kernel
theorem dq_MO_cut_64 : decode (fx_cc mq_MO_cut) 64 = .ok (.if_icmp .le 10, 3) := by decide +kernel
theorem dq_MO_cut_67 : decode (fx_cc mq_MO_cut) 67 = .ok (.aload_n 0, 1) := by decide +kernel
theorem dq_MO_cut_68 : decode (fx_cc mq_MO_cut) 68 = .ok (.getfield 141, 3) := by decide +kernel
theorem dq_MO_cut_71 : decode (fx_cc mq_MO_cut) 71 = .ok (.goto 4, 3) := by decide +kernel
theorem dq_MO_cut_74 : decode (fx_cc mq_MO_cut) 74 = .ok (.iload_n 1, 1) := by decide +kernel
theorem dq_MO_cut_75 : decode (fx_cc mq_MO_cut) 75 = .ok (.putfield 141, 3) := by decide +kernel
theorem dq_MO_cut_78 : decode (fx_cc mq_MO_cut) 78 = .ok (.aload_n 0, 1) := by decide +kernel
theorem dq_MO_cut_79 : decode (fx_cc mq_MO_cut) 79 = .ok (.aload_n 0, 1) := by decide +kernel
theorem dq_MO_cut_80 : decode (fx_cc mq_MO_cut) 80 = .ok (.getfield 147, 3) := by decide +kernel
theorem dq_MO_cut_83 : decode (fx_cc mq_MO_cut) 83 = .ok (.iload_n 2, 1) := by decide +kernel
theorem dq_MO_cut_84 : decode (fx_cc mq_MO_cut) 84 = .ok (.if_icmp .le 10, 3) := by decide +kernel
theorem dq_MO_cut_87 : decode (fx_cc mq_MO_cut) 87 = .ok (.aload_n 0, 1) := by decide +kernel
theorem dq_MO_cut_88 : decode (fx_cc mq_MO_cut) 88 = .ok (.getfield 147, 3) := by decide +kernel
theorem dq_MO_cut_91 : decode (fx_cc mq_MO_cut) 91 = .ok (.goto 4, 3) := by decide +kernel
theorem dq_MO_cut_94 : decode (fx_cc mq_MO_cut) 94 = .ok (.iload_n 2, 1) := by decide +kernel
theorem dq_MO_cut_95 : decode (fx_cc mq_MO_cut) 95 = .ok (.putfield 147, 3) := by decide +kernel
theorem dq_MO_cut_98 : decode (fx_cc mq_MO_cut) 98 = .ok (.aload_n 0, 1) := by decide +kernel
theorem dq_MO_cut_99 : decode (fx_cc mq_MO_cut) 99 = .ok (.iload 5, 2) := by decide +kernel
theorem dq_MO_cut_101 : decode (fx_cc mq_MO_cut) 101 = .ok (.aload_n 0, 1) := by decide +kernel
theorem dq_MO_cut_102 : decode (fx_cc mq_MO_cut) 102 = .ok (.getfield 141, 3) := by decide +kernel
theorem dq_MO_cut_105 : decode (fx_cc mq_MO_cut) 105 = .ok (.isub, 1) := by decide +kernel
theorem dq_MO_cut_106 : decode (fx_cc mq_MO_cut) 106 = .ok (.putfield 144, 3) := by decide +kernel
theorem dq_MO_cut_109 : decode (fx_cc mq_MO_cut) 109 = .ok (.aload_n 0, 1) := by decide +kernel
theorem dq_MO_cut_110 : decode (fx_cc mq_MO_cut) 110 = .ok (.iload 6, 2) := by decide +kernel
theorem dq_MO_cut_112 : decode (fx_cc mq_MO_cut) 112 = .ok (.aload_n 0, 1) := by decide +kernel
theorem dq_MO_cut_113 : decode (fx_cc mq_MO_cut) 113 = .ok (.getfield 147, 3) := by decide +kernel
theorem dq_MO_cut_116 : decode (fx_cc mq_MO_cut) 116 = .ok (.isub, 1) := by decide +kernel
theorem dq_MO_cut_117 : decode (fx_cc mq_MO_cut) 117 = .ok (.putfield 150, 3) := by decide +kernel
theorem dq_MO_cut_120 : decode (fx_cc mq_MO_cut) 120 = .ok (.aload_n 0, 1) := by decide +kernel
theorem dq_MO_cut_121 : decode (fx_cc mq_MO_cut) 121 = .ok (.getfield 144, 3) := by decide +kernel
theorem dq_MO_cut_124 : decode (fx_cc mq_MO_cut) 124 = .ok (.ifCond .le 11, 3) := by decide +kernel
theorem dq_MO_cut_127 : decode (fx_cc mq_MO_cut) 127 = .ok (.aload_n 0, 1) := by decide +kernel
theorem dq_MO_cut_128 : decode (fx_cc mq_MO_cut) 128 = .ok (.getfield 150, 3) := by decide +kernel
theorem dq_MO_cut_131 : decode (fx_cc mq_MO_cut) 131 = .ok (.ifCond .le 4, 3) := by decide +kernel
theorem dq_MO_cut_134 : decode (fx_cc mq_MO_cut) 134 = .ok (.return_, 1) := by decide +kernel
theorem dq_MO_cut_135 : decode (fx_cc mq_MO_cut) 135 = .ok (.aload_n 0, 1) := by decide +kernel
theorem dq_MO_cut_136 : decode (fx_cc mq_MO_cut) 136 = .ok (.iconst 0, 1) := by decide +kernel
theorem dq_MO_cut_137 : decode (fx_cc mq_MO_cut) 137 = .ok (.putfield 144, 3) := by decide +kernel
theorem dq_MO_cut_140 : decode (fx_cc mq_MO_cut) 140 = .ok (.aload_n 0, 1) := by decide +kernel
theorem dq_MO_cut_141 : decode (fx_cc mq_MO_cut) 141 = .ok (.iconst 0, 1) := by decide +kernel
theorem dq_MO_cut_142 : decode (fx_cc mq_MO_cut) 142 = .ok (.putfield 150, 3) := by decide +kernel
theorem dq_MO_cut_145 : decode (fx_cc mq_MO_cut) 145 = .ok (.return_, 1) := by decide +kernel
theorem dq_MO_isPlane_0 : decode (fx_cc mq_MO_isPlane) 0 = .ok (.aload_n 0, 1) := by decide +kernel
theorem dq_MO_isPlane_1 : decode (fx_cc mq_MO_isPlane) 1 = .ok (.getfield 90, 3) := by decide +kernel
theorem dq_MO_isPlane_4 : decode (fx_cc mq_MO_isPlane) 4 = .ok (.iconst 0, 1) := by decide +kernel
theorem dq_MO_isPlane_5 : decode (fx_cc mq_MO_isPlane) 5 = .ok (.iaload, 1) := by decide +kernel
theorem dq_MO_isPlane_6 : decode (fx_cc mq_MO_isPlane) 6 = .ok (.iload_n 1, 1) := by decide +kernel
theorem dq_MO_isPlane_7 : decode (fx_cc mq_MO_isPlane) 7 = .ok (.if_icmp .eq 13, 3) := by decide +kernel
theorem dq_MO_isPlane_10 : decode (fx_cc mq_MO_isPlane) 10 = .ok (.aload_n 0, 1) := by decide +kernel
theorem dq_MO_isPlane_11 : decode (fx_cc mq_MO_isPlane) 11 = .ok (.getfield 90, 3) := by decide +kernel
theorem dq_MO_isPlane_14 : decode (fx_cc mq_MO_isPlane) 14 = .ok (.iconst 1, 1) := by decide +kernel
theorem dq_MO_isPlane_15 : decode (fx_cc mq_MO_isPlane) 15 = .ok (.iaload, 1) := by decide +kernel
theorem dq_MO_isPlane_16 : decode (fx_cc mq_MO_isPlane) 16 = .ok (.iload_n 1, 1) := by decide +kernel
theorem dq_MO_isPlane_17 : decode (fx_cc mq_MO_isPlane) 17 = .ok (.if_icmp .ne 7, 3) := by decide +kernel
theorem dq_MO_isPlane_20 : decode (fx_cc mq_MO_isPlane) 20 = .ok (.iconst 1, 1) := by decide +kernel
theorem dq_MO_isPlane_21 : decode (fx_cc mq_MO_isPlane) 21 = .ok (.goto 4, 3) := by decide +kernel
theorem dq_MO_isPlane_24 : decode (fx_cc mq_MO_isPlane) 24 = .ok (.iconst 0, 1) := by decide +kernel
theorem dq_MO_isPlane_25 : decode (fx_cc mq_MO_isPlane) 25 = .ok (.ireturn, 1) := by decide +kernel
theorem dq_MO_choosePlanes_0 : decode (fx_cc mq_MO_choosePlanes) 0 = .ok (.aload_n 0, 1) := by decide +kernel
theorem dq_MO_choosePlanes_1 : decode (fx_cc mq_MO_choosePlanes) 1 = .ok (.getfield 90, 3) := by decide +kernel
theorem dq_MO_choosePlanes_4 : decode (fx_cc mq_MO_choosePlanes) 4 = .ok (.iconst 0, 1) := by decide +kernel
theorem dq_MO_choosePlanes_5 : decode (fx_cc mq_MO_choosePlanes) 5 = .ok (.iconst (-1), 1) := by decide +kernel
theorem dq_MO_choosePlanes_6 : decode (fx_cc mq_MO_choosePlanes) 6 = .ok (.iastore, 1) := by decide +kernel
theorem dq_MO_choosePlanes_7 : decode (fx_cc mq_MO_choosePlanes) 7 = .ok (.aload_n 0, 1) := by decide +kernel
theorem dq_MO_choosePlanes_8 : decode (fx_cc mq_MO_choosePlanes) 8 = .ok (.getfield 90, 3) := by decide +kernel
theorem dq_MO_choosePlanes_11 : decode (fx_cc mq_MO_choosePlanes) 11 = .ok (.iconst 1, 1) := by decide +kernel
theorem dq_MO_choosePlanes_12 : decode (fx_cc mq_MO_choosePlanes) 12 = .ok (.iconst (-1), 1) := by decide +kernel
theorem dq_MO_choosePlanes_13 : decode (fx_cc mq_MO_choosePlanes) 13 = .ok (.iastore, 1) := by decide +kernel
theorem dq_MO_choosePlanes_14 : decode (fx_cc mq_MO_choosePlanes) 14 = .ok (.iconst 0, 1) := by decide +kernel
theorem dq_MO_choosePlanes_15 : decode (fx_cc mq_MO_choosePlanes) 15 = .ok (.istore_n 1, 1) := by decide +kernel
theorem dq_MO_choosePlanes_16 : decode (fx_cc mq_MO_choosePlanes) 16 = .ok (.bipush 9, 2) := by decide +kernel
theorem dq_MO_choosePlanes_18 : decode (fx_cc mq_MO_choosePlanes) 18 = .ok (.istore_n 2, 1) := by decide +kernel
theorem dq_MO_choosePlanes_19 : decode (fx_cc mq_MO_choosePlanes) 19 = .ok (.iload_n 2, 1) := by decide +kernel
theorem dq_MO_choosePlanes_20 : decode (fx_cc mq_MO_choosePlanes) 20 = .ok (.ifCond .lt 241, 3) := by decide +kernel
theorem dq_MO_choosePlanes_23 : decode (fx_cc mq_MO_choosePlanes) 23 = .ok (.aload_n 0, 1) := by decide +kernel
theorem dq_MO_choosePlanes_24 : decode (fx_cc mq_MO_choosePlanes) 24 = .ok (.bipush 20, 2) := by decide +kernel
theorem dq_MO_choosePlanes_26 : decode (fx_cc mq_MO_choosePlanes) 26 = .ok (.iload_n 2, 1) := by decide +kernel
theorem dq_MO_choosePlanes_27 : decode (fx_cc mq_MO_choosePlanes) 27 = .ok (.invokevirtual 201, 3) := by decide +kernel
theorem dq_MO_choosePlanes_30 : decode (fx_cc mq_MO_choosePlanes) 30 = .ok (.istore_n 3, 1) := by decide +kernel
theorem dq_MO_choosePlanes_31 : decode (fx_cc mq_MO_choosePlanes) 31 = .ok (.iload_n 3, 1) := by decide +kernel
theorem dq_MO_choosePlanes_32 : decode (fx_cc mq_MO_choosePlanes) 32 = .ok (.ifCond .lt 223, 3) := by decide +kernel
theorem dq_MO_choosePlanes_35 : decode (fx_cc mq_MO_choosePlanes) 35 = .ok (.iload_n 1, 1) := by decide +kernel
theorem dq_MO_choosePlanes_36 : decode (fx_cc mq_MO_choosePlanes) 36 = .ok (.iconst 2, 1) := by decide +kernel
theorem dq_MO_choosePlanes_37 : decode (fx_cc mq_MO_choosePlanes) 37 = .ok (.if_icmp .eq 218, 3) := by decide +kernel
theorem dq_MO_choosePlanes_40 : decode (fx_cc mq_MO_choosePlanes) 40 = .ok (.aload_n 0, 1) := by decide +kernel
theorem dq_MO_choosePlanes_41 : decode (fx_cc mq_MO_choosePlanes) 41 = .ok (.getfield 41, 3) := by decide +kernel
theorem dq_MO_choosePlanes_44 : decode (fx_cc mq_MO_choosePlanes) 44 = .ok (.iload_n 3, 1) := by decide +kernel
theorem dq_MO_choosePlanes_45 : decode (fx_cc mq_MO_choosePlanes) 45 = .ok (.iaload, 1) := by decide +kernel
theorem dq_MO_choosePlanes_46 : decode (fx_cc mq_MO_choosePlanes) 46 = .ok (.bipush 16, 2) := by decide +kernel
theorem dq_MO_choosePlanes_48 : decode (fx_cc mq_MO_choosePlanes) 48 = .ok (.if_icmp .ge 6, 3) := by decide +kernel
theorem dq_MO_choosePlanes_51 : decode (fx_cc mq_MO_choosePlanes) 51 = .ok (.goto 204, 3) := by decide +kernel
theorem dq_MO_choosePlanes_54 : decode (fx_cc mq_MO_choosePlanes) 54 = .ok (.aload_n 0, 1) := by decide +kernel
theorem dq_MO_choosePlanes_55 : decode (fx_cc mq_MO_choosePlanes) 55 = .ok (.iload_n 3, 1) := by decide +kernel
theorem dq_MO_choosePlanes_56 : decode (fx_cc mq_MO_choosePlanes) 56 = .ok (.invokevirtual 204, 3) := by decide +kernel
theorem dq_MO_choosePlanes_59 : decode (fx_cc mq_MO_choosePlanes) 59 = .ok (.aload_n 0, 1) := by decide +kernel
theorem dq_MO_choosePlanes_60 : decode (fx_cc mq_MO_choosePlanes) 60 = .ok (.getfield 141, 3) := by decide +kernel
theorem dq_MO_choosePlanes_63 : decode (fx_cc mq_MO_choosePlanes) 63 = .ok (.istore 4, 2) := by decide +kernel
theorem dq_MO_choosePlanes_65 : decode (fx_cc mq_MO_choosePlanes) 65 = .ok (.aload_n 0, 1) := by decide +kernel
theorem dq_MO_choosePlanes_66 : decode (fx_cc mq_MO_choosePlanes) 66 = .ok (.getfield 147, 3) := by decide +kernel
theorem dq_MO_choosePlanes_69 : decode (fx_cc mq_MO_choosePlanes) 69 = .ok (.istore 5, 2) := by decide +kernel
theorem dq_MO_choosePlanes_71 : decode (fx_cc mq_MO_choosePlanes) 71 = .ok (.aload_n 0, 1) := by decide +kernel
theorem dq_MO_choosePlanes_72 : decode (fx_cc mq_MO_choosePlanes) 72 = .ok (.getfield 144, 3) := by decide +kernel
theorem dq_MO_choosePlanes_75 : decode (fx_cc mq_MO_choosePlanes) 75 = .ok (.istore 6, 2) := by decide +kernel
theorem dq_MO_choosePlanes_77 : decode (fx_cc mq_MO_choosePlanes) 77 = .ok (.aload_n 0, 1) := by decide +kernel
theorem dq_MO_choosePlanes_78 : decode (fx_cc mq_MO_choosePlanes) 78 = .ok (.getfield 150, 3) := by decide +kernel
theorem dq_MO_choosePlanes_81 : decode (fx_cc mq_MO_choosePlanes) 81 = .ok (.istore 7, 2) := by decide +kernel
theorem dq_MO_choosePlanes_83 : decode (fx_cc mq_MO_choosePlanes) 83 = .ok (.aload_n 0, 1) := by decide +kernel
theorem dq_MO_choosePlanes_84 : decode (fx_cc mq_MO_choosePlanes) 84 = .ok (.getfield 144, 3) := by decide +kernel
theorem dq_MO_choosePlanes_87 : decode (fx_cc mq_MO_choosePlanes) 87 = .ok (.ifCond .le 21, 3) := by decide +kernel
theorem dq_MO_choosePlanes_90 : decode (fx_cc mq_MO_choosePlanes) 90 = .ok (.aload_n 0, 1) := by decide +kernel
theorem dq_MO_choosePlanes_91 : decode (fx_cc mq_MO_choosePlanes) 91 = .ok (.getfield 144, 3) := by decide +kernel
theorem dq_MO_choosePlanes_94 : decode (fx_cc mq_MO_choosePlanes) 94 = .ok (.aload_n 0, 1) := by decide +kernel
theorem dq_MO_choosePlanes_95 : decode (fx_cc mq_MO_choosePlanes) 95 = .ok (.getfield 150, 3) := by decide +kernel
theorem dq_MO_choosePlanes_98 : decode (fx_cc mq_MO_choosePlanes) 98 = .ok (.imul, 1) := by decide +kernel
theorem dq_MO_choosePlanes_99 : decode (fx_cc mq_MO_choosePlanes) 99 = .ok (.bipush 24, 2) := by decide +kernel
theorem dq_MO_choosePlanes_101 : decode (fx_cc mq_MO_choosePlanes) 101 = .ok (.if_icmp .gt 7, 3) := by decide +kernel
theorem dq_MO_choosePlanes_104 : decode (fx_cc mq_MO_choosePlanes) 104 = .ok (.iconst 1, 1) := by decide +kernel
theorem dq_MO_choosePlanes_105 : decode (fx_cc mq_MO_choosePlanes) 105 = .ok (.goto 4, 3) := by decide +kernel
theorem dq_MO_choosePlanes_108 : decode (fx_cc mq_MO_choosePlanes) 108 = .ok (.iconst 0, 1) := by decide +kernel
theorem dq_MO_choosePlanes_109 : decode (fx_cc mq_MO_choosePlanes) 109 = .ok (.istore 8, 2) := by decide +kernel
theorem dq_MO_choosePlanes_111 : decode (fx_cc mq_MO_choosePlanes) 111 = .ok (.bipush 20, 2) := by decide +kernel
theorem dq_MO_choosePlanes_113 : decode (fx_cc mq_MO_choosePlanes) 113 = .ok (.istore 9, 2) := by decide +kernel
theorem dq_MO_choosePlanes_115 : decode (fx_cc mq_MO_choosePlanes) 115 = .ok (.iload 9, 2) := by decide +kernel
theorem dq_MO_choosePlanes_117 : decode (fx_cc mq_MO_choosePlanes) 117 = .ok (.bipush 30, 2) := by decide +kernel
theorem dq_MO_choosePlanes_119 : decode (fx_cc mq_MO_choosePlanes) 119 = .ok (.if_icmp .ge 115, 3) := by decide +kernel
theorem dq_MO_choosePlanes_122 : decode (fx_cc mq_MO_choosePlanes) 122 = .ok (.iload 8, 2) := by decide +kernel
theorem dq_MO_choosePlanes_124 : decode (fx_cc mq_MO_choosePlanes) 124 = .ok (.ifCond .eq 110, 3) := by decide +kernel
theorem dq_MO_choosePlanes_127 : decode (fx_cc mq_MO_choosePlanes) 127 = .ok (.iload 9, 2) := by decide +kernel
theorem dq_MO_choosePlanes_129 : decode (fx_cc mq_MO_choosePlanes) 129 = .ok (.iload_n 3, 1) := by decide +kernel
theorem dq_MO_choosePlanes_130 : decode (fx_cc mq_MO_choosePlanes) 130 = .ok (.if_icmp .eq 98, 3) := by decide +kernel
theorem dq_MO_choosePlanes_133 : decode (fx_cc mq_MO_choosePlanes) 133 = .ok (.aload_n 0, 1) := by decide +kernel
theorem dq_MO_choosePlanes_134 : decode (fx_cc mq_MO_choosePlanes) 134 = .ok (.getfield 29, 3) := by decide +kernel
theorem dq_MO_choosePlanes_137 : decode (fx_cc mq_MO_choosePlanes) 137 = .ok (.iload 9, 2) := by decide +kernel
theorem dq_MO_choosePlanes_139 : decode (fx_cc mq_MO_choosePlanes) 139 = .ok (.baload, 1) := by decide +kernel
theorem dq_MO_choosePlanes_140 : decode (fx_cc mq_MO_choosePlanes) 140 = .ok (.ifCond .eq 88, 3) := by decide +kernel
theorem dq_MO_choosePlanes_143 : decode (fx_cc mq_MO_choosePlanes) 143 = .ok (.aload_n 0, 1) := by decide +kernel
theorem dq_MO_choosePlanes_144 : decode (fx_cc mq_MO_choosePlanes) 144 = .ok (.iload 9, 2) := by decide +kernel
theorem dq_MO_choosePlanes_146 : decode (fx_cc mq_MO_choosePlanes) 146 = .ok (.iload_n 3, 1) := by decide +kernel
theorem dq_MO_choosePlanes_147 : decode (fx_cc mq_MO_choosePlanes) 147 = .ok (.invokevirtual 178, 3) := by decide +kernel
theorem dq_MO_choosePlanes_150 : decode (fx_cc mq_MO_choosePlanes) 150 = .ok (.ifCond .ne 6, 3) := by decide +kernel
theorem dq_MO_choosePlanes_153 : decode (fx_cc mq_MO_choosePlanes) 153 = .ok (.goto 75, 3) := by decide +kernel
theorem dq_MO_choosePlanes_156 : decode (fx_cc mq_MO_choosePlanes) 156 = .ok (.aload_n 0, 1) := by decide +kernel
theorem dq_MO_choosePlanes_157 : decode (fx_cc mq_MO_choosePlanes) 157 = .ok (.iload 9, 2) := by decide +kernel
theorem dq_MO_choosePlanes_159 : decode (fx_cc mq_MO_choosePlanes) 159 = .ok (.invokevirtual 204, 3) := by decide +kernel
theorem dq_MO_choosePlanes_162 : decode (fx_cc mq_MO_choosePlanes) 162 = .ok (.aload_n 0, 1) := by decide +kernel
theorem dq_MO_choosePlanes_163 : decode (fx_cc mq_MO_choosePlanes) 163 = .ok (.getfield 144, 3) := by decide +kernel
theorem dq_MO_choosePlanes_166 : decode (fx_cc mq_MO_choosePlanes) 166 = .ok (.ifCond .eq 55, 3) := by decide +kernel
theorem dq_MO_choosePlanes_169 : decode (fx_cc mq_MO_choosePlanes) 169 = .ok (.aload_n 0, 1) := by decide +kernel
theorem dq_MO_choosePlanes_170 : decode (fx_cc mq_MO_choosePlanes) 170 = .ok (.getfield 141, 3) := by decide +kernel
theorem dq_MO_choosePlanes_173 : decode (fx_cc mq_MO_choosePlanes) 173 = .ok (.iload 4, 2) := by decide +kernel
theorem dq_MO_choosePlanes_175 : decode (fx_cc mq_MO_choosePlanes) 175 = .ok (.iload 6, 2) := by decide +kernel
theorem dq_MO_choosePlanes_177 : decode (fx_cc mq_MO_choosePlanes) 177 = .ok (.iadd, 1) := by decide +kernel
theorem dq_MO_choosePlanes_178 : decode (fx_cc mq_MO_choosePlanes) 178 = .ok (.if_icmp .ge 43, 3) := by decide +kernel
theorem dq_MO_choosePlanes_181 : decode (fx_cc mq_MO_choosePlanes) 181 = .ok (.iload 4, 2) := by decide +kernel
theorem dq_MO_choosePlanes_183 : decode (fx_cc mq_MO_choosePlanes) 183 = .ok (.aload_n 0, 1) := by decide +kernel
theorem dq_MO_choosePlanes_184 : decode (fx_cc mq_MO_choosePlanes) 184 = .ok (.getfield 141, 3) := by decide +kernel
theorem dq_MO_choosePlanes_187 : decode (fx_cc mq_MO_choosePlanes) 187 = .ok (.aload_n 0, 1) := by decide +kernel
theorem dq_MO_choosePlanes_188 : decode (fx_cc mq_MO_choosePlanes) 188 = .ok (.getfield 144, 3) := by decide +kernel
theorem dq_MO_choosePlanes_191 : decode (fx_cc mq_MO_choosePlanes) 191 = .ok (.iadd, 1) := by decide +kernel
theorem dq_MO_choosePlanes_192 : decode (fx_cc mq_MO_choosePlanes) 192 = .ok (.if_icmp .ge 29, 3) := by decide +kernel
theorem dq_MO_choosePlanes_195 : decode (fx_cc mq_MO_choosePlanes) 195 = .ok (.aload_n 0, 1) := by decide +kernel
theorem dq_MO_choosePlanes_196 : decode (fx_cc mq_MO_choosePlanes) 196 = .ok (.getfield 147, 3) := by decide +kernel
theorem dq_MO_choosePlanes_199 : decode (fx_cc mq_MO_choosePlanes) 199 = .ok (.iload 5, 2) := by decide +kernel
theorem dq_MO_choosePlanes_201 : decode (fx_cc mq_MO_choosePlanes) 201 = .ok (.iload 7, 2) := by decide +kernel
theorem dq_MO_choosePlanes_203 : decode (fx_cc mq_MO_choosePlanes) 203 = .ok (.iadd, 1) := by decide +kernel
theorem dq_MO_choosePlanes_204 : decode (fx_cc mq_MO_choosePlanes) 204 = .ok (.if_icmp .ge 17, 3) := by decide +kernel
theorem dq_MO_choosePlanes_207 : decode (fx_cc mq_MO_choosePlanes) 207 = .ok (.iload 5, 2) := by decide +kernel
theorem dq_MO_choosePlanes_209 : decode (fx_cc mq_MO_choosePlanes) 209 = .ok (.aload_n 0, 1) := by decide +kernel
theorem dq_MO_choosePlanes_210 : decode (fx_cc mq_MO_choosePlanes) 210 = .ok (.getfield 147, 3) := by decide +kernel
theorem dq_MO_choosePlanes_213 : decode (fx_cc mq_MO_choosePlanes) 213 = .ok (.aload_n 0, 1) := by decide +kernel
theorem dq_MO_choosePlanes_214 : decode (fx_cc mq_MO_choosePlanes) 214 = .ok (.getfield 150, 3) := by decide +kernel
theorem dq_MO_choosePlanes_217 : decode (fx_cc mq_MO_choosePlanes) 217 = .ok (.iadd, 1) := by decide +kernel
theorem dq_MO_choosePlanes_218 : decode (fx_cc mq_MO_choosePlanes) 218 = .ok (.if_icmp .lt 7, 3) := by decide +kernel
theorem dq_MO_choosePlanes_221 : decode (fx_cc mq_MO_choosePlanes) 221 = .ok (.iconst 1, 1) := by decide +kernel
theorem dq_MO_choosePlanes_222 : decode (fx_cc mq_MO_choosePlanes) 222 = .ok (.goto 4, 3) := by decide +kernel
theorem dq_MO_choosePlanes_225 : decode (fx_cc mq_MO_choosePlanes) 225 = .ok (.iconst 0, 1) := by decide +kernel
theorem dq_MO_choosePlanes_226 : decode (fx_cc mq_MO_choosePlanes) 226 = .ok (.istore 8, 2) := by decide +kernel
theorem dq_MO_choosePlanes_228 : decode (fx_cc mq_MO_choosePlanes) 228 = .ok (.iinc 9 1, 3) := by decide +kernel
theorem dq_MO_choosePlanes_231 : decode (fx_cc mq_MO_choosePlanes) 231 = .ok (.goto (-116), 3) := by decide +kernel
theorem dq_MO_choosePlanes_234 : decode (fx_cc mq_MO_choosePlanes) 234 = .ok (.iload 8, 2) := by decide +kernel
theorem dq_MO_choosePlanes_236 : decode (fx_cc mq_MO_choosePlanes) 236 = .ok (.ifCond .ne 6, 3) := by decide +kernel
theorem dq_MO_choosePlanes_239 : decode (fx_cc mq_MO_choosePlanes) 239 = .ok (.goto 16, 3) := by decide +kernel
theorem dq_MO_choosePlanes_242 : decode (fx_cc mq_MO_choosePlanes) 242 = .ok (.aload_n 0, 1) := by decide +kernel
theorem dq_MO_choosePlanes_243 : decode (fx_cc mq_MO_choosePlanes) 243 = .ok (.getfield 90, 3) := by decide +kernel
theorem dq_MO_choosePlanes_246 : decode (fx_cc mq_MO_choosePlanes) 246 = .ok (.iload_n 1, 1) := by decide +kernel
theorem dq_MO_choosePlanes_247 : decode (fx_cc mq_MO_choosePlanes) 247 = .ok (.iload_n 3, 1) := by decide +kernel
theorem dq_MO_choosePlanes_248 : decode (fx_cc mq_MO_choosePlanes) 248 = .ok (.bipush 20, 2) := by decide +kernel
theorem dq_MO_choosePlanes_250 : decode (fx_cc mq_MO_choosePlanes) 250 = .ok (.isub, 1) := by decide +kernel
theorem dq_MO_choosePlanes_251 : decode (fx_cc mq_MO_choosePlanes) 251 = .ok (.iastore, 1) := by decide +kernel
theorem dq_MO_choosePlanes_252 : decode (fx_cc mq_MO_choosePlanes) 252 = .ok (.iinc 1 1, 3) := by decide +kernel
theorem dq_MO_choosePlanes_255 : decode (fx_cc mq_MO_choosePlanes) 255 = .ok (.iinc 2 (-1), 3) := by decide +kernel
theorem dq_MO_choosePlanes_258 : decode (fx_cc mq_MO_choosePlanes) 258 = .ok (.goto (-239), 3) := by decide +kernel
theorem dq_MO_choosePlanes_261 : decode (fx_cc mq_MO_choosePlanes) 261 = .ok (.return_, 1) := by decide +kernel
theorem dq_MO_nth_0 : decode (fx_cc mq_MO_nth) 0 = .ok (.iload_n 1, 1) := by decide +kernel
theorem dq_MO_nth_1 : decode (fx_cc mq_MO_nth) 1 = .ok (.istore_n 3, 1) := by decide +kernel
theorem dq_MO_nth_2 : decode (fx_cc mq_MO_nth) 2 = .ok (.iload_n 3, 1) := by decide +kernel
theorem dq_MO_nth_3 : decode (fx_cc mq_MO_nth) 3 = .ok (.iload_n 1, 1) := by decide +kernel
theorem dq_MO_nth_4 : decode (fx_cc mq_MO_nth) 4 = .ok (.bipush 10, 2) := by decide +kernel
theorem dq_MO_nth_6 : decode (fx_cc mq_MO_nth) 6 = .ok (.iadd, 1) := by decide +kernel
theorem dq_MO_nth_7 : decode (fx_cc mq_MO_nth) 7 = .ok (.if_icmp .ge 86, 3) := by decide +kernel
theorem dq_MO_nth_10 : decode (fx_cc mq_MO_nth) 10 = .ok (.aload_n 0, 1) := by decide +kernel
theorem dq_MO_nth_11 : decode (fx_cc mq_MO_nth) 11 = .ok (.getfield 29, 3) := by decide +kernel
theorem dq_MO_nth_14 : decode (fx_cc mq_MO_nth) 14 = .ok (.iload_n 3, 1) := by decide +kernel
theorem dq_MO_nth_15 : decode (fx_cc mq_MO_nth) 15 = .ok (.baload, 1) := by decide +kernel
theorem dq_MO_nth_16 : decode (fx_cc mq_MO_nth) 16 = .ok (.ifCond .ne 6, 3) := by decide +kernel
theorem dq_MO_nth_19 : decode (fx_cc mq_MO_nth) 19 = .ok (.goto 68, 3) := by decide +kernel
theorem dq_MO_nth_22 : decode (fx_cc mq_MO_nth) 22 = .ok (.iconst 0, 1) := by decide +kernel
theorem dq_MO_nth_23 : decode (fx_cc mq_MO_nth) 23 = .ok (.istore 4, 2) := by decide +kernel
theorem dq_MO_nth_25 : decode (fx_cc mq_MO_nth) 25 = .ok (.iload_n 1, 1) := by decide +kernel
theorem dq_MO_nth_26 : decode (fx_cc mq_MO_nth) 26 = .ok (.istore 5, 2) := by decide +kernel
theorem dq_MO_nth_28 : decode (fx_cc mq_MO_nth) 28 = .ok (.iload 5, 2) := by decide +kernel
theorem dq_MO_nth_30 : decode (fx_cc mq_MO_nth) 30 = .ok (.iload_n 1, 1) := by decide +kernel
theorem dq_MO_nth_31 : decode (fx_cc mq_MO_nth) 31 = .ok (.bipush 10, 2) := by decide +kernel
theorem dq_MO_nth_33 : decode (fx_cc mq_MO_nth) 33 = .ok (.iadd, 1) := by decide +kernel
theorem dq_MO_nth_34 : decode (fx_cc mq_MO_nth) 34 = .ok (.if_icmp .ge 45, 3) := by decide +kernel
theorem dq_MO_nth_37 : decode (fx_cc mq_MO_nth) 37 = .ok (.iload 4, 2) := by decide +kernel
theorem dq_MO_nth_39 : decode (fx_cc mq_MO_nth) 39 = .ok (.iload 5, 2) := by decide +kernel
theorem dq_MO_nth_41 : decode (fx_cc mq_MO_nth) 41 = .ok (.iload_n 3, 1) := by decide +kernel
theorem dq_MO_nth_42 : decode (fx_cc mq_MO_nth) 42 = .ok (.if_icmp .eq 27, 3) := by decide +kernel
theorem dq_MO_nth_45 : decode (fx_cc mq_MO_nth) 45 = .ok (.aload_n 0, 1) := by decide +kernel
theorem dq_MO_nth_46 : decode (fx_cc mq_MO_nth) 46 = .ok (.getfield 29, 3) := by decide +kernel
theorem dq_MO_nth_49 : decode (fx_cc mq_MO_nth) 49 = .ok (.iload 5, 2) := by decide +kernel
theorem dq_MO_nth_51 : decode (fx_cc mq_MO_nth) 51 = .ok (.baload, 1) := by decide +kernel
theorem dq_MO_nth_52 : decode (fx_cc mq_MO_nth) 52 = .ok (.ifCond .eq 17, 3) := by decide +kernel
theorem dq_MO_nth_55 : decode (fx_cc mq_MO_nth) 55 = .ok (.aload_n 0, 1) := by decide +kernel
theorem dq_MO_nth_56 : decode (fx_cc mq_MO_nth) 56 = .ok (.iload_n 3, 1) := by decide +kernel
theorem dq_MO_nth_57 : decode (fx_cc mq_MO_nth) 57 = .ok (.iload 5, 2) := by decide +kernel
theorem dq_MO_nth_59 : decode (fx_cc mq_MO_nth) 59 = .ok (.invokevirtual 178, 3) := by decide +kernel
theorem dq_MO_nth_62 : decode (fx_cc mq_MO_nth) 62 = .ok (.ifCond .eq 7, 3) := by decide +kernel
theorem dq_MO_nth_65 : decode (fx_cc mq_MO_nth) 65 = .ok (.iconst 1, 1) := by decide +kernel
theorem dq_MO_nth_66 : decode (fx_cc mq_MO_nth) 66 = .ok (.goto 4, 3) := by decide +kernel
theorem dq_MO_nth_69 : decode (fx_cc mq_MO_nth) 69 = .ok (.iconst 0, 1) := by decide +kernel
theorem dq_MO_nth_70 : decode (fx_cc mq_MO_nth) 70 = .ok (.iadd, 1) := by decide +kernel
theorem dq_MO_nth_71 : decode (fx_cc mq_MO_nth) 71 = .ok (.istore 4, 2) := by decide +kernel
theorem dq_MO_nth_73 : decode (fx_cc mq_MO_nth) 73 = .ok (.iinc 5 1, 3) := by decide +kernel
theorem dq_MO_nth_76 : decode (fx_cc mq_MO_nth) 76 = .ok (.goto (-48), 3) := by decide +kernel
theorem dq_MO_nth_79 : decode (fx_cc mq_MO_nth) 79 = .ok (.iload 4, 2) := by decide +kernel
theorem dq_MO_nth_81 : decode (fx_cc mq_MO_nth) 81 = .ok (.iload_n 2, 1) := by decide +kernel
theorem dq_MO_nth_82 : decode (fx_cc mq_MO_nth) 82 = .ok (.if_icmp .ne 5, 3) := by decide +kernel
theorem dq_MO_nth_85 : decode (fx_cc mq_MO_nth) 85 = .ok (.iload_n 3, 1) := by decide +kernel
theorem dq_MO_nth_86 : decode (fx_cc mq_MO_nth) 86 = .ok (.ireturn, 1) := by decide +kernel
theorem dq_MO_nth_87 : decode (fx_cc mq_MO_nth) 87 = .ok (.iinc 3 1, 3) := by decide +kernel
theorem dq_MO_nth_90 : decode (fx_cc mq_MO_nth) 90 = .ok (.goto (-88), 3) := by decide +kernel
theorem dq_MO_nth_93 : decode (fx_cc mq_MO_nth) 93 = .ok (.iconst (-1), 1) := by decide +kernel
theorem dq_MO_nth_94 : decode (fx_cc mq_MO_nth) 94 = .ok (.ireturn, 1) := by decide +kernel
theorem dq_MO_isAbove_0 : decode (fx_cc mq_MO_isAbove) 0 = .ok (.aload_n 0, 1) := by decide +kernel
theorem dq_MO_isAbove_1 : decode (fx_cc mq_MO_isAbove) 1 = .ok (.getfield 38, 3) := by decide +kernel
theorem dq_MO_isAbove_4 : decode (fx_cc mq_MO_isAbove) 4 = .ok (.iload_n 1, 1) := by decide +kernel
theorem dq_MO_isAbove_5 : decode (fx_cc mq_MO_isAbove) 5 = .ok (.iaload, 1) := by decide +kernel
theorem dq_MO_isAbove_6 : decode (fx_cc mq_MO_isAbove) 6 = .ok (.aload_n 0, 1) := by decide +kernel
theorem dq_MO_isAbove_7 : decode (fx_cc mq_MO_isAbove) 7 = .ok (.getfield 38, 3) := by decide +kernel
theorem dq_MO_isAbove_10 : decode (fx_cc mq_MO_isAbove) 10 = .ok (.iload_n 2, 1) := by decide +kernel
theorem dq_MO_isAbove_11 : decode (fx_cc mq_MO_isAbove) 11 = .ok (.iaload, 1) := by decide +kernel
theorem dq_MO_isAbove_12 : decode (fx_cc mq_MO_isAbove) 12 = .ok (.if_icmp .gt 23, 3) := by decide +kernel
theorem dq_MO_isAbove_15 : decode (fx_cc mq_MO_isAbove) 15 = .ok (.aload_n 0, 1) := by decide +kernel
theorem dq_MO_isAbove_16 : decode (fx_cc mq_MO_isAbove) 16 = .ok (.getfield 38, 3) := by decide +kernel
theorem dq_MO_isAbove_19 : decode (fx_cc mq_MO_isAbove) 19 = .ok (.iload_n 1, 1) := by decide +kernel
theorem dq_MO_isAbove_20 : decode (fx_cc mq_MO_isAbove) 20 = .ok (.iaload, 1) := by decide +kernel
theorem dq_MO_isAbove_21 : decode (fx_cc mq_MO_isAbove) 21 = .ok (.aload_n 0, 1) := by decide +kernel
theorem dq_MO_isAbove_22 : decode (fx_cc mq_MO_isAbove) 22 = .ok (.getfield 38, 3) := by decide +kernel
theorem dq_MO_isAbove_25 : decode (fx_cc mq_MO_isAbove) 25 = .ok (.iload_n 2, 1) := by decide +kernel
theorem dq_MO_isAbove_26 : decode (fx_cc mq_MO_isAbove) 26 = .ok (.iaload, 1) := by decide +kernel
theorem dq_MO_isAbove_27 : decode (fx_cc mq_MO_isAbove) 27 = .ok (.if_icmp .ne 12, 3) := by decide +kernel
theorem dq_MO_isAbove_30 : decode (fx_cc mq_MO_isAbove) 30 = .ok (.iload_n 1, 1) := by decide +kernel
theorem dq_MO_isAbove_31 : decode (fx_cc mq_MO_isAbove) 31 = .ok (.iload_n 2, 1) := by decide +kernel
theorem dq_MO_isAbove_32 : decode (fx_cc mq_MO_isAbove) 32 = .ok (.if_icmp .le 7, 3) := by decide +kernel
theorem dq_MO_isAbove_35 : decode (fx_cc mq_MO_isAbove) 35 = .ok (.iconst 1, 1) := by decide +kernel
theorem dq_MO_isAbove_36 : decode (fx_cc mq_MO_isAbove) 36 = .ok (.goto 4, 3) := by decide +kernel
theorem dq_MO_isAbove_39 : decode (fx_cc mq_MO_isAbove) 39 = .ok (.iconst 0, 1) := by decide +kernel
theorem dq_MO_isAbove_40 : decode (fx_cc mq_MO_isAbove) 40 = .ok (.ireturn, 1) := by decide +kernel
theorem dq_MO_miss_0 : decode (fx_cc mq_MO_miss) 0 = .ok (.iconst 0, 1) := by decide +kernel
theorem dq_MO_miss_1 : decode (fx_cc mq_MO_miss) 1 = .ok (.istore_n 1, 1) := by decide +kernel
theorem dq_MO_miss_2 : decode (fx_cc mq_MO_miss) 2 = .ok (.iload_n 1, 1) := by decide +kernel
theorem dq_MO_miss_3 : decode (fx_cc mq_MO_miss) 3 = .ok (.iconst 2, 1) := by decide +kernel
theorem dq_MO_miss_4 : decode (fx_cc mq_MO_miss) 4 = .ok (.if_icmp .ge 140, 3) := by decide +kernel
theorem dq_MO_miss_7 : decode (fx_cc mq_MO_miss) 7 = .ok (.aload_n 0, 1) := by decide +kernel
theorem dq_MO_miss_8 : decode (fx_cc mq_MO_miss) 8 = .ok (.getfield 144, 3) := by decide +kernel
theorem dq_MO_miss_11 : decode (fx_cc mq_MO_miss) 11 = .ok (.ifCond .le 133, 3) := by decide +kernel
theorem dq_MO_miss_14 : decode (fx_cc mq_MO_miss) 14 = .ok (.iconst 0, 1) := by decide +kernel
theorem dq_MO_miss_15 : decode (fx_cc mq_MO_miss) 15 = .ok (.istore_n 2, 1) := by decide +kernel
theorem dq_MO_miss_16 : decode (fx_cc mq_MO_miss) 16 = .ok (.iconst 0, 1) := by decide +kernel
theorem dq_MO_miss_17 : decode (fx_cc mq_MO_miss) 17 = .ok (.istore_n 3, 1) := by decide +kernel
theorem dq_MO_miss_18 : decode (fx_cc mq_MO_miss) 18 = .ok (.iload_n 3, 1) := by decide +kernel
theorem dq_MO_miss_19 : decode (fx_cc mq_MO_miss) 19 = .ok (.aload_n 0, 1) := by decide +kernel
theorem dq_MO_miss_20 : decode (fx_cc mq_MO_miss) 20 = .ok (.getfield 75, 3) := by decide +kernel
theorem dq_MO_miss_23 : decode (fx_cc mq_MO_miss) 23 = .ok (.iload_n 1, 1) := by decide +kernel
theorem dq_MO_miss_24 : decode (fx_cc mq_MO_miss) 24 = .ok (.iaload, 1) := by decide +kernel
theorem dq_MO_miss_25 : decode (fx_cc mq_MO_miss) 25 = .ok (.if_icmp .ge 28, 3) := by decide +kernel
theorem dq_MO_miss_28 : decode (fx_cc mq_MO_miss) 28 = .ok (.iload_n 2, 1) := by decide +kernel
theorem dq_MO_miss_29 : decode (fx_cc mq_MO_miss) 29 = .ok (.ifCond .ne 12, 3) := by decide +kernel
theorem dq_MO_miss_32 : decode (fx_cc mq_MO_miss) 32 = .ok (.aload_n 0, 1) := by decide +kernel
theorem dq_MO_miss_33 : decode (fx_cc mq_MO_miss) 33 = .ok (.iload_n 1, 1) := by decide +kernel
theorem dq_MO_miss_34 : decode (fx_cc mq_MO_miss) 34 = .ok (.iload_n 3, 1) := by decide +kernel
theorem dq_MO_miss_35 : decode (fx_cc mq_MO_miss) 35 = .ok (.invokevirtual 194, 3) := by decide +kernel
theorem dq_MO_miss_38 : decode (fx_cc mq_MO_miss) 38 = .ok (.ifCond .eq 7, 3) := by decide +kernel
theorem dq_MO_miss_41 : decode (fx_cc mq_MO_miss) 41 = .ok (.iconst 1, 1) := by decide +kernel
theorem dq_MO_miss_42 : decode (fx_cc mq_MO_miss) 42 = .ok (.goto 4, 3) := by decide +kernel
theorem dq_MO_miss_45 : decode (fx_cc mq_MO_miss) 45 = .ok (.iconst 0, 1) := by decide +kernel
theorem dq_MO_miss_46 : decode (fx_cc mq_MO_miss) 46 = .ok (.istore_n 2, 1) := by decide +kernel
theorem dq_MO_miss_47 : decode (fx_cc mq_MO_miss) 47 = .ok (.iinc 3 1, 3) := by decide +kernel
theorem dq_MO_miss_50 : decode (fx_cc mq_MO_miss) 50 = .ok (.goto (-32), 3) := by decide +kernel
theorem dq_MO_miss_53 : decode (fx_cc mq_MO_miss) 53 = .ok (.iload_n 2, 1) := by decide +kernel
theorem dq_MO_miss_54 : decode (fx_cc mq_MO_miss) 54 = .ok (.ifCond .eq 6, 3) := by decide +kernel
theorem dq_MO_miss_57 : decode (fx_cc mq_MO_miss) 57 = .ok (.goto 81, 3) := by decide +kernel
theorem dq_MO_miss_60 : decode (fx_cc mq_MO_miss) 60 = .ok (.bipush 7, 2) := by decide +kernel
theorem dq_MO_miss_62 : decode (fx_cc mq_MO_miss) 62 = .ok (.iload_n 1, 1) := by decide +kernel
theorem dq_MO_miss_63 : decode (fx_cc mq_MO_miss) 63 = .ok (.imul, 1) := by decide +kernel
theorem dq_MO_miss_64 : decode (fx_cc mq_MO_miss) 64 = .ok (.aload_n 0, 1) := by decide +kernel
theorem dq_MO_miss_65 : decode (fx_cc mq_MO_miss) 65 = .ok (.getfield 75, 3) := by decide +kernel
theorem dq_MO_miss_68 : decode (fx_cc mq_MO_miss) 68 = .ok (.iload_n 1, 1) := by decide +kernel
theorem dq_MO_miss_69 : decode (fx_cc mq_MO_miss) 69 = .ok (.iaload, 1) := by decide +kernel
theorem dq_MO_miss_70 : decode (fx_cc mq_MO_miss) 70 = .ok (.iadd, 1) := by decide +kernel
theorem dq_MO_miss_71 : decode (fx_cc mq_MO_miss) 71 = .ok (.istore_n 3, 1) := by decide +kernel
theorem dq_MO_miss_72 : decode (fx_cc mq_MO_miss) 72 = .ok (.aload_n 0, 1) := by decide +kernel
theorem dq_MO_miss_73 : decode (fx_cc mq_MO_miss) 73 = .ok (.getfield 78, 3) := by decide +kernel
theorem dq_MO_miss_76 : decode (fx_cc mq_MO_miss) 76 = .ok (.iload_n 3, 1) := by decide +kernel
theorem dq_MO_miss_77 : decode (fx_cc mq_MO_miss) 77 = .ok (.aload_n 0, 1) := by decide +kernel
theorem dq_MO_miss_78 : decode (fx_cc mq_MO_miss) 78 = .ok (.getfield 141, 3) := by decide +kernel
theorem dq_MO_miss_81 : decode (fx_cc mq_MO_miss) 81 = .ok (.iastore, 1) := by decide +kernel
theorem dq_MO_miss_82 : decode (fx_cc mq_MO_miss) 82 = .ok (.aload_n 0, 1) := by decide +kernel
theorem dq_MO_miss_83 : decode (fx_cc mq_MO_miss) 83 = .ok (.getfield 81, 3) := by decide +kernel
theorem dq_MO_miss_86 : decode (fx_cc mq_MO_miss) 86 = .ok (.iload_n 3, 1) := by decide +kernel
theorem dq_MO_miss_87 : decode (fx_cc mq_MO_miss) 87 = .ok (.aload_n 0, 1) := by decide +kernel
theorem dq_MO_miss_88 : decode (fx_cc mq_MO_miss) 88 = .ok (.getfield 147, 3) := by decide +kernel
theorem dq_MO_miss_91 : decode (fx_cc mq_MO_miss) 91 = .ok (.iastore, 1) := by decide +kernel
theorem dq_MO_miss_92 : decode (fx_cc mq_MO_miss) 92 = .ok (.aload_n 0, 1) := by decide +kernel
theorem dq_MO_miss_93 : decode (fx_cc mq_MO_miss) 93 = .ok (.getfield 84, 3) := by decide +kernel
theorem dq_MO_miss_96 : decode (fx_cc mq_MO_miss) 96 = .ok (.iload_n 3, 1) := by decide +kernel
theorem dq_MO_miss_97 : decode (fx_cc mq_MO_miss) 97 = .ok (.aload_n 0, 1) := by decide +kernel
theorem dq_MO_miss_98 : decode (fx_cc mq_MO_miss) 98 = .ok (.getfield 144, 3) := by decide +kernel
theorem dq_MO_miss_101 : decode (fx_cc mq_MO_miss) 101 = .ok (.iastore, 1) := by decide +kernel
theorem dq_MO_miss_102 : decode (fx_cc mq_MO_miss) 102 = .ok (.aload_n 0, 1) := by decide +kernel
theorem dq_MO_miss_103 : decode (fx_cc mq_MO_miss) 103 = .ok (.getfield 87, 3) := by decide +kernel
theorem dq_MO_miss_106 : decode (fx_cc mq_MO_miss) 106 = .ok (.iload_n 3, 1) := by decide +kernel
theorem dq_MO_miss_107 : decode (fx_cc mq_MO_miss) 107 = .ok (.aload_n 0, 1) := by decide +kernel
theorem dq_MO_miss_108 : decode (fx_cc mq_MO_miss) 108 = .ok (.getfield 150, 3) := by decide +kernel
theorem dq_MO_miss_111 : decode (fx_cc mq_MO_miss) 111 = .ok (.iastore, 1) := by decide +kernel
theorem dq_MO_miss_112 : decode (fx_cc mq_MO_miss) 112 = .ok (.aload_n 0, 1) := by decide +kernel
theorem dq_MO_miss_113 : decode (fx_cc mq_MO_miss) 113 = .ok (.getfield 75, 3) := by decide +kernel
theorem dq_MO_miss_116 : decode (fx_cc mq_MO_miss) 116 = .ok (.iload_n 1, 1) := by decide +kernel
theorem dq_MO_miss_117 : decode (fx_cc mq_MO_miss) 117 = .ok (.dup2, 1) := by decide +kernel
theorem dq_MO_miss_118 : decode (fx_cc mq_MO_miss) 118 = .ok (.iaload, 1) := by decide +kernel
theorem dq_MO_miss_119 : decode (fx_cc mq_MO_miss) 119 = .ok (.iconst 1, 1) := by decide +kernel
theorem dq_MO_miss_120 : decode (fx_cc mq_MO_miss) 120 = .ok (.iadd, 1) := by decide +kernel
theorem dq_MO_miss_121 : decode (fx_cc mq_MO_miss) 121 = .ok (.iastore, 1) := by decide +kernel
theorem dq_MO_miss_122 : decode (fx_cc mq_MO_miss) 122 = .ok (.aload_n 0, 1) := by decide +kernel
theorem dq_MO_miss_123 : decode (fx_cc mq_MO_miss) 123 = .ok (.getfield 75, 3) := by decide +kernel
theorem dq_MO_miss_126 : decode (fx_cc mq_MO_miss) 126 = .ok (.iload_n 1, 1) := by decide +kernel
theorem dq_MO_miss_127 : decode (fx_cc mq_MO_miss) 127 = .ok (.iaload, 1) := by decide +kernel
theorem dq_MO_miss_128 : decode (fx_cc mq_MO_miss) 128 = .ok (.bipush 7, 2) := by decide +kernel
theorem dq_MO_miss_130 : decode (fx_cc mq_MO_miss) 130 = .ok (.if_icmp .ne 8, 3) := by decide +kernel
theorem dq_MO_miss_133 : decode (fx_cc mq_MO_miss) 133 = .ok (.aload_n 0, 1) := by decide +kernel
theorem dq_MO_miss_134 : decode (fx_cc mq_MO_miss) 134 = .ok (.iload_n 1, 1) := by decide +kernel
theorem dq_MO_miss_135 : decode (fx_cc mq_MO_miss) 135 = .ok (.invokevirtual 197, 3) := by decide +kernel
theorem dq_MO_miss_138 : decode (fx_cc mq_MO_miss) 138 = .ok (.iinc 1 1, 3) := by decide +kernel
theorem dq_MO_miss_141 : decode (fx_cc mq_MO_miss) 141 = .ok (.goto (-139), 3) := by decide +kernel
theorem dq_MO_miss_144 : decode (fx_cc mq_MO_miss) 144 = .ok (.return_, 1) := by decide +kernel
theorem dq_MO_lies_0 : decode (fx_cc mq_MO_lies) 0 = .ok (.bipush 7, 2) := by decide +kernel
theorem dq_MO_lies_2 : decode (fx_cc mq_MO_lies) 2 = .ok (.iload_n 1, 1) := by decide +kernel
theorem dq_MO_lies_3 : decode (fx_cc mq_MO_lies) 3 = .ok (.imul, 1) := by decide +kernel
theorem dq_MO_lies_4 : decode (fx_cc mq_MO_lies) 4 = .ok (.iload_n 2, 1) := by decide +kernel
theorem dq_MO_lies_5 : decode (fx_cc mq_MO_lies) 5 = .ok (.iadd, 1) := by decide +kernel
theorem dq_MO_lies_6 : decode (fx_cc mq_MO_lies) 6 = .ok (.istore_n 3, 1) := by decide +kernel
theorem dq_MO_lies_7 : decode (fx_cc mq_MO_lies) 7 = .ok (.aload_n 0, 1) := by decide +kernel
theorem dq_MO_lies_8 : decode (fx_cc mq_MO_lies) 8 = .ok (.getfield 141, 3) := by decide +kernel
theorem dq_MO_lies_11 : decode (fx_cc mq_MO_lies) 11 = .ok (.aload_n 0, 1) := by decide +kernel
theorem dq_MO_lies_12 : decode (fx_cc mq_MO_lies) 12 = .ok (.getfield 78, 3) := by decide +kernel
theorem dq_MO_lies_15 : decode (fx_cc mq_MO_lies) 15 = .ok (.iload_n 3, 1) := by decide +kernel
theorem dq_MO_lies_16 : decode (fx_cc mq_MO_lies) 16 = .ok (.iaload, 1) := by decide +kernel
theorem dq_MO_lies_17 : decode (fx_cc mq_MO_lies) 17 = .ok (.if_icmp .lt 70, 3) := by decide +kernel
theorem dq_MO_lies_20 : decode (fx_cc mq_MO_lies) 20 = .ok (.aload_n 0, 1) := by decide +kernel
theorem dq_MO_lies_21 : decode (fx_cc mq_MO_lies) 21 = .ok (.getfield 147, 3) := by decide +kernel
theorem dq_MO_lies_24 : decode (fx_cc mq_MO_lies) 24 = .ok (.aload_n 0, 1) := by decide +kernel
theorem dq_MO_lies_25 : decode (fx_cc mq_MO_lies) 25 = .ok (.getfield 81, 3) := by decide +kernel
theorem dq_MO_lies_28 : decode (fx_cc mq_MO_lies) 28 = .ok (.iload_n 3, 1) := by decide +kernel
theorem dq_MO_lies_29 : decode (fx_cc mq_MO_lies) 29 = .ok (.iaload, 1) := by decide +kernel
theorem dq_MO_lies_30 : decode (fx_cc mq_MO_lies) 30 = .ok (.if_icmp .lt 57, 3) := by decide +kernel
theorem dq_MO_lies_33 : decode (fx_cc mq_MO_lies) 33 = .ok (.aload_n 0, 1) := by decide +kernel
theorem dq_MO_lies_34 : decode (fx_cc mq_MO_lies) 34 = .ok (.getfield 141, 3) := by decide +kernel
theorem dq_MO_lies_37 : decode (fx_cc mq_MO_lies) 37 = .ok (.aload_n 0, 1) := by decide +kernel
theorem dq_MO_lies_38 : decode (fx_cc mq_MO_lies) 38 = .ok (.getfield 144, 3) := by decide +kernel
theorem dq_MO_lies_41 : decode (fx_cc mq_MO_lies) 41 = .ok (.iadd, 1) := by decide +kernel
theorem dq_MO_lies_42 : decode (fx_cc mq_MO_lies) 42 = .ok (.aload_n 0, 1) := by decide +kernel
theorem dq_MO_lies_43 : decode (fx_cc mq_MO_lies) 43 = .ok (.getfield 78, 3) := by decide +kernel
theorem dq_MO_lies_46 : decode (fx_cc mq_MO_lies) 46 = .ok (.iload_n 3, 1) := by decide +kernel
theorem dq_MO_lies_47 : decode (fx_cc mq_MO_lies) 47 = .ok (.iaload, 1) := by decide +kernel
theorem dq_MO_lies_48 : decode (fx_cc mq_MO_lies) 48 = .ok (.aload_n 0, 1) := by decide +kernel
theorem dq_MO_lies_49 : decode (fx_cc mq_MO_lies) 49 = .ok (.getfield 84, 3) := by decide +kernel
theorem dq_MO_lies_52 : decode (fx_cc mq_MO_lies) 52 = .ok (.iload_n 3, 1) := by decide +kernel
theorem dq_MO_lies_53 : decode (fx_cc mq_MO_lies) 53 = .ok (.iaload, 1) := by decide +kernel
theorem dq_MO_lies_54 : decode (fx_cc mq_MO_lies) 54 = .ok (.iadd, 1) := by decide +kernel
theorem dq_MO_lies_55 : decode (fx_cc mq_MO_lies) 55 = .ok (.if_icmp .gt 32, 3) := by decide +kernel
theorem dq_MO_lies_58 : decode (fx_cc mq_MO_lies) 58 = .ok (.aload_n 0, 1) := by decide +kernel
theorem dq_MO_lies_59 : decode (fx_cc mq_MO_lies) 59 = .ok (.getfield 147, 3) := by decide +kernel
theorem dq_MO_lies_62 : decode (fx_cc mq_MO_lies) 62 = .ok (.aload_n 0, 1) := by decide +kernel
theorem dq_MO_lies_63 : decode (fx_cc mq_MO_lies) 63 = .ok (.getfield 150, 3) := by decide +kernel
theorem dq_MO_lies_66 : decode (fx_cc mq_MO_lies) 66 = .ok (.iadd, 1) := by decide +kernel
theorem dq_MO_lies_67 : decode (fx_cc mq_MO_lies) 67 = .ok (.aload_n 0, 1) := by decide +kernel
theorem dq_MO_lies_68 : decode (fx_cc mq_MO_lies) 68 = .ok (.getfield 81, 3) := by decide +kernel
theorem dq_MO_lies_71 : decode (fx_cc mq_MO_lies) 71 = .ok (.iload_n 3, 1) := by decide +kernel
theorem dq_MO_lies_72 : decode (fx_cc mq_MO_lies) 72 = .ok (.iaload, 1) := by decide +kernel
theorem dq_MO_lies_73 : decode (fx_cc mq_MO_lies) 73 = .ok (.aload_n 0, 1) := by decide +kernel
theorem dq_MO_lies_74 : decode (fx_cc mq_MO_lies) 74 = .ok (.getfield 87, 3) := by decide +kernel
theorem dq_MO_lies_77 : decode (fx_cc mq_MO_lies) 77 = .ok (.iload_n 3, 1) := by decide +kernel
theorem dq_MO_lies_78 : decode (fx_cc mq_MO_lies) 78 = .ok (.iaload, 1) := by decide +kernel
theorem dq_MO_lies_79 : decode (fx_cc mq_MO_lies) 79 = .ok (.iadd, 1) := by decide +kernel
theorem dq_MO_lies_80 : decode (fx_cc mq_MO_lies) 80 = .ok (.if_icmp .gt 7, 3) := by decide +kernel
theorem dq_MO_lies_83 : decode (fx_cc mq_MO_lies) 83 = .ok (.iconst 1, 1) := by decide +kernel
theorem dq_MO_lies_84 : decode (fx_cc mq_MO_lies) 84 = .ok (.goto 4, 3) := by decide +kernel
theorem dq_MO_lies_87 : decode (fx_cc mq_MO_lies) 87 = .ok (.iconst 0, 1) := by decide +kernel
theorem dq_MO_lies_88 : decode (fx_cc mq_MO_lies) 88 = .ok (.ireturn, 1) := by decide +kernel
theorem dq_MO_join_0 : decode (fx_cc mq_MO_join) 0 = .ok (.iconst 0, 1) := by decide +kernel
theorem dq_MO_join_1 : decode (fx_cc mq_MO_join) 1 = .ok (.istore_n 2, 1) := by decide +kernel
theorem dq_MO_join_2 : decode (fx_cc mq_MO_join) 2 = .ok (.iconst 0, 1) := by decide +kernel
theorem dq_MO_join_3 : decode (fx_cc mq_MO_join) 3 = .ok (.istore_n 3, 1) := by decide +kernel
theorem dq_MO_join_4 : decode (fx_cc mq_MO_join) 4 = .ok (.ldc 186, 2) := by decide +kernel
theorem dq_MO_join_6 : decode (fx_cc mq_MO_join) 6 = .ok (.istore 4, 2) := by decide +kernel
theorem dq_MO_join_8 : decode (fx_cc mq_MO_join) 8 = .ok (.bipush 7, 2) := by decide +kernel
theorem dq_MO_join_10 : decode (fx_cc mq_MO_join) 10 = .ok (.iload_n 1, 1) := by decide +kernel
theorem dq_MO_join_11 : decode (fx_cc mq_MO_join) 11 = .ok (.imul, 1) := by decide +kernel
theorem dq_MO_join_12 : decode (fx_cc mq_MO_join) 12 = .ok (.istore 5, 2) := by decide +kernel
theorem dq_MO_join_14 : decode (fx_cc mq_MO_join) 14 = .ok (.iload 5, 2) := by decide +kernel
theorem dq_MO_join_16 : decode (fx_cc mq_MO_join) 16 = .ok (.bipush 7, 2) := by decide +kernel
theorem dq_MO_join_18 : decode (fx_cc mq_MO_join) 18 = .ok (.iload_n 1, 1) := by decide +kernel
theorem dq_MO_join_19 : decode (fx_cc mq_MO_join) 19 = .ok (.imul, 1) := by decide +kernel
theorem dq_MO_join_20 : decode (fx_cc mq_MO_join) 20 = .ok (.bipush 7, 2) := by decide +kernel
theorem dq_MO_join_22 : decode (fx_cc mq_MO_join) 22 = .ok (.iadd, 1) := by decide +kernel
theorem dq_MO_join_23 : decode (fx_cc mq_MO_join) 23 = .ok (.if_icmp .ge 104, 3) := by decide +kernel
theorem dq_MO_join_26 : decode (fx_cc mq_MO_join) 26 = .ok (.iload 5, 2) := by decide +kernel
theorem dq_MO_join_28 : decode (fx_cc mq_MO_join) 28 = .ok (.iconst 1, 1) := by decide +kernel
theorem dq_MO_join_29 : decode (fx_cc mq_MO_join) 29 = .ok (.iadd, 1) := by decide +kernel
theorem dq_MO_join_30 : decode (fx_cc mq_MO_join) 30 = .ok (.istore 6, 2) := by decide +kernel
theorem dq_MO_join_32 : decode (fx_cc mq_MO_join) 32 = .ok (.iload 6, 2) := by decide +kernel
theorem dq_MO_join_34 : decode (fx_cc mq_MO_join) 34 = .ok (.bipush 7, 2) := by decide +kernel
theorem dq_MO_join_36 : decode (fx_cc mq_MO_join) 36 = .ok (.iload_n 1, 1) := by decide +kernel
theorem dq_MO_join_37 : decode (fx_cc mq_MO_join) 37 = .ok (.imul, 1) := by decide +kernel
theorem dq_MO_join_38 : decode (fx_cc mq_MO_join) 38 = .ok (.bipush 7, 2) := by decide +kernel
theorem dq_MO_join_40 : decode (fx_cc mq_MO_join) 40 = .ok (.iadd, 1) := by decide +kernel
theorem dq_MO_join_41 : decode (fx_cc mq_MO_join) 41 = .ok (.if_icmp .ge 80, 3) := by decide +kernel
theorem dq_MO_join_44 : decode (fx_cc mq_MO_join) 44 = .ok (.aload_n 0, 1) := by decide +kernel
theorem dq_MO_join_45 : decode (fx_cc mq_MO_join) 45 = .ok (.iload 5, 2) := by decide +kernel
theorem dq_MO_join_47 : decode (fx_cc mq_MO_join) 47 = .ok (.iload 6, 2) := by decide +kernel
theorem dq_MO_join_49 : decode (fx_cc mq_MO_join) 49 = .ok (.invokevirtual 187, 3) := by decide +kernel
theorem dq_MO_join_52 : decode (fx_cc mq_MO_join) 52 = .ok (.aload_n 0, 1) := by decide +kernel
theorem dq_MO_join_53 : decode (fx_cc mq_MO_join) 53 = .ok (.iload 5, 2) := by decide +kernel
theorem dq_MO_join_55 : decode (fx_cc mq_MO_join) 55 = .ok (.iload 6, 2) := by decide +kernel
theorem dq_MO_join_57 : decode (fx_cc mq_MO_join) 57 = .ok (.invokevirtual 191, 3) := by decide +kernel
theorem dq_MO_join_60 : decode (fx_cc mq_MO_join) 60 = .ok (.imul, 1) := by decide +kernel
theorem dq_MO_join_61 : decode (fx_cc mq_MO_join) 61 = .ok (.aload_n 0, 1) := by decide +kernel
theorem dq_MO_join_62 : decode (fx_cc mq_MO_join) 62 = .ok (.getfield 84, 3) := by decide +kernel
theorem dq_MO_join_65 : decode (fx_cc mq_MO_join) 65 = .ok (.iload 5, 2) := by decide +kernel
theorem dq_MO_join_67 : decode (fx_cc mq_MO_join) 67 = .ok (.iaload, 1) := by decide +kernel
theorem dq_MO_join_68 : decode (fx_cc mq_MO_join) 68 = .ok (.aload_n 0, 1) := by decide +kernel
theorem dq_MO_join_69 : decode (fx_cc mq_MO_join) 69 = .ok (.getfield 87, 3) := by decide +kernel
theorem dq_MO_join_72 : decode (fx_cc mq_MO_join) 72 = .ok (.iload 5, 2) := by decide +kernel
theorem dq_MO_join_74 : decode (fx_cc mq_MO_join) 74 = .ok (.iaload, 1) := by decide +kernel
