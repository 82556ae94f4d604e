/-! ===== a row for each instruction ===== -/
theorem dq_FS_init_0 : decode (fx_cc mq_FS_init) 0 = .ok (.aload_n 0, 1) := by decide +kernel
theorem dq_FS_init_1 : decode (fx_cc mq_FS_init) 1 = .ok (.invokespecial 1, 3) := by decide +kernel
theorem dq_FS_init_4 : decode (fx_cc mq_FS_init) 4 = .ok (.aload_n 0, 1) := by decide +kernel
theorem dq_FS_init_5 : decode (fx_cc mq_FS_init) 5 = .ok (.new 7, 3) := by decide +kernel
theorem dq_FS_init_8 : decode (fx_cc mq_FS_init) 8 = .ok (.dup, 1) := by decide +kernel
theorem dq_FS_init_9 : decode (fx_cc mq_FS_init) 9 = .ok (.invokespecial 9, 3) := by decide +kernel
theorem dq_FS_init_12 : decode (fx_cc mq_FS_init) 12 = .ok (.putfield 10, 3) := by decide +kernel
theorem dq_FS_init_15 : decode (fx_cc mq_FS_init) 15 = .ok (.aload_n 0, 1) := by decide +kernel
theorem dq_FS_init_16 : decode (fx_cc mq_FS_init) 16 = .ok (.new 16, 3) := by decide +kernel
theorem dq_FS_init_19 : decode (fx_cc mq_FS_init) 19 = .ok (.dup, 1) := by decide +kernel
theorem dq_FS_init_20 : decode (fx_cc mq_FS_init) 20 = .ok (.invokespecial 18, 3) := by decide +kernel
theorem dq_FS_init_23 : decode (fx_cc mq_FS_init) 23 = .ok (.putfield 19, 3) := by decide +kernel
theorem dq_FS_init_26 : decode (fx_cc mq_FS_init) 26 = .ok (.aload_n 0, 1) := by decide +kernel
theorem dq_FS_init_27 : decode (fx_cc mq_FS_init) 27 = .ok (.new 23, 3) := by decide +kernel
theorem dq_FS_init_30 : decode (fx_cc mq_FS_init) 30 = .ok (.dup, 1) := by decide +kernel
theorem dq_FS_init_31 : decode (fx_cc mq_FS_init) 31 = .ok (.invokespecial 25, 3) := by decide +kernel
theorem dq_FS_init_34 : decode (fx_cc mq_FS_init) 34 = .ok (.putfield 26, 3) := by decide +kernel
theorem dq_FS_init_37 : decode (fx_cc mq_FS_init) 37 = .ok (.aload_n 0, 1) := by decide +kernel
theorem dq_FS_init_38 : decode (fx_cc mq_FS_init) 38 = .ok (.new 30, 3) := by decide +kernel
theorem dq_FS_init_41 : decode (fx_cc mq_FS_init) 41 = .ok (.dup, 1) := by decide +kernel
theorem dq_FS_init_42 : decode (fx_cc mq_FS_init) 42 = .ok (.invokespecial 32, 3) := by decide +kernel
theorem dq_FS_init_45 : decode (fx_cc mq_FS_init) 45 = .ok (.putfield 33, 3) := by decide +kernel
theorem dq_FS_init_48 : decode (fx_cc mq_FS_init) 48 = .ok (.aload_n 0, 1) := by decide +kernel
theorem dq_FS_init_49 : decode (fx_cc mq_FS_init) 49 = .ok (.new 37, 3) := by decide +kernel
theorem dq_FS_init_52 : decode (fx_cc mq_FS_init) 52 = .ok (.dup, 1) := by decide +kernel
theorem dq_FS_init_53 : decode (fx_cc mq_FS_init) 53 = .ok (.invokespecial 39, 3) := by decide +kernel
theorem dq_FS_init_56 : decode (fx_cc mq_FS_init) 56 = .ok (.putfield 40, 3) := by decide +kernel
theorem dq_FS_init_59 : decode (fx_cc mq_FS_init) 59 = .ok (.return_, 1) := by decide +kernel
theorem dq_DE_init_0 : decode (fx_cc mq_DE_init) 0 = .ok (.aload_n 0, 1) := by decide +kernel
theorem dq_DE_init_1 : decode (fx_cc mq_DE_init) 1 = .ok (.invokespecial 3, 3) := by decide +kernel
theorem dq_DE_init_4 : decode (fx_cc mq_DE_init) 4 = .ok (.aload_n 0, 1) := by decide +kernel
theorem dq_DE_init_5 : decode (fx_cc mq_DE_init) 5 = .ok (.bipush 10, 2) := by decide +kernel
theorem dq_DE_init_7 : decode (fx_cc mq_DE_init) 7 = .ok (.anewarray 9, 3) := by decide +kernel
theorem dq_DE_init_10 : decode (fx_cc mq_DE_init) 10 = .ok (.putfield 11, 3) := by decide +kernel
theorem dq_DE_init_13 : decode (fx_cc mq_DE_init) 13 = .ok (.aload_n 0, 1) := by decide +kernel
theorem dq_DE_init_14 : decode (fx_cc mq_DE_init) 14 = .ok (.new 17, 3) := by decide +kernel
theorem dq_DE_init_17 : decode (fx_cc mq_DE_init) 17 = .ok (.dup, 1) := by decide +kernel
theorem dq_DE_init_18 : decode (fx_cc mq_DE_init) 18 = .ok (.invokespecial 19, 3) := by decide +kernel
theorem dq_DE_init_21 : decode (fx_cc mq_DE_init) 21 = .ok (.putfield 20, 3) := by decide +kernel
theorem dq_DE_init_24 : decode (fx_cc mq_DE_init) 24 = .ok (.aload_n 0, 1) := by decide +kernel
theorem dq_DE_init_25 : decode (fx_cc mq_DE_init) 25 = .ok (.bipush 10, 2) := by decide +kernel
theorem dq_DE_init_27 : decode (fx_cc mq_DE_init) 27 = .ok (.newarray .int, 2) := by decide +kernel
theorem dq_DE_init_29 : decode (fx_cc mq_DE_init) 29 = .ok (.putfield 24, 3) := by decide +kernel
theorem dq_DE_init_32 : decode (fx_cc mq_DE_init) 32 = .ok (.aload_n 0, 1) := by decide +kernel
theorem dq_DE_init_33 : decode (fx_cc mq_DE_init) 33 = .ok (.bipush 10, 2) := by decide +kernel
theorem dq_DE_init_35 : decode (fx_cc mq_DE_init) 35 = .ok (.newarray .boolean, 2) := by decide +kernel
theorem dq_DE_init_37 : decode (fx_cc mq_DE_init) 37 = .ok (.putfield 28, 3) := by decide +kernel
theorem dq_DE_init_40 : decode (fx_cc mq_DE_init) 40 = .ok (.aload_n 0, 1) := by decide +kernel
theorem dq_DE_init_41 : decode (fx_cc mq_DE_init) 41 = .ok (.iconst 4, 1) := by decide +kernel
theorem dq_DE_init_42 : decode (fx_cc mq_DE_init) 42 = .ok (.newarray .boolean, 2) := by decide +kernel
theorem dq_DE_init_44 : decode (fx_cc mq_DE_init) 44 = .ok (.putfield 32, 3) := by decide +kernel
theorem dq_DE_init_47 : decode (fx_cc mq_DE_init) 47 = .ok (.aload_n 0, 1) := by decide +kernel
theorem dq_DE_init_48 : decode (fx_cc mq_DE_init) 48 = .ok (.sipush 300, 3) := by decide +kernel
theorem dq_DE_init_51 : decode (fx_cc mq_DE_init) 51 = .ok (.putfield 35, 3) := by decide +kernel
theorem dq_DE_init_54 : decode (fx_cc mq_DE_init) 54 = .ok (.iconst 0, 1) := by decide +kernel
theorem dq_DE_init_55 : decode (fx_cc mq_DE_init) 55 = .ok (.istore_n 1, 1) := by decide +kernel
theorem dq_DE_init_56 : decode (fx_cc mq_DE_init) 56 = .ok (.iload_n 1, 1) := by decide +kernel
theorem dq_DE_init_57 : decode (fx_cc mq_DE_init) 57 = .ok (.bipush 10, 2) := by decide +kernel
theorem dq_DE_init_59 : decode (fx_cc mq_DE_init) 59 = .ok (.if_icmp .ge 29, 3) := by decide +kernel
theorem dq_DE_init_62 : decode (fx_cc mq_DE_init) 62 = .ok (.aload_n 0, 1) := by decide +kernel
theorem dq_DE_init_63 : decode (fx_cc mq_DE_init) 63 = .ok (.getfield 11, 3) := by decide +kernel
theorem dq_DE_init_66 : decode (fx_cc mq_DE_init) 66 = .ok (.iload_n 1, 1) := by decide +kernel
theorem dq_DE_init_67 : decode (fx_cc mq_DE_init) 67 = .ok (.new 9, 3) := by decide +kernel
theorem dq_DE_init_70 : decode (fx_cc mq_DE_init) 70 = .ok (.dup, 1) := by decide +kernel
theorem dq_DE_init_71 : decode (fx_cc mq_DE_init) 71 = .ok (.invokespecial 39, 3) := by decide +kernel
theorem dq_DE_init_74 : decode (fx_cc mq_DE_init) 74 = .ok (.aastore, 1) := by decide +kernel
theorem dq_DE_init_75 : decode (fx_cc mq_DE_init) 75 = .ok (.aload_n 0, 1) := by decide +kernel
theorem dq_DE_init_76 : decode (fx_cc mq_DE_init) 76 = .ok (.getfield 24, 3) := by decide +kernel
theorem dq_DE_init_79 : decode (fx_cc mq_DE_init) 79 = .ok (.iload_n 1, 1) := by decide +kernel
theorem dq_DE_init_80 : decode (fx_cc mq_DE_init) 80 = .ok (.iconst (-1), 1) := by decide +kernel
theorem dq_DE_init_81 : decode (fx_cc mq_DE_init) 81 = .ok (.iastore, 1) := by decide +kernel
theorem dq_DE_init_82 : decode (fx_cc mq_DE_init) 82 = .ok (.iinc 1 1, 3) := by decide +kernel
theorem dq_DE_init_85 : decode (fx_cc mq_DE_init) 85 = .ok (.goto (-29), 3) := by decide +kernel
theorem dq_DE_init_88 : decode (fx_cc mq_DE_init) 88 = .ok (.return_, 1) := by decide +kernel
theorem dq_PL_init_0 : decode (fx_cc mq_PL_init) 0 = .ok (.aload_n 0, 1) := by decide +kernel
theorem dq_PL_init_1 : decode (fx_cc mq_PL_init) 1 = .ok (.invokespecial 3, 3) := by decide +kernel
theorem dq_PL_init_4 : decode (fx_cc mq_PL_init) 4 = .ok (.aload_n 0, 1) := by decide +kernel
theorem dq_PL_init_5 : decode (fx_cc mq_PL_init) 5 = .ok (.bipush 10, 2) := by decide +kernel
theorem dq_PL_init_7 : decode (fx_cc mq_PL_init) 7 = .ok (.anewarray 9, 3) := by decide +kernel
theorem dq_PL_init_10 : decode (fx_cc mq_PL_init) 10 = .ok (.putfield 11, 3) := by decide +kernel
theorem dq_PL_init_13 : decode (fx_cc mq_PL_init) 13 = .ok (.aload_n 0, 1) := by decide +kernel
theorem dq_PL_init_14 : decode (fx_cc mq_PL_init) 14 = .ok (.bipush 10, 2) := by decide +kernel
theorem dq_PL_init_16 : decode (fx_cc mq_PL_init) 16 = .ok (.newarray .int, 2) := by decide +kernel
theorem dq_PL_init_18 : decode (fx_cc mq_PL_init) 18 = .ok (.putfield 17, 3) := by decide +kernel
theorem dq_PL_init_21 : decode (fx_cc mq_PL_init) 21 = .ok (.iconst 0, 1) := by decide +kernel
theorem dq_PL_init_22 : decode (fx_cc mq_PL_init) 22 = .ok (.istore_n 1, 1) := by decide +kernel
theorem dq_PL_init_23 : decode (fx_cc mq_PL_init) 23 = .ok (.iload_n 1, 1) := by decide +kernel
theorem dq_PL_init_24 : decode (fx_cc mq_PL_init) 24 = .ok (.bipush 10, 2) := by decide +kernel
theorem dq_PL_init_26 : decode (fx_cc mq_PL_init) 26 = .ok (.if_icmp .ge 22, 3) := by decide +kernel
theorem dq_PL_init_29 : decode (fx_cc mq_PL_init) 29 = .ok (.aload_n 0, 1) := by decide +kernel
theorem dq_PL_init_30 : decode (fx_cc mq_PL_init) 30 = .ok (.getfield 11, 3) := by decide +kernel
theorem dq_PL_init_33 : decode (fx_cc mq_PL_init) 33 = .ok (.iload_n 1, 1) := by decide +kernel
theorem dq_PL_init_34 : decode (fx_cc mq_PL_init) 34 = .ok (.new 9, 3) := by decide +kernel
theorem dq_PL_init_37 : decode (fx_cc mq_PL_init) 37 = .ok (.dup, 1) := by decide +kernel
theorem dq_PL_init_38 : decode (fx_cc mq_PL_init) 38 = .ok (.invokespecial 21, 3) := by decide +kernel
theorem dq_PL_init_41 : decode (fx_cc mq_PL_init) 41 = .ok (.aastore, 1) := by decide +kernel
theorem dq_PL_init_42 : decode (fx_cc mq_PL_init) 42 = .ok (.iinc 1 1, 3) := by decide +kernel
theorem dq_PL_init_45 : decode (fx_cc mq_PL_init) 45 = .ok (.goto (-22), 3) := by decide +kernel
theorem dq_PL_init_48 : decode (fx_cc mq_PL_init) 48 = .ok (.return_, 1) := by decide +kernel
theorem dq_PI_init_0 : decode (fx_cc mq_PI_init) 0 = .ok (.aload_n 0, 1) := by decide +kernel
theorem dq_PI_init_1 : decode (fx_cc mq_PI_init) 1 = .ok (.invokespecial 3, 3) := by decide +kernel
theorem dq_PI_init_4 : decode (fx_cc mq_PI_init) 4 = .ok (.aload_n 0, 1) := by decide +kernel
theorem dq_PI_init_5 : decode (fx_cc mq_PI_init) 5 = .ok (.bipush 96, 2) := by decide +kernel
theorem dq_PI_init_7 : decode (fx_cc mq_PI_init) 7 = .ok (.newarray .int, 2) := by decide +kernel
theorem dq_PI_init_9 : decode (fx_cc mq_PI_init) 9 = .ok (.putfield 9, 3) := by decide +kernel
theorem dq_PI_init_12 : decode (fx_cc mq_PI_init) 12 = .ok (.aload_n 0, 1) := by decide +kernel
theorem dq_PI_init_13 : decode (fx_cc mq_PI_init) 13 = .ok (.new 15, 3) := by decide +kernel
theorem dq_PI_init_16 : decode (fx_cc mq_PI_init) 16 = .ok (.dup, 1) := by decide +kernel
theorem dq_PI_init_17 : decode (fx_cc mq_PI_init) 17 = .ok (.invokespecial 17, 3) := by decide +kernel
theorem dq_PI_init_20 : decode (fx_cc mq_PI_init) 20 = .ok (.putfield 18, 3) := by decide +kernel
theorem dq_PI_init_23 : decode (fx_cc mq_PI_init) 23 = .ok (.aload_n 0, 1) := by decide +kernel
theorem dq_PI_init_24 : decode (fx_cc mq_PI_init) 24 = .ok (.new 15, 3) := by decide +kernel
theorem dq_PI_init_27 : decode (fx_cc mq_PI_init) 27 = .ok (.dup, 1) := by decide +kernel
theorem dq_PI_init_28 : decode (fx_cc mq_PI_init) 28 = .ok (.invokespecial 17, 3) := by decide +kernel
theorem dq_PI_init_31 : decode (fx_cc mq_PI_init) 31 = .ok (.putfield 22, 3) := by decide +kernel
theorem dq_PI_init_34 : decode (fx_cc mq_PI_init) 34 = .ok (.return_, 1) := by decide +kernel
theorem dq_RE_init_0 : decode (fx_cc mq_RE_init) 0 = .ok (.aload_n 0, 1) := by decide +kernel
theorem dq_RE_init_1 : decode (fx_cc mq_RE_init) 1 = .ok (.invokespecial 1, 3) := by decide +kernel
theorem dq_RE_init_4 : decode (fx_cc mq_RE_init) 4 = .ok (.return_, 1) := by decide +kernel
theorem dq_CO_init_0 : decode (fx_cc mq_CO_init) 0 = .ok (.aload_n 0, 1) := by decide +kernel
theorem dq_CO_init_1 : decode (fx_cc mq_CO_init) 1 = .ok (.invokespecial 3, 3) := by decide +kernel
theorem dq_CO_init_4 : decode (fx_cc mq_CO_init) 4 = .ok (.aload_n 0, 1) := by decide +kernel
theorem dq_CO_init_5 : decode (fx_cc mq_CO_init) 5 = .ok (.new 9, 3) := by decide +kernel
theorem dq_CO_init_8 : decode (fx_cc mq_CO_init) 8 = .ok (.dup, 1) := by decide +kernel
theorem dq_CO_init_9 : decode (fx_cc mq_CO_init) 9 = .ok (.invokespecial 11, 3) := by decide +kernel
theorem dq_CO_init_12 : decode (fx_cc mq_CO_init) 12 = .ok (.putfield 12, 3) := by decide +kernel
theorem dq_CO_init_15 : decode (fx_cc mq_CO_init) 15 = .ok (.aload_n 0, 1) := by decide +kernel
theorem dq_CO_init_16 : decode (fx_cc mq_CO_init) 16 = .ok (.new 18, 3) := by decide +kernel
theorem dq_CO_init_19 : decode (fx_cc mq_CO_init) 19 = .ok (.dup, 1) := by decide +kernel
theorem dq_CO_init_20 : decode (fx_cc mq_CO_init) 20 = .ok (.invokespecial 20, 3) := by decide +kernel
theorem dq_CO_init_23 : decode (fx_cc mq_CO_init) 23 = .ok (.putfield 21, 3) := by decide +kernel
theorem dq_CO_init_26 : decode (fx_cc mq_CO_init) 26 = .ok (.aload_n 0, 1) := by decide +kernel
theorem dq_CO_init_27 : decode (fx_cc mq_CO_init) 27 = .ok (.bipush 10, 2) := by decide +kernel
theorem dq_CO_init_29 : decode (fx_cc mq_CO_init) 29 = .ok (.newarray .boolean, 2) := by decide +kernel
theorem dq_CO_init_31 : decode (fx_cc mq_CO_init) 31 = .ok (.putfield 25, 3) := by decide +kernel
theorem dq_CO_init_34 : decode (fx_cc mq_CO_init) 34 = .ok (.aload_n 0, 1) := by decide +kernel
theorem dq_CO_init_35 : decode (fx_cc mq_CO_init) 35 = .ok (.bipush 10, 2) := by decide +kernel
theorem dq_CO_init_37 : decode (fx_cc mq_CO_init) 37 = .ok (.anewarray 29, 3) := by decide +kernel
theorem dq_CO_init_40 : decode (fx_cc mq_CO_init) 40 = .ok (.putfield 31, 3) := by decide +kernel
theorem dq_CO_init_43 : decode (fx_cc mq_CO_init) 43 = .ok (.aload_n 0, 1) := by decide +kernel
theorem dq_CO_init_44 : decode (fx_cc mq_CO_init) 44 = .ok (.new 35, 3) := by decide +kernel
theorem dq_CO_init_47 : decode (fx_cc mq_CO_init) 47 = .ok (.dup, 1) := by decide +kernel
theorem dq_CO_init_48 : decode (fx_cc mq_CO_init) 48 = .ok (.invokespecial 37, 3) := by decide +kernel
theorem dq_CO_init_51 : decode (fx_cc mq_CO_init) 51 = .ok (.putfield 38, 3) := by decide +kernel
theorem dq_CO_init_54 : decode (fx_cc mq_CO_init) 54 = .ok (.aload_n 0, 1) := by decide +kernel
theorem dq_CO_init_55 : decode (fx_cc mq_CO_init) 55 = .ok (.new 35, 3) := by decide +kernel
theorem dq_CO_init_58 : decode (fx_cc mq_CO_init) 58 = .ok (.dup, 1) := by decide +kernel
theorem dq_CO_init_59 : decode (fx_cc mq_CO_init) 59 = .ok (.invokespecial 37, 3) := by decide +kernel
theorem dq_CO_init_62 : decode (fx_cc mq_CO_init) 62 = .ok (.putfield 42, 3) := by decide +kernel
theorem dq_CO_init_65 : decode (fx_cc mq_CO_init) 65 = .ok (.aload_n 0, 1) := by decide +kernel
theorem dq_CO_init_66 : decode (fx_cc mq_CO_init) 66 = .ok (.iconst 0, 1) := by decide +kernel
theorem dq_CO_init_67 : decode (fx_cc mq_CO_init) 67 = .ok (.putfield 45, 3) := by decide +kernel
theorem dq_CO_init_70 : decode (fx_cc mq_CO_init) 70 = .ok (.iconst 0, 1) := by decide +kernel
theorem dq_CO_init_71 : decode (fx_cc mq_CO_init) 71 = .ok (.istore_n 1, 1) := by decide +kernel
theorem dq_CO_init_72 : decode (fx_cc mq_CO_init) 72 = .ok (.iload_n 1, 1) := by decide +kernel
theorem dq_CO_init_73 : decode (fx_cc mq_CO_init) 73 = .ok (.bipush 10, 2) := by decide +kernel
theorem dq_CO_init_75 : decode (fx_cc mq_CO_init) 75 = .ok (.if_icmp .ge 22, 3) := by decide +kernel
theorem dq_CO_init_78 : decode (fx_cc mq_CO_init) 78 = .ok (.aload_n 0, 1) := by decide +kernel
theorem dq_CO_init_79 : decode (fx_cc mq_CO_init) 79 = .ok (.getfield 31, 3) := by decide +kernel
theorem dq_CO_init_82 : decode (fx_cc mq_CO_init) 82 = .ok (.iload_n 1, 1) := by decide +kernel
theorem dq_CO_init_83 : decode (fx_cc mq_CO_init) 83 = .ok (.new 29, 3) := by decide +kernel
theorem dq_CO_init_86 : decode (fx_cc mq_CO_init) 86 = .ok (.dup, 1) := by decide +kernel
theorem dq_CO_init_87 : decode (fx_cc mq_CO_init) 87 = .ok (.invokespecial 49, 3) := by decide +kernel
theorem dq_CO_init_90 : decode (fx_cc mq_CO_init) 90 = .ok (.aastore, 1) := by decide +kernel
theorem dq_CO_init_91 : decode (fx_cc mq_CO_init) 91 = .ok (.iinc 1 1, 3) := by decide +kernel
theorem dq_CO_init_94 : decode (fx_cc mq_CO_init) 94 = .ok (.goto (-22), 3) := by decide +kernel
theorem dq_CO_init_97 : decode (fx_cc mq_CO_init) 97 = .ok (.return_, 1) := by decide +kernel
theorem dq_PN_init_0 : decode (fx_cc mq_PN_init) 0 = .ok (.aload_n 0, 1) := by decide +kernel
theorem dq_PN_init_1 : decode (fx_cc mq_PN_init) 1 = .ok (.invokespecial 3, 3) := by decide +kernel
theorem dq_PN_init_4 : decode (fx_cc mq_PN_init) 4 = .ok (.aload_n 0, 1) := by decide +kernel
theorem dq_PN_init_5 : decode (fx_cc mq_PN_init) 5 = .ok (.iconst 2, 1) := by decide +kernel
theorem dq_PN_init_6 : decode (fx_cc mq_PN_init) 6 = .ok (.newarray .int, 2) := by decide +kernel
theorem dq_PN_init_8 : decode (fx_cc mq_PN_init) 8 = .ok (.dup, 1) := by decide +kernel
theorem dq_PN_init_9 : decode (fx_cc mq_PN_init) 9 = .ok (.iconst 0, 1) := by decide +kernel
theorem dq_PN_init_10 : decode (fx_cc mq_PN_init) 10 = .ok (.iconst (-1), 1) := by decide +kernel
theorem dq_PN_init_11 : decode (fx_cc mq_PN_init) 11 = .ok (.iastore, 1) := by decide +kernel
theorem dq_PN_init_12 : decode (fx_cc mq_PN_init) 12 = .ok (.dup, 1) := by decide +kernel
theorem dq_PN_init_13 : decode (fx_cc mq_PN_init) 13 = .ok (.iconst 1, 1) := by decide +kernel
theorem dq_PN_init_14 : decode (fx_cc mq_PN_init) 14 = .ok (.iconst (-1), 1) := by decide +kernel
theorem dq_PN_init_15 : decode (fx_cc mq_PN_init) 15 = .ok (.iastore, 1) := by decide +kernel
theorem dq_PN_init_16 : decode (fx_cc mq_PN_init) 16 = .ok (.putfield 9, 3) := by decide +kernel
theorem dq_PN_init_19 : decode (fx_cc mq_PN_init) 19 = .ok (.aload_n 0, 1) := by decide +kernel
theorem dq_PN_init_20 : decode (fx_cc mq_PN_init) 20 = .ok (.iconst 2, 1) := by decide +kernel
theorem dq_PN_init_21 : decode (fx_cc mq_PN_init) 21 = .ok (.anewarray 15, 3) := by decide +kernel
theorem dq_PN_init_24 : decode (fx_cc mq_PN_init) 24 = .ok (.dup, 1) := by decide +kernel
theorem dq_PN_init_25 : decode (fx_cc mq_PN_init) 25 = .ok (.iconst 0, 1) := by decide +kernel
theorem dq_PN_init_26 : decode (fx_cc mq_PN_init) 26 = .ok (.new 15, 3) := by decide +kernel
theorem dq_PN_init_29 : decode (fx_cc mq_PN_init) 29 = .ok (.dup, 1) := by decide +kernel
theorem dq_PN_init_30 : decode (fx_cc mq_PN_init) 30 = .ok (.invokespecial 17, 3) := by decide +kernel
theorem dq_PN_init_33 : decode (fx_cc mq_PN_init) 33 = .ok (.aastore, 1) := by decide +kernel
theorem dq_PN_init_34 : decode (fx_cc mq_PN_init) 34 = .ok (.dup, 1) := by decide +kernel
theorem dq_PN_init_35 : decode (fx_cc mq_PN_init) 35 = .ok (.iconst 1, 1) := by decide +kernel
theorem dq_PN_init_36 : decode (fx_cc mq_PN_init) 36 = .ok (.new 15, 3) := by decide +kernel
theorem dq_PN_init_39 : decode (fx_cc mq_PN_init) 39 = .ok (.dup, 1) := by decide +kernel
theorem dq_PN_init_40 : decode (fx_cc mq_PN_init) 40 = .ok (.invokespecial 17, 3) := by decide +kernel
theorem dq_PN_init_43 : decode (fx_cc mq_PN_init) 43 = .ok (.aastore, 1) := by decide +kernel
theorem dq_PN_init_44 : decode (fx_cc mq_PN_init) 44 = .ok (.putfield 18, 3) := by decide +kernel
theorem dq_PN_init_47 : decode (fx_cc mq_PN_init) 47 = .ok (.aload_n 0, 1) := by decide +kernel
theorem dq_PN_init_48 : decode (fx_cc mq_PN_init) 48 = .ok (.iconst 2, 1) := by decide +kernel
theorem dq_PN_init_49 : decode (fx_cc mq_PN_init) 49 = .ok (.bipush 24, 2) := by decide +kernel
theorem dq_PN_init_51 : decode (fx_cc mq_PN_init) 51 = .ok (.multianewarray 22 2, 4) := by decide +kernel
theorem dq_PN_init_55 : decode (fx_cc mq_PN_init) 55 = .ok (.putfield 24, 3) := by decide +kernel
theorem dq_PN_init_58 : decode (fx_cc mq_PN_init) 58 = .ok (.return_, 1) := by decide +kernel
theorem dq_ME_init_0 : decode (fx_cc mq_ME_init) 0 = .ok (.aload_n 0, 1) := by decide +kernel
theorem dq_ME_init_1 : decode (fx_cc mq_ME_init) 1 = .ok (.invokespecial 3, 3) := by decide +kernel
theorem dq_ME_init_4 : decode (fx_cc mq_ME_init) 4 = .ok (.aload_n 0, 1) := by decide +kernel
theorem dq_ME_init_5 : decode (fx_cc mq_ME_init) 5 = .ok (.sipush 200, 3) := by decide +kernel
theorem dq_ME_init_8 : decode (fx_cc mq_ME_init) 8 = .ok (.newarray .int, 2) := by decide +kernel
theorem dq_ME_init_10 : decode (fx_cc mq_ME_init) 10 = .ok (.putfield 9, 3) := by decide +kernel
theorem dq_ME_init_13 : decode (fx_cc mq_ME_init) 13 = .ok (.aload_n 0, 1) := by decide +kernel
theorem dq_ME_init_14 : decode (fx_cc mq_ME_init) 14 = .ok (.new 15, 3) := by decide +kernel
theorem dq_ME_init_17 : decode (fx_cc mq_ME_init) 17 = .ok (.dup, 1) := by decide +kernel
theorem dq_ME_init_18 : decode (fx_cc mq_ME_init) 18 = .ok (.invokespecial 17, 3) := by decide +kernel
theorem dq_ME_init_21 : decode (fx_cc mq_ME_init) 21 = .ok (.putfield 18, 3) := by decide +kernel
theorem dq_ME_init_24 : decode (fx_cc mq_ME_init) 24 = .ok (.return_, 1) := by decide +kernel
theorem dq_MI_init_0 : decode (fx_cc mq_MI_init) 0 = .ok (.aload_n 0, 1) := by decide +kernel
theorem dq_MI_init_1 : decode (fx_cc mq_MI_init) 1 = .ok (.invokespecial 3, 3) := by decide +kernel
theorem dq_MI_init_4 : decode (fx_cc mq_MI_init) 4 = .ok (.aload_n 0, 1) := by decide +kernel
theorem dq_MI_init_5 : decode (fx_cc mq_MI_init) 5 = .ok (.bipush 7, 2) := by decide +kernel
theorem dq_MI_init_7 : decode (fx_cc mq_MI_init) 7 = .ok (.anewarray 9, 3) := by decide +kernel
theorem dq_MI_init_10 : decode (fx_cc mq_MI_init) 10 = .ok (.putfield 11, 3) := by decide +kernel
theorem dq_MI_init_13 : decode (fx_cc mq_MI_init) 13 = .ok (.iconst 0, 1) := by decide +kernel
theorem dq_MI_init_14 : decode (fx_cc mq_MI_init) 14 = .ok (.istore_n 1, 1) := by decide +kernel
theorem dq_MI_init_15 : decode (fx_cc mq_MI_init) 15 = .ok (.iload_n 1, 1) := by decide +kernel
theorem dq_MI_init_16 : decode (fx_cc mq_MI_init) 16 = .ok (.bipush 6, 2) := by decide +kernel
theorem dq_MI_init_18 : decode (fx_cc mq_MI_init) 18 = .ok (.if_icmp .gt 22, 3) := by decide +kernel
theorem dq_MI_init_21 : decode (fx_cc mq_MI_init) 21 = .ok (.aload_n 0, 1) := by decide +kernel
theorem dq_MI_init_22 : decode (fx_cc mq_MI_init) 22 = .ok (.getfield 11, 3) := by decide +kernel
theorem dq_MI_init_25 : decode (fx_cc mq_MI_init) 25 = .ok (.iload_n 1, 1) := by decide +kernel
theorem dq_MI_init_26 : decode (fx_cc mq_MI_init) 26 = .ok (.new 9, 3) := by decide +kernel
theorem dq_MI_init_29 : decode (fx_cc mq_MI_init) 29 = .ok (.dup, 1) := by decide +kernel
theorem dq_MI_init_30 : decode (fx_cc mq_MI_init) 30 = .ok (.invokespecial 17, 3) := by decide +kernel
theorem dq_MI_init_33 : decode (fx_cc mq_MI_init) 33 = .ok (.aastore, 1) := by decide +kernel
theorem dq_MI_init_34 : decode (fx_cc mq_MI_init) 34 = .ok (.iinc 1 1, 3) := by decide +kernel
theorem dq_MI_init_37 : decode (fx_cc mq_MI_init) 37 = .ok (.goto (-22), 3) := by decide +kernel
theorem dq_MI_init_40 : decode (fx_cc mq_MI_init) 40 = .ok (.return_, 1) := by decide +kernel
theorem dq_BE_init_0 : decode (fx_cc mq_BE_init) 0 = .ok (.aload_n 0, 1) := by decide +kernel
theorem dq_BE_init_1 : decode (fx_cc mq_BE_init) 1 = .ok (.invokespecial 3, 3) := by decide +kernel
theorem dq_BE_init_4 : decode (fx_cc mq_BE_init) 4 = .ok (.aload_n 0, 1) := by decide +kernel
theorem dq_BE_init_5 : decode (fx_cc mq_BE_init) 5 = .ok (.new 9, 3) := by decide +kernel
theorem dq_BE_init_8 : decode (fx_cc mq_BE_init) 8 = .ok (.dup, 1) := by decide +kernel
theorem dq_BE_init_9 : decode (fx_cc mq_BE_init) 9 = .ok (.invokespecial 11, 3) := by decide +kernel
theorem dq_BE_init_12 : decode (fx_cc mq_BE_init) 12 = .ok (.putfield 12, 3) := by decide +kernel
theorem dq_BE_init_15 : decode (fx_cc mq_BE_init) 15 = .ok (.aload_n 0, 1) := by decide +kernel
theorem dq_BE_init_16 : decode (fx_cc mq_BE_init) 16 = .ok (.sipush 200, 3) := by decide +kernel
theorem dq_BE_init_19 : decode (fx_cc mq_BE_init) 19 = .ok (.newarray .int, 2) := by decide +kernel
theorem dq_BE_init_21 : decode (fx_cc mq_BE_init) 21 = .ok (.putfield 18, 3) := by decide +kernel
theorem dq_BE_init_24 : decode (fx_cc mq_BE_init) 24 = .ok (.aload_n 0, 1) := by decide +kernel
theorem dq_BE_init_25 : decode (fx_cc mq_BE_init) 25 = .ok (.sipush 200, 3) := by decide +kernel
theorem dq_BE_init_28 : decode (fx_cc mq_BE_init) 28 = .ok (.newarray .int, 2) := by decide +kernel
theorem dq_BE_init_30 : decode (fx_cc mq_BE_init) 30 = .ok (.putfield 22, 3) := by decide +kernel
theorem dq_BE_init_33 : decode (fx_cc mq_BE_init) 33 = .ok (.return_, 1) := by decide +kernel
theorem dq_FS_scan_0 : decode (fx_cc mq_FS_scan) 0 = .ok (.aload_n 0, 1) := by decide +kernel
theorem dq_FS_scan_1 : decode (fx_cc mq_FS_scan) 1 = .ok (.getfield 26, 3) := by decide +kernel
theorem dq_FS_scan_4 : decode (fx_cc mq_FS_scan) 4 = .ok (.getfield 174, 3) := by decide +kernel
theorem dq_FS_scan_7 : decode (fx_cc mq_FS_scan) 7 = .ok (.bipush 10, 2) := by decide +kernel
theorem dq_FS_scan_9 : decode (fx_cc mq_FS_scan) 9 = .ok (.if_icmp .ge 18, 3) := by decide +kernel
theorem dq_FS_scan_12 : decode (fx_cc mq_FS_scan) 12 = .ok (.aload_n 0, 1) := by decide +kernel
theorem dq_FS_scan_13 : decode (fx_cc mq_FS_scan) 13 = .ok (.getfield 26, 3) := by decide +kernel
theorem dq_FS_scan_16 : decode (fx_cc mq_FS_scan) 16 = .ok (.aload_n 0, 1) := by decide +kernel
theorem dq_FS_scan_17 : decode (fx_cc mq_FS_scan) 17 = .ok (.getfield 19, 3) := by decide +kernel
theorem dq_FS_scan_20 : decode (fx_cc mq_FS_scan) 20 = .ok (.getfield 177, 3) := by decide +kernel
theorem dq_FS_scan_23 : decode (fx_cc mq_FS_scan) 23 = .ok (.invokevirtual 181, 3) := by decide +kernel
theorem dq_FS_scan_26 : decode (fx_cc mq_FS_scan) 26 = .ok (.ireturn, 1) := by decide +kernel
theorem dq_FS_scan_27 : decode (fx_cc mq_FS_scan) 27 = .ok (.aload_n 0, 1) := by decide +kernel
theorem dq_FS_scan_28 : decode (fx_cc mq_FS_scan) 28 = .ok (.getfield 26, 3) := by decide +kernel
theorem dq_FS_scan_31 : decode (fx_cc mq_FS_scan) 31 = .ok (.aload_n 0, 1) := by decide +kernel
theorem dq_FS_scan_32 : decode (fx_cc mq_FS_scan) 32 = .ok (.getfield 19, 3) := by decide +kernel
theorem dq_FS_scan_35 : decode (fx_cc mq_FS_scan) 35 = .ok (.getfield 185, 3) := by decide +kernel
theorem dq_FS_scan_38 : decode (fx_cc mq_FS_scan) 38 = .ok (.invokevirtual 188, 3) := by decide +kernel
theorem dq_FS_scan_41 : decode (fx_cc mq_FS_scan) 41 = .ok (.aload_n 0, 1) := by decide +kernel
theorem dq_FS_scan_42 : decode (fx_cc mq_FS_scan) 42 = .ok (.getfield 19, 3) := by decide +kernel
theorem dq_FS_scan_45 : decode (fx_cc mq_FS_scan) 45 = .ok (.getfield 163, 3) := by decide +kernel
theorem dq_FS_scan_48 : decode (fx_cc mq_FS_scan) 48 = .ok (.iconst 2, 1) := by decide +kernel
theorem dq_FS_scan_49 : decode (fx_cc mq_FS_scan) 49 = .ok (.if_icmp .ne 27, 3) := by decide +kernel
theorem dq_FS_scan_52 : decode (fx_cc mq_FS_scan) 52 = .ok (.aload_n 0, 1) := by decide +kernel
theorem dq_FS_scan_53 : decode (fx_cc mq_FS_scan) 53 = .ok (.getfield 19, 3) := by decide +kernel
theorem dq_FS_scan_56 : decode (fx_cc mq_FS_scan) 56 = .ok (.invokevirtual 191, 3) := by decide +kernel
theorem dq_FS_scan_59 : decode (fx_cc mq_FS_scan) 59 = .ok (.aload_n 0, 1) := by decide +kernel
theorem dq_FS_scan_60 : decode (fx_cc mq_FS_scan) 60 = .ok (.getfield 26, 3) := by decide +kernel
theorem dq_FS_scan_63 : decode (fx_cc mq_FS_scan) 63 = .ok (.getfield 194, 3) := by decide +kernel
theorem dq_FS_scan_66 : decode (fx_cc mq_FS_scan) 66 = .ok (.aload_n 0, 1) := by decide +kernel
theorem dq_FS_scan_67 : decode (fx_cc mq_FS_scan) 67 = .ok (.getfield 19, 3) := by decide +kernel
theorem dq_FS_scan_70 : decode (fx_cc mq_FS_scan) 70 = .ok (.getfield 198, 3) := by decide +kernel
theorem dq_FS_scan_73 : decode (fx_cc mq_FS_scan) 73 = .ok (.invokevirtual 201, 3) := by decide +kernel
theorem dq_FS_scan_76 : decode (fx_cc mq_FS_scan) 76 = .ok (.iconst (-1), 1) := by decide +kernel
theorem dq_FS_scan_77 : decode (fx_cc mq_FS_scan) 77 = .ok (.ireturn, 1) := by decide +kernel
theorem dq_BE_scanRow_0 : decode (fx_cc mq_BE_scanRow) 0 = .ok (.aload_n 0, 1) := by decide +kernel
theorem dq_BE_scanRow_1 : decode (fx_cc mq_BE_scanRow) 1 = .ok (.getfield 25, 3) := by decide +kernel
theorem dq_BE_scanRow_4 : decode (fx_cc mq_BE_scanRow) 4 = .ok (.bipush 20, 2) := by decide +kernel
theorem dq_BE_scanRow_6 : decode (fx_cc mq_BE_scanRow) 6 = .ok (.imul, 1) := by decide +kernel
theorem dq_BE_scanRow_7 : decode (fx_cc mq_BE_scanRow) 7 = .ok (.istore_n 2, 1) := by decide +kernel
theorem dq_BE_scanRow_8 : decode (fx_cc mq_BE_scanRow) 8 = .ok (.aload_n 1, 1) := by decide +kernel
theorem dq_BE_scanRow_9 : decode (fx_cc mq_BE_scanRow) 9 = .ok (.getfield 29, 3) := by decide +kernel
theorem dq_BE_scanRow_12 : decode (fx_cc mq_BE_scanRow) 12 = .ok (.iload_n 2, 1) := by decide +kernel
theorem dq_BE_scanRow_13 : decode (fx_cc mq_BE_scanRow) 13 = .ok (.aload_n 0, 1) := by decide +kernel
theorem dq_BE_scanRow_14 : decode (fx_cc mq_BE_scanRow) 14 = .ok (.getfield 18, 3) := by decide +kernel
theorem dq_BE_scanRow_17 : decode (fx_cc mq_BE_scanRow) 17 = .ok (.iload_n 2, 1) := by decide +kernel
theorem dq_BE_scanRow_18 : decode (fx_cc mq_BE_scanRow) 18 = .ok (.bipush 20, 2) := by decide +kernel
theorem dq_BE_scanRow_20 : decode (fx_cc mq_BE_scanRow) 20 = .ok (.invokestatic 34, 3) := by decide +kernel
theorem dq_BE_scanRow_23 : decode (fx_cc mq_BE_scanRow) 23 = .ok (.aload_n 0, 1) := by decide +kernel
theorem dq_BE_scanRow_24 : decode (fx_cc mq_BE_scanRow) 24 = .ok (.getfield 12, 3) := by decide +kernel
theorem dq_BE_scanRow_27 : decode (fx_cc mq_BE_scanRow) 27 = .ok (.aload_n 0, 1) := by decide +kernel
theorem dq_BE_scanRow_28 : decode (fx_cc mq_BE_scanRow) 28 = .ok (.getfield 18, 3) := by decide +kernel
theorem dq_BE_scanRow_31 : decode (fx_cc mq_BE_scanRow) 31 = .ok (.aload_n 0, 1) := by decide +kernel
theorem dq_BE_scanRow_32 : decode (fx_cc mq_BE_scanRow) 32 = .ok (.getfield 25, 3) := by decide +kernel
theorem dq_BE_scanRow_35 : decode (fx_cc mq_BE_scanRow) 35 = .ok (.invokevirtual 40, 3) := by decide +kernel
theorem dq_BE_scanRow_38 : decode (fx_cc mq_BE_scanRow) 38 = .ok (.aload_n 0, 1) := by decide +kernel
theorem dq_BE_scanRow_39 : decode (fx_cc mq_BE_scanRow) 39 = .ok (.dup, 1) := by decide +kernel
theorem dq_BE_scanRow_40 : decode (fx_cc mq_BE_scanRow) 40 = .ok (.getfield 25, 3) := by decide +kernel
theorem dq_BE_scanRow_43 : decode (fx_cc mq_BE_scanRow) 43 = .ok (.iconst 1, 1) := by decide +kernel
theorem dq_BE_scanRow_44 : decode (fx_cc mq_BE_scanRow) 44 = .ok (.iadd, 1) := by decide +kernel
theorem dq_BE_scanRow_45 : decode (fx_cc mq_BE_scanRow) 45 = .ok (.putfield 25, 3) := by decide +kernel
theorem dq_BE_scanRow_48 : decode (fx_cc mq_BE_scanRow) 48 = .ok (.aload_n 0, 1) := by decide +kernel
theorem dq_BE_scanRow_49 : decode (fx_cc mq_BE_scanRow) 49 = .ok (.getfield 25, 3) := by decide +kernel
theorem dq_BE_scanRow_52 : decode (fx_cc mq_BE_scanRow) 52 = .ok (.iconst 1, 1) := by decide +kernel
theorem dq_BE_scanRow_53 : decode (fx_cc mq_BE_scanRow) 53 = .ok (.isub, 1) := by decide +kernel
theorem dq_BE_scanRow_54 : decode (fx_cc mq_BE_scanRow) 54 = .ok (.ireturn, 1) := by decide +kernel
theorem dq_PN_mixInto_0 : decode (fx_cc mq_PN_mixInto) 0 = .ok (.iconst 0, 1) := by decide +kernel
theorem dq_PN_mixInto_1 : decode (fx_cc mq_PN_mixInto) 1 = .ok (.istore_n 3, 1) := by decide +kernel
theorem dq_PN_mixInto_2 : decode (fx_cc mq_PN_mixInto) 2 = .ok (.iload_n 3, 1) := by decide +kernel
theorem dq_PN_mixInto_3 : decode (fx_cc mq_PN_mixInto) 3 = .ok (.iconst 2, 1) := by decide +kernel
theorem dq_PN_mixInto_4 : decode (fx_cc mq_PN_mixInto) 4 = .ok (.if_icmp .ge 93, 3) := by decide +kernel
theorem dq_PN_mixInto_7 : decode (fx_cc mq_PN_mixInto) 7 = .ok (.aload_n 0, 1) := by decide +kernel
theorem dq_PN_mixInto_8 : decode (fx_cc mq_PN_mixInto) 8 = .ok (.getfield 18, 3) := by decide +kernel
theorem dq_PN_mixInto_11 : decode (fx_cc mq_PN_mixInto) 11 = .ok (.iload_n 3, 1) := by decide +kernel
theorem dq_PN_mixInto_12 : decode (fx_cc mq_PN_mixInto) 12 = .ok (.aaload, 1) := by decide +kernel
theorem dq_PN_mixInto_13 : decode (fx_cc mq_PN_mixInto) 13 = .ok (.astore 4, 2) := by decide +kernel
theorem dq_PN_mixInto_15 : decode (fx_cc mq_PN_mixInto) 15 = .ok (.aload_n 0, 1) := by decide +kernel
theorem dq_PN_mixInto_16 : decode (fx_cc mq_PN_mixInto) 16 = .ok (.getfield 9, 3) := by decide +kernel
theorem dq_PN_mixInto_19 : decode (fx_cc mq_PN_mixInto) 19 = .ok (.iload_n 3, 1) := by decide +kernel
theorem dq_PN_mixInto_20 : decode (fx_cc mq_PN_mixInto) 20 = .ok (.iaload, 1) := by decide +kernel
theorem dq_PN_mixInto_21 : decode (fx_cc mq_PN_mixInto) 21 = .ok (.iconst (-1), 1) := by decide +kernel
theorem dq_PN_mixInto_22 : decode (fx_cc mq_PN_mixInto) 22 = .ok (.if_icmp .eq 69, 3) := by decide +kernel
theorem dq_PN_mixInto_25 : decode (fx_cc mq_PN_mixInto) 25 = .ok (.iload_n 2, 1) := by decide +kernel
theorem dq_PN_mixInto_26 : decode (fx_cc mq_PN_mixInto) 26 = .ok (.aload 4, 2) := by decide +kernel
theorem dq_PN_mixInto_28 : decode (fx_cc mq_PN_mixInto) 28 = .ok (.getfield 84, 3) := by decide +kernel
theorem dq_PN_mixInto_31 : decode (fx_cc mq_PN_mixInto) 31 = .ok (.if_icmp .lt 60, 3) := by decide +kernel
theorem dq_PN_mixInto_34 : decode (fx_cc mq_PN_mixInto) 34 = .ok (.iload_n 2, 1) := by decide +kernel
theorem dq_PN_mixInto_35 : decode (fx_cc mq_PN_mixInto) 35 = .ok (.aload 4, 2) := by decide +kernel
theorem dq_PN_mixInto_37 : decode (fx_cc mq_PN_mixInto) 37 = .ok (.getfield 84, 3) := by decide +kernel
theorem dq_PN_mixInto_40 : decode (fx_cc mq_PN_mixInto) 40 = .ok (.aload 4, 2) := by decide +kernel
theorem dq_PN_mixInto_42 : decode (fx_cc mq_PN_mixInto) 42 = .ok (.getfield 87, 3) := by decide +kernel
theorem dq_PN_mixInto_45 : decode (fx_cc mq_PN_mixInto) 45 = .ok (.iadd, 1) := by decide +kernel
theorem dq_PN_mixInto_46 : decode (fx_cc mq_PN_mixInto) 46 = .ok (.if_icmp .ge 45, 3) := by decide +kernel
theorem dq_PN_mixInto_49 : decode (fx_cc mq_PN_mixInto) 49 = .ok (.iload_n 2, 1) := by decide +kernel
theorem dq_PN_mixInto_50 : decode (fx_cc mq_PN_mixInto) 50 = .ok (.aload 4, 2) := by decide +kernel
theorem dq_PN_mixInto_52 : decode (fx_cc mq_PN_mixInto) 52 = .ok (.getfield 84, 3) := by decide +kernel
theorem dq_PN_mixInto_55 : decode (fx_cc mq_PN_mixInto) 55 = .ok (.isub, 1) := by decide +kernel
theorem dq_PN_mixInto_56 : decode (fx_cc mq_PN_mixInto) 56 = .ok (.aload 4, 2) := by decide +kernel
theorem dq_PN_mixInto_58 : decode (fx_cc mq_PN_mixInto) 58 = .ok (.getfield 93, 3) := by decide +kernel
theorem dq_PN_mixInto_61 : decode (fx_cc mq_PN_mixInto) 61 = .ok (.imul, 1) := by decide +kernel
theorem dq_PN_mixInto_62 : decode (fx_cc mq_PN_mixInto) 62 = .ok (.istore 5, 2) := by decide +kernel
theorem dq_PN_mixInto_64 : decode (fx_cc mq_PN_mixInto) 64 = .ok (.aload_n 0, 1) := by decide +kernel
theorem dq_PN_mixInto_65 : decode (fx_cc mq_PN_mixInto) 65 = .ok (.getfield 24, 3) := by decide +kernel
theorem dq_PN_mixInto_68 : decode (fx_cc mq_PN_mixInto) 68 = .ok (.iload_n 3, 1) := by decide +kernel
theorem dq_PN_mixInto_69 : decode (fx_cc mq_PN_mixInto) 69 = .ok (.aaload, 1) := by decide +kernel
theorem dq_PN_mixInto_70 : decode (fx_cc mq_PN_mixInto) 70 = .ok (.iload 5, 2) := by decide +kernel
theorem dq_PN_mixInto_72 : decode (fx_cc mq_PN_mixInto) 72 = .ok (.aload_n 1, 1) := by decide +kernel
theorem dq_PN_mixInto_73 : decode (fx_cc mq_PN_mixInto) 73 = .ok (.iload_n 2, 1) := by decide +kernel
theorem dq_PN_mixInto_74 : decode (fx_cc mq_PN_mixInto) 74 = .ok (.bipush 20, 2) := by decide +kernel
theorem dq_PN_mixInto_76 : decode (fx_cc mq_PN_mixInto) 76 = .ok (.imul, 1) := by decide +kernel
theorem dq_PN_mixInto_77 : decode (fx_cc mq_PN_mixInto) 77 = .ok (.aload 4, 2) := by decide +kernel
theorem dq_PN_mixInto_79 : decode (fx_cc mq_PN_mixInto) 79 = .ok (.getfield 90, 3) := by decide +kernel
theorem dq_PN_mixInto_82 : decode (fx_cc mq_PN_mixInto) 82 = .ok (.iadd, 1) := by decide +kernel
theorem dq_PN_mixInto_83 : decode (fx_cc mq_PN_mixInto) 83 = .ok (.aload 4, 2) := by decide +kernel
theorem dq_PN_mixInto_85 : decode (fx_cc mq_PN_mixInto) 85 = .ok (.getfield 93, 3) := by decide +kernel
theorem dq_PN_mixInto_88 : decode (fx_cc mq_PN_mixInto) 88 = .ok (.invokestatic 31, 3) := by decide +kernel
theorem dq_PN_mixInto_91 : decode (fx_cc mq_PN_mixInto) 91 = .ok (.iinc 3 1, 3) := by decide +kernel
theorem dq_PN_mixInto_94 : decode (fx_cc mq_PN_mixInto) 94 = .ok (.goto (-92), 3) := by decide +kernel
theorem dq_PN_mixInto_97 : decode (fx_cc mq_PN_mixInto) 97 = .ok (.return_, 1) := by decide +kernel
theorem dq_BE_endFrame_0 : decode (fx_cc mq_BE_endFrame) 0 = .ok (.aload_n 0, 1) := by decide +kernel
theorem dq_BE_endFrame_1 : decode (fx_cc mq_BE_endFrame) 1 = .ok (.getfield 18, 3) := by decide +kernel
theorem dq_BE_endFrame_4 : decode (fx_cc mq_BE_endFrame) 4 = .ok (.iconst 0, 1) := by decide +kernel
theorem dq_BE_endFrame_5 : decode (fx_cc mq_BE_endFrame) 5 = .ok (.aload_n 0, 1) := by decide +kernel
theorem dq_BE_endFrame_6 : decode (fx_cc mq_BE_endFrame) 6 = .ok (.getfield 22, 3) := by decide +kernel
theorem dq_BE_endFrame_9 : decode (fx_cc mq_BE_endFrame) 9 = .ok (.iconst 0, 1) := by decide +kernel
theorem dq_BE_endFrame_10 : decode (fx_cc mq_BE_endFrame) 10 = .ok (.aload_n 0, 1) := by decide +kernel
theorem dq_BE_endFrame_11 : decode (fx_cc mq_BE_endFrame) 11 = .ok (.getfield 22, 3) := by decide +kernel
theorem dq_BE_endFrame_14 : decode (fx_cc mq_BE_endFrame) 14 = .ok (.arraylength, 1) := by decide +kernel
theorem dq_BE_endFrame_15 : decode (fx_cc mq_BE_endFrame) 15 = .ok (.invokestatic 34, 3) := by decide +kernel
theorem dq_BE_endFrame_18 : decode (fx_cc mq_BE_endFrame) 18 = .ok (.aload_n 0, 1) := by decide +kernel
theorem dq_BE_endFrame_19 : decode (fx_cc mq_BE_endFrame) 19 = .ok (.iload_n 1, 1) := by decide +kernel
theorem dq_BE_endFrame_20 : decode (fx_cc mq_BE_endFrame) 20 = .ok (.putfield 44, 3) := by decide +kernel
theorem dq_BE_endFrame_23 : decode (fx_cc mq_BE_endFrame) 23 = .ok (.aload_n 0, 1) := by decide +kernel
theorem dq_BE_endFrame_24 : decode (fx_cc mq_BE_endFrame) 24 = .ok (.dup, 1) := by decide +kernel
theorem dq_BE_endFrame_25 : decode (fx_cc mq_BE_endFrame) 25 = .ok (.getfield 47, 3) := by decide +kernel
theorem dq_BE_endFrame_28 : decode (fx_cc mq_BE_endFrame) 28 = .ok (.iconst 1, 1) := by decide +kernel
theorem dq_BE_endFrame_29 : decode (fx_cc mq_BE_endFrame) 29 = .ok (.iadd, 1) := by decide +kernel
theorem dq_BE_endFrame_30 : decode (fx_cc mq_BE_endFrame) 30 = .ok (.putfield 47, 3) := by decide +kernel
theorem dq_BE_endFrame_33 : decode (fx_cc mq_BE_endFrame) 33 = .ok (.aload_n 0, 1) := by decide +kernel
theorem dq_BE_endFrame_34 : decode (fx_cc mq_BE_endFrame) 34 = .ok (.iconst 0, 1) := by decide +kernel
theorem dq_BE_endFrame_35 : decode (fx_cc mq_BE_endFrame) 35 = .ok (.putfield 25, 3) := by decide +kernel
theorem dq_BE_endFrame_38 : decode (fx_cc mq_BE_endFrame) 38 = .ok (.return_, 1) := by decide +kernel
theorem dq_CO_swap_0 : decode (fx_cc mq_CO_swap) 0 = .ok (.aload_n 0, 1) := by decide +kernel
theorem dq_CO_swap_1 : decode (fx_cc mq_CO_swap) 1 = .ok (.getfield 38, 3) := by decide +kernel
theorem dq_CO_swap_4 : decode (fx_cc mq_CO_swap) 4 = .ok (.astore_n 1, 1) := by decide +kernel
theorem dq_CO_swap_5 : decode (fx_cc mq_CO_swap) 5 = .ok (.aload_n 0, 1) := by decide +kernel
theorem dq_CO_swap_6 : decode (fx_cc mq_CO_swap) 6 = .ok (.aload_n 0, 1) := by decide +kernel
theorem dq_CO_swap_7 : decode (fx_cc mq_CO_swap) 7 = .ok (.getfield 42, 3) := by decide +kernel
theorem dq_CO_swap_10 : decode (fx_cc mq_CO_swap) 10 = .ok (.putfield 38, 3) := by decide +kernel
theorem dq_CO_swap_13 : decode (fx_cc mq_CO_swap) 13 = .ok (.aload_n 0, 1) := by decide +kernel
theorem dq_CO_swap_14 : decode (fx_cc mq_CO_swap) 14 = .ok (.aload_n 1, 1) := by decide +kernel
theorem dq_CO_swap_15 : decode (fx_cc mq_CO_swap) 15 = .ok (.putfield 42, 3) := by decide +kernel
theorem dq_CO_swap_18 : decode (fx_cc mq_CO_swap) 18 = .ok (.aload_n 0, 1) := by decide +kernel
theorem dq_CO_swap_19 : decode (fx_cc mq_CO_swap) 19 = .ok (.aload_n 0, 1) := by decide +kernel
theorem dq_CO_swap_20 : decode (fx_cc mq_CO_swap) 20 = .ok (.getfield 65, 3) := by decide +kernel
theorem dq_CO_swap_23 : decode (fx_cc mq_CO_swap) 23 = .ok (.putfield 148, 3) := by decide +kernel
theorem dq_CO_swap_26 : decode (fx_cc mq_CO_swap) 26 = .ok (.aload_n 0, 1) := by decide +kernel
theorem dq_CO_swap_27 : decode (fx_cc mq_CO_swap) 27 = .ok (.iconst 0, 1) := by decide +kernel
theorem dq_CO_swap_28 : decode (fx_cc mq_CO_swap) 28 = .ok (.putfield 45, 3) := by decide +kernel
theorem dq_CO_swap_31 : decode (fx_cc mq_CO_swap) 31 = .ok (.return_, 1) := by decide +kernel
theorem dq_PN_become_0 : decode (fx_cc mq_PN_become) 0 = .ok (.iconst 0, 1) := by decide +kernel
theorem dq_PN_become_1 : decode (fx_cc mq_PN_become) 1 = .ok (.istore_n 2, 1) := by decide +kernel
theorem dq_PN_become_2 : decode (fx_cc mq_PN_become) 2 = .ok (.iload_n 2, 1) := by decide +kernel
theorem dq_PN_become_3 : decode (fx_cc mq_PN_become) 3 = .ok (.iconst 2, 1) := by decide +kernel
theorem dq_PN_become_4 : decode (fx_cc mq_PN_become) 4 = .ok (.if_icmp .ge 55, 3) := by decide +kernel
theorem dq_PN_become_7 : decode (fx_cc mq_PN_become) 7 = .ok (.aload_n 0, 1) := by decide +kernel
theorem dq_PN_become_8 : decode (fx_cc mq_PN_become) 8 = .ok (.getfield 9, 3) := by decide +kernel
theorem dq_PN_become_11 : decode (fx_cc mq_PN_become) 11 = .ok (.iload_n 2, 1) := by decide +kernel
theorem dq_PN_become_12 : decode (fx_cc mq_PN_become) 12 = .ok (.aload_n 1, 1) := by decide +kernel
theorem dq_PN_become_13 : decode (fx_cc mq_PN_become) 13 = .ok (.getfield 9, 3) := by decide +kernel
theorem dq_PN_become_16 : decode (fx_cc mq_PN_become) 16 = .ok (.iload_n 2, 1) := by decide +kernel
theorem dq_PN_become_17 : decode (fx_cc mq_PN_become) 17 = .ok (.iaload, 1) := by decide +kernel
theorem dq_PN_become_18 : decode (fx_cc mq_PN_become) 18 = .ok (.iastore, 1) := by decide +kernel
theorem dq_PN_become_19 : decode (fx_cc mq_PN_become) 19 = .ok (.aload_n 0, 1) := by decide +kernel
theorem dq_PN_become_20 : decode (fx_cc mq_PN_become) 20 = .ok (.getfield 18, 3) := by decide +kernel
theorem dq_PN_become_23 : decode (fx_cc mq_PN_become) 23 = .ok (.iload_n 2, 1) := by decide +kernel
theorem dq_PN_become_24 : decode (fx_cc mq_PN_become) 24 = .ok (.aaload, 1) := by decide +kernel
theorem dq_PN_become_25 : decode (fx_cc mq_PN_become) 25 = .ok (.aload_n 1, 1) := by decide +kernel
theorem dq_PN_become_26 : decode (fx_cc mq_PN_become) 26 = .ok (.getfield 18, 3) := by decide +kernel
theorem dq_PN_become_29 : decode (fx_cc mq_PN_become) 29 = .ok (.iload_n 2, 1) := by decide +kernel
theorem dq_PN_become_30 : decode (fx_cc mq_PN_become) 30 = .ok (.aaload, 1) := by decide +kernel
theorem dq_PN_become_31 : decode (fx_cc mq_PN_become) 31 = .ok (.invokevirtual 27, 3) := by decide +kernel
theorem dq_PN_become_34 : decode (fx_cc mq_PN_become) 34 = .ok (.aload_n 1, 1) := by decide +kernel
theorem dq_PN_become_35 : decode (fx_cc mq_PN_become) 35 = .ok (.getfield 24, 3) := by decide +kernel
theorem dq_PN_become_38 : decode (fx_cc mq_PN_become) 38 = .ok (.iload_n 2, 1) := by decide +kernel
theorem dq_PN_become_39 : decode (fx_cc mq_PN_become) 39 = .ok (.aaload, 1) := by decide +kernel
theorem dq_PN_become_40 : decode (fx_cc mq_PN_become) 40 = .ok (.iconst 0, 1) := by decide +kernel
theorem dq_PN_become_41 : decode (fx_cc mq_PN_become) 41 = .ok (.aload_n 0, 1) := by decide +kernel
theorem dq_PN_become_42 : decode (fx_cc mq_PN_become) 42 = .ok (.getfield 24, 3) := by decide +kernel
theorem dq_PN_become_45 : decode (fx_cc mq_PN_become) 45 = .ok (.iload_n 2, 1) := by decide +kernel
theorem dq_PN_become_46 : decode (fx_cc mq_PN_become) 46 = .ok (.aaload, 1) := by decide +kernel
theorem dq_PN_become_47 : decode (fx_cc mq_PN_become) 47 = .ok (.iconst 0, 1) := by decide +kernel
theorem dq_PN_become_48 : decode (fx_cc mq_PN_become) 48 = .ok (.bipush 24, 2) := by decide +kernel
theorem dq_PN_become_50 : decode (fx_cc mq_PN_become) 50 = .ok (.invokestatic 31, 3) := by decide +kernel
theorem dq_PN_become_53 : decode (fx_cc mq_PN_become) 53 = .ok (.iinc 2 1, 3) := by decide +kernel
theorem dq_PN_become_56 : decode (fx_cc mq_PN_become) 56 = .ok (.goto (-54), 3) := by decide +kernel
theorem dq_PN_become_59 : decode (fx_cc mq_PN_become) 59 = .ok (.return_, 1) := by decide +kernel
theorem dq_RE_become_0 : decode (fx_cc mq_RE_become) 0 = .ok (.aload_n 0, 1) := by decide +kernel
theorem dq_RE_become_1 : decode (fx_cc mq_RE_become) 1 = .ok (.aload_n 1, 1) := by decide +kernel
theorem dq_RE_become_2 : decode (fx_cc mq_RE_become) 2 = .ok (.getfield 7, 3) := by decide +kernel
theorem dq_RE_become_5 : decode (fx_cc mq_RE_become) 5 = .ok (.aload_n 1, 1) := by decide +kernel
theorem dq_RE_become_6 : decode (fx_cc mq_RE_become) 6 = .ok (.getfield 13, 3) := by decide +kernel
theorem dq_RE_become_9 : decode (fx_cc mq_RE_become) 9 = .ok (.aload_n 1, 1) := by decide +kernel
theorem dq_RE_become_10 : decode (fx_cc mq_RE_become) 10 = .ok (.getfield 16, 3) := by decide +kernel
theorem dq_RE_become_13 : decode (fx_cc mq_RE_become) 13 = .ok (.aload_n 1, 1) := by decide +kernel
theorem dq_RE_become_14 : decode (fx_cc mq_RE_become) 14 = .ok (.getfield 19, 3) := by decide +kernel
theorem dq_RE_become_17 : decode (fx_cc mq_RE_become) 17 = .ok (.invokevirtual 22, 3) := by decide +kernel
theorem dq_RE_become_20 : decode (fx_cc mq_RE_become) 20 = .ok (.return_, 1) := by decide +kernel
theorem dq_RE_set_0 : decode (fx_cc mq_RE_set) 0 = .ok (.aload_n 0, 1) := by decide +kernel
theorem dq_RE_set_1 : decode (fx_cc mq_RE_set) 1 = .ok (.iload_n 1, 1) := by decide +kernel
theorem dq_RE_set_2 : decode (fx_cc mq_RE_set) 2 = .ok (.putfield 7, 3) := by decide +kernel
theorem dq_RE_set_5 : decode (fx_cc mq_RE_set) 5 = .ok (.aload_n 0, 1) := by decide +kernel
theorem dq_RE_set_6 : decode (fx_cc mq_RE_set) 6 = .ok (.iload_n 2, 1) := by decide +kernel
theorem dq_RE_set_7 : decode (fx_cc mq_RE_set) 7 = .ok (.putfield 13, 3) := by decide +kernel
theorem dq_RE_set_10 : decode (fx_cc mq_RE_set) 10 = .ok (.aload_n 0, 1) := by decide +kernel
theorem dq_RE_set_11 : decode (fx_cc mq_RE_set) 11 = .ok (.iload_n 3, 1) := by decide +kernel
theorem dq_RE_set_12 : decode (fx_cc mq_RE_set) 12 = .ok (.putfield 16, 3) := by decide +kernel
theorem dq_RE_set_15 : decode (fx_cc mq_RE_set) 15 = .ok (.aload_n 0, 1) := by decide +kernel
theorem dq_RE_set_16 : decode (fx_cc mq_RE_set) 16 = .ok (.iload 4, 2) := by decide +kernel
theorem dq_RE_set_18 : decode (fx_cc mq_RE_set) 18 = .ok (.putfield 19, 3) := by decide +kernel
theorem dq_RE_set_21 : decode (fx_cc mq_RE_set) 21 = .ok (.return_, 1) := by decide +kernel
theorem dq_FS_state_0 : decode (fx_cc mq_FS_state) 0 = .ok (.aload_n 0, 1) := by decide +kernel
theorem dq_FS_state_1 : decode (fx_cc mq_FS_state) 1 = .ok (.getfield 19, 3) := by decide +kernel
theorem dq_FS_state_4 : decode (fx_cc mq_FS_state) 4 = .ok (.getfield 163, 3) := by decide +kernel
theorem dq_FS_state_7 : decode (fx_cc mq_FS_state) 7 = .ok (.ireturn, 1) := by decide +kernel
theorem dq_FS_seen_0 : decode (fx_cc mq_FS_seen) 0 = .ok (.iload_n 1, 1) := by decide +kernel
theorem dq_FS_seen_1 : decode (fx_cc mq_FS_seen) 1 = .ok (.iload_n 2, 1) := by decide +kernel
theorem dq_FS_seen_2 : decode (fx_cc mq_FS_seen) 2 = .ok (.invokestatic 206, 3) := by decide +kernel
theorem dq_FS_seen_5 : decode (fx_cc mq_FS_seen) 5 = .ok (.ifCond .eq 20, 3) := by decide +kernel
theorem dq_FS_seen_8 : decode (fx_cc mq_FS_seen) 8 = .ok (.aload_n 0, 1) := by decide +kernel
theorem dq_FS_seen_9 : decode (fx_cc mq_FS_seen) 9 = .ok (.getfield 26, 3) := by decide +kernel
theorem dq_FS_seen_12 : decode (fx_cc mq_FS_seen) 12 = .ok (.getfield 210, 3) := by decide +kernel
theorem dq_FS_seen_15 : decode (fx_cc mq_FS_seen) 15 = .ok (.iload_n 2, 1) := by decide +kernel
theorem dq_FS_seen_16 : decode (fx_cc mq_FS_seen) 16 = .ok (.bipush 20, 2) := by decide +kernel
theorem dq_FS_seen_18 : decode (fx_cc mq_FS_seen) 18 = .ok (.imul, 1) := by decide +kernel
theorem dq_FS_seen_19 : decode (fx_cc mq_FS_seen) 19 = .ok (.iload_n 1, 1) := by decide +kernel
theorem dq_FS_seen_20 : decode (fx_cc mq_FS_seen) 20 = .ok (.iadd, 1) := by decide +kernel
theorem dq_FS_seen_21 : decode (fx_cc mq_FS_seen) 21 = .ok (.iaload, 1) := by decide +kernel
theorem dq_FS_seen_22 : decode (fx_cc mq_FS_seen) 22 = .ok (.goto 4, 3) := by decide +kernel
theorem dq_FS_seen_25 : decode (fx_cc mq_FS_seen) 25 = .ok (.iconst (-1), 1) := by decide +kernel
theorem dq_FS_seen_26 : decode (fx_cc mq_FS_seen) 26 = .ok (.ireturn, 1) := by decide +kernel
theorem dq_FS_isOnScreen_0 : decode (fx_cc mq_FS_isOnScreen) 0 = .ok (.iload_n 0, 1) := by decide +kernel
theorem dq_FS_isOnScreen_1 : decode (fx_cc mq_FS_isOnScreen) 1 = .ok (.iconst 0, 1) := by decide +kernel
theorem dq_FS_isOnScreen_2 : decode (fx_cc mq_FS_isOnScreen) 2 = .ok (.bipush 19, 2) := by decide +kernel
theorem dq_FS_isOnScreen_4 : decode (fx_cc mq_FS_isOnScreen) 4 = .ok (.invokestatic 48, 3) := by decide +kernel
theorem dq_FS_isOnScreen_7 : decode (fx_cc mq_FS_isOnScreen) 7 = .ok (.ifCond .eq 17, 3) := by decide +kernel
theorem dq_FS_isOnScreen_10 : decode (fx_cc mq_FS_isOnScreen) 10 = .ok (.iload_n 1, 1) := by decide +kernel
theorem dq_FS_isOnScreen_11 : decode (fx_cc mq_FS_isOnScreen) 11 = .ok (.iconst 0, 1) := by decide +kernel
theorem dq_FS_isOnScreen_12 : decode (fx_cc mq_FS_isOnScreen) 12 = .ok (.bipush 9, 2) := by decide +kernel
theorem dq_FS_isOnScreen_14 : decode (fx_cc mq_FS_isOnScreen) 14 = .ok (.invokestatic 48, 3) := by decide +kernel
theorem dq_FS_isOnScreen_17 : decode (fx_cc mq_FS_isOnScreen) 17 = .ok (.ifCond .eq 7, 3) := by decide +kernel
theorem dq_FS_isOnScreen_20 : decode (fx_cc mq_FS_isOnScreen) 20 = .ok (.iconst 1, 1) := by decide +kernel
theorem dq_FS_isOnScreen_21 : decode (fx_cc mq_FS_isOnScreen) 21 = .ok (.goto 4, 3) := by decide +kernel
theorem dq_FS_isOnScreen_24 : decode (fx_cc mq_FS_isOnScreen) 24 = .ok (.iconst 0, 1) := by decide +kernel
theorem dq_FS_isOnScreen_25 : decode (fx_cc mq_FS_isOnScreen) 25 = .ok (.ireturn, 1) := by decide +kernel
theorem dq_FS_isWithin_0 : decode (fx_cc mq_FS_isWithin) 0 = .ok (.iload_n 0, 1) := by decide +kernel
theorem dq_FS_isWithin_1 : decode (fx_cc mq_FS_isWithin) 1 = .ok (.iload_n 1, 1) := by decide +kernel
theorem dq_FS_isWithin_2 : decode (fx_cc mq_FS_isWithin) 2 = .ok (.if_icmp .lt 12, 3) := by decide +kernel
theorem dq_FS_isWithin_5 : decode (fx_cc mq_FS_isWithin) 5 = .ok (.iload_n 0, 1) := by decide +kernel
theorem dq_FS_isWithin_6 : decode (fx_cc mq_FS_isWithin) 6 = .ok (.iload_n 2, 1) := by decide +kernel
theorem dq_FS_isWithin_7 : decode (fx_cc mq_FS_isWithin) 7 = .ok (.if_icmp .gt 7, 3) := by decide +kernel
theorem dq_FS_isWithin_10 : decode (fx_cc mq_FS_isWithin) 10 = .ok (.iconst 1, 1) := by decide +kernel
theorem dq_FS_isWithin_11 : decode (fx_cc mq_FS_isWithin) 11 = .ok (.goto 4, 3) := by decide +kernel
theorem dq_FS_isWithin_14 : decode (fx_cc mq_FS_isWithin) 14 = .ok (.iconst 0, 1) := by decide +kernel
theorem dq_FS_isWithin_15 : decode (fx_cc mq_FS_isWithin) 15 = .ok (.ireturn, 1) := by decide +kernel
theorem dq_FS_wanted_0 : decode (fx_cc mq_FS_wanted) 0 = .ok (.iload_n 1, 1) := by decide +kernel
theorem dq_FS_wanted_1 : decode (fx_cc mq_FS_wanted) 1 = .ok (.iload_n 2, 1) := by decide +kernel
theorem dq_FS_wanted_2 : decode (fx_cc mq_FS_wanted) 2 = .ok (.invokestatic 206, 3) := by decide +kernel
theorem dq_FS_wanted_5 : decode (fx_cc mq_FS_wanted) 5 = .ok (.ifCond .eq 18, 3) := by decide +kernel
theorem dq_FS_wanted_8 : decode (fx_cc mq_FS_wanted) 8 = .ok (.aload_n 0, 1) := by decide +kernel
theorem dq_FS_wanted_9 : decode (fx_cc mq_FS_wanted) 9 = .ok (.getfield 10, 3) := by decide +kernel
theorem dq_FS_wanted_12 : decode (fx_cc mq_FS_wanted) 12 = .ok (.getfield 213, 3) := by decide +kernel
theorem dq_FS_wanted_15 : decode (fx_cc mq_FS_wanted) 15 = .ok (.iload_n 1, 1) := by decide +kernel
theorem dq_FS_wanted_16 : decode (fx_cc mq_FS_wanted) 16 = .ok (.iload_n 2, 1) := by decide +kernel
theorem dq_FS_wanted_17 : decode (fx_cc mq_FS_wanted) 17 = .ok (.invokevirtual 217, 3) := by decide +kernel
theorem dq_FS_wanted_20 : decode (fx_cc mq_FS_wanted) 20 = .ok (.goto 4, 3) := by decide +kernel
theorem dq_FS_wanted_23 : decode (fx_cc mq_FS_wanted) 23 = .ok (.iconst (-1), 1) := by decide +kernel
theorem dq_FS_wanted_24 : decode (fx_cc mq_FS_wanted) 24 = .ok (.ireturn, 1) := by decide +kernel
theorem dq_PL_colorAt_0 : decode (fx_cc mq_PL_colorAt) 0 = .ok (.iconst 0, 1) := by decide +kernel
theorem dq_PL_colorAt_1 : decode (fx_cc mq_PL_colorAt) 1 = .ok (.istore_n 3, 1) := by decide +kernel
theorem dq_PL_colorAt_2 : decode (fx_cc mq_PL_colorAt) 2 = .ok (.iconst 0, 1) := by decide +kernel
theorem dq_PL_colorAt_3 : decode (fx_cc mq_PL_colorAt) 3 = .ok (.istore 4, 2) := by decide +kernel
theorem dq_PL_colorAt_5 : decode (fx_cc mq_PL_colorAt) 5 = .ok (.iload 4, 2) := by decide +kernel
theorem dq_PL_colorAt_7 : decode (fx_cc mq_PL_colorAt) 7 = .ok (.aload_n 0, 1) := by decide +kernel
theorem dq_PL_colorAt_8 : decode (fx_cc mq_PL_colorAt) 8 = .ok (.getfield 22, 3) := by decide +kernel
theorem dq_PL_colorAt_11 : decode (fx_cc mq_PL_colorAt) 11 = .ok (.if_icmp .ge 53, 3) := by decide +kernel
theorem dq_PL_colorAt_14 : decode (fx_cc mq_PL_colorAt) 14 = .ok (.aload_n 0, 1) := by decide +kernel
theorem dq_PL_colorAt_15 : decode (fx_cc mq_PL_colorAt) 15 = .ok (.getfield 11, 3) := by decide +kernel
theorem dq_PL_colorAt_18 : decode (fx_cc mq_PL_colorAt) 18 = .ok (.aload_n 0, 1) := by decide +kernel
theorem dq_PL_colorAt_19 : decode (fx_cc mq_PL_colorAt) 19 = .ok (.getfield 17, 3) := by decide +kernel
theorem dq_PL_colorAt_22 : decode (fx_cc mq_PL_colorAt) 22 = .ok (.iload 4, 2) := by decide +kernel
theorem dq_PL_colorAt_24 : decode (fx_cc mq_PL_colorAt) 24 = .ok (.iaload, 1) := by decide +kernel
theorem dq_PL_colorAt_25 : decode (fx_cc mq_PL_colorAt) 25 = .ok (.aaload, 1) := by decide +kernel
theorem dq_PL_colorAt_26 : decode (fx_cc mq_PL_colorAt) 26 = .ok (.astore 5, 2) := by decide +kernel
theorem dq_PL_colorAt_28 : decode (fx_cc mq_PL_colorAt) 28 = .ok (.aload 5, 2) := by decide +kernel
theorem dq_PL_colorAt_30 : decode (fx_cc mq_PL_colorAt) 30 = .ok (.getfield 40, 3) := by decide +kernel
theorem dq_PL_colorAt_33 : decode (fx_cc mq_PL_colorAt) 33 = .ok (.iload_n 1, 1) := by decide +kernel
theorem dq_PL_colorAt_34 : decode (fx_cc mq_PL_colorAt) 34 = .ok (.iload_n 2, 1) := by decide +kernel
theorem dq_PL_colorAt_35 : decode (fx_cc mq_PL_colorAt) 35 = .ok (.invokevirtual 44, 3) := by decide +kernel
theorem dq_PL_colorAt_38 : decode (fx_cc mq_PL_colorAt) 38 = .ok (.ifCond .eq 20, 3) := by decide +kernel
theorem dq_PL_colorAt_41 : decode (fx_cc mq_PL_colorAt) 41 = .ok (.aload 5, 2) := by decide +kernel
theorem dq_PL_colorAt_43 : decode (fx_cc mq_PL_colorAt) 43 = .ok (.iload_n 1, 1) := by decide +kernel
theorem dq_PL_colorAt_44 : decode (fx_cc mq_PL_colorAt) 44 = .ok (.iload_n 2, 1) := by decide +kernel
theorem dq_PL_colorAt_45 : decode (fx_cc mq_PL_colorAt) 45 = .ok (.invokevirtual 50, 3) := by decide +kernel
theorem dq_PL_colorAt_48 : decode (fx_cc mq_PL_colorAt) 48 = .ok (.iload_n 3, 1) := by decide +kernel
theorem dq_PL_colorAt_49 : decode (fx_cc mq_PL_colorAt) 49 = .ok (.aload 5, 2) := by decide +kernel
theorem dq_PL_colorAt_51 : decode (fx_cc mq_PL_colorAt) 51 = .ok (.getfield 54, 3) := by decide +kernel
theorem dq_PL_colorAt_54 : decode (fx_cc mq_PL_colorAt) 54 = .ok (.invokestatic 57, 3) := by decide +kernel
theorem dq_PL_colorAt_57 : decode (fx_cc mq_PL_colorAt) 57 = .ok (.istore_n 3, 1) := by decide +kernel
theorem dq_PL_colorAt_58 : decode (fx_cc mq_PL_colorAt) 58 = .ok (.iinc 4 1, 3) := by decide +kernel
theorem dq_PL_colorAt_61 : decode (fx_cc mq_PL_colorAt) 61 = .ok (.goto (-56), 3) := by decide +kernel
theorem dq_PL_colorAt_64 : decode (fx_cc mq_PL_colorAt) 64 = .ok (.iload_n 3, 1) := by decide +kernel
theorem dq_PL_colorAt_65 : decode (fx_cc mq_PL_colorAt) 65 = .ok (.ireturn, 1) := by decide +kernel
theorem dq_RE_has_0 : decode (fx_cc mq_RE_has) 0 = .ok (.iload_n 1, 1) := by decide +kernel
theorem dq_RE_has_1 : decode (fx_cc mq_RE_has) 1 = .ok (.aload_n 0, 1) := by decide +kernel
theorem dq_RE_has_2 : decode (fx_cc mq_RE_has) 2 = .ok (.getfield 7, 3) := by decide +kernel
theorem dq_RE_has_5 : decode (fx_cc mq_RE_has) 5 = .ok (.if_icmp .lt 41, 3) := by decide +kernel
theorem dq_RE_has_8 : decode (fx_cc mq_RE_has) 8 = .ok (.iload_n 1, 1) := by decide +kernel
theorem dq_RE_has_9 : decode (fx_cc mq_RE_has) 9 = .ok (.aload_n 0, 1) := by decide +kernel
theorem dq_RE_has_10 : decode (fx_cc mq_RE_has) 10 = .ok (.getfield 7, 3) := by decide +kernel
theorem dq_RE_has_13 : decode (fx_cc mq_RE_has) 13 = .ok (.aload_n 0, 1) := by decide +kernel
theorem dq_RE_has_14 : decode (fx_cc mq_RE_has) 14 = .ok (.getfield 16, 3) := by decide +kernel
theorem dq_RE_has_17 : decode (fx_cc mq_RE_has) 17 = .ok (.iadd, 1) := by decide +kernel
theorem dq_RE_has_18 : decode (fx_cc mq_RE_has) 18 = .ok (.if_icmp .ge 28, 3) := by decide +kernel
theorem dq_RE_has_21 : decode (fx_cc mq_RE_has) 21 = .ok (.iload_n 2, 1) := by decide +kernel
theorem dq_RE_has_22 : decode (fx_cc mq_RE_has) 22 = .ok (.aload_n 0, 1) := by decide +kernel
theorem dq_RE_has_23 : decode (fx_cc mq_RE_has) 23 = .ok (.getfield 13, 3) := by decide +kernel
theorem dq_RE_has_26 : decode (fx_cc mq_RE_has) 26 = .ok (.if_icmp .lt 20, 3) := by decide +kernel
theorem dq_RE_has_29 : decode (fx_cc mq_RE_has) 29 = .ok (.iload_n 2, 1) := by decide +kernel
theorem dq_RE_has_30 : decode (fx_cc mq_RE_has) 30 = .ok (.aload_n 0, 1) := by decide +kernel
theorem dq_RE_has_31 : decode (fx_cc mq_RE_has) 31 = .ok (.getfield 13, 3) := by decide +kernel
theorem dq_RE_has_34 : decode (fx_cc mq_RE_has) 34 = .ok (.aload_n 0, 1) := by decide +kernel
theorem dq_RE_has_35 : decode (fx_cc mq_RE_has) 35 = .ok (.getfield 19, 3) := by decide +kernel
theorem dq_RE_has_38 : decode (fx_cc mq_RE_has) 38 = .ok (.iadd, 1) := by decide +kernel
theorem dq_RE_has_39 : decode (fx_cc mq_RE_has) 39 = .ok (.if_icmp .ge 7, 3) := by decide +kernel
theorem dq_RE_has_42 : decode (fx_cc mq_RE_has) 42 = .ok (.iconst 1, 1) := by decide +kernel
theorem dq_RE_has_43 : decode (fx_cc mq_RE_has) 43 = .ok (.goto 4, 3) := by decide +kernel
theorem dq_RE_has_46 : decode (fx_cc mq_RE_has) 46 = .ok (.iconst 0, 1) := by decide +kernel
theorem dq_RE_has_47 : decode (fx_cc mq_RE_has) 47 = .ok (.ireturn, 1) := by decide +kernel
theorem dq_PI_colorAt_0 : decode (fx_cc mq_PI_colorAt) 0 = .ok (.aload_n 0, 1) := by decide +kernel
theorem dq_PI_colorAt_1 : decode (fx_cc mq_PI_colorAt) 1 = .ok (.getfield 9, 3) := by decide +kernel
theorem dq_PI_colorAt_4 : decode (fx_cc mq_PI_colorAt) 4 = .ok (.iload_n 2, 1) := by decide +kernel
theorem dq_PI_colorAt_5 : decode (fx_cc mq_PI_colorAt) 5 = .ok (.aload_n 0, 1) := by decide +kernel
theorem dq_PI_colorAt_6 : decode (fx_cc mq_PI_colorAt) 6 = .ok (.getfield 39, 3) := by decide +kernel
theorem dq_PI_colorAt_9 : decode (fx_cc mq_PI_colorAt) 9 = .ok (.isub, 1) := by decide +kernel
theorem dq_PI_colorAt_10 : decode (fx_cc mq_PI_colorAt) 10 = .ok (.aload_n 0, 1) := by decide +kernel
theorem dq_PI_colorAt_11 : decode (fx_cc mq_PI_colorAt) 11 = .ok (.getfield 29, 3) := by decide +kernel
theorem dq_PI_colorAt_14 : decode (fx_cc mq_PI_colorAt) 14 = .ok (.imul, 1) := by decide +kernel
theorem dq_PI_colorAt_15 : decode (fx_cc mq_PI_colorAt) 15 = .ok (.iload_n 1, 1) := by decide +kernel
theorem dq_PI_colorAt_16 : decode (fx_cc mq_PI_colorAt) 16 = .ok (.iadd, 1) := by decide +kernel
theorem dq_PI_colorAt_17 : decode (fx_cc mq_PI_colorAt) 17 = .ok (.aload_n 0, 1) := by decide +kernel
theorem dq_PI_colorAt_18 : decode (fx_cc mq_PI_colorAt) 18 = .ok (.getfield 36, 3) := by decide +kernel
theorem dq_PI_colorAt_21 : decode (fx_cc mq_PI_colorAt) 21 = .ok (.isub, 1) := by decide +kernel
theorem dq_PI_colorAt_22 : decode (fx_cc mq_PI_colorAt) 22 = .ok (.iaload, 1) := by decide +kernel
theorem dq_PI_colorAt_23 : decode (fx_cc mq_PI_colorAt) 23 = .ok (.ireturn, 1) := by decide +kernel
theorem dq_FS_mix_0 : decode (fx_cc mq_FS_mix) 0 = .ok (.iload_n 0, 1) := by decide +kernel
theorem dq_FS_mix_1 : decode (fx_cc mq_FS_mix) 1 = .ok (.bipush 11, 2) := by decide +kernel
theorem dq_FS_mix_3 : decode (fx_cc mq_FS_mix) 3 = .ok (.ishr, 1) := by decide +kernel
theorem dq_FS_mix_4 : decode (fx_cc mq_FS_mix) 4 = .ok (.iload_n 1, 1) := by decide +kernel
theorem dq_FS_mix_5 : decode (fx_cc mq_FS_mix) 5 = .ok (.bipush 11, 2) := by decide +kernel
theorem dq_FS_mix_7 : decode (fx_cc mq_FS_mix) 7 = .ok (.ishr, 1) := by decide +kernel
theorem dq_FS_mix_8 : decode (fx_cc mq_FS_mix) 8 = .ok (.iload_n 2, 1) := by decide +kernel
theorem dq_FS_mix_9 : decode (fx_cc mq_FS_mix) 9 = .ok (.invokestatic 258, 3) := by decide +kernel
theorem dq_FS_mix_12 : decode (fx_cc mq_FS_mix) 12 = .ok (.istore_n 3, 1) := by decide +kernel
theorem dq_FS_mix_13 : decode (fx_cc mq_FS_mix) 13 = .ok (.iload_n 0, 1) := by decide +kernel
theorem dq_FS_mix_14 : decode (fx_cc mq_FS_mix) 14 = .ok (.iconst 5, 1) := by decide +kernel
theorem dq_FS_mix_15 : decode (fx_cc mq_FS_mix) 15 = .ok (.ishr, 1) := by decide +kernel
theorem dq_FS_mix_16 : decode (fx_cc mq_FS_mix) 16 = .ok (.bipush 63, 2) := by decide +kernel
theorem dq_FS_mix_18 : decode (fx_cc mq_FS_mix) 18 = .ok (.iand, 1) := by decide +kernel
theorem dq_FS_mix_19 : decode (fx_cc mq_FS_mix) 19 = .ok (.iload_n 1, 1) := by decide +kernel
theorem dq_FS_mix_20 : decode (fx_cc mq_FS_mix) 20 = .ok (.iconst 5, 1) := by decide +kernel
theorem dq_FS_mix_21 : decode (fx_cc mq_FS_mix) 21 = .ok (.ishr, 1) := by decide +kernel
theorem dq_FS_mix_22 : decode (fx_cc mq_FS_mix) 22 = .ok (.bipush 63, 2) := by decide +kernel
theorem dq_FS_mix_24 : decode (fx_cc mq_FS_mix) 24 = .ok (.iand, 1) := by decide +kernel
theorem dq_FS_mix_25 : decode (fx_cc mq_FS_mix) 25 = .ok (.iload_n 2, 1) := by decide +kernel
theorem dq_FS_mix_26 : decode (fx_cc mq_FS_mix) 26 = .ok (.invokestatic 258, 3) := by decide +kernel
theorem dq_FS_mix_29 : decode (fx_cc mq_FS_mix) 29 = .ok (.istore 4, 2) := by decide +kernel
theorem dq_FS_mix_31 : decode (fx_cc mq_FS_mix) 31 = .ok (.iload_n 0, 1) := by decide +kernel
theorem dq_FS_mix_32 : decode (fx_cc mq_FS_mix) 32 = .ok (.bipush 31, 2) := by decide +kernel
theorem dq_FS_mix_34 : decode (fx_cc mq_FS_mix) 34 = .ok (.iand, 1) := by decide +kernel
theorem dq_FS_mix_35 : decode (fx_cc mq_FS_mix) 35 = .ok (.iload_n 1, 1) := by decide +kernel
theorem dq_FS_mix_36 : decode (fx_cc mq_FS_mix) 36 = .ok (.bipush 31, 2) := by decide +kernel
theorem dq_FS_mix_38 : decode (fx_cc mq_FS_mix) 38 = .ok (.iand, 1) := by decide +kernel
theorem dq_FS_mix_39 : decode (fx_cc mq_FS_mix) 39 = .ok (.iload_n 2, 1) := by decide +kernel
theorem dq_FS_mix_40 : decode (fx_cc mq_FS_mix) 40 = .ok (.invokestatic 258, 3) := by decide +kernel
theorem dq_FS_mix_43 : decode (fx_cc mq_FS_mix) 43 = .ok (.istore 5, 2) := by decide +kernel
theorem dq_FS_mix_45 : decode (fx_cc mq_FS_mix) 45 = .ok (.iload_n 3, 1) := by decide +kernel
theorem dq_FS_mix_46 : decode (fx_cc mq_FS_mix) 46 = .ok (.bipush 11, 2) := by decide +kernel
theorem dq_FS_mix_48 : decode (fx_cc mq_FS_mix) 48 = .ok (.ishl, 1) := by decide +kernel
theorem dq_FS_mix_49 : decode (fx_cc mq_FS_mix) 49 = .ok (.iload 4, 2) := by decide +kernel
theorem dq_FS_mix_51 : decode (fx_cc mq_FS_mix) 51 = .ok (.iconst 5, 1) := by decide +kernel
theorem dq_FS_mix_52 : decode (fx_cc mq_FS_mix) 52 = .ok (.ishl, 1) := by decide +kernel
theorem dq_FS_mix_53 : decode (fx_cc mq_FS_mix) 53 = .ok (.ior, 1) := by decide +kernel
theorem dq_FS_mix_54 : decode (fx_cc mq_FS_mix) 54 = .ok (.iload 5, 2) := by decide +kernel
theorem dq_FS_mix_56 : decode (fx_cc mq_FS_mix) 56 = .ok (.ior, 1) := by decide +kernel
theorem dq_FS_mix_57 : decode (fx_cc mq_FS_mix) 57 = .ok (.ireturn, 1) := by decide +kernel
theorem dq_FS_mixPart_0 : decode (fx_cc mq_FS_mixPart) 0 = .ok (.iload_n 2, 1) := by decide +kernel
theorem dq_FS_mixPart_1 : decode (fx_cc mq_FS_mixPart) 1 = .ok (.iload_n 0, 1) := by decide +kernel
theorem dq_FS_mixPart_2 : decode (fx_cc mq_FS_mixPart) 2 = .ok (.imul, 1) := by decide +kernel
theorem dq_FS_mixPart_3 : decode (fx_cc mq_FS_mixPart) 3 = .ok (.bipush 16, 2) := by decide +kernel
theorem dq_FS_mixPart_5 : decode (fx_cc mq_FS_mixPart) 5 = .ok (.iload_n 2, 1) := by decide +kernel
theorem dq_FS_mixPart_6 : decode (fx_cc mq_FS_mixPart) 6 = .ok (.isub, 1) := by decide +kernel
theorem dq_FS_mixPart_7 : decode (fx_cc mq_FS_mixPart) 7 = .ok (.iload_n 1, 1) := by decide +kernel
theorem dq_FS_mixPart_8 : decode (fx_cc mq_FS_mixPart) 8 = .ok (.imul, 1) := by decide +kernel
theorem dq_FS_mixPart_9 : decode (fx_cc mq_FS_mixPart) 9 = .ok (.iadd, 1) := by decide +kernel
theorem dq_FS_mixPart_10 : decode (fx_cc mq_FS_mixPart) 10 = .ok (.bipush 16, 2) := by decide +kernel
theorem dq_FS_mixPart_12 : decode (fx_cc mq_FS_mixPart) 12 = .ok (.idiv, 1) := by decide +kernel
theorem dq_FS_mixPart_13 : decode (fx_cc mq_FS_mixPart) 13 = .ok (.ireturn, 1) := by decide +kernel
theorem dq_FS_count_0 : decode (fx_cc mq_FS_count) 0 = .ok (.iload_n 1, 1) := by decide +kernel
theorem dq_FS_count_1 : decode (fx_cc mq_FS_count) 1 = .ok (.tableswitch 51 0 2 #[27, 35, 43], 27) := by decide +kernel
theorem dq_FS_count_28 : decode (fx_cc mq_FS_count) 28 = .ok (.aload_n 0, 1) := by decide +kernel
theorem dq_FS_count_29 : decode (fx_cc mq_FS_count) 29 = .ok (.getfield 26, 3) := by decide +kernel
theorem dq_FS_count_32 : decode (fx_cc mq_FS_count) 32 = .ok (.getfield 223, 3) := by decide +kernel
theorem dq_FS_count_35 : decode (fx_cc mq_FS_count) 35 = .ok (.ireturn, 1) := by decide +kernel
theorem dq_FS_count_36 : decode (fx_cc mq_FS_count) 36 = .ok (.aload_n 0, 1) := by decide +kernel
theorem dq_FS_count_37 : decode (fx_cc mq_FS_count) 37 = .ok (.getfield 26, 3) := by decide +kernel
theorem dq_FS_count_40 : decode (fx_cc mq_FS_count) 40 = .ok (.getfield 226, 3) := by decide +kernel
theorem dq_FS_count_43 : decode (fx_cc mq_FS_count) 43 = .ok (.ireturn, 1) := by decide +kernel
theorem dq_FS_count_44 : decode (fx_cc mq_FS_count) 44 = .ok (.aload_n 0, 1) := by decide +kernel
theorem dq_FS_count_45 : decode (fx_cc mq_FS_count) 45 = .ok (.getfield 19, 3) := by decide +kernel
theorem dq_FS_count_48 : decode (fx_cc mq_FS_count) 48 = .ok (.getfield 156, 3) := by decide +kernel
theorem dq_FS_count_51 : decode (fx_cc mq_FS_count) 51 = .ok (.ireturn, 1) := by decide +kernel
theorem dq_FS_count_52 : decode (fx_cc mq_FS_count) 52 = .ok (.iconst (-1), 1) := by decide +kernel
theorem dq_FS_count_53 : decode (fx_cc mq_FS_count) 53 = .ok (.ireturn, 1) := by decide +kernel
theorem dq_FS_missed_0 : decode (fx_cc mq_FS_missed) 0 = .ok (.aload_n 0, 1) := by decide +kernel
theorem dq_FS_missed_1 : decode (fx_cc mq_FS_missed) 1 = .ok (.getfield 19, 3) := by decide +kernel
theorem dq_FS_missed_4 : decode (fx_cc mq_FS_missed) 4 = .ok (.getfield 229, 3) := by decide +kernel
theorem dq_FS_missed_7 : decode (fx_cc mq_FS_missed) 7 = .ok (.getfield 232, 3) := by decide +kernel
theorem dq_FS_missed_10 : decode (fx_cc mq_FS_missed) 10 = .ok (.astore_n 3, 1) := by decide +kernel
theorem dq_FS_missed_11 : decode (fx_cc mq_FS_missed) 11 = .ok (.iload_n 1, 1) := by decide +kernel
theorem dq_FS_missed_12 : decode (fx_cc mq_FS_missed) 12 = .ok (.ifCond .lt 11, 3) := by decide +kernel
theorem dq_FS_missed_15 : decode (fx_cc mq_FS_missed) 15 = .ok (.iload_n 1, 1) := by decide +kernel
theorem dq_FS_missed_16 : decode (fx_cc mq_FS_missed) 16 = .ok (.aload_n 3, 1) := by decide +kernel
theorem dq_FS_missed_17 : decode (fx_cc mq_FS_missed) 17 = .ok (.getfield 238, 3) := by decide +kernel
theorem dq_FS_missed_20 : decode (fx_cc mq_FS_missed) 20 = .ok (.if_icmp .lt 5, 3) := by decide +kernel
theorem dq_FS_missed_23 : decode (fx_cc mq_FS_missed) 23 = .ok (.iconst (-1), 1) := by decide +kernel
theorem dq_FS_missed_24 : decode (fx_cc mq_FS_missed) 24 = .ok (.ireturn, 1) := by decide +kernel
theorem dq_FS_missed_25 : decode (fx_cc mq_FS_missed) 25 = .ok (.aload_n 3, 1) := by decide +kernel
theorem dq_FS_missed_26 : decode (fx_cc mq_FS_missed) 26 = .ok (.getfield 243, 3) := by decide +kernel
theorem dq_FS_missed_29 : decode (fx_cc mq_FS_missed) 29 = .ok (.iload_n 1, 1) := by decide +kernel
theorem dq_FS_missed_30 : decode (fx_cc mq_FS_missed) 30 = .ok (.aaload, 1) := by decide +kernel
theorem dq_FS_missed_31 : decode (fx_cc mq_FS_missed) 31 = .ok (.astore 4, 2) := by decide +kernel
theorem dq_FS_missed_33 : decode (fx_cc mq_FS_missed) 33 = .ok (.iload_n 2, 1) := by decide +kernel
theorem dq_FS_missed_34 : decode (fx_cc mq_FS_missed) 34 = .ok (.tableswitch 54 0 3 #[30, 36, 42, 48], 30) := by decide +kernel
theorem dq_FS_missed_64 : decode (fx_cc mq_FS_missed) 64 = .ok (.aload 4, 2) := by decide +kernel
theorem dq_FS_missed_66 : decode (fx_cc mq_FS_missed) 66 = .ok (.getfield 247, 3) := by decide +kernel
theorem dq_FS_missed_69 : decode (fx_cc mq_FS_missed) 69 = .ok (.ireturn, 1) := by decide +kernel
theorem dq_FS_missed_70 : decode (fx_cc mq_FS_missed) 70 = .ok (.aload 4, 2) := by decide +kernel
theorem dq_FS_missed_72 : decode (fx_cc mq_FS_missed) 72 = .ok (.getfield 248, 3) := by decide +kernel
theorem dq_FS_missed_75 : decode (fx_cc mq_FS_missed) 75 = .ok (.ireturn, 1) := by decide +kernel
theorem dq_FS_missed_76 : decode (fx_cc mq_FS_missed) 76 = .ok (.aload 4, 2) := by decide +kernel
theorem dq_FS_missed_78 : decode (fx_cc mq_FS_missed) 78 = .ok (.getfield 249, 3) := by decide +kernel
theorem dq_FS_missed_81 : decode (fx_cc mq_FS_missed) 81 = .ok (.ireturn, 1) := by decide +kernel
theorem dq_FS_missed_82 : decode (fx_cc mq_FS_missed) 82 = .ok (.aload 4, 2) := by decide +kernel
theorem dq_FS_missed_84 : decode (fx_cc mq_FS_missed) 84 = .ok (.getfield 250, 3) := by decide +kernel
theorem dq_FS_missed_87 : decode (fx_cc mq_FS_missed) 87 = .ok (.ireturn, 1) := by decide +kernel
theorem dq_FS_missed_88 : decode (fx_cc mq_FS_missed) 88 = .ok (.iconst (-1), 1) := by decide +kernel
theorem dq_FS_missed_89 : decode (fx_cc mq_FS_missed) 89 = .ok (.ireturn, 1) := by decide +kernel
theorem dq_FS_plane_0 : decode (fx_cc mq_FS_plane) 0 = .ok (.iload_n 1, 1) := by decide +kernel
theorem dq_FS_plane_1 : decode (fx_cc mq_FS_plane) 1 = .ok (.iconst 0, 1) := by decide +kernel
theorem dq_FS_plane_2 : decode (fx_cc mq_FS_plane) 2 = .ok (.iconst 1, 1) := by decide +kernel
theorem dq_FS_plane_3 : decode (fx_cc mq_FS_plane) 3 = .ok (.invokestatic 48, 3) := by decide +kernel
theorem dq_FS_plane_6 : decode (fx_cc mq_FS_plane) 6 = .ok (.ifCond .eq 18, 3) := by decide +kernel
theorem dq_FS_plane_9 : decode (fx_cc mq_FS_plane) 9 = .ok (.aload_n 0, 1) := by decide +kernel
theorem dq_FS_plane_10 : decode (fx_cc mq_FS_plane) 10 = .ok (.getfield 19, 3) := by decide +kernel
theorem dq_FS_plane_13 : decode (fx_cc mq_FS_plane) 13 = .ok (.getfield 198, 3) := by decide +kernel
theorem dq_FS_plane_16 : decode (fx_cc mq_FS_plane) 16 = .ok (.getfield 251, 3) := by decide +kernel
theorem dq_FS_plane_19 : decode (fx_cc mq_FS_plane) 19 = .ok (.iload_n 1, 1) := by decide +kernel
theorem dq_FS_plane_20 : decode (fx_cc mq_FS_plane) 20 = .ok (.iaload, 1) := by decide +kernel
theorem dq_FS_plane_21 : decode (fx_cc mq_FS_plane) 21 = .ok (.goto 4, 3) := by decide +kernel
theorem dq_FS_plane_24 : decode (fx_cc mq_FS_plane) 24 = .ok (.iconst (-1), 1) := by decide +kernel
theorem dq_FS_plane_25 : decode (fx_cc mq_FS_plane) 25 = .ok (.ireturn, 1) := by decide +kernel
theorem dq_FS_free_0 : decode (fx_cc mq_FS_free) 0 = .ok (.aload_n 0, 1) := by decide +kernel
theorem dq_FS_free_1 : decode (fx_cc mq_FS_free) 1 = .ok (.getfield 10, 3) := by decide +kernel
theorem dq_FS_free_4 : decode (fx_cc mq_FS_free) 4 = .ok (.getfield 60, 3) := by decide +kernel
theorem dq_FS_free_7 : decode (fx_cc mq_FS_free) 7 = .ok (.ireturn, 1) := by decide +kernel
theorem dq_LA_surface_0 : decode (fx_cc mq_LA_surface) 0 = .ok (.aload 4, 2) := by decide +kernel
theorem dq_LA_surface_2 : decode (fx_cc mq_LA_surface) 2 = .ok (.iconst 0, 1) := by decide +kernel
theorem dq_LA_surface_3 : decode (fx_cc mq_LA_surface) 3 = .ok (.aload_n 0, 1) := by decide +kernel
theorem dq_LA_surface_4 : decode (fx_cc mq_LA_surface) 4 = .ok (.iload_n 1, 1) := by decide +kernel
theorem dq_LA_surface_5 : decode (fx_cc mq_LA_surface) 5 = .ok (.iload_n 2, 1) := by decide +kernel
theorem dq_LA_surface_6 : decode (fx_cc mq_LA_surface) 6 = .ok (.iload_n 3, 1) := by decide +kernel
theorem dq_LA_surface_7 : decode (fx_cc mq_LA_surface) 7 = .ok (.invokevirtual 7, 3) := by decide +kernel
theorem dq_LA_surface_10 : decode (fx_cc mq_LA_surface) 10 = .ok (.i2l, 1) := by decide +kernel
theorem dq_LA_surface_11 : decode (fx_cc mq_LA_surface) 11 = .ok (.lastore, 1) := by decide +kernel
theorem dq_LA_surface_12 : decode (fx_cc mq_LA_surface) 12 = .ok (.goto 11, 3) := by decide +kernel
theorem dq_LA_surface_15 : decode (fx_cc mq_LA_surface) 15 = .ok (.astore 5, 2) := by decide +kernel
theorem dq_LA_surface_17 : decode (fx_cc mq_LA_surface) 17 = .ok (.iconst 1, 1) := by decide +kernel
theorem dq_LA_surface_18 : decode (fx_cc mq_LA_surface) 18 = .ok (.ireturn, 1) := by decide +kernel
theorem dq_LA_surface_19 : decode (fx_cc mq_LA_surface) 19 = .ok (.astore 5, 2) := by decide +kernel
theorem dq_LA_surface_21 : decode (fx_cc mq_LA_surface) 21 = .ok (.iconst 2, 1) := by decide +kernel
theorem dq_LA_surface_22 : decode (fx_cc mq_LA_surface) 22 = .ok (.ireturn, 1) := by decide +kernel
theorem dq_LA_surface_23 : decode (fx_cc mq_LA_surface) 23 = .ok (.iconst 0, 1) := by decide +kernel
theorem dq_LA_surface_24 : decode (fx_cc mq_LA_surface) 24 = .ok (.ireturn, 1) := by decide +kernel
theorem dq_FS_surface_0 : decode (fx_cc mq_FS_surface) 0 = .ok (.iload_n 1, 1) := by decide +kernel
theorem dq_FS_surface_1 : decode (fx_cc mq_FS_surface) 1 = .ok (.invokestatic 44, 3) := by decide +kernel
theorem dq_FS_surface_4 : decode (fx_cc mq_FS_surface) 4 = .ok (.ifCond .eq 27, 3) := by decide +kernel
theorem dq_FS_surface_7 : decode (fx_cc mq_FS_surface) 7 = .ok (.iload_n 2, 1) := by decide +kernel
theorem dq_FS_surface_8 : decode (fx_cc mq_FS_surface) 8 = .ok (.iconst 1, 1) := by decide +kernel
theorem dq_FS_surface_9 : decode (fx_cc mq_FS_surface) 9 = .ok (.bipush 12, 2) := by decide +kernel
theorem dq_FS_surface_11 : decode (fx_cc mq_FS_surface) 11 = .ok (.invokestatic 48, 3) := by decide +kernel
theorem dq_FS_surface_14 : decode (fx_cc mq_FS_surface) 14 = .ok (.ifCond .eq 17, 3) := by decide +kernel
theorem dq_FS_surface_17 : decode (fx_cc mq_FS_surface) 17 = .ok (.iload_n 3, 1) := by decide +kernel
theorem dq_FS_surface_18 : decode (fx_cc mq_FS_surface) 18 = .ok (.iconst 1, 1) := by decide +kernel
theorem dq_FS_surface_19 : decode (fx_cc mq_FS_surface) 19 = .ok (.bipush 8, 2) := by decide +kernel
theorem dq_FS_surface_21 : decode (fx_cc mq_FS_surface) 21 = .ok (.invokestatic 48, 3) := by decide +kernel
theorem dq_FS_surface_24 : decode (fx_cc mq_FS_surface) 24 = .ok (.ifCond .eq 7, 3) := by decide +kernel
theorem dq_FS_surface_27 : decode (fx_cc mq_FS_surface) 27 = .ok (.iconst 1, 1) := by decide +kernel
theorem dq_FS_surface_28 : decode (fx_cc mq_FS_surface) 28 = .ok (.goto 4, 3) := by decide +kernel
theorem dq_FS_surface_31 : decode (fx_cc mq_FS_surface) 31 = .ok (.iconst 0, 1) := by decide +kernel
theorem dq_FS_surface_32 : decode (fx_cc mq_FS_surface) 32 = .ok (.invokestatic 52, 3) := by decide +kernel
theorem dq_FS_surface_35 : decode (fx_cc mq_FS_surface) 35 = .ok (.aload_n 0, 1) := by decide +kernel
theorem dq_FS_surface_36 : decode (fx_cc mq_FS_surface) 36 = .ok (.getfield 10, 3) := by decide +kernel
theorem dq_FS_surface_39 : decode (fx_cc mq_FS_surface) 39 = .ok (.invokevirtual 56, 3) := by decide +kernel
theorem dq_FS_surface_42 : decode (fx_cc mq_FS_surface) 42 = .ok (.istore 4, 2) := by decide +kernel
theorem dq_FS_surface_44 : decode (fx_cc mq_FS_surface) 44 = .ok (.iload 4, 2) := by decide +kernel
theorem dq_FS_surface_46 : decode (fx_cc mq_FS_surface) 46 = .ok (.iconst (-1), 1) := by decide +kernel
theorem dq_FS_surface_47 : decode (fx_cc mq_FS_surface) 47 = .ok (.if_icmp .eq 16, 3) := by decide +kernel
theorem dq_FS_surface_50 : decode (fx_cc mq_FS_surface) 50 = .ok (.iload_n 2, 1) := by decide +kernel
theorem dq_FS_surface_51 : decode (fx_cc mq_FS_surface) 51 = .ok (.iload_n 3, 1) := by decide +kernel
theorem dq_FS_surface_52 : decode (fx_cc mq_FS_surface) 52 = .ok (.imul, 1) := by decide +kernel
theorem dq_FS_surface_53 : decode (fx_cc mq_FS_surface) 53 = .ok (.aload_n 0, 1) := by decide +kernel
theorem dq_FS_surface_54 : decode (fx_cc mq_FS_surface) 54 = .ok (.getfield 10, 3) := by decide +kernel
theorem dq_FS_surface_57 : decode (fx_cc mq_FS_surface) 57 = .ok (.getfield 60, 3) := by decide +kernel
theorem dq_FS_surface_60 : decode (fx_cc mq_FS_surface) 60 = .ok (.if_icmp .le 11, 3) := by decide +kernel
theorem dq_FS_surface_63 : decode (fx_cc mq_FS_surface) 63 = .ok (.new 64, 3) := by decide +kernel
theorem dq_FS_surface_66 : decode (fx_cc mq_FS_surface) 66 = .ok (.dup, 1) := by decide +kernel
theorem dq_FS_surface_67 : decode (fx_cc mq_FS_surface) 67 = .ok (.invokespecial 66, 3) := by decide +kernel
theorem dq_FS_surface_70 : decode (fx_cc mq_FS_surface) 70 = .ok (.athrow, 1) := by decide +kernel
theorem dq_FS_surface_71 : decode (fx_cc mq_FS_surface) 71 = .ok (.aload_n 0, 1) := by decide +kernel
theorem dq_FS_surface_72 : decode (fx_cc mq_FS_surface) 72 = .ok (.getfield 10, 3) := by decide +kernel
theorem dq_FS_surface_75 : decode (fx_cc mq_FS_surface) 75 = .ok (.iload 4, 2) := by decide +kernel
theorem dq_FS_surface_77 : decode (fx_cc mq_FS_surface) 77 = .ok (.iload_n 1, 1) := by decide +kernel
theorem dq_FS_surface_78 : decode (fx_cc mq_FS_surface) 78 = .ok (.iload_n 2, 1) := by decide +kernel
theorem dq_FS_surface_79 : decode (fx_cc mq_FS_surface) 79 = .ok (.iload_n 3, 1) := by decide +kernel
theorem dq_FS_surface_80 : decode (fx_cc mq_FS_surface) 80 = .ok (.invokevirtual 67, 3) := by decide +kernel
theorem dq_FS_surface_83 : decode (fx_cc mq_FS_surface) 83 = .ok (.iload 4, 2) := by decide +kernel
theorem dq_FS_surface_85 : decode (fx_cc mq_FS_surface) 85 = .ok (.ireturn, 1) := by decide +kernel
theorem dq_FS_isClient_0 : decode (fx_cc mq_FS_isClient) 0 = .ok (.iload_n 0, 1) := by decide +kernel
theorem dq_FS_isClient_1 : decode (fx_cc mq_FS_isClient) 1 = .ok (.iconst 0, 1) := by decide +kernel
theorem dq_FS_isClient_2 : decode (fx_cc mq_FS_isClient) 2 = .ok (.iconst 3, 1) := by decide +kernel
theorem dq_FS_isClient_3 : decode (fx_cc mq_FS_isClient) 3 = .ok (.invokestatic 48, 3) := by decide +kernel
theorem dq_FS_isClient_6 : decode (fx_cc mq_FS_isClient) 6 = .ok (.ireturn, 1) := by decide +kernel
theorem dq_FS_demand_0 : decode (fx_cc mq_FS_demand) 0 = .ok (.iload_n 0, 1) := by decide +kernel
theorem dq_FS_demand_1 : decode (fx_cc mq_FS_demand) 1 = .ok (.ifCond .ne 11, 3) := by decide +kernel
theorem dq_FS_demand_4 : decode (fx_cc mq_FS_demand) 4 = .ok (.new 254, 3) := by decide +kernel
theorem dq_FS_demand_7 : decode (fx_cc mq_FS_demand) 7 = .ok (.dup, 1) := by decide +kernel
theorem dq_FS_demand_8 : decode (fx_cc mq_FS_demand) 8 = .ok (.invokespecial 256, 3) := by decide +kernel
theorem dq_FS_demand_11 : decode (fx_cc mq_FS_demand) 11 = .ok (.athrow, 1) := by decide +kernel
theorem dq_FS_demand_12 : decode (fx_cc mq_FS_demand) 12 = .ok (.return_, 1) := by decide +kernel
theorem dq_DE_lowestFreeNumber_0 : decode (fx_cc mq_DE_lowestFreeNumber) 0 = .ok (.iconst 0, 1) := by decide +kernel
theorem dq_DE_lowestFreeNumber_1 : decode (fx_cc mq_DE_lowestFreeNumber) 1 = .ok (.istore_n 1, 1) := by decide +kernel
theorem dq_DE_lowestFreeNumber_2 : decode (fx_cc mq_DE_lowestFreeNumber) 2 = .ok (.iload_n 1, 1) := by decide +kernel
theorem dq_DE_lowestFreeNumber_3 : decode (fx_cc mq_DE_lowestFreeNumber) 3 = .ok (.bipush 10, 2) := by decide +kernel
theorem dq_DE_lowestFreeNumber_5 : decode (fx_cc mq_DE_lowestFreeNumber) 5 = .ok (.if_icmp .ge 21, 3) := by decide +kernel
theorem dq_DE_lowestFreeNumber_8 : decode (fx_cc mq_DE_lowestFreeNumber) 8 = .ok (.aload_n 0, 1) := by decide +kernel
theorem dq_DE_lowestFreeNumber_9 : decode (fx_cc mq_DE_lowestFreeNumber) 9 = .ok (.getfield 24, 3) := by decide +kernel
theorem dq_DE_lowestFreeNumber_12 : decode (fx_cc mq_DE_lowestFreeNumber) 12 = .ok (.iload_n 1, 1) := by decide +kernel
theorem dq_DE_lowestFreeNumber_13 : decode (fx_cc mq_DE_lowestFreeNumber) 13 = .ok (.iaload, 1) := by decide +kernel
theorem dq_DE_lowestFreeNumber_14 : decode (fx_cc mq_DE_lowestFreeNumber) 14 = .ok (.iconst (-1), 1) := by decide +kernel
theorem dq_DE_lowestFreeNumber_15 : decode (fx_cc mq_DE_lowestFreeNumber) 15 = .ok (.if_icmp .ne 5, 3) := by decide +kernel
theorem dq_DE_lowestFreeNumber_18 : decode (fx_cc mq_DE_lowestFreeNumber) 18 = .ok (.iload_n 1, 1) := by decide +kernel
theorem dq_DE_lowestFreeNumber_19 : decode (fx_cc mq_DE_lowestFreeNumber) 19 = .ok (.ireturn, 1) := by decide +kernel
theorem dq_DE_lowestFreeNumber_20 : decode (fx_cc mq_DE_lowestFreeNumber) 20 = .ok (.iinc 1 1, 3) := by decide +kernel
theorem dq_DE_lowestFreeNumber_23 : decode (fx_cc mq_DE_lowestFreeNumber) 23 = .ok (.goto (-21), 3) := by decide +kernel
theorem dq_DE_lowestFreeNumber_26 : decode (fx_cc mq_DE_lowestFreeNumber) 26 = .ok (.iconst (-1), 1) := by decide +kernel
theorem dq_DE_lowestFreeNumber_27 : decode (fx_cc mq_DE_lowestFreeNumber) 27 = .ok (.ireturn, 1) := by decide +kernel
theorem dq_DE_open_0 : decode (fx_cc mq_DE_open) 0 = .ok (.aload_n 0, 1) := by decide +kernel
theorem dq_DE_open_1 : decode (fx_cc mq_DE_open) 1 = .ok (.getfield 24, 3) := by decide +kernel
theorem dq_DE_open_4 : decode (fx_cc mq_DE_open) 4 = .ok (.iload_n 1, 1) := by decide +kernel
theorem dq_DE_open_5 : decode (fx_cc mq_DE_open) 5 = .ok (.iload_n 2, 1) := by decide +kernel
theorem dq_DE_open_6 : decode (fx_cc mq_DE_open) 6 = .ok (.iastore, 1) := by decide +kernel
theorem dq_DE_open_7 : decode (fx_cc mq_DE_open) 7 = .ok (.aload_n 0, 1) := by decide +kernel
theorem dq_DE_open_8 : decode (fx_cc mq_DE_open) 8 = .ok (.getfield 11, 3) := by decide +kernel
theorem dq_DE_open_11 : decode (fx_cc mq_DE_open) 11 = .ok (.iload_n 1, 1) := by decide +kernel
theorem dq_DE_open_12 : decode (fx_cc mq_DE_open) 12 = .ok (.aaload, 1) := by decide +kernel
theorem dq_DE_open_13 : decode (fx_cc mq_DE_open) 13 = .ok (.iload_n 3, 1) := by decide +kernel
theorem dq_DE_open_14 : decode (fx_cc mq_DE_open) 14 = .ok (.iload 4, 2) := by decide +kernel
theorem dq_DE_open_16 : decode (fx_cc mq_DE_open) 16 = .ok (.invokevirtual 44, 3) := by decide +kernel
theorem dq_DE_open_19 : decode (fx_cc mq_DE_open) 19 = .ok (.aload_n 0, 1) := by decide +kernel
theorem dq_DE_open_20 : decode (fx_cc mq_DE_open) 20 = .ok (.dup, 1) := by decide +kernel
theorem dq_DE_open_21 : decode (fx_cc mq_DE_open) 21 = .ok (.getfield 35, 3) := by decide +kernel
theorem dq_DE_open_24 : decode (fx_cc mq_DE_open) 24 = .ok (.iload_n 3, 1) := by decide +kernel
theorem dq_DE_open_25 : decode (fx_cc mq_DE_open) 25 = .ok (.iload 4, 2) := by decide +kernel
theorem dq_DE_open_27 : decode (fx_cc mq_DE_open) 27 = .ok (.imul, 1) := by decide +kernel
theorem dq_DE_open_28 : decode (fx_cc mq_DE_open) 28 = .ok (.isub, 1) := by decide +kernel
theorem dq_DE_open_29 : decode (fx_cc mq_DE_open) 29 = .ok (.putfield 35, 3) := by decide +kernel
theorem dq_DE_open_32 : decode (fx_cc mq_DE_open) 32 = .ok (.return_, 1) := by decide +kernel
theorem dq_PI_start_0 : decode (fx_cc mq_PI_start) 0 = .ok (.aload_n 0, 1) := by decide +kernel
theorem dq_PI_start_1 : decode (fx_cc mq_PI_start) 1 = .ok (.iconst 1, 1) := by decide +kernel
theorem dq_PI_start_2 : decode (fx_cc mq_PI_start) 2 = .ok (.putfield 25, 3) := by decide +kernel
theorem dq_PI_start_5 : decode (fx_cc mq_PI_start) 5 = .ok (.aload_n 0, 1) := by decide +kernel
theorem dq_PI_start_6 : decode (fx_cc mq_PI_start) 6 = .ok (.iload_n 1, 1) := by decide +kernel
theorem dq_PI_start_7 : decode (fx_cc mq_PI_start) 7 = .ok (.putfield 29, 3) := by decide +kernel
theorem dq_PI_start_10 : decode (fx_cc mq_PI_start) 10 = .ok (.aload_n 0, 1) := by decide +kernel
theorem dq_PI_start_11 : decode (fx_cc mq_PI_start) 11 = .ok (.iload_n 2, 1) := by decide +kernel
theorem dq_PI_start_12 : decode (fx_cc mq_PI_start) 12 = .ok (.putfield 33, 3) := by decide +kernel
theorem dq_PI_start_15 : decode (fx_cc mq_PI_start) 15 = .ok (.aload_n 0, 1) := by decide +kernel
theorem dq_PI_start_16 : decode (fx_cc mq_PI_start) 16 = .ok (.iconst 0, 1) := by decide +kernel
theorem dq_PI_start_17 : decode (fx_cc mq_PI_start) 17 = .ok (.putfield 36, 3) := by decide +kernel
theorem dq_PI_start_20 : decode (fx_cc mq_PI_start) 20 = .ok (.aload_n 0, 1) := by decide +kernel
theorem dq_PI_start_21 : decode (fx_cc mq_PI_start) 21 = .ok (.iconst 0, 1) := by decide +kernel
theorem dq_PI_start_22 : decode (fx_cc mq_PI_start) 22 = .ok (.putfield 39, 3) := by decide +kernel
theorem dq_PI_start_25 : decode (fx_cc mq_PI_start) 25 = .ok (.aload_n 0, 1) := by decide +kernel
theorem dq_PI_start_26 : decode (fx_cc mq_PI_start) 26 = .ok (.iconst 0, 1) := by decide +kernel
theorem dq_PI_start_27 : decode (fx_cc mq_PI_start) 27 = .ok (.putfield 42, 3) := by decide +kernel
theorem dq_PI_start_30 : decode (fx_cc mq_PI_start) 30 = .ok (.aload_n 0, 1) := by decide +kernel
theorem dq_PI_start_31 : decode (fx_cc mq_PI_start) 31 = .ok (.bipush 16, 2) := by decide +kernel
theorem dq_PI_start_33 : decode (fx_cc mq_PI_start) 33 = .ok (.putfield 45, 3) := by decide +kernel
theorem dq_PI_start_36 : decode (fx_cc mq_PI_start) 36 = .ok (.aload_n 0, 1) := by decide +kernel
theorem dq_PI_start_37 : decode (fx_cc mq_PI_start) 37 = .ok (.iconst 0, 1) := by decide +kernel
theorem dq_PI_start_38 : decode (fx_cc mq_PI_start) 38 = .ok (.putfield 48, 3) := by decide +kernel
theorem dq_PI_start_41 : decode (fx_cc mq_PI_start) 41 = .ok (.aload_n 0, 1) := by decide +kernel
theorem dq_PI_start_42 : decode (fx_cc mq_PI_start) 42 = .ok (.getfield 9, 3) := by decide +kernel
theorem dq_PI_start_45 : decode (fx_cc mq_PI_start) 45 = .ok (.iconst 0, 1) := by decide +kernel
theorem dq_PI_start_46 : decode (fx_cc mq_PI_start) 46 = .ok (.invokestatic 51, 3) := by decide +kernel
theorem dq_PI_start_49 : decode (fx_cc mq_PI_start) 49 = .ok (.aload_n 0, 1) := by decide +kernel
theorem dq_PI_start_50 : decode (fx_cc mq_PI_start) 50 = .ok (.getfield 18, 3) := by decide +kernel
theorem dq_PI_start_53 : decode (fx_cc mq_PI_start) 53 = .ok (.iconst 0, 1) := by decide +kernel
theorem dq_PI_start_54 : decode (fx_cc mq_PI_start) 54 = .ok (.iconst 0, 1) := by decide +kernel
theorem dq_PI_start_55 : decode (fx_cc mq_PI_start) 55 = .ok (.aload_n 0, 1) := by decide +kernel
theorem dq_PI_start_56 : decode (fx_cc mq_PI_start) 56 = .ok (.getfield 29, 3) := by decide +kernel
theorem dq_PI_start_59 : decode (fx_cc mq_PI_start) 59 = .ok (.aload_n 0, 1) := by decide +kernel
theorem dq_PI_start_60 : decode (fx_cc mq_PI_start) 60 = .ok (.getfield 33, 3) := by decide +kernel
theorem dq_PI_start_63 : decode (fx_cc mq_PI_start) 63 = .ok (.invokevirtual 57, 3) := by decide +kernel
theorem dq_PI_start_66 : decode (fx_cc mq_PI_start) 66 = .ok (.aload_n 0, 1) := by decide +kernel
theorem dq_PI_start_67 : decode (fx_cc mq_PI_start) 67 = .ok (.invokevirtual 61, 3) := by decide +kernel
theorem dq_PI_start_70 : decode (fx_cc mq_PI_start) 70 = .ok (.return_, 1) := by decide +kernel
theorem dq_PI_findShown_0 : decode (fx_cc mq_PI_findShown) 0 = .ok (.aload_n 0, 1) := by decide +kernel
theorem dq_PI_findShown_1 : decode (fx_cc mq_PI_findShown) 1 = .ok (.getfield 25, 3) := by decide +kernel
theorem dq_PI_findShown_4 : decode (fx_cc mq_PI_findShown) 4 = .ok (.ifCond .eq 10, 3) := by decide +kernel
theorem dq_PI_findShown_7 : decode (fx_cc mq_PI_findShown) 7 = .ok (.aload_n 0, 1) := by decide +kernel
theorem dq_PI_findShown_8 : decode (fx_cc mq_PI_findShown) 8 = .ok (.getfield 48, 3) := by decide +kernel
theorem dq_PI_findShown_11 : decode (fx_cc mq_PI_findShown) 11 = .ok (.ifCond .ne 15, 3) := by decide +kernel
theorem dq_PI_findShown_14 : decode (fx_cc mq_PI_findShown) 14 = .ok (.aload_n 0, 1) := by decide +kernel
theorem dq_PI_findShown_15 : decode (fx_cc mq_PI_findShown) 15 = .ok (.getfield 22, 3) := by decide +kernel
theorem dq_PI_findShown_18 : decode (fx_cc mq_PI_findShown) 18 = .ok (.iconst 0, 1) := by decide +kernel
theorem dq_PI_findShown_19 : decode (fx_cc mq_PI_findShown) 19 = .ok (.iconst 0, 1) := by decide +kernel
theorem dq_PI_findShown_20 : decode (fx_cc mq_PI_findShown) 20 = .ok (.iconst 0, 1) := by decide +kernel
theorem dq_PI_findShown_21 : decode (fx_cc mq_PI_findShown) 21 = .ok (.iconst 0, 1) := by decide +kernel
theorem dq_PI_findShown_22 : decode (fx_cc mq_PI_findShown) 22 = .ok (.invokevirtual 57, 3) := by decide +kernel
theorem dq_PI_findShown_25 : decode (fx_cc mq_PI_findShown) 25 = .ok (.return_, 1) := by decide +kernel
theorem dq_PI_findShown_26 : decode (fx_cc mq_PI_findShown) 26 = .ok (.aload_n 0, 1) := by decide +kernel
theorem dq_PI_findShown_27 : decode (fx_cc mq_PI_findShown) 27 = .ok (.getfield 22, 3) := by decide +kernel
theorem dq_PI_findShown_30 : decode (fx_cc mq_PI_findShown) 30 = .ok (.aload_n 0, 1) := by decide +kernel
theorem dq_PI_findShown_31 : decode (fx_cc mq_PI_findShown) 31 = .ok (.getfield 18, 3) := by decide +kernel
theorem dq_PI_findShown_34 : decode (fx_cc mq_PI_findShown) 34 = .ok (.invokevirtual 70, 3) := by decide +kernel
theorem dq_PI_findShown_37 : decode (fx_cc mq_PI_findShown) 37 = .ok (.aload_n 0, 1) := by decide +kernel
