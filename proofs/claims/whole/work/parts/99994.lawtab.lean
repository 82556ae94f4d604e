/-! ===== the law: its bytes, its calls, a row for each instruction ===== -/
def mq_LA_law : fx_M := (⟨"FrameSwapperLaw", "law", "([I)Z"⟩, code, 7, some .boolean, (11, 414), [])
theorem kz_IAE : Cond.castable "java/lang/IllegalArgumentException" "java/lang/IllegalArgumentException" ∈ fx_tb := fx_m1 452 (by decide +kernel)
theorem kz_ISE : Cond.castable "java/lang/IllegalStateException" "java/lang/IllegalStateException" ∈ fx_tb := fx_m1 519 (by decide +kernel)
theorem kz_IOB : Cond.castable "java/lang/IndexOutOfBoundsException" "java/lang/IndexOutOfBoundsException" ∈ fx_tb := fx_m1 615 (by decide +kernel)
theorem kt_ISE : Cond.not (.castable "java/lang/IllegalStateException" "java/lang/IllegalArgumentException") ∈ fx_tb := fx_m2 2 rfl
theorem kt_IOB : Cond.not (.castable "java/lang/IndexOutOfBoundsException" "java/lang/IllegalArgumentException") ∈ fx_tb := fx_m2 3 rfl
theorem sq_LA_50 : fx_wI "FrameSwapperLaw" 50 0 mq_FS_init := ⟨⟨kc_FS_init, kn_FS, ⟨by decide, by decide⟩, by decide +kernel, fx_m1 23 (by decide +kernel)⟩, ki_FS_init, rfl, rfl, rfl⟩
theorem sq_LA_53 : fx_wI "FrameSwapperLaw" 53 0 mq_MO_init := ⟨⟨kc_MO_init, kn_MO, ⟨by decide, by decide⟩, by decide +kernel, fx_m1 798 (by decide +kernel)⟩, ki_MO_init, rfl, rfl, rfl⟩
theorem sq_LA_54 : fx_wS "FrameSwapperLaw" 54 5 mq_LA_surface := ⟨⟨kc_LA_surface, kn_LA, ⟨by decide, by decide⟩, by decide +kernel, fx_m1 435 (by decide +kernel)⟩, ks_LA_surface⟩
theorem sq_LA_59 : fx_wV "FrameSwapperLaw" 59 3 mq_MO_surface 10 := ⟨⟨kc_MO_surface, kn_MO, ⟨by decide, by decide⟩, by decide +kernel, fx_m1 963 (by decide +kernel)⟩, ki_MO_surface, ke_MO_surface, _, rfl, rfl⟩
theorem sq_LA_60 : fx_wV "FrameSwapperLaw" 60 0 mq_MO_thrown 10 := ⟨⟨kc_MO_thrown, kn_MO, ⟨by decide, by decide⟩, by decide +kernel, fx_m1 959 (by decide +kernel)⟩, ki_MO_thrown, ke_MO_thrown, _, rfl, rfl⟩
theorem sq_LA_64 : fx_wS "FrameSwapperLaw" 64 2 mq_LA_destroy := ⟨⟨kc_LA_destroy, kn_LA, ⟨by decide, by decide⟩, by decide +kernel, fx_m1 563 (by decide +kernel)⟩, ks_LA_destroy⟩
theorem sq_LA_67 : fx_wV "FrameSwapperLaw" 67 1 mq_MO_destroy 10 := ⟨⟨kc_MO_destroy, kn_MO, ⟨by decide, by decide⟩, by decide +kernel, fx_m1 974 (by decide +kernel)⟩, ki_MO_destroy, ke_MO_destroy, _, rfl, rfl⟩
theorem sq_LA_68 : fx_wS "FrameSwapperLaw" 68 7 mq_LA_place := ⟨⟨kc_LA_place, kn_LA, ⟨by decide, by decide⟩, by decide +kernel, fx_m1 578 (by decide +kernel)⟩, ks_LA_place⟩
theorem sq_LA_71 : fx_wV "FrameSwapperLaw" 71 6 mq_MO_place 10 := ⟨⟨kc_MO_place, kn_MO, ⟨by decide, by decide⟩, by decide +kernel, fx_m1 982 (by decide +kernel)⟩, ki_MO_place, ke_MO_place, _, rfl, rfl⟩
theorem sq_LA_72 : fx_wS "FrameSwapperLaw" 72 6 mq_LA_clip := ⟨⟨kc_LA_clip, kn_LA, ⟨by decide, by decide⟩, by decide +kernel, fx_m1 589 (by decide +kernel)⟩, ks_LA_clip⟩
theorem sq_LA_75 : fx_wV "FrameSwapperLaw" 75 5 mq_MO_clip 10 := ⟨⟨kc_MO_clip, kn_MO, ⟨by decide, by decide⟩, by decide +kernel, fx_m1 986 (by decide +kernel)⟩, ki_MO_clip, ke_MO_clip, _, rfl, rfl⟩
theorem sq_LA_76 : fx_wS "FrameSwapperLaw" 76 5 mq_LA_put := ⟨⟨kc_LA_put, kn_LA, ⟨by decide, by decide⟩, by decide +kernel, fx_m1 601 (by decide +kernel)⟩, ks_LA_put⟩
theorem sq_LA_79 : fx_wV "FrameSwapperLaw" 79 4 mq_MO_put 10 := ⟨⟨kc_MO_put, kn_MO, ⟨by decide, by decide⟩, by decide +kernel, fx_m1 993 (by decide +kernel)⟩, ki_MO_put, ke_MO_put, _, rfl, rfl⟩
theorem sq_LA_80 : fx_wS "FrameSwapperLaw" 80 8 mq_LA_fill := ⟨⟨kc_LA_fill, kn_LA, ⟨by decide, by decide⟩, by decide +kernel, fx_m1 628 (by decide +kernel)⟩, ks_LA_fill⟩
theorem sq_LA_83 : fx_wV "FrameSwapperLaw" 83 6 mq_MO_fill 10 := ⟨⟨kc_MO_fill, kn_MO, ⟨by decide, by decide⟩, by decide +kernel, fx_m1 1002 (by decide +kernel)⟩, ki_MO_fill, ke_MO_fill, _, rfl, rfl⟩
theorem sq_LA_84 : fx_wS "FrameSwapperLaw" 84 10 mq_LA_copy := ⟨⟨kc_LA_copy, kn_LA, ⟨by decide, by decide⟩, by decide +kernel, fx_m1 643 (by decide +kernel)⟩, ks_LA_copy⟩
theorem sq_LA_87 : fx_wV "FrameSwapperLaw" 87 8 mq_MO_copy 10 := ⟨⟨kc_MO_copy, kn_MO, ⟨by decide, by decide⟩, by decide +kernel, fx_m1 1006 (by decide +kernel)⟩, ki_MO_copy, ke_MO_copy, _, rfl, rfl⟩
theorem sq_LA_88 : fx_wS "FrameSwapperLaw" 88 3 mq_LA_commit := ⟨⟨kc_LA_commit, kn_LA, ⟨by decide, by decide⟩, by decide +kernel, fx_m1 661 (by decide +kernel)⟩, ks_LA_commit⟩
theorem sq_LA_91 : fx_wV "FrameSwapperLaw" 91 1 mq_MO_commit 10 := ⟨⟨kc_MO_commit, kn_MO, ⟨by decide, by decide⟩, by decide +kernel, fx_m1 1014 (by decide +kernel)⟩, ki_MO_commit, ke_MO_commit, _, rfl, rfl⟩
theorem sq_LA_92 : fx_wS "FrameSwapperLaw" 92 3 mq_LA_draw := ⟨⟨kc_LA_draw, kn_LA, ⟨by decide, by decide⟩, by decide +kernel, fx_m1 677 (by decide +kernel)⟩, ks_LA_draw⟩
theorem sq_LA_94 : fx_wV "FrameSwapperLaw" 94 1 mq_MO_draw 10 := ⟨⟨kc_MO_draw, kn_MO, ⟨by decide, by decide⟩, by decide +kernel, fx_m1 1022 (by decide +kernel)⟩, ki_MO_draw, ke_MO_draw, _, rfl, rfl⟩
theorem sq_LA_95 : fx_wV "FrameSwapperLaw" 95 0 mq_FS_scan 0 := ⟨⟨kc_FS_scan, kn_FS, ⟨by decide, by decide⟩, by decide +kernel, fx_m1 347 (by decide +kernel)⟩, ki_FS_scan, ke_FS_scan, _, rfl, rfl⟩
theorem sq_LA_98 : fx_wV "FrameSwapperLaw" 98 0 mq_MO_scan 10 := ⟨⟨kc_MO_scan, kn_MO, ⟨by decide, by decide⟩, by decide +kernel, fx_m1 1101 (by decide +kernel)⟩, ki_MO_scan, ke_MO_scan, _, rfl, rfl⟩
theorem sq_LA_99 : fx_wV "FrameSwapperLaw" 99 0 mq_FS_state 0 := ⟨⟨kc_FS_state, kn_FS, ⟨by decide, by decide⟩, by decide +kernel, fx_m1 383 (by decide +kernel)⟩, ki_FS_state, ke_FS_state, _, rfl, rfl⟩
theorem sq_LA_102 : fx_wV "FrameSwapperLaw" 102 0 mq_MO_state 10 := ⟨⟨kc_MO_state, kn_MO, ⟨by decide, by decide⟩, by decide +kernel, fx_m1 1113 (by decide +kernel)⟩, ki_MO_state, ke_MO_state, _, rfl, rfl⟩
theorem sq_LA_103 : fx_wV "FrameSwapperLaw" 103 2 mq_FS_seen 0 := ⟨⟨kc_FS_seen, kn_FS, ⟨by decide, by decide⟩, by decide +kernel, fx_m1 387 (by decide +kernel)⟩, ki_FS_seen, ke_FS_seen, _, rfl, rfl⟩
theorem sq_LA_107 : fx_wV "FrameSwapperLaw" 107 2 mq_MO_seen 10 := ⟨⟨kc_MO_seen, kn_MO, ⟨by decide, by decide⟩, by decide +kernel, fx_m1 1117 (by decide +kernel)⟩, ki_MO_seen, ke_MO_seen, _, rfl, rfl⟩
theorem sq_LA_108 : fx_wV "FrameSwapperLaw" 108 2 mq_FS_wanted 0 := ⟨⟨kc_FS_wanted, kn_FS, ⟨by decide, by decide⟩, by decide +kernel, fx_m1 397 (by decide +kernel)⟩, ki_FS_wanted, ke_FS_wanted, _, rfl, rfl⟩
theorem sq_LA_111 : fx_wV "FrameSwapperLaw" 111 2 mq_MO_wanted 10 := ⟨⟨kc_MO_wanted, kn_MO, ⟨by decide, by decide⟩, by decide +kernel, fx_m1 1124 (by decide +kernel)⟩, ki_MO_wanted, ke_MO_wanted, _, rfl, rfl⟩
theorem sq_LA_112 : fx_wV "FrameSwapperLaw" 112 1 mq_FS_count 0 := ⟨⟨kc_FS_count, kn_FS, ⟨by decide, by decide⟩, by decide +kernel, fx_m1 419 (by decide +kernel)⟩, ki_FS_count, ke_FS_count, _, rfl, rfl⟩
theorem sq_LA_115 : fx_wV "FrameSwapperLaw" 115 1 mq_MO_count 10 := ⟨⟨kc_MO_count, kn_MO, ⟨by decide, by decide⟩, by decide +kernel, fx_m1 1128 (by decide +kernel)⟩, ki_MO_count, ke_MO_count, _, rfl, rfl⟩
theorem sq_LA_116 : fx_wV "FrameSwapperLaw" 116 2 mq_FS_missed 0 := ⟨⟨kc_FS_missed, kn_FS, ⟨by decide, by decide⟩, by decide +kernel, fx_m1 423 (by decide +kernel)⟩, ki_FS_missed, ke_FS_missed, _, rfl, rfl⟩
theorem sq_LA_119 : fx_wV "FrameSwapperLaw" 119 2 mq_MO_missed 10 := ⟨⟨kc_MO_missed, kn_MO, ⟨by decide, by decide⟩, by decide +kernel, fx_m1 1132 (by decide +kernel)⟩, ki_MO_missed, ke_MO_missed, _, rfl, rfl⟩
theorem sq_LA_120 : fx_wV "FrameSwapperLaw" 120 1 mq_FS_plane 0 := ⟨⟨kc_FS_plane, kn_FS, ⟨by decide, by decide⟩, by decide +kernel, fx_m1 427 (by decide +kernel)⟩, ki_FS_plane, ke_FS_plane, _, rfl, rfl⟩
theorem sq_LA_123 : fx_wV "FrameSwapperLaw" 123 1 mq_MO_plane 10 := ⟨⟨kc_MO_plane, kn_MO, ⟨by decide, by decide⟩, by decide +kernel, fx_m1 1136 (by decide +kernel)⟩, ki_MO_plane, ke_MO_plane, _, rfl, rfl⟩
theorem sq_LA_124 : fx_wV "FrameSwapperLaw" 124 0 mq_FS_free 0 := ⟨⟨kc_FS_free, kn_FS, ⟨by decide, by decide⟩, by decide +kernel, fx_m1 431 (by decide +kernel)⟩, ki_FS_free, ke_FS_free, _, rfl, rfl⟩
theorem sq_LA_127 : fx_wV "FrameSwapperLaw" 127 0 mq_MO_free 10 := ⟨⟨kc_MO_free, kn_MO, ⟨by decide, by decide⟩, by decide +kernel, fx_m1 1140 (by decide +kernel)⟩, ki_MO_free, ke_MO_free, _, rfl, rfl⟩
theorem dq_LA_law_0 : decode (fx_cc mq_LA_law) 0 = .ok (.new 8, 3) := by decide +kernel
theorem dq_LA_law_3 : decode (fx_cc mq_LA_law) 3 = .ok (.dup, 1) := by decide +kernel
theorem dq_LA_law_4 : decode (fx_cc mq_LA_law) 4 = .ok (.invokespecial 50, 3) := by decide +kernel
theorem dq_LA_law_7 : decode (fx_cc mq_LA_law) 7 = .ok (.astore_n 1, 1) := by decide +kernel
theorem dq_LA_law_8 : decode (fx_cc mq_LA_law) 8 = .ok (.new 51, 3) := by decide +kernel
theorem dq_LA_law_11 : decode (fx_cc mq_LA_law) 11 = .ok (.dup, 1) := by decide +kernel
theorem dq_LA_law_12 : decode (fx_cc mq_LA_law) 12 = .ok (.invokespecial 53, 3) := by decide +kernel
theorem dq_LA_law_15 : decode (fx_cc mq_LA_law) 15 = .ok (.astore_n 2, 1) := by decide +kernel
theorem dq_LA_law_16 : decode (fx_cc mq_LA_law) 16 = .ok (.iconst 1, 1) := by decide +kernel
theorem dq_LA_law_17 : decode (fx_cc mq_LA_law) 17 = .ok (.newarray .long, 2) := by decide +kernel
theorem dq_LA_law_19 : decode (fx_cc mq_LA_law) 19 = .ok (.astore_n 3, 1) := by decide +kernel
theorem dq_LA_law_20 : decode (fx_cc mq_LA_law) 20 = .ok (.iconst 0, 1) := by decide +kernel
theorem dq_LA_law_21 : decode (fx_cc mq_LA_law) 21 = .ok (.istore 4, 2) := by decide +kernel
theorem dq_LA_law_23 : decode (fx_cc mq_LA_law) 23 = .ok (.iload 4, 2) := by decide +kernel
theorem dq_LA_law_25 : decode (fx_cc mq_LA_law) 25 = .ok (.aload_n 0, 1) := by decide +kernel
theorem dq_LA_law_26 : decode (fx_cc mq_LA_law) 26 = .ok (.arraylength, 1) := by decide +kernel
theorem dq_LA_law_27 : decode (fx_cc mq_LA_law) 27 = .ok (.bipush 9, 2) := by decide +kernel
theorem dq_LA_law_29 : decode (fx_cc mq_LA_law) 29 = .ok (.isub, 1) := by decide +kernel
theorem dq_LA_law_30 : decode (fx_cc mq_LA_law) 30 = .ok (.if_icmp .gt 1062, 3) := by decide +kernel
theorem dq_LA_law_33 : decode (fx_cc mq_LA_law) 33 = .ok (.aload_n 0, 1) := by decide +kernel
theorem dq_LA_law_34 : decode (fx_cc mq_LA_law) 34 = .ok (.iload 4, 2) := by decide +kernel
theorem dq_LA_law_36 : decode (fx_cc mq_LA_law) 36 = .ok (.iaload, 1) := by decide +kernel
theorem dq_LA_law_37 : decode (fx_cc mq_LA_law) 37 = .ok (.bipush 31, 2) := by decide +kernel
theorem dq_LA_law_39 : decode (fx_cc mq_LA_law) 39 = .ok (.iand, 1) := by decide +kernel
theorem dq_LA_law_40 : decode (fx_cc mq_LA_law) 40 = .ok (.tableswitch 1046 0 16 #[84, 164, 200, 314, 398, 470, 588, 734, 790, 846, 859, 872, 909, 946, 971, 1008, 1033], 84) := by decide +kernel
theorem dq_LA_law_124 : decode (fx_cc mq_LA_law) 124 = .ok (.aload_n 1, 1) := by decide +kernel
theorem dq_LA_law_125 : decode (fx_cc mq_LA_law) 125 = .ok (.aload_n 0, 1) := by decide +kernel
theorem dq_LA_law_126 : decode (fx_cc mq_LA_law) 126 = .ok (.iload 4, 2) := by decide +kernel
theorem dq_LA_law_128 : decode (fx_cc mq_LA_law) 128 = .ok (.iconst 1, 1) := by decide +kernel
theorem dq_LA_law_129 : decode (fx_cc mq_LA_law) 129 = .ok (.iadd, 1) := by decide +kernel
theorem dq_LA_law_130 : decode (fx_cc mq_LA_law) 130 = .ok (.iaload, 1) := by decide +kernel
theorem dq_LA_law_131 : decode (fx_cc mq_LA_law) 131 = .ok (.aload_n 0, 1) := by decide +kernel
theorem dq_LA_law_132 : decode (fx_cc mq_LA_law) 132 = .ok (.iload 4, 2) := by decide +kernel
theorem dq_LA_law_134 : decode (fx_cc mq_LA_law) 134 = .ok (.iconst 2, 1) := by decide +kernel
theorem dq_LA_law_135 : decode (fx_cc mq_LA_law) 135 = .ok (.iadd, 1) := by decide +kernel
theorem dq_LA_law_136 : decode (fx_cc mq_LA_law) 136 = .ok (.iaload, 1) := by decide +kernel
theorem dq_LA_law_137 : decode (fx_cc mq_LA_law) 137 = .ok (.aload_n 0, 1) := by decide +kernel
theorem dq_LA_law_138 : decode (fx_cc mq_LA_law) 138 = .ok (.iload 4, 2) := by decide +kernel
theorem dq_LA_law_140 : decode (fx_cc mq_LA_law) 140 = .ok (.iconst 3, 1) := by decide +kernel
theorem dq_LA_law_141 : decode (fx_cc mq_LA_law) 141 = .ok (.iadd, 1) := by decide +kernel
theorem dq_LA_law_142 : decode (fx_cc mq_LA_law) 142 = .ok (.iaload, 1) := by decide +kernel
theorem dq_LA_law_143 : decode (fx_cc mq_LA_law) 143 = .ok (.aload_n 3, 1) := by decide +kernel
theorem dq_LA_law_144 : decode (fx_cc mq_LA_law) 144 = .ok (.invokestatic 54, 3) := by decide +kernel
theorem dq_LA_law_147 : decode (fx_cc mq_LA_law) 147 = .ok (.istore 5, 2) := by decide +kernel
theorem dq_LA_law_149 : decode (fx_cc mq_LA_law) 149 = .ok (.aload_n 2, 1) := by decide +kernel
theorem dq_LA_law_150 : decode (fx_cc mq_LA_law) 150 = .ok (.aload_n 0, 1) := by decide +kernel
theorem dq_LA_law_151 : decode (fx_cc mq_LA_law) 151 = .ok (.iload 4, 2) := by decide +kernel
theorem dq_LA_law_153 : decode (fx_cc mq_LA_law) 153 = .ok (.iconst 1, 1) := by decide +kernel
theorem dq_LA_law_154 : decode (fx_cc mq_LA_law) 154 = .ok (.iadd, 1) := by decide +kernel
theorem dq_LA_law_155 : decode (fx_cc mq_LA_law) 155 = .ok (.iaload, 1) := by decide +kernel
theorem dq_LA_law_156 : decode (fx_cc mq_LA_law) 156 = .ok (.aload_n 0, 1) := by decide +kernel
theorem dq_LA_law_157 : decode (fx_cc mq_LA_law) 157 = .ok (.iload 4, 2) := by decide +kernel
theorem dq_LA_law_159 : decode (fx_cc mq_LA_law) 159 = .ok (.iconst 2, 1) := by decide +kernel
theorem dq_LA_law_160 : decode (fx_cc mq_LA_law) 160 = .ok (.iadd, 1) := by decide +kernel
theorem dq_LA_law_161 : decode (fx_cc mq_LA_law) 161 = .ok (.iaload, 1) := by decide +kernel
theorem dq_LA_law_162 : decode (fx_cc mq_LA_law) 162 = .ok (.aload_n 0, 1) := by decide +kernel
theorem dq_LA_law_163 : decode (fx_cc mq_LA_law) 163 = .ok (.iload 4, 2) := by decide +kernel
theorem dq_LA_law_165 : decode (fx_cc mq_LA_law) 165 = .ok (.iconst 3, 1) := by decide +kernel
theorem dq_LA_law_166 : decode (fx_cc mq_LA_law) 166 = .ok (.iadd, 1) := by decide +kernel
theorem dq_LA_law_167 : decode (fx_cc mq_LA_law) 167 = .ok (.iaload, 1) := by decide +kernel
theorem dq_LA_law_168 : decode (fx_cc mq_LA_law) 168 = .ok (.invokevirtual 59, 3) := by decide +kernel
theorem dq_LA_law_171 : decode (fx_cc mq_LA_law) 171 = .ok (.istore 6, 2) := by decide +kernel
theorem dq_LA_law_173 : decode (fx_cc mq_LA_law) 173 = .ok (.aload_n 2, 1) := by decide +kernel
theorem dq_LA_law_174 : decode (fx_cc mq_LA_law) 174 = .ok (.invokevirtual 60, 3) := by decide +kernel
theorem dq_LA_law_177 : decode (fx_cc mq_LA_law) 177 = .ok (.iload 5, 2) := by decide +kernel
theorem dq_LA_law_179 : decode (fx_cc mq_LA_law) 179 = .ok (.if_icmp .eq 5, 3) := by decide +kernel
theorem dq_LA_law_182 : decode (fx_cc mq_LA_law) 182 = .ok (.iconst 0, 1) := by decide +kernel
theorem dq_LA_law_183 : decode (fx_cc mq_LA_law) 183 = .ok (.ireturn, 1) := by decide +kernel
theorem dq_LA_law_184 : decode (fx_cc mq_LA_law) 184 = .ok (.iload 5, 2) := by decide +kernel
theorem dq_LA_law_186 : decode (fx_cc mq_LA_law) 186 = .ok (.ifCond .ne 15, 3) := by decide +kernel
theorem dq_LA_law_189 : decode (fx_cc mq_LA_law) 189 = .ok (.aload_n 3, 1) := by decide +kernel
theorem dq_LA_law_190 : decode (fx_cc mq_LA_law) 190 = .ok (.iconst 0, 1) := by decide +kernel
theorem dq_LA_law_191 : decode (fx_cc mq_LA_law) 191 = .ok (.laload, 1) := by decide +kernel
theorem dq_LA_law_192 : decode (fx_cc mq_LA_law) 192 = .ok (.iload 6, 2) := by decide +kernel
theorem dq_LA_law_194 : decode (fx_cc mq_LA_law) 194 = .ok (.i2l, 1) := by decide +kernel
theorem dq_LA_law_195 : decode (fx_cc mq_LA_law) 195 = .ok (.lcmp, 1) := by decide +kernel
theorem dq_LA_law_196 : decode (fx_cc mq_LA_law) 196 = .ok (.ifCond .eq 5, 3) := by decide +kernel
theorem dq_LA_law_199 : decode (fx_cc mq_LA_law) 199 = .ok (.iconst 0, 1) := by decide +kernel
theorem dq_LA_law_200 : decode (fx_cc mq_LA_law) 200 = .ok (.ireturn, 1) := by decide +kernel
theorem dq_LA_law_201 : decode (fx_cc mq_LA_law) 201 = .ok (.goto 885, 3) := by decide +kernel
theorem dq_LA_law_204 : decode (fx_cc mq_LA_law) 204 = .ok (.aload_n 1, 1) := by decide +kernel
theorem dq_LA_law_205 : decode (fx_cc mq_LA_law) 205 = .ok (.aload_n 0, 1) := by decide +kernel
theorem dq_LA_law_206 : decode (fx_cc mq_LA_law) 206 = .ok (.iload 4, 2) := by decide +kernel
theorem dq_LA_law_208 : decode (fx_cc mq_LA_law) 208 = .ok (.iconst 1, 1) := by decide +kernel
theorem dq_LA_law_209 : decode (fx_cc mq_LA_law) 209 = .ok (.iadd, 1) := by decide +kernel
theorem dq_LA_law_210 : decode (fx_cc mq_LA_law) 210 = .ok (.iaload, 1) := by decide +kernel
theorem dq_LA_law_211 : decode (fx_cc mq_LA_law) 211 = .ok (.invokestatic 64, 3) := by decide +kernel
theorem dq_LA_law_214 : decode (fx_cc mq_LA_law) 214 = .ok (.istore 5, 2) := by decide +kernel
theorem dq_LA_law_216 : decode (fx_cc mq_LA_law) 216 = .ok (.aload_n 2, 1) := by decide +kernel
theorem dq_LA_law_217 : decode (fx_cc mq_LA_law) 217 = .ok (.aload_n 0, 1) := by decide +kernel
theorem dq_LA_law_218 : decode (fx_cc mq_LA_law) 218 = .ok (.iload 4, 2) := by decide +kernel
theorem dq_LA_law_220 : decode (fx_cc mq_LA_law) 220 = .ok (.iconst 1, 1) := by decide +kernel
theorem dq_LA_law_221 : decode (fx_cc mq_LA_law) 221 = .ok (.iadd, 1) := by decide +kernel
theorem dq_LA_law_222 : decode (fx_cc mq_LA_law) 222 = .ok (.iaload, 1) := by decide +kernel
theorem dq_LA_law_223 : decode (fx_cc mq_LA_law) 223 = .ok (.invokevirtual 67, 3) := by decide +kernel
theorem dq_LA_law_226 : decode (fx_cc mq_LA_law) 226 = .ok (.aload_n 2, 1) := by decide +kernel
theorem dq_LA_law_227 : decode (fx_cc mq_LA_law) 227 = .ok (.invokevirtual 60, 3) := by decide +kernel
theorem dq_LA_law_230 : decode (fx_cc mq_LA_law) 230 = .ok (.iload 5, 2) := by decide +kernel
theorem dq_LA_law_232 : decode (fx_cc mq_LA_law) 232 = .ok (.if_icmp .eq 5, 3) := by decide +kernel
theorem dq_LA_law_235 : decode (fx_cc mq_LA_law) 235 = .ok (.iconst 0, 1) := by decide +kernel
theorem dq_LA_law_236 : decode (fx_cc mq_LA_law) 236 = .ok (.ireturn, 1) := by decide +kernel
theorem dq_LA_law_237 : decode (fx_cc mq_LA_law) 237 = .ok (.goto 849, 3) := by decide +kernel
theorem dq_LA_law_240 : decode (fx_cc mq_LA_law) 240 = .ok (.aload_n 1, 1) := by decide +kernel
theorem dq_LA_law_241 : decode (fx_cc mq_LA_law) 241 = .ok (.aload_n 0, 1) := by decide +kernel
theorem dq_LA_law_242 : decode (fx_cc mq_LA_law) 242 = .ok (.iload 4, 2) := by decide +kernel
theorem dq_LA_law_244 : decode (fx_cc mq_LA_law) 244 = .ok (.iconst 1, 1) := by decide +kernel
theorem dq_LA_law_245 : decode (fx_cc mq_LA_law) 245 = .ok (.iadd, 1) := by decide +kernel
theorem dq_LA_law_246 : decode (fx_cc mq_LA_law) 246 = .ok (.iaload, 1) := by decide +kernel
theorem dq_LA_law_247 : decode (fx_cc mq_LA_law) 247 = .ok (.aload_n 0, 1) := by decide +kernel
theorem dq_LA_law_248 : decode (fx_cc mq_LA_law) 248 = .ok (.iload 4, 2) := by decide +kernel
theorem dq_LA_law_250 : decode (fx_cc mq_LA_law) 250 = .ok (.iconst 2, 1) := by decide +kernel
theorem dq_LA_law_251 : decode (fx_cc mq_LA_law) 251 = .ok (.iadd, 1) := by decide +kernel
theorem dq_LA_law_252 : decode (fx_cc mq_LA_law) 252 = .ok (.iaload, 1) := by decide +kernel
theorem dq_LA_law_253 : decode (fx_cc mq_LA_law) 253 = .ok (.aload_n 0, 1) := by decide +kernel
theorem dq_LA_law_254 : decode (fx_cc mq_LA_law) 254 = .ok (.iload 4, 2) := by decide +kernel
theorem dq_LA_law_256 : decode (fx_cc mq_LA_law) 256 = .ok (.iconst 3, 1) := by decide +kernel
theorem dq_LA_law_257 : decode (fx_cc mq_LA_law) 257 = .ok (.iadd, 1) := by decide +kernel
theorem dq_LA_law_258 : decode (fx_cc mq_LA_law) 258 = .ok (.iaload, 1) := by decide +kernel
theorem dq_LA_law_259 : decode (fx_cc mq_LA_law) 259 = .ok (.aload_n 0, 1) := by decide +kernel
theorem dq_LA_law_260 : decode (fx_cc mq_LA_law) 260 = .ok (.iload 4, 2) := by decide +kernel
theorem dq_LA_law_262 : decode (fx_cc mq_LA_law) 262 = .ok (.iconst 4, 1) := by decide +kernel
theorem dq_LA_law_263 : decode (fx_cc mq_LA_law) 263 = .ok (.iadd, 1) := by decide +kernel
theorem dq_LA_law_264 : decode (fx_cc mq_LA_law) 264 = .ok (.iaload, 1) := by decide +kernel
theorem dq_LA_law_265 : decode (fx_cc mq_LA_law) 265 = .ok (.aload_n 0, 1) := by decide +kernel
theorem dq_LA_law_266 : decode (fx_cc mq_LA_law) 266 = .ok (.iload 4, 2) := by decide +kernel
theorem dq_LA_law_268 : decode (fx_cc mq_LA_law) 268 = .ok (.iconst 5, 1) := by decide +kernel
theorem dq_LA_law_269 : decode (fx_cc mq_LA_law) 269 = .ok (.iadd, 1) := by decide +kernel
theorem dq_LA_law_270 : decode (fx_cc mq_LA_law) 270 = .ok (.iaload, 1) := by decide +kernel
theorem dq_LA_law_271 : decode (fx_cc mq_LA_law) 271 = .ok (.aload_n 0, 1) := by decide +kernel
theorem dq_LA_law_272 : decode (fx_cc mq_LA_law) 272 = .ok (.iload 4, 2) := by decide +kernel
theorem dq_LA_law_274 : decode (fx_cc mq_LA_law) 274 = .ok (.bipush 6, 2) := by decide +kernel
theorem dq_LA_law_276 : decode (fx_cc mq_LA_law) 276 = .ok (.iadd, 1) := by decide +kernel
theorem dq_LA_law_277 : decode (fx_cc mq_LA_law) 277 = .ok (.iaload, 1) := by decide +kernel
theorem dq_LA_law_278 : decode (fx_cc mq_LA_law) 278 = .ok (.ifCond .eq 7, 3) := by decide +kernel
theorem dq_LA_law_281 : decode (fx_cc mq_LA_law) 281 = .ok (.iconst 1, 1) := by decide +kernel
theorem dq_LA_law_282 : decode (fx_cc mq_LA_law) 282 = .ok (.goto 4, 3) := by decide +kernel
theorem dq_LA_law_285 : decode (fx_cc mq_LA_law) 285 = .ok (.iconst 0, 1) := by decide +kernel
theorem dq_LA_law_286 : decode (fx_cc mq_LA_law) 286 = .ok (.invokestatic 68, 3) := by decide +kernel
theorem dq_LA_law_289 : decode (fx_cc mq_LA_law) 289 = .ok (.istore 5, 2) := by decide +kernel
theorem dq_LA_law_291 : decode (fx_cc mq_LA_law) 291 = .ok (.aload_n 2, 1) := by decide +kernel
theorem dq_LA_law_292 : decode (fx_cc mq_LA_law) 292 = .ok (.aload_n 0, 1) := by decide +kernel
theorem dq_LA_law_293 : decode (fx_cc mq_LA_law) 293 = .ok (.iload 4, 2) := by decide +kernel
theorem dq_LA_law_295 : decode (fx_cc mq_LA_law) 295 = .ok (.iconst 1, 1) := by decide +kernel
theorem dq_LA_law_296 : decode (fx_cc mq_LA_law) 296 = .ok (.iadd, 1) := by decide +kernel
theorem dq_LA_law_297 : decode (fx_cc mq_LA_law) 297 = .ok (.iaload, 1) := by decide +kernel
theorem dq_LA_law_298 : decode (fx_cc mq_LA_law) 298 = .ok (.aload_n 0, 1) := by decide +kernel
theorem dq_LA_law_299 : decode (fx_cc mq_LA_law) 299 = .ok (.iload 4, 2) := by decide +kernel
theorem dq_LA_law_301 : decode (fx_cc mq_LA_law) 301 = .ok (.iconst 2, 1) := by decide +kernel
theorem dq_LA_law_302 : decode (fx_cc mq_LA_law) 302 = .ok (.iadd, 1) := by decide +kernel
theorem dq_LA_law_303 : decode (fx_cc mq_LA_law) 303 = .ok (.iaload, 1) := by decide +kernel
theorem dq_LA_law_304 : decode (fx_cc mq_LA_law) 304 = .ok (.aload_n 0, 1) := by decide +kernel
theorem dq_LA_law_305 : decode (fx_cc mq_LA_law) 305 = .ok (.iload 4, 2) := by decide +kernel
theorem dq_LA_law_307 : decode (fx_cc mq_LA_law) 307 = .ok (.iconst 3, 1) := by decide +kernel
theorem dq_LA_law_308 : decode (fx_cc mq_LA_law) 308 = .ok (.iadd, 1) := by decide +kernel
theorem dq_LA_law_309 : decode (fx_cc mq_LA_law) 309 = .ok (.iaload, 1) := by decide +kernel
theorem dq_LA_law_310 : decode (fx_cc mq_LA_law) 310 = .ok (.aload_n 0, 1) := by decide +kernel
theorem dq_LA_law_311 : decode (fx_cc mq_LA_law) 311 = .ok (.iload 4, 2) := by decide +kernel
theorem dq_LA_law_313 : decode (fx_cc mq_LA_law) 313 = .ok (.iconst 4, 1) := by decide +kernel
theorem dq_LA_law_314 : decode (fx_cc mq_LA_law) 314 = .ok (.iadd, 1) := by decide +kernel
theorem dq_LA_law_315 : decode (fx_cc mq_LA_law) 315 = .ok (.iaload, 1) := by decide +kernel
theorem dq_LA_law_316 : decode (fx_cc mq_LA_law) 316 = .ok (.aload_n 0, 1) := by decide +kernel
theorem dq_LA_law_317 : decode (fx_cc mq_LA_law) 317 = .ok (.iload 4, 2) := by decide +kernel
theorem dq_LA_law_319 : decode (fx_cc mq_LA_law) 319 = .ok (.iconst 5, 1) := by decide +kernel
theorem dq_LA_law_320 : decode (fx_cc mq_LA_law) 320 = .ok (.iadd, 1) := by decide +kernel
theorem dq_LA_law_321 : decode (fx_cc mq_LA_law) 321 = .ok (.iaload, 1) := by decide +kernel
theorem dq_LA_law_322 : decode (fx_cc mq_LA_law) 322 = .ok (.aload_n 0, 1) := by decide +kernel
theorem dq_LA_law_323 : decode (fx_cc mq_LA_law) 323 = .ok (.iload 4, 2) := by decide +kernel
theorem dq_LA_law_325 : decode (fx_cc mq_LA_law) 325 = .ok (.bipush 6, 2) := by decide +kernel
theorem dq_LA_law_327 : decode (fx_cc mq_LA_law) 327 = .ok (.iadd, 1) := by decide +kernel
theorem dq_LA_law_328 : decode (fx_cc mq_LA_law) 328 = .ok (.iaload, 1) := by decide +kernel
theorem dq_LA_law_329 : decode (fx_cc mq_LA_law) 329 = .ok (.ifCond .eq 7, 3) := by decide +kernel
theorem dq_LA_law_332 : decode (fx_cc mq_LA_law) 332 = .ok (.iconst 1, 1) := by decide +kernel
theorem dq_LA_law_333 : decode (fx_cc mq_LA_law) 333 = .ok (.goto 4, 3) := by decide +kernel
theorem dq_LA_law_336 : decode (fx_cc mq_LA_law) 336 = .ok (.iconst 0, 1) := by decide +kernel
theorem dq_LA_law_337 : decode (fx_cc mq_LA_law) 337 = .ok (.invokevirtual 71, 3) := by decide +kernel
theorem dq_LA_law_340 : decode (fx_cc mq_LA_law) 340 = .ok (.aload_n 2, 1) := by decide +kernel
theorem dq_LA_law_341 : decode (fx_cc mq_LA_law) 341 = .ok (.invokevirtual 60, 3) := by decide +kernel
theorem dq_LA_law_344 : decode (fx_cc mq_LA_law) 344 = .ok (.iload 5, 2) := by decide +kernel
theorem dq_LA_law_346 : decode (fx_cc mq_LA_law) 346 = .ok (.if_icmp .eq 5, 3) := by decide +kernel
theorem dq_LA_law_349 : decode (fx_cc mq_LA_law) 349 = .ok (.iconst 0, 1) := by decide +kernel
theorem dq_LA_law_350 : decode (fx_cc mq_LA_law) 350 = .ok (.ireturn, 1) := by decide +kernel
theorem dq_LA_law_351 : decode (fx_cc mq_LA_law) 351 = .ok (.goto 735, 3) := by decide +kernel
theorem dq_LA_law_354 : decode (fx_cc mq_LA_law) 354 = .ok (.aload_n 1, 1) := by decide +kernel
theorem dq_LA_law_355 : decode (fx_cc mq_LA_law) 355 = .ok (.aload_n 0, 1) := by decide +kernel
theorem dq_LA_law_356 : decode (fx_cc mq_LA_law) 356 = .ok (.iload 4, 2) := by decide +kernel
theorem dq_LA_law_358 : decode (fx_cc mq_LA_law) 358 = .ok (.iconst 1, 1) := by decide +kernel
theorem dq_LA_law_359 : decode (fx_cc mq_LA_law) 359 = .ok (.iadd, 1) := by decide +kernel
theorem dq_LA_law_360 : decode (fx_cc mq_LA_law) 360 = .ok (.iaload, 1) := by decide +kernel
theorem dq_LA_law_361 : decode (fx_cc mq_LA_law) 361 = .ok (.aload_n 0, 1) := by decide +kernel
theorem dq_LA_law_362 : decode (fx_cc mq_LA_law) 362 = .ok (.iload 4, 2) := by decide +kernel
theorem dq_LA_law_364 : decode (fx_cc mq_LA_law) 364 = .ok (.iconst 2, 1) := by decide +kernel
theorem dq_LA_law_365 : decode (fx_cc mq_LA_law) 365 = .ok (.iadd, 1) := by decide +kernel
theorem dq_LA_law_366 : decode (fx_cc mq_LA_law) 366 = .ok (.iaload, 1) := by decide +kernel
theorem dq_LA_law_367 : decode (fx_cc mq_LA_law) 367 = .ok (.aload_n 0, 1) := by decide +kernel
theorem dq_LA_law_368 : decode (fx_cc mq_LA_law) 368 = .ok (.iload 4, 2) := by decide +kernel
theorem dq_LA_law_370 : decode (fx_cc mq_LA_law) 370 = .ok (.iconst 3, 1) := by decide +kernel
theorem dq_LA_law_371 : decode (fx_cc mq_LA_law) 371 = .ok (.iadd, 1) := by decide +kernel
theorem dq_LA_law_372 : decode (fx_cc mq_LA_law) 372 = .ok (.iaload, 1) := by decide +kernel
theorem dq_LA_law_373 : decode (fx_cc mq_LA_law) 373 = .ok (.aload_n 0, 1) := by decide +kernel
theorem dq_LA_law_374 : decode (fx_cc mq_LA_law) 374 = .ok (.iload 4, 2) := by decide +kernel
theorem dq_LA_law_376 : decode (fx_cc mq_LA_law) 376 = .ok (.iconst 4, 1) := by decide +kernel
theorem dq_LA_law_377 : decode (fx_cc mq_LA_law) 377 = .ok (.iadd, 1) := by decide +kernel
theorem dq_LA_law_378 : decode (fx_cc mq_LA_law) 378 = .ok (.iaload, 1) := by decide +kernel
theorem dq_LA_law_379 : decode (fx_cc mq_LA_law) 379 = .ok (.aload_n 0, 1) := by decide +kernel
theorem dq_LA_law_380 : decode (fx_cc mq_LA_law) 380 = .ok (.iload 4, 2) := by decide +kernel
theorem dq_LA_law_382 : decode (fx_cc mq_LA_law) 382 = .ok (.iconst 5, 1) := by decide +kernel
theorem dq_LA_law_383 : decode (fx_cc mq_LA_law) 383 = .ok (.iadd, 1) := by decide +kernel
theorem dq_LA_law_384 : decode (fx_cc mq_LA_law) 384 = .ok (.iaload, 1) := by decide +kernel
theorem dq_LA_law_385 : decode (fx_cc mq_LA_law) 385 = .ok (.invokestatic 72, 3) := by decide +kernel
theorem dq_LA_law_388 : decode (fx_cc mq_LA_law) 388 = .ok (.istore 5, 2) := by decide +kernel
theorem dq_LA_law_390 : decode (fx_cc mq_LA_law) 390 = .ok (.aload_n 2, 1) := by decide +kernel
theorem dq_LA_law_391 : decode (fx_cc mq_LA_law) 391 = .ok (.aload_n 0, 1) := by decide +kernel
theorem dq_LA_law_392 : decode (fx_cc mq_LA_law) 392 = .ok (.iload 4, 2) := by decide +kernel
theorem dq_LA_law_394 : decode (fx_cc mq_LA_law) 394 = .ok (.iconst 1, 1) := by decide +kernel
theorem dq_LA_law_395 : decode (fx_cc mq_LA_law) 395 = .ok (.iadd, 1) := by decide +kernel
theorem dq_LA_law_396 : decode (fx_cc mq_LA_law) 396 = .ok (.iaload, 1) := by decide +kernel
theorem dq_LA_law_397 : decode (fx_cc mq_LA_law) 397 = .ok (.aload_n 0, 1) := by decide +kernel
theorem dq_LA_law_398 : decode (fx_cc mq_LA_law) 398 = .ok (.iload 4, 2) := by decide +kernel
theorem dq_LA_law_400 : decode (fx_cc mq_LA_law) 400 = .ok (.iconst 2, 1) := by decide +kernel
theorem dq_LA_law_401 : decode (fx_cc mq_LA_law) 401 = .ok (.iadd, 1) := by decide +kernel
theorem dq_LA_law_402 : decode (fx_cc mq_LA_law) 402 = .ok (.iaload, 1) := by decide +kernel
theorem dq_LA_law_403 : decode (fx_cc mq_LA_law) 403 = .ok (.aload_n 0, 1) := by decide +kernel
theorem dq_LA_law_404 : decode (fx_cc mq_LA_law) 404 = .ok (.iload 4, 2) := by decide +kernel
theorem dq_LA_law_406 : decode (fx_cc mq_LA_law) 406 = .ok (.iconst 3, 1) := by decide +kernel
theorem dq_LA_law_407 : decode (fx_cc mq_LA_law) 407 = .ok (.iadd, 1) := by decide +kernel
theorem dq_LA_law_408 : decode (fx_cc mq_LA_law) 408 = .ok (.iaload, 1) := by decide +kernel
theorem dq_LA_law_409 : decode (fx_cc mq_LA_law) 409 = .ok (.aload_n 0, 1) := by decide +kernel
theorem dq_LA_law_410 : decode (fx_cc mq_LA_law) 410 = .ok (.iload 4, 2) := by decide +kernel
theorem dq_LA_law_412 : decode (fx_cc mq_LA_law) 412 = .ok (.iconst 4, 1) := by decide +kernel
theorem dq_LA_law_413 : decode (fx_cc mq_LA_law) 413 = .ok (.iadd, 1) := by decide +kernel
theorem dq_LA_law_414 : decode (fx_cc mq_LA_law) 414 = .ok (.iaload, 1) := by decide +kernel
theorem dq_LA_law_415 : decode (fx_cc mq_LA_law) 415 = .ok (.aload_n 0, 1) := by decide +kernel
theorem dq_LA_law_416 : decode (fx_cc mq_LA_law) 416 = .ok (.iload 4, 2) := by decide +kernel
theorem dq_LA_law_418 : decode (fx_cc mq_LA_law) 418 = .ok (.iconst 5, 1) := by decide +kernel
theorem dq_LA_law_419 : decode (fx_cc mq_LA_law) 419 = .ok (.iadd, 1) := by decide +kernel
theorem dq_LA_law_420 : decode (fx_cc mq_LA_law) 420 = .ok (.iaload, 1) := by decide +kernel
theorem dq_LA_law_421 : decode (fx_cc mq_LA_law) 421 = .ok (.invokevirtual 75, 3) := by decide +kernel
theorem dq_LA_law_424 : decode (fx_cc mq_LA_law) 424 = .ok (.aload_n 2, 1) := by decide +kernel
theorem dq_LA_law_425 : decode (fx_cc mq_LA_law) 425 = .ok (.invokevirtual 60, 3) := by decide +kernel
theorem dq_LA_law_428 : decode (fx_cc mq_LA_law) 428 = .ok (.iload 5, 2) := by decide +kernel
theorem dq_LA_law_430 : decode (fx_cc mq_LA_law) 430 = .ok (.if_icmp .eq 5, 3) := by decide +kernel
theorem dq_LA_law_433 : decode (fx_cc mq_LA_law) 433 = .ok (.iconst 0, 1) := by decide +kernel
theorem dq_LA_law_434 : decode (fx_cc mq_LA_law) 434 = .ok (.ireturn, 1) := by decide +kernel
theorem dq_LA_law_435 : decode (fx_cc mq_LA_law) 435 = .ok (.goto 651, 3) := by decide +kernel
theorem dq_LA_law_438 : decode (fx_cc mq_LA_law) 438 = .ok (.aload_n 1, 1) := by decide +kernel
theorem dq_LA_law_439 : decode (fx_cc mq_LA_law) 439 = .ok (.aload_n 0, 1) := by decide +kernel
theorem dq_LA_law_440 : decode (fx_cc mq_LA_law) 440 = .ok (.iload 4, 2) := by decide +kernel
theorem dq_LA_law_442 : decode (fx_cc mq_LA_law) 442 = .ok (.iconst 1, 1) := by decide +kernel
theorem dq_LA_law_443 : decode (fx_cc mq_LA_law) 443 = .ok (.iadd, 1) := by decide +kernel
theorem dq_LA_law_444 : decode (fx_cc mq_LA_law) 444 = .ok (.iaload, 1) := by decide +kernel
theorem dq_LA_law_445 : decode (fx_cc mq_LA_law) 445 = .ok (.aload_n 0, 1) := by decide +kernel
theorem dq_LA_law_446 : decode (fx_cc mq_LA_law) 446 = .ok (.iload 4, 2) := by decide +kernel
theorem dq_LA_law_448 : decode (fx_cc mq_LA_law) 448 = .ok (.iconst 2, 1) := by decide +kernel
theorem dq_LA_law_449 : decode (fx_cc mq_LA_law) 449 = .ok (.iadd, 1) := by decide +kernel
theorem dq_LA_law_450 : decode (fx_cc mq_LA_law) 450 = .ok (.iaload, 1) := by decide +kernel
theorem dq_LA_law_451 : decode (fx_cc mq_LA_law) 451 = .ok (.aload_n 0, 1) := by decide +kernel
theorem dq_LA_law_452 : decode (fx_cc mq_LA_law) 452 = .ok (.iload 4, 2) := by decide +kernel
theorem dq_LA_law_454 : decode (fx_cc mq_LA_law) 454 = .ok (.iconst 3, 1) := by decide +kernel
theorem dq_LA_law_455 : decode (fx_cc mq_LA_law) 455 = .ok (.iadd, 1) := by decide +kernel
theorem dq_LA_law_456 : decode (fx_cc mq_LA_law) 456 = .ok (.iaload, 1) := by decide +kernel
theorem dq_LA_law_457 : decode (fx_cc mq_LA_law) 457 = .ok (.aload_n 0, 1) := by decide +kernel
theorem dq_LA_law_458 : decode (fx_cc mq_LA_law) 458 = .ok (.iload 4, 2) := by decide +kernel
theorem dq_LA_law_460 : decode (fx_cc mq_LA_law) 460 = .ok (.iconst 4, 1) := by decide +kernel
theorem dq_LA_law_461 : decode (fx_cc mq_LA_law) 461 = .ok (.iadd, 1) := by decide +kernel
theorem dq_LA_law_462 : decode (fx_cc mq_LA_law) 462 = .ok (.iaload, 1) := by decide +kernel
theorem dq_LA_law_463 : decode (fx_cc mq_LA_law) 463 = .ok (.invokestatic 76, 3) := by decide +kernel
theorem dq_LA_law_466 : decode (fx_cc mq_LA_law) 466 = .ok (.istore 5, 2) := by decide +kernel
theorem dq_LA_law_468 : decode (fx_cc mq_LA_law) 468 = .ok (.aload_n 2, 1) := by decide +kernel
theorem dq_LA_law_469 : decode (fx_cc mq_LA_law) 469 = .ok (.aload_n 0, 1) := by decide +kernel
theorem dq_LA_law_470 : decode (fx_cc mq_LA_law) 470 = .ok (.iload 4, 2) := by decide +kernel
theorem dq_LA_law_472 : decode (fx_cc mq_LA_law) 472 = .ok (.iconst 1, 1) := by decide +kernel
theorem dq_LA_law_473 : decode (fx_cc mq_LA_law) 473 = .ok (.iadd, 1) := by decide +kernel
theorem dq_LA_law_474 : decode (fx_cc mq_LA_law) 474 = .ok (.iaload, 1) := by decide +kernel
theorem dq_LA_law_475 : decode (fx_cc mq_LA_law) 475 = .ok (.aload_n 0, 1) := by decide +kernel
theorem dq_LA_law_476 : decode (fx_cc mq_LA_law) 476 = .ok (.iload 4, 2) := by decide +kernel
theorem dq_LA_law_478 : decode (fx_cc mq_LA_law) 478 = .ok (.iconst 2, 1) := by decide +kernel
theorem dq_LA_law_479 : decode (fx_cc mq_LA_law) 479 = .ok (.iadd, 1) := by decide +kernel
theorem dq_LA_law_480 : decode (fx_cc mq_LA_law) 480 = .ok (.iaload, 1) := by decide +kernel
theorem dq_LA_law_481 : decode (fx_cc mq_LA_law) 481 = .ok (.aload_n 0, 1) := by decide +kernel
theorem dq_LA_law_482 : decode (fx_cc mq_LA_law) 482 = .ok (.iload 4, 2) := by decide +kernel
theorem dq_LA_law_484 : decode (fx_cc mq_LA_law) 484 = .ok (.iconst 3, 1) := by decide +kernel
theorem dq_LA_law_485 : decode (fx_cc mq_LA_law) 485 = .ok (.iadd, 1) := by decide +kernel
theorem dq_LA_law_486 : decode (fx_cc mq_LA_law) 486 = .ok (.iaload, 1) := by decide +kernel
theorem dq_LA_law_487 : decode (fx_cc mq_LA_law) 487 = .ok (.aload_n 0, 1) := by decide +kernel
theorem dq_LA_law_488 : decode (fx_cc mq_LA_law) 488 = .ok (.iload 4, 2) := by decide +kernel
theorem dq_LA_law_490 : decode (fx_cc mq_LA_law) 490 = .ok (.iconst 4, 1) := by decide +kernel
theorem dq_LA_law_491 : decode (fx_cc mq_LA_law) 491 = .ok (.iadd, 1) := by decide +kernel
theorem dq_LA_law_492 : decode (fx_cc mq_LA_law) 492 = .ok (.iaload, 1) := by decide +kernel
theorem dq_LA_law_493 : decode (fx_cc mq_LA_law) 493 = .ok (.invokevirtual 79, 3) := by decide +kernel
theorem dq_LA_law_496 : decode (fx_cc mq_LA_law) 496 = .ok (.aload_n 2, 1) := by decide +kernel
theorem dq_LA_law_497 : decode (fx_cc mq_LA_law) 497 = .ok (.invokevirtual 60, 3) := by decide +kernel
theorem dq_LA_law_500 : decode (fx_cc mq_LA_law) 500 = .ok (.iload 5, 2) := by decide +kernel
theorem dq_LA_law_502 : decode (fx_cc mq_LA_law) 502 = .ok (.if_icmp .eq 5, 3) := by decide +kernel
theorem dq_LA_law_505 : decode (fx_cc mq_LA_law) 505 = .ok (.iconst 0, 1) := by decide +kernel
theorem dq_LA_law_506 : decode (fx_cc mq_LA_law) 506 = .ok (.ireturn, 1) := by decide +kernel
theorem dq_LA_law_507 : decode (fx_cc mq_LA_law) 507 = .ok (.goto 579, 3) := by decide +kernel
theorem dq_LA_law_510 : decode (fx_cc mq_LA_law) 510 = .ok (.aload_n 1, 1) := by decide +kernel
theorem dq_LA_law_511 : decode (fx_cc mq_LA_law) 511 = .ok (.aload_n 0, 1) := by decide +kernel
theorem dq_LA_law_512 : decode (fx_cc mq_LA_law) 512 = .ok (.iload 4, 2) := by decide +kernel
theorem dq_LA_law_514 : decode (fx_cc mq_LA_law) 514 = .ok (.iconst 1, 1) := by decide +kernel
theorem dq_LA_law_515 : decode (fx_cc mq_LA_law) 515 = .ok (.iadd, 1) := by decide +kernel
theorem dq_LA_law_516 : decode (fx_cc mq_LA_law) 516 = .ok (.iaload, 1) := by decide +kernel
theorem dq_LA_law_517 : decode (fx_cc mq_LA_law) 517 = .ok (.aload_n 0, 1) := by decide +kernel
theorem dq_LA_law_518 : decode (fx_cc mq_LA_law) 518 = .ok (.iload 4, 2) := by decide +kernel
theorem dq_LA_law_520 : decode (fx_cc mq_LA_law) 520 = .ok (.iconst 2, 1) := by decide +kernel
theorem dq_LA_law_521 : decode (fx_cc mq_LA_law) 521 = .ok (.iadd, 1) := by decide +kernel
theorem dq_LA_law_522 : decode (fx_cc mq_LA_law) 522 = .ok (.iaload, 1) := by decide +kernel
theorem dq_LA_law_523 : decode (fx_cc mq_LA_law) 523 = .ok (.aload_n 0, 1) := by decide +kernel
theorem dq_LA_law_524 : decode (fx_cc mq_LA_law) 524 = .ok (.iload 4, 2) := by decide +kernel
theorem dq_LA_law_526 : decode (fx_cc mq_LA_law) 526 = .ok (.iconst 3, 1) := by decide +kernel
theorem dq_LA_law_527 : decode (fx_cc mq_LA_law) 527 = .ok (.iadd, 1) := by decide +kernel
theorem dq_LA_law_528 : decode (fx_cc mq_LA_law) 528 = .ok (.iaload, 1) := by decide +kernel
theorem dq_LA_law_529 : decode (fx_cc mq_LA_law) 529 = .ok (.aload_n 0, 1) := by decide +kernel
theorem dq_LA_law_530 : decode (fx_cc mq_LA_law) 530 = .ok (.iload 4, 2) := by decide +kernel
theorem dq_LA_law_532 : decode (fx_cc mq_LA_law) 532 = .ok (.iconst 4, 1) := by decide +kernel
theorem dq_LA_law_533 : decode (fx_cc mq_LA_law) 533 = .ok (.iadd, 1) := by decide +kernel
theorem dq_LA_law_534 : decode (fx_cc mq_LA_law) 534 = .ok (.iaload, 1) := by decide +kernel
theorem dq_LA_law_535 : decode (fx_cc mq_LA_law) 535 = .ok (.aload_n 0, 1) := by decide +kernel
theorem dq_LA_law_536 : decode (fx_cc mq_LA_law) 536 = .ok (.iload 4, 2) := by decide +kernel
theorem dq_LA_law_538 : decode (fx_cc mq_LA_law) 538 = .ok (.iconst 5, 1) := by decide +kernel
theorem dq_LA_law_539 : decode (fx_cc mq_LA_law) 539 = .ok (.iadd, 1) := by decide +kernel
theorem dq_LA_law_540 : decode (fx_cc mq_LA_law) 540 = .ok (.iaload, 1) := by decide +kernel
theorem dq_LA_law_541 : decode (fx_cc mq_LA_law) 541 = .ok (.aload_n 0, 1) := by decide +kernel
theorem dq_LA_law_542 : decode (fx_cc mq_LA_law) 542 = .ok (.iload 4, 2) := by decide +kernel
theorem dq_LA_law_544 : decode (fx_cc mq_LA_law) 544 = .ok (.bipush 6, 2) := by decide +kernel
theorem dq_LA_law_546 : decode (fx_cc mq_LA_law) 546 = .ok (.iadd, 1) := by decide +kernel
theorem dq_LA_law_547 : decode (fx_cc mq_LA_law) 547 = .ok (.iaload, 1) := by decide +kernel
theorem dq_LA_law_548 : decode (fx_cc mq_LA_law) 548 = .ok (.aload_n 3, 1) := by decide +kernel
theorem dq_LA_law_549 : decode (fx_cc mq_LA_law) 549 = .ok (.invokestatic 80, 3) := by decide +kernel
theorem dq_LA_law_552 : decode (fx_cc mq_LA_law) 552 = .ok (.istore 5, 2) := by decide +kernel
theorem dq_LA_law_554 : decode (fx_cc mq_LA_law) 554 = .ok (.aload_n 2, 1) := by decide +kernel
theorem dq_LA_law_555 : decode (fx_cc mq_LA_law) 555 = .ok (.aload_n 0, 1) := by decide +kernel
theorem dq_LA_law_556 : decode (fx_cc mq_LA_law) 556 = .ok (.iload 4, 2) := by decide +kernel
theorem dq_LA_law_558 : decode (fx_cc mq_LA_law) 558 = .ok (.iconst 1, 1) := by decide +kernel
theorem dq_LA_law_559 : decode (fx_cc mq_LA_law) 559 = .ok (.iadd, 1) := by decide +kernel
theorem dq_LA_law_560 : decode (fx_cc mq_LA_law) 560 = .ok (.iaload, 1) := by decide +kernel
theorem dq_LA_law_561 : decode (fx_cc mq_LA_law) 561 = .ok (.aload_n 0, 1) := by decide +kernel
theorem dq_LA_law_562 : decode (fx_cc mq_LA_law) 562 = .ok (.iload 4, 2) := by decide +kernel
theorem dq_LA_law_564 : decode (fx_cc mq_LA_law) 564 = .ok (.iconst 2, 1) := by decide +kernel
theorem dq_LA_law_565 : decode (fx_cc mq_LA_law) 565 = .ok (.iadd, 1) := by decide +kernel
theorem dq_LA_law_566 : decode (fx_cc mq_LA_law) 566 = .ok (.iaload, 1) := by decide +kernel
theorem dq_LA_law_567 : decode (fx_cc mq_LA_law) 567 = .ok (.aload_n 0, 1) := by decide +kernel
theorem dq_LA_law_568 : decode (fx_cc mq_LA_law) 568 = .ok (.iload 4, 2) := by decide +kernel
theorem dq_LA_law_570 : decode (fx_cc mq_LA_law) 570 = .ok (.iconst 3, 1) := by decide +kernel
theorem dq_LA_law_571 : decode (fx_cc mq_LA_law) 571 = .ok (.iadd, 1) := by decide +kernel
theorem dq_LA_law_572 : decode (fx_cc mq_LA_law) 572 = .ok (.iaload, 1) := by decide +kernel
theorem dq_LA_law_573 : decode (fx_cc mq_LA_law) 573 = .ok (.aload_n 0, 1) := by decide +kernel
theorem dq_LA_law_574 : decode (fx_cc mq_LA_law) 574 = .ok (.iload 4, 2) := by decide +kernel
theorem dq_LA_law_576 : decode (fx_cc mq_LA_law) 576 = .ok (.iconst 4, 1) := by decide +kernel
theorem dq_LA_law_577 : decode (fx_cc mq_LA_law) 577 = .ok (.iadd, 1) := by decide +kernel
theorem dq_LA_law_578 : decode (fx_cc mq_LA_law) 578 = .ok (.iaload, 1) := by decide +kernel
theorem dq_LA_law_579 : decode (fx_cc mq_LA_law) 579 = .ok (.aload_n 0, 1) := by decide +kernel
theorem dq_LA_law_580 : decode (fx_cc mq_LA_law) 580 = .ok (.iload 4, 2) := by decide +kernel
theorem dq_LA_law_582 : decode (fx_cc mq_LA_law) 582 = .ok (.iconst 5, 1) := by decide +kernel
theorem dq_LA_law_583 : decode (fx_cc mq_LA_law) 583 = .ok (.iadd, 1) := by decide +kernel
theorem dq_LA_law_584 : decode (fx_cc mq_LA_law) 584 = .ok (.iaload, 1) := by decide +kernel
theorem dq_LA_law_585 : decode (fx_cc mq_LA_law) 585 = .ok (.aload_n 0, 1) := by decide +kernel
theorem dq_LA_law_586 : decode (fx_cc mq_LA_law) 586 = .ok (.iload 4, 2) := by decide +kernel
theorem dq_LA_law_588 : decode (fx_cc mq_LA_law) 588 = .ok (.bipush 6, 2) := by decide +kernel
theorem dq_LA_law_590 : decode (fx_cc mq_LA_law) 590 = .ok (.iadd, 1) := by decide +kernel
theorem dq_LA_law_591 : decode (fx_cc mq_LA_law) 591 = .ok (.iaload, 1) := by decide +kernel
theorem dq_LA_law_592 : decode (fx_cc mq_LA_law) 592 = .ok (.invokevirtual 83, 3) := by decide +kernel
theorem dq_LA_law_595 : decode (fx_cc mq_LA_law) 595 = .ok (.istore 6, 2) := by decide +kernel
theorem dq_LA_law_597 : decode (fx_cc mq_LA_law) 597 = .ok (.aload_n 2, 1) := by decide +kernel
theorem dq_LA_law_598 : decode (fx_cc mq_LA_law) 598 = .ok (.invokevirtual 60, 3) := by decide +kernel
theorem dq_LA_law_601 : decode (fx_cc mq_LA_law) 601 = .ok (.iload 5, 2) := by decide +kernel
theorem dq_LA_law_603 : decode (fx_cc mq_LA_law) 603 = .ok (.if_icmp .eq 5, 3) := by decide +kernel
theorem dq_LA_law_606 : decode (fx_cc mq_LA_law) 606 = .ok (.iconst 0, 1) := by decide +kernel
theorem dq_LA_law_607 : decode (fx_cc mq_LA_law) 607 = .ok (.ireturn, 1) := by decide +kernel
theorem dq_LA_law_608 : decode (fx_cc mq_LA_law) 608 = .ok (.iload 5, 2) := by decide +kernel
theorem dq_LA_law_610 : decode (fx_cc mq_LA_law) 610 = .ok (.ifCond .ne 15, 3) := by decide +kernel
theorem dq_LA_law_613 : decode (fx_cc mq_LA_law) 613 = .ok (.aload_n 3, 1) := by decide +kernel
theorem dq_LA_law_614 : decode (fx_cc mq_LA_law) 614 = .ok (.iconst 0, 1) := by decide +kernel
theorem dq_LA_law_615 : decode (fx_cc mq_LA_law) 615 = .ok (.laload, 1) := by decide +kernel
theorem dq_LA_law_616 : decode (fx_cc mq_LA_law) 616 = .ok (.iload 6, 2) := by decide +kernel
theorem dq_LA_law_618 : decode (fx_cc mq_LA_law) 618 = .ok (.i2l, 1) := by decide +kernel
theorem dq_LA_law_619 : decode (fx_cc mq_LA_law) 619 = .ok (.lcmp, 1) := by decide +kernel
theorem dq_LA_law_620 : decode (fx_cc mq_LA_law) 620 = .ok (.ifCond .eq 5, 3) := by decide +kernel
theorem dq_LA_law_623 : decode (fx_cc mq_LA_law) 623 = .ok (.iconst 0, 1) := by decide +kernel
theorem dq_LA_law_624 : decode (fx_cc mq_LA_law) 624 = .ok (.ireturn, 1) := by decide +kernel
theorem dq_LA_law_625 : decode (fx_cc mq_LA_law) 625 = .ok (.goto 461, 3) := by decide +kernel
theorem dq_LA_law_628 : decode (fx_cc mq_LA_law) 628 = .ok (.aload_n 1, 1) := by decide +kernel
theorem dq_LA_law_629 : decode (fx_cc mq_LA_law) 629 = .ok (.aload_n 0, 1) := by decide +kernel
theorem dq_LA_law_630 : decode (fx_cc mq_LA_law) 630 = .ok (.iload 4, 2) := by decide +kernel
theorem dq_LA_law_632 : decode (fx_cc mq_LA_law) 632 = .ok (.iconst 1, 1) := by decide +kernel
theorem dq_LA_law_633 : decode (fx_cc mq_LA_law) 633 = .ok (.iadd, 1) := by decide +kernel
theorem dq_LA_law_634 : decode (fx_cc mq_LA_law) 634 = .ok (.iaload, 1) := by decide +kernel
theorem dq_LA_law_635 : decode (fx_cc mq_LA_law) 635 = .ok (.aload_n 0, 1) := by decide +kernel
theorem dq_LA_law_636 : decode (fx_cc mq_LA_law) 636 = .ok (.iload 4, 2) := by decide +kernel
theorem dq_LA_law_638 : decode (fx_cc mq_LA_law) 638 = .ok (.iconst 2, 1) := by decide +kernel
theorem dq_LA_law_639 : decode (fx_cc mq_LA_law) 639 = .ok (.iadd, 1) := by decide +kernel
theorem dq_LA_law_640 : decode (fx_cc mq_LA_law) 640 = .ok (.iaload, 1) := by decide +kernel
theorem dq_LA_law_641 : decode (fx_cc mq_LA_law) 641 = .ok (.aload_n 0, 1) := by decide +kernel
theorem dq_LA_law_642 : decode (fx_cc mq_LA_law) 642 = .ok (.iload 4, 2) := by decide +kernel
theorem dq_LA_law_644 : decode (fx_cc mq_LA_law) 644 = .ok (.iconst 3, 1) := by decide +kernel
theorem dq_LA_law_645 : decode (fx_cc mq_LA_law) 645 = .ok (.iadd, 1) := by decide +kernel
theorem dq_LA_law_646 : decode (fx_cc mq_LA_law) 646 = .ok (.iaload, 1) := by decide +kernel
theorem dq_LA_law_647 : decode (fx_cc mq_LA_law) 647 = .ok (.aload_n 0, 1) := by decide +kernel
theorem dq_LA_law_648 : decode (fx_cc mq_LA_law) 648 = .ok (.iload 4, 2) := by decide +kernel
theorem dq_LA_law_650 : decode (fx_cc mq_LA_law) 650 = .ok (.iconst 4, 1) := by decide +kernel
theorem dq_LA_law_651 : decode (fx_cc mq_LA_law) 651 = .ok (.iadd, 1) := by decide +kernel
theorem dq_LA_law_652 : decode (fx_cc mq_LA_law) 652 = .ok (.iaload, 1) := by decide +kernel
theorem dq_LA_law_653 : decode (fx_cc mq_LA_law) 653 = .ok (.aload_n 0, 1) := by decide +kernel
theorem dq_LA_law_654 : decode (fx_cc mq_LA_law) 654 = .ok (.iload 4, 2) := by decide +kernel
theorem dq_LA_law_656 : decode (fx_cc mq_LA_law) 656 = .ok (.iconst 5, 1) := by decide +kernel
theorem dq_LA_law_657 : decode (fx_cc mq_LA_law) 657 = .ok (.iadd, 1) := by decide +kernel
theorem dq_LA_law_658 : decode (fx_cc mq_LA_law) 658 = .ok (.iaload, 1) := by decide +kernel
theorem dq_LA_law_659 : decode (fx_cc mq_LA_law) 659 = .ok (.aload_n 0, 1) := by decide +kernel
theorem dq_LA_law_660 : decode (fx_cc mq_LA_law) 660 = .ok (.iload 4, 2) := by decide +kernel
theorem dq_LA_law_662 : decode (fx_cc mq_LA_law) 662 = .ok (.bipush 6, 2) := by decide +kernel
theorem dq_LA_law_664 : decode (fx_cc mq_LA_law) 664 = .ok (.iadd, 1) := by decide +kernel
theorem dq_LA_law_665 : decode (fx_cc mq_LA_law) 665 = .ok (.iaload, 1) := by decide +kernel
theorem dq_LA_law_666 : decode (fx_cc mq_LA_law) 666 = .ok (.aload_n 0, 1) := by decide +kernel
theorem dq_LA_law_667 : decode (fx_cc mq_LA_law) 667 = .ok (.iload 4, 2) := by decide +kernel
theorem dq_LA_law_669 : decode (fx_cc mq_LA_law) 669 = .ok (.bipush 7, 2) := by decide +kernel
theorem dq_LA_law_671 : decode (fx_cc mq_LA_law) 671 = .ok (.iadd, 1) := by decide +kernel
theorem dq_LA_law_672 : decode (fx_cc mq_LA_law) 672 = .ok (.iaload, 1) := by decide +kernel
theorem dq_LA_law_673 : decode (fx_cc mq_LA_law) 673 = .ok (.aload_n 0, 1) := by decide +kernel
theorem dq_LA_law_674 : decode (fx_cc mq_LA_law) 674 = .ok (.iload 4, 2) := by decide +kernel
theorem dq_LA_law_676 : decode (fx_cc mq_LA_law) 676 = .ok (.bipush 8, 2) := by decide +kernel
theorem dq_LA_law_678 : decode (fx_cc mq_LA_law) 678 = .ok (.iadd, 1) := by decide +kernel
theorem dq_LA_law_679 : decode (fx_cc mq_LA_law) 679 = .ok (.iaload, 1) := by decide +kernel
theorem dq_LA_law_680 : decode (fx_cc mq_LA_law) 680 = .ok (.aload_n 3, 1) := by decide +kernel
theorem dq_LA_law_681 : decode (fx_cc mq_LA_law) 681 = .ok (.invokestatic 84, 3) := by decide +kernel
theorem dq_LA_law_684 : decode (fx_cc mq_LA_law) 684 = .ok (.istore 5, 2) := by decide +kernel
theorem dq_LA_law_686 : decode (fx_cc mq_LA_law) 686 = .ok (.aload_n 2, 1) := by decide +kernel
theorem dq_LA_law_687 : decode (fx_cc mq_LA_law) 687 = .ok (.aload_n 0, 1) := by decide +kernel
theorem dq_LA_law_688 : decode (fx_cc mq_LA_law) 688 = .ok (.iload 4, 2) := by decide +kernel
theorem dq_LA_law_690 : decode (fx_cc mq_LA_law) 690 = .ok (.iconst 1, 1) := by decide +kernel
theorem dq_LA_law_691 : decode (fx_cc mq_LA_law) 691 = .ok (.iadd, 1) := by decide +kernel
theorem dq_LA_law_692 : decode (fx_cc mq_LA_law) 692 = .ok (.iaload, 1) := by decide +kernel
theorem dq_LA_law_693 : decode (fx_cc mq_LA_law) 693 = .ok (.aload_n 0, 1) := by decide +kernel
theorem dq_LA_law_694 : decode (fx_cc mq_LA_law) 694 = .ok (.iload 4, 2) := by decide +kernel
theorem dq_LA_law_696 : decode (fx_cc mq_LA_law) 696 = .ok (.iconst 2, 1) := by decide +kernel
theorem dq_LA_law_697 : decode (fx_cc mq_LA_law) 697 = .ok (.iadd, 1) := by decide +kernel
theorem dq_LA_law_698 : decode (fx_cc mq_LA_law) 698 = .ok (.iaload, 1) := by decide +kernel
theorem dq_LA_law_699 : decode (fx_cc mq_LA_law) 699 = .ok (.aload_n 0, 1) := by decide +kernel
theorem dq_LA_law_700 : decode (fx_cc mq_LA_law) 700 = .ok (.iload 4, 2) := by decide +kernel
theorem dq_LA_law_702 : decode (fx_cc mq_LA_law) 702 = .ok (.iconst 3, 1) := by decide +kernel
theorem dq_LA_law_703 : decode (fx_cc mq_LA_law) 703 = .ok (.iadd, 1) := by decide +kernel
theorem dq_LA_law_704 : decode (fx_cc mq_LA_law) 704 = .ok (.iaload, 1) := by decide +kernel
theorem dq_LA_law_705 : decode (fx_cc mq_LA_law) 705 = .ok (.aload_n 0, 1) := by decide +kernel
theorem dq_LA_law_706 : decode (fx_cc mq_LA_law) 706 = .ok (.iload 4, 2) := by decide +kernel
theorem dq_LA_law_708 : decode (fx_cc mq_LA_law) 708 = .ok (.iconst 4, 1) := by decide +kernel
theorem dq_LA_law_709 : decode (fx_cc mq_LA_law) 709 = .ok (.iadd, 1) := by decide +kernel
theorem dq_LA_law_710 : decode (fx_cc mq_LA_law) 710 = .ok (.iaload, 1) := by decide +kernel
theorem dq_LA_law_711 : decode (fx_cc mq_LA_law) 711 = .ok (.aload_n 0, 1) := by decide +kernel
theorem dq_LA_law_712 : decode (fx_cc mq_LA_law) 712 = .ok (.iload 4, 2) := by decide +kernel
theorem dq_LA_law_714 : decode (fx_cc mq_LA_law) 714 = .ok (.iconst 5, 1) := by decide +kernel
theorem dq_LA_law_715 : decode (fx_cc mq_LA_law) 715 = .ok (.iadd, 1) := by decide +kernel
theorem dq_LA_law_716 : decode (fx_cc mq_LA_law) 716 = .ok (.iaload, 1) := by decide +kernel
theorem dq_LA_law_717 : decode (fx_cc mq_LA_law) 717 = .ok (.aload_n 0, 1) := by decide +kernel
theorem dq_LA_law_718 : decode (fx_cc mq_LA_law) 718 = .ok (.iload 4, 2) := by decide +kernel
theorem dq_LA_law_720 : decode (fx_cc mq_LA_law) 720 = .ok (.bipush 6, 2) := by decide +kernel
theorem dq_LA_law_722 : decode (fx_cc mq_LA_law) 722 = .ok (.iadd, 1) := by decide +kernel
theorem dq_LA_law_723 : decode (fx_cc mq_LA_law) 723 = .ok (.iaload, 1) := by decide +kernel
theorem dq_LA_law_724 : decode (fx_cc mq_LA_law) 724 = .ok (.aload_n 0, 1) := by decide +kernel
theorem dq_LA_law_725 : decode (fx_cc mq_LA_law) 725 = .ok (.iload 4, 2) := by decide +kernel
theorem dq_LA_law_727 : decode (fx_cc mq_LA_law) 727 = .ok (.bipush 7, 2) := by decide +kernel
theorem dq_LA_law_729 : decode (fx_cc mq_LA_law) 729 = .ok (.iadd, 1) := by decide +kernel
theorem dq_LA_law_730 : decode (fx_cc mq_LA_law) 730 = .ok (.iaload, 1) := by decide +kernel
theorem dq_LA_law_731 : decode (fx_cc mq_LA_law) 731 = .ok (.aload_n 0, 1) := by decide +kernel
theorem dq_LA_law_732 : decode (fx_cc mq_LA_law) 732 = .ok (.iload 4, 2) := by decide +kernel
theorem dq_LA_law_734 : decode (fx_cc mq_LA_law) 734 = .ok (.bipush 8, 2) := by decide +kernel
theorem dq_LA_law_736 : decode (fx_cc mq_LA_law) 736 = .ok (.iadd, 1) := by decide +kernel
theorem dq_LA_law_737 : decode (fx_cc mq_LA_law) 737 = .ok (.iaload, 1) := by decide +kernel
theorem dq_LA_law_738 : decode (fx_cc mq_LA_law) 738 = .ok (.invokevirtual 87, 3) := by decide +kernel
theorem dq_LA_law_741 : decode (fx_cc mq_LA_law) 741 = .ok (.istore 6, 2) := by decide +kernel
theorem dq_LA_law_743 : decode (fx_cc mq_LA_law) 743 = .ok (.aload_n 2, 1) := by decide +kernel
theorem dq_LA_law_744 : decode (fx_cc mq_LA_law) 744 = .ok (.invokevirtual 60, 3) := by decide +kernel
theorem dq_LA_law_747 : decode (fx_cc mq_LA_law) 747 = .ok (.iload 5, 2) := by decide +kernel
theorem dq_LA_law_749 : decode (fx_cc mq_LA_law) 749 = .ok (.if_icmp .eq 5, 3) := by decide +kernel
theorem dq_LA_law_752 : decode (fx_cc mq_LA_law) 752 = .ok (.iconst 0, 1) := by decide +kernel
theorem dq_LA_law_753 : decode (fx_cc mq_LA_law) 753 = .ok (.ireturn, 1) := by decide +kernel
theorem dq_LA_law_754 : decode (fx_cc mq_LA_law) 754 = .ok (.iload 5, 2) := by decide +kernel
theorem dq_LA_law_756 : decode (fx_cc mq_LA_law) 756 = .ok (.ifCond .ne 15, 3) := by decide +kernel
theorem dq_LA_law_759 : decode (fx_cc mq_LA_law) 759 = .ok (.aload_n 3, 1) := by decide +kernel
theorem dq_LA_law_760 : decode (fx_cc mq_LA_law) 760 = .ok (.iconst 0, 1) := by decide +kernel
theorem dq_LA_law_761 : decode (fx_cc mq_LA_law) 761 = .ok (.laload, 1) := by decide +kernel
theorem dq_LA_law_762 : decode (fx_cc mq_LA_law) 762 = .ok (.iload 6, 2) := by decide +kernel
theorem dq_LA_law_764 : decode (fx_cc mq_LA_law) 764 = .ok (.i2l, 1) := by decide +kernel
theorem dq_LA_law_765 : decode (fx_cc mq_LA_law) 765 = .ok (.lcmp, 1) := by decide +kernel
theorem dq_LA_law_766 : decode (fx_cc mq_LA_law) 766 = .ok (.ifCond .eq 5, 3) := by decide +kernel
theorem dq_LA_law_769 : decode (fx_cc mq_LA_law) 769 = .ok (.iconst 0, 1) := by decide +kernel
theorem dq_LA_law_770 : decode (fx_cc mq_LA_law) 770 = .ok (.ireturn, 1) := by decide +kernel
theorem dq_LA_law_771 : decode (fx_cc mq_LA_law) 771 = .ok (.goto 315, 3) := by decide +kernel
theorem dq_LA_law_774 : decode (fx_cc mq_LA_law) 774 = .ok (.aload_n 1, 1) := by decide +kernel
theorem dq_LA_law_775 : decode (fx_cc mq_LA_law) 775 = .ok (.aload_n 0, 1) := by decide +kernel
theorem dq_LA_law_776 : decode (fx_cc mq_LA_law) 776 = .ok (.iload 4, 2) := by decide +kernel
theorem dq_LA_law_778 : decode (fx_cc mq_LA_law) 778 = .ok (.iconst 1, 1) := by decide +kernel
theorem dq_LA_law_779 : decode (fx_cc mq_LA_law) 779 = .ok (.iadd, 1) := by decide +kernel
theorem dq_LA_law_780 : decode (fx_cc mq_LA_law) 780 = .ok (.iaload, 1) := by decide +kernel
theorem dq_LA_law_781 : decode (fx_cc mq_LA_law) 781 = .ok (.aload_n 3, 1) := by decide +kernel
theorem dq_LA_law_782 : decode (fx_cc mq_LA_law) 782 = .ok (.invokestatic 88, 3) := by decide +kernel
theorem dq_LA_law_785 : decode (fx_cc mq_LA_law) 785 = .ok (.istore 5, 2) := by decide +kernel
theorem dq_LA_law_787 : decode (fx_cc mq_LA_law) 787 = .ok (.aload_n 2, 1) := by decide +kernel
theorem dq_LA_law_788 : decode (fx_cc mq_LA_law) 788 = .ok (.aload_n 0, 1) := by decide +kernel
theorem dq_LA_law_789 : decode (fx_cc mq_LA_law) 789 = .ok (.iload 4, 2) := by decide +kernel
theorem dq_LA_law_791 : decode (fx_cc mq_LA_law) 791 = .ok (.iconst 1, 1) := by decide +kernel
theorem dq_LA_law_792 : decode (fx_cc mq_LA_law) 792 = .ok (.iadd, 1) := by decide +kernel
theorem dq_LA_law_793 : decode (fx_cc mq_LA_law) 793 = .ok (.iaload, 1) := by decide +kernel
theorem dq_LA_law_794 : decode (fx_cc mq_LA_law) 794 = .ok (.invokevirtual 91, 3) := by decide +kernel
theorem dq_LA_law_797 : decode (fx_cc mq_LA_law) 797 = .ok (.istore 6, 2) := by decide +kernel
theorem dq_LA_law_799 : decode (fx_cc mq_LA_law) 799 = .ok (.aload_n 2, 1) := by decide +kernel
theorem dq_LA_law_800 : decode (fx_cc mq_LA_law) 800 = .ok (.invokevirtual 60, 3) := by decide +kernel
theorem dq_LA_law_803 : decode (fx_cc mq_LA_law) 803 = .ok (.iload 5, 2) := by decide +kernel
theorem dq_LA_law_805 : decode (fx_cc mq_LA_law) 805 = .ok (.if_icmp .eq 5, 3) := by decide +kernel
theorem dq_LA_law_808 : decode (fx_cc mq_LA_law) 808 = .ok (.iconst 0, 1) := by decide +kernel
theorem dq_LA_law_809 : decode (fx_cc mq_LA_law) 809 = .ok (.ireturn, 1) := by decide +kernel
theorem dq_LA_law_810 : decode (fx_cc mq_LA_law) 810 = .ok (.iload 5, 2) := by decide +kernel
theorem dq_LA_law_812 : decode (fx_cc mq_LA_law) 812 = .ok (.ifCond .ne 15, 3) := by decide +kernel
theorem dq_LA_law_815 : decode (fx_cc mq_LA_law) 815 = .ok (.aload_n 3, 1) := by decide +kernel
theorem dq_LA_law_816 : decode (fx_cc mq_LA_law) 816 = .ok (.iconst 0, 1) := by decide +kernel
theorem dq_LA_law_817 : decode (fx_cc mq_LA_law) 817 = .ok (.laload, 1) := by decide +kernel
theorem dq_LA_law_818 : decode (fx_cc mq_LA_law) 818 = .ok (.iload 6, 2) := by decide +kernel
theorem dq_LA_law_820 : decode (fx_cc mq_LA_law) 820 = .ok (.i2l, 1) := by decide +kernel
theorem dq_LA_law_821 : decode (fx_cc mq_LA_law) 821 = .ok (.lcmp, 1) := by decide +kernel
theorem dq_LA_law_822 : decode (fx_cc mq_LA_law) 822 = .ok (.ifCond .eq 5, 3) := by decide +kernel
theorem dq_LA_law_825 : decode (fx_cc mq_LA_law) 825 = .ok (.iconst 0, 1) := by decide +kernel
theorem dq_LA_law_826 : decode (fx_cc mq_LA_law) 826 = .ok (.ireturn, 1) := by decide +kernel
theorem dq_LA_law_827 : decode (fx_cc mq_LA_law) 827 = .ok (.goto 259, 3) := by decide +kernel
theorem dq_LA_law_830 : decode (fx_cc mq_LA_law) 830 = .ok (.aload_n 1, 1) := by decide +kernel
theorem dq_LA_law_831 : decode (fx_cc mq_LA_law) 831 = .ok (.aload_n 0, 1) := by decide +kernel
theorem dq_LA_law_832 : decode (fx_cc mq_LA_law) 832 = .ok (.iload 4, 2) := by decide +kernel
theorem dq_LA_law_834 : decode (fx_cc mq_LA_law) 834 = .ok (.iconst 1, 1) := by decide +kernel
theorem dq_LA_law_835 : decode (fx_cc mq_LA_law) 835 = .ok (.iadd, 1) := by decide +kernel
theorem dq_LA_law_836 : decode (fx_cc mq_LA_law) 836 = .ok (.iaload, 1) := by decide +kernel
theorem dq_LA_law_837 : decode (fx_cc mq_LA_law) 837 = .ok (.aload_n 3, 1) := by decide +kernel
theorem dq_LA_law_838 : decode (fx_cc mq_LA_law) 838 = .ok (.invokestatic 92, 3) := by decide +kernel
theorem dq_LA_law_841 : decode (fx_cc mq_LA_law) 841 = .ok (.istore 5, 2) := by decide +kernel
theorem dq_LA_law_843 : decode (fx_cc mq_LA_law) 843 = .ok (.aload_n 2, 1) := by decide +kernel
theorem dq_LA_law_844 : decode (fx_cc mq_LA_law) 844 = .ok (.aload_n 0, 1) := by decide +kernel
theorem dq_LA_law_845 : decode (fx_cc mq_LA_law) 845 = .ok (.iload 4, 2) := by decide +kernel
theorem dq_LA_law_847 : decode (fx_cc mq_LA_law) 847 = .ok (.iconst 1, 1) := by decide +kernel
theorem dq_LA_law_848 : decode (fx_cc mq_LA_law) 848 = .ok (.iadd, 1) := by decide +kernel
theorem dq_LA_law_849 : decode (fx_cc mq_LA_law) 849 = .ok (.iaload, 1) := by decide +kernel
theorem dq_LA_law_850 : decode (fx_cc mq_LA_law) 850 = .ok (.invokevirtual 94, 3) := by decide +kernel
theorem dq_LA_law_853 : decode (fx_cc mq_LA_law) 853 = .ok (.istore 6, 2) := by decide +kernel
theorem dq_LA_law_855 : decode (fx_cc mq_LA_law) 855 = .ok (.aload_n 2, 1) := by decide +kernel
theorem dq_LA_law_856 : decode (fx_cc mq_LA_law) 856 = .ok (.invokevirtual 60, 3) := by decide +kernel
theorem dq_LA_law_859 : decode (fx_cc mq_LA_law) 859 = .ok (.iload 5, 2) := by decide +kernel
theorem dq_LA_law_861 : decode (fx_cc mq_LA_law) 861 = .ok (.if_icmp .eq 5, 3) := by decide +kernel
theorem dq_LA_law_864 : decode (fx_cc mq_LA_law) 864 = .ok (.iconst 0, 1) := by decide +kernel
theorem dq_LA_law_865 : decode (fx_cc mq_LA_law) 865 = .ok (.ireturn, 1) := by decide +kernel
theorem dq_LA_law_866 : decode (fx_cc mq_LA_law) 866 = .ok (.iload 5, 2) := by decide +kernel
theorem dq_LA_law_868 : decode (fx_cc mq_LA_law) 868 = .ok (.ifCond .ne 15, 3) := by decide +kernel
theorem dq_LA_law_871 : decode (fx_cc mq_LA_law) 871 = .ok (.aload_n 3, 1) := by decide +kernel
theorem dq_LA_law_872 : decode (fx_cc mq_LA_law) 872 = .ok (.iconst 0, 1) := by decide +kernel
theorem dq_LA_law_873 : decode (fx_cc mq_LA_law) 873 = .ok (.laload, 1) := by decide +kernel
theorem dq_LA_law_874 : decode (fx_cc mq_LA_law) 874 = .ok (.iload 6, 2) := by decide +kernel
theorem dq_LA_law_876 : decode (fx_cc mq_LA_law) 876 = .ok (.i2l, 1) := by decide +kernel
theorem dq_LA_law_877 : decode (fx_cc mq_LA_law) 877 = .ok (.lcmp, 1) := by decide +kernel
theorem dq_LA_law_878 : decode (fx_cc mq_LA_law) 878 = .ok (.ifCond .eq 5, 3) := by decide +kernel
theorem dq_LA_law_881 : decode (fx_cc mq_LA_law) 881 = .ok (.iconst 0, 1) := by decide +kernel
theorem dq_LA_law_882 : decode (fx_cc mq_LA_law) 882 = .ok (.ireturn, 1) := by decide +kernel
theorem dq_LA_law_883 : decode (fx_cc mq_LA_law) 883 = .ok (.goto 203, 3) := by decide +kernel
theorem dq_LA_law_886 : decode (fx_cc mq_LA_law) 886 = .ok (.aload_n 1, 1) := by decide +kernel
theorem dq_LA_law_887 : decode (fx_cc mq_LA_law) 887 = .ok (.invokevirtual 95, 3) := by decide +kernel
theorem dq_LA_law_890 : decode (fx_cc mq_LA_law) 890 = .ok (.aload_n 2, 1) := by decide +kernel
theorem dq_LA_law_891 : decode (fx_cc mq_LA_law) 891 = .ok (.invokevirtual 98, 3) := by decide +kernel
theorem dq_LA_law_894 : decode (fx_cc mq_LA_law) 894 = .ok (.if_icmp .eq 192, 3) := by decide +kernel
theorem dq_LA_law_897 : decode (fx_cc mq_LA_law) 897 = .ok (.iconst 0, 1) := by decide +kernel
theorem dq_LA_law_898 : decode (fx_cc mq_LA_law) 898 = .ok (.ireturn, 1) := by decide +kernel
theorem dq_LA_law_899 : decode (fx_cc mq_LA_law) 899 = .ok (.aload_n 1, 1) := by decide +kernel
theorem dq_LA_law_900 : decode (fx_cc mq_LA_law) 900 = .ok (.invokevirtual 99, 3) := by decide +kernel
theorem dq_LA_law_903 : decode (fx_cc mq_LA_law) 903 = .ok (.aload_n 2, 1) := by decide +kernel
theorem dq_LA_law_904 : decode (fx_cc mq_LA_law) 904 = .ok (.invokevirtual 102, 3) := by decide +kernel
theorem dq_LA_law_907 : decode (fx_cc mq_LA_law) 907 = .ok (.if_icmp .eq 179, 3) := by decide +kernel
theorem dq_LA_law_910 : decode (fx_cc mq_LA_law) 910 = .ok (.iconst 0, 1) := by decide +kernel
theorem dq_LA_law_911 : decode (fx_cc mq_LA_law) 911 = .ok (.ireturn, 1) := by decide +kernel
theorem dq_LA_law_912 : decode (fx_cc mq_LA_law) 912 = .ok (.aload_n 1, 1) := by decide +kernel
theorem dq_LA_law_913 : decode (fx_cc mq_LA_law) 913 = .ok (.aload_n 0, 1) := by decide +kernel
theorem dq_LA_law_914 : decode (fx_cc mq_LA_law) 914 = .ok (.iload 4, 2) := by decide +kernel
theorem dq_LA_law_916 : decode (fx_cc mq_LA_law) 916 = .ok (.iconst 1, 1) := by decide +kernel
theorem dq_LA_law_917 : decode (fx_cc mq_LA_law) 917 = .ok (.iadd, 1) := by decide +kernel
theorem dq_LA_law_918 : decode (fx_cc mq_LA_law) 918 = .ok (.iaload, 1) := by decide +kernel
theorem dq_LA_law_919 : decode (fx_cc mq_LA_law) 919 = .ok (.aload_n 0, 1) := by decide +kernel
theorem dq_LA_law_920 : decode (fx_cc mq_LA_law) 920 = .ok (.iload 4, 2) := by decide +kernel
theorem dq_LA_law_922 : decode (fx_cc mq_LA_law) 922 = .ok (.iconst 2, 1) := by decide +kernel
theorem dq_LA_law_923 : decode (fx_cc mq_LA_law) 923 = .ok (.iadd, 1) := by decide +kernel
theorem dq_LA_law_924 : decode (fx_cc mq_LA_law) 924 = .ok (.iaload, 1) := by decide +kernel
theorem dq_LA_law_925 : decode (fx_cc mq_LA_law) 925 = .ok (.invokevirtual 103, 3) := by decide +kernel
theorem dq_LA_law_928 : decode (fx_cc mq_LA_law) 928 = .ok (.aload_n 2, 1) := by decide +kernel
theorem dq_LA_law_929 : decode (fx_cc mq_LA_law) 929 = .ok (.aload_n 0, 1) := by decide +kernel
theorem dq_LA_law_930 : decode (fx_cc mq_LA_law) 930 = .ok (.iload 4, 2) := by decide +kernel
theorem dq_LA_law_932 : decode (fx_cc mq_LA_law) 932 = .ok (.iconst 1, 1) := by decide +kernel
theorem dq_LA_law_933 : decode (fx_cc mq_LA_law) 933 = .ok (.iadd, 1) := by decide +kernel
theorem dq_LA_law_934 : decode (fx_cc mq_LA_law) 934 = .ok (.iaload, 1) := by decide +kernel
theorem dq_LA_law_935 : decode (fx_cc mq_LA_law) 935 = .ok (.aload_n 0, 1) := by decide +kernel
theorem dq_LA_law_936 : decode (fx_cc mq_LA_law) 936 = .ok (.iload 4, 2) := by decide +kernel
theorem dq_LA_law_938 : decode (fx_cc mq_LA_law) 938 = .ok (.iconst 2, 1) := by decide +kernel
theorem dq_LA_law_939 : decode (fx_cc mq_LA_law) 939 = .ok (.iadd, 1) := by decide +kernel
theorem dq_LA_law_940 : decode (fx_cc mq_LA_law) 940 = .ok (.iaload, 1) := by decide +kernel
theorem dq_LA_law_941 : decode (fx_cc mq_LA_law) 941 = .ok (.invokevirtual 107, 3) := by decide +kernel
theorem dq_LA_law_944 : decode (fx_cc mq_LA_law) 944 = .ok (.if_icmp .eq 142, 3) := by decide +kernel
theorem dq_LA_law_947 : decode (fx_cc mq_LA_law) 947 = .ok (.iconst 0, 1) := by decide +kernel
theorem dq_LA_law_948 : decode (fx_cc mq_LA_law) 948 = .ok (.ireturn, 1) := by decide +kernel
theorem dq_LA_law_949 : decode (fx_cc mq_LA_law) 949 = .ok (.aload_n 1, 1) := by decide +kernel
theorem dq_LA_law_950 : decode (fx_cc mq_LA_law) 950 = .ok (.aload_n 0, 1) := by decide +kernel
theorem dq_LA_law_951 : decode (fx_cc mq_LA_law) 951 = .ok (.iload 4, 2) := by decide +kernel
theorem dq_LA_law_953 : decode (fx_cc mq_LA_law) 953 = .ok (.iconst 1, 1) := by decide +kernel
theorem dq_LA_law_954 : decode (fx_cc mq_LA_law) 954 = .ok (.iadd, 1) := by decide +kernel
theorem dq_LA_law_955 : decode (fx_cc mq_LA_law) 955 = .ok (.iaload, 1) := by decide +kernel
theorem dq_LA_law_956 : decode (fx_cc mq_LA_law) 956 = .ok (.aload_n 0, 1) := by decide +kernel
theorem dq_LA_law_957 : decode (fx_cc mq_LA_law) 957 = .ok (.iload 4, 2) := by decide +kernel
theorem dq_LA_law_959 : decode (fx_cc mq_LA_law) 959 = .ok (.iconst 2, 1) := by decide +kernel
theorem dq_LA_law_960 : decode (fx_cc mq_LA_law) 960 = .ok (.iadd, 1) := by decide +kernel
theorem dq_LA_law_961 : decode (fx_cc mq_LA_law) 961 = .ok (.iaload, 1) := by decide +kernel
theorem dq_LA_law_962 : decode (fx_cc mq_LA_law) 962 = .ok (.invokevirtual 108, 3) := by decide +kernel
theorem dq_LA_law_965 : decode (fx_cc mq_LA_law) 965 = .ok (.aload_n 2, 1) := by decide +kernel
theorem dq_LA_law_966 : decode (fx_cc mq_LA_law) 966 = .ok (.aload_n 0, 1) := by decide +kernel
theorem dq_LA_law_967 : decode (fx_cc mq_LA_law) 967 = .ok (.iload 4, 2) := by decide +kernel
theorem dq_LA_law_969 : decode (fx_cc mq_LA_law) 969 = .ok (.iconst 1, 1) := by decide +kernel
theorem dq_LA_law_970 : decode (fx_cc mq_LA_law) 970 = .ok (.iadd, 1) := by decide +kernel
theorem dq_LA_law_971 : decode (fx_cc mq_LA_law) 971 = .ok (.iaload, 1) := by decide +kernel
theorem dq_LA_law_972 : decode (fx_cc mq_LA_law) 972 = .ok (.aload_n 0, 1) := by decide +kernel
theorem dq_LA_law_973 : decode (fx_cc mq_LA_law) 973 = .ok (.iload 4, 2) := by decide +kernel
theorem dq_LA_law_975 : decode (fx_cc mq_LA_law) 975 = .ok (.iconst 2, 1) := by decide +kernel
theorem dq_LA_law_976 : decode (fx_cc mq_LA_law) 976 = .ok (.iadd, 1) := by decide +kernel
theorem dq_LA_law_977 : decode (fx_cc mq_LA_law) 977 = .ok (.iaload, 1) := by decide +kernel
theorem dq_LA_law_978 : decode (fx_cc mq_LA_law) 978 = .ok (.invokevirtual 111, 3) := by decide +kernel
theorem dq_LA_law_981 : decode (fx_cc mq_LA_law) 981 = .ok (.if_icmp .eq 105, 3) := by decide +kernel
theorem dq_LA_law_984 : decode (fx_cc mq_LA_law) 984 = .ok (.iconst 0, 1) := by decide +kernel
theorem dq_LA_law_985 : decode (fx_cc mq_LA_law) 985 = .ok (.ireturn, 1) := by decide +kernel
theorem dq_LA_law_986 : decode (fx_cc mq_LA_law) 986 = .ok (.aload_n 1, 1) := by decide +kernel
theorem dq_LA_law_987 : decode (fx_cc mq_LA_law) 987 = .ok (.aload_n 0, 1) := by decide +kernel
theorem dq_LA_law_988 : decode (fx_cc mq_LA_law) 988 = .ok (.iload 4, 2) := by decide +kernel
theorem dq_LA_law_990 : decode (fx_cc mq_LA_law) 990 = .ok (.iconst 1, 1) := by decide +kernel
theorem dq_LA_law_991 : decode (fx_cc mq_LA_law) 991 = .ok (.iadd, 1) := by decide +kernel
theorem dq_LA_law_992 : decode (fx_cc mq_LA_law) 992 = .ok (.iaload, 1) := by decide +kernel
theorem dq_LA_law_993 : decode (fx_cc mq_LA_law) 993 = .ok (.invokevirtual 112, 3) := by decide +kernel
theorem dq_LA_law_996 : decode (fx_cc mq_LA_law) 996 = .ok (.aload_n 2, 1) := by decide +kernel
theorem dq_LA_law_997 : decode (fx_cc mq_LA_law) 997 = .ok (.aload_n 0, 1) := by decide +kernel
theorem dq_LA_law_998 : decode (fx_cc mq_LA_law) 998 = .ok (.iload 4, 2) := by decide +kernel
theorem dq_LA_law_1000 : decode (fx_cc mq_LA_law) 1000 = .ok (.iconst 1, 1) := by decide +kernel
theorem dq_LA_law_1001 : decode (fx_cc mq_LA_law) 1001 = .ok (.iadd, 1) := by decide +kernel
theorem dq_LA_law_1002 : decode (fx_cc mq_LA_law) 1002 = .ok (.iaload, 1) := by decide +kernel
theorem dq_LA_law_1003 : decode (fx_cc mq_LA_law) 1003 = .ok (.invokevirtual 115, 3) := by decide +kernel
theorem dq_LA_law_1006 : decode (fx_cc mq_LA_law) 1006 = .ok (.if_icmp .eq 80, 3) := by decide +kernel
theorem dq_LA_law_1009 : decode (fx_cc mq_LA_law) 1009 = .ok (.iconst 0, 1) := by decide +kernel
theorem dq_LA_law_1010 : decode (fx_cc mq_LA_law) 1010 = .ok (.ireturn, 1) := by decide +kernel
theorem dq_LA_law_1011 : decode (fx_cc mq_LA_law) 1011 = .ok (.aload_n 1, 1) := by decide +kernel
theorem dq_LA_law_1012 : decode (fx_cc mq_LA_law) 1012 = .ok (.aload_n 0, 1) := by decide +kernel
theorem dq_LA_law_1013 : decode (fx_cc mq_LA_law) 1013 = .ok (.iload 4, 2) := by decide +kernel
theorem dq_LA_law_1015 : decode (fx_cc mq_LA_law) 1015 = .ok (.iconst 1, 1) := by decide +kernel
theorem dq_LA_law_1016 : decode (fx_cc mq_LA_law) 1016 = .ok (.iadd, 1) := by decide +kernel
theorem dq_LA_law_1017 : decode (fx_cc mq_LA_law) 1017 = .ok (.iaload, 1) := by decide +kernel
theorem dq_LA_law_1018 : decode (fx_cc mq_LA_law) 1018 = .ok (.aload_n 0, 1) := by decide +kernel
theorem dq_LA_law_1019 : decode (fx_cc mq_LA_law) 1019 = .ok (.iload 4, 2) := by decide +kernel
theorem dq_LA_law_1021 : decode (fx_cc mq_LA_law) 1021 = .ok (.iconst 2, 1) := by decide +kernel
theorem dq_LA_law_1022 : decode (fx_cc mq_LA_law) 1022 = .ok (.iadd, 1) := by decide +kernel
theorem dq_LA_law_1023 : decode (fx_cc mq_LA_law) 1023 = .ok (.iaload, 1) := by decide +kernel
theorem dq_LA_law_1024 : decode (fx_cc mq_LA_law) 1024 = .ok (.invokevirtual 116, 3) := by decide +kernel
theorem dq_LA_law_1027 : decode (fx_cc mq_LA_law) 1027 = .ok (.aload_n 2, 1) := by decide +kernel
theorem dq_LA_law_1028 : decode (fx_cc mq_LA_law) 1028 = .ok (.aload_n 0, 1) := by decide +kernel
theorem dq_LA_law_1029 : decode (fx_cc mq_LA_law) 1029 = .ok (.iload 4, 2) := by decide +kernel
theorem dq_LA_law_1031 : decode (fx_cc mq_LA_law) 1031 = .ok (.iconst 1, 1) := by decide +kernel
theorem dq_LA_law_1032 : decode (fx_cc mq_LA_law) 1032 = .ok (.iadd, 1) := by decide +kernel
theorem dq_LA_law_1033 : decode (fx_cc mq_LA_law) 1033 = .ok (.iaload, 1) := by decide +kernel
theorem dq_LA_law_1034 : decode (fx_cc mq_LA_law) 1034 = .ok (.aload_n 0, 1) := by decide +kernel
theorem dq_LA_law_1035 : decode (fx_cc mq_LA_law) 1035 = .ok (.iload 4, 2) := by decide +kernel
theorem dq_LA_law_1037 : decode (fx_cc mq_LA_law) 1037 = .ok (.iconst 2, 1) := by decide +kernel
theorem dq_LA_law_1038 : decode (fx_cc mq_LA_law) 1038 = .ok (.iadd, 1) := by decide +kernel
theorem dq_LA_law_1039 : decode (fx_cc mq_LA_law) 1039 = .ok (.iaload, 1) := by decide +kernel
theorem dq_LA_law_1040 : decode (fx_cc mq_LA_law) 1040 = .ok (.invokevirtual 119, 3) := by decide +kernel
theorem dq_LA_law_1043 : decode (fx_cc mq_LA_law) 1043 = .ok (.if_icmp .eq 43, 3) := by decide +kernel
theorem dq_LA_law_1046 : decode (fx_cc mq_LA_law) 1046 = .ok (.iconst 0, 1) := by decide +kernel
theorem dq_LA_law_1047 : decode (fx_cc mq_LA_law) 1047 = .ok (.ireturn, 1) := by decide +kernel
theorem dq_LA_law_1048 : decode (fx_cc mq_LA_law) 1048 = .ok (.aload_n 1, 1) := by decide +kernel
theorem dq_LA_law_1049 : decode (fx_cc mq_LA_law) 1049 = .ok (.aload_n 0, 1) := by decide +kernel
theorem dq_LA_law_1050 : decode (fx_cc mq_LA_law) 1050 = .ok (.iload 4, 2) := by decide +kernel
theorem dq_LA_law_1052 : decode (fx_cc mq_LA_law) 1052 = .ok (.iconst 1, 1) := by decide +kernel
theorem dq_LA_law_1053 : decode (fx_cc mq_LA_law) 1053 = .ok (.iadd, 1) := by decide +kernel
theorem dq_LA_law_1054 : decode (fx_cc mq_LA_law) 1054 = .ok (.iaload, 1) := by decide +kernel
theorem dq_LA_law_1055 : decode (fx_cc mq_LA_law) 1055 = .ok (.invokevirtual 120, 3) := by decide +kernel
theorem dq_LA_law_1058 : decode (fx_cc mq_LA_law) 1058 = .ok (.aload_n 2, 1) := by decide +kernel
theorem dq_LA_law_1059 : decode (fx_cc mq_LA_law) 1059 = .ok (.aload_n 0, 1) := by decide +kernel
theorem dq_LA_law_1060 : decode (fx_cc mq_LA_law) 1060 = .ok (.iload 4, 2) := by decide +kernel
theorem dq_LA_law_1062 : decode (fx_cc mq_LA_law) 1062 = .ok (.iconst 1, 1) := by decide +kernel
theorem dq_LA_law_1063 : decode (fx_cc mq_LA_law) 1063 = .ok (.iadd, 1) := by decide +kernel
theorem dq_LA_law_1064 : decode (fx_cc mq_LA_law) 1064 = .ok (.iaload, 1) := by decide +kernel
theorem dq_LA_law_1065 : decode (fx_cc mq_LA_law) 1065 = .ok (.invokevirtual 123, 3) := by decide +kernel
theorem dq_LA_law_1068 : decode (fx_cc mq_LA_law) 1068 = .ok (.if_icmp .eq 18, 3) := by decide +kernel
theorem dq_LA_law_1071 : decode (fx_cc mq_LA_law) 1071 = .ok (.iconst 0, 1) := by decide +kernel
theorem dq_LA_law_1072 : decode (fx_cc mq_LA_law) 1072 = .ok (.ireturn, 1) := by decide +kernel
theorem dq_LA_law_1073 : decode (fx_cc mq_LA_law) 1073 = .ok (.aload_n 1, 1) := by decide +kernel
theorem dq_LA_law_1074 : decode (fx_cc mq_LA_law) 1074 = .ok (.invokevirtual 124, 3) := by decide +kernel
theorem dq_LA_law_1077 : decode (fx_cc mq_LA_law) 1077 = .ok (.aload_n 2, 1) := by decide +kernel
theorem dq_LA_law_1078 : decode (fx_cc mq_LA_law) 1078 = .ok (.invokevirtual 127, 3) := by decide +kernel
theorem dq_LA_law_1081 : decode (fx_cc mq_LA_law) 1081 = .ok (.if_icmp .eq 5, 3) := by decide +kernel
theorem dq_LA_law_1084 : decode (fx_cc mq_LA_law) 1084 = .ok (.iconst 0, 1) := by decide +kernel
theorem dq_LA_law_1085 : decode (fx_cc mq_LA_law) 1085 = .ok (.ireturn, 1) := by decide +kernel
theorem dq_LA_law_1086 : decode (fx_cc mq_LA_law) 1086 = .ok (.iinc 4 9, 3) := by decide +kernel
theorem dq_LA_law_1089 : decode (fx_cc mq_LA_law) 1089 = .ok (.goto (-1066), 3) := by decide +kernel
theorem dq_LA_law_1092 : decode (fx_cc mq_LA_law) 1092 = .ok (.iconst 1, 1) := by decide +kernel
theorem dq_LA_law_1093 : decode (fx_cc mq_LA_law) 1093 = .ok (.ireturn, 1) := by decide +kernel
