/-! ===== the words of calls, by the class that calls and its pool ===== -/
theorem sq_FS_1 : Cond.methodLink "FrameSwapper" 1 ⟨"java/lang/Object", "<init>", "()V"⟩ ∈ fx_tb := fx_m1 26 (by decide +kernel)
theorem sq_FS_9 : fx_wI "FrameSwapper" 9 0 mq_DE_init := ⟨⟨kc_DE_init, kn_DE, ⟨by decide, by decide⟩, by decide +kernel, fx_m1 31 (by decide +kernel)⟩, ki_DE_init, rfl, rfl, rfl⟩
theorem sq_FS_18 : fx_wI "FrameSwapper" 18 0 mq_CO_init := ⟨⟨kc_CO_init, kn_CO, ⟨by decide, by decide⟩, by decide +kernel, fx_m1 190 (by decide +kernel)⟩, ki_CO_init, rfl, rfl, rfl⟩
theorem sq_FS_25 : fx_wN "FrameSwapper" 25 0 mq_BE_init "FrameSwapper" := ⟨⟨kc_BE_init, kn_BE, ⟨by decide, by decide⟩, by decide +kernel, fx_m1 297 (by decide +kernel)⟩, ki_BE_init, rfl, rfl, rfl⟩
theorem sq_FS_32 : fx_wN "FrameSwapper" 32 0 mq_RE_init "FrameSwapper" := ⟨⟨kc_RE_init, kn_RE, ⟨by decide, by decide⟩, by decide +kernel, fx_m1 328 (by decide +kernel)⟩, ki_RE_init, rfl, rfl, rfl⟩
theorem sq_FS_39 : fx_wN "FrameSwapper" 39 0 mq_PI_init "FrameSwapper" := ⟨⟨kc_PI_init, kn_PI, ⟨by decide, by decide⟩, by decide +kernel, fx_m1 330 (by decide +kernel)⟩, ki_PI_init, rfl, rfl, rfl⟩
theorem sq_DE_3 : Cond.methodLink "FrameSwapper$Desk" 3 ⟨"java/lang/Object", "<init>", "()V"⟩ ∈ fx_tb := fx_m1 34 (by decide +kernel)
theorem sq_DE_19 : fx_wI "FrameSwapper$Desk" 19 0 mq_PL_init := ⟨⟨kc_PL_init, kn_PL, ⟨by decide, by decide⟩, by decide +kernel, fx_m1 39 (by decide +kernel)⟩, ki_PL_init, rfl, rfl, rfl⟩
theorem sq_DE_39 : fx_wN "FrameSwapper$Desk" 39 0 mq_PI_init "FrameSwapper" := ⟨⟨kc_PI_init, kn_PI, ⟨by decide, by decide⟩, by decide +kernel, fx_m1 157 (by decide +kernel)⟩, ki_PI_init, rfl, rfl, rfl⟩
theorem sq_PL_3 : Cond.methodLink "FrameSwapper$Pile" 3 ⟨"java/lang/Object", "<init>", "()V"⟩ ∈ fx_tb := fx_m1 42 (by decide +kernel)
theorem sq_PL_21 : fx_wN "FrameSwapper$Pile" 21 0 mq_PI_init "FrameSwapper" := ⟨⟨kc_PI_init, kn_PI, ⟨by decide, by decide⟩, by decide +kernel, fx_m1 45 (by decide +kernel)⟩, ki_PI_init, rfl, rfl, rfl⟩
theorem sq_PI_3 : Cond.methodLink "FrameSwapper$Picture" 3 ⟨"java/lang/Object", "<init>", "()V"⟩ ∈ fx_tb := fx_m1 48 (by decide +kernel)
theorem sq_PI_17 : fx_wN "FrameSwapper$Picture" 17 0 mq_RE_init "FrameSwapper" := ⟨⟨kc_RE_init, kn_RE, ⟨by decide, by decide⟩, by decide +kernel, fx_m1 51 (by decide +kernel)⟩, ki_RE_init, rfl, rfl, rfl⟩
theorem sq_RE_1 : Cond.methodLink "FrameSwapper$Rectangle" 1 ⟨"java/lang/Object", "<init>", "()V"⟩ ∈ fx_tb := fx_m1 54 (by decide +kernel)
theorem sq_CO_3 : Cond.methodLink "FrameSwapper$Composer" 3 ⟨"java/lang/Object", "<init>", "()V"⟩ ∈ fx_tb := fx_m1 193 (by decide +kernel)
theorem sq_CO_11 : fx_wI "FrameSwapper$Composer" 11 0 mq_PL_init := ⟨⟨kc_PL_init, kn_PL, ⟨by decide, by decide⟩, by decide +kernel, fx_m1 195 (by decide +kernel)⟩, ki_PL_init, rfl, rfl, rfl⟩
theorem sq_CO_20 : fx_wN "FrameSwapper$Composer" 20 0 mq_PN_init "FrameSwapper" := ⟨⟨kc_PN_init, kn_PN, ⟨by decide, by decide⟩, by decide +kernel, fx_m1 198 (by decide +kernel)⟩, ki_PN_init, rfl, rfl, rfl⟩
theorem sq_CO_37 : fx_wN "FrameSwapper$Composer" 37 0 mq_ME_init "FrameSwapper" := ⟨⟨kc_ME_init, kn_ME, ⟨by decide, by decide⟩, by decide +kernel, fx_m1 221 (by decide +kernel)⟩, ki_ME_init, rfl, rfl, rfl⟩
theorem sq_CO_49 : fx_wN "FrameSwapper$Composer" 49 0 mq_RE_init "FrameSwapper" := ⟨⟨kc_RE_init, kn_RE, ⟨by decide, by decide⟩, by decide +kernel, fx_m1 254 (by decide +kernel)⟩, ki_RE_init, rfl, rfl, rfl⟩
theorem sq_PN_3 : Cond.methodLink "FrameSwapper$Planes" 3 ⟨"java/lang/Object", "<init>", "()V"⟩ ∈ fx_tb := fx_m1 201 (by decide +kernel)
theorem sq_PN_17 : fx_wN "FrameSwapper$Planes" 17 0 mq_RE_init "FrameSwapper" := ⟨⟨kc_RE_init, kn_RE, ⟨by decide, by decide⟩, by decide +kernel, fx_m1 204 (by decide +kernel)⟩, ki_RE_init, rfl, rfl, rfl⟩
theorem sq_ME_3 : Cond.methodLink "FrameSwapper$Memory" 3 ⟨"java/lang/Object", "<init>", "()V"⟩ ∈ fx_tb := fx_m1 224 (by decide +kernel)
theorem sq_ME_17 : fx_wI "FrameSwapper$Memory" 17 0 mq_MI_init := ⟨⟨kc_MI_init, kn_MI, ⟨by decide, by decide⟩, by decide +kernel, fx_m1 227 (by decide +kernel)⟩, ki_MI_init, rfl, rfl, rfl⟩
theorem sq_MI_3 : Cond.methodLink "FrameSwapper$Misses" 3 ⟨"java/lang/Object", "<init>", "()V"⟩ ∈ fx_tb := fx_m1 230 (by decide +kernel)
theorem sq_MI_17 : fx_wN "FrameSwapper$Misses" 17 0 mq_RE_init "FrameSwapper" := ⟨⟨kc_RE_init, kn_RE, ⟨by decide, by decide⟩, by decide +kernel, fx_m1 232 (by decide +kernel)⟩, ki_RE_init, rfl, rfl, rfl⟩
theorem sq_BE_3 : Cond.methodLink "FrameSwapper$Beam" 3 ⟨"java/lang/Object", "<init>", "()V"⟩ ∈ fx_tb := fx_m1 300 (by decide +kernel)
theorem sq_BE_11 : fx_wN "FrameSwapper$Beam" 11 0 mq_PN_init "FrameSwapper" := ⟨⟨kc_PN_init, kn_PN, ⟨by decide, by decide⟩, by decide +kernel, fx_m1 302 (by decide +kernel)⟩, ki_PN_init, rfl, rfl, rfl⟩
theorem sq_FS_188 : fx_wV "FrameSwapper" 188 1 mq_BE_endFrame 9 := ⟨⟨kc_BE_endFrame, kn_BE, ⟨by decide, by decide⟩, by decide +kernel, fx_m1 363 (by decide +kernel)⟩, ki_BE_endFrame, ke_BE_endFrame, _, rfl, rfl⟩
theorem sq_FS_191 : fx_wV "FrameSwapper" 191 0 mq_CO_swap 8 := ⟨⟨kc_CO_swap, kn_CO, ⟨by decide, by decide⟩, by decide +kernel, fx_m1 367 (by decide +kernel)⟩, ki_CO_swap, ke_CO_swap, _, rfl, rfl⟩
theorem sq_FS_201 : fx_wV "FrameSwapper" 201 1 mq_PN_become 7 := ⟨⟨kc_PN_become, kn_PN, ⟨by decide, by decide⟩, by decide +kernel, fx_m1 371 (by decide +kernel)⟩, ki_PN_become, ke_PN_become, _, rfl, rfl⟩
theorem sq_FS_181 : fx_wV "FrameSwapper" 181 1 mq_BE_scanRow 9 := ⟨⟨kc_BE_scanRow, kn_BE, ⟨by decide, by decide⟩, by decide +kernel, fx_m1 351 (by decide +kernel)⟩, ki_BE_scanRow, ke_BE_scanRow, _, rfl, rfl⟩
theorem sq_BE_34 : Cond.methodLink "FrameSwapper$Beam" 34 ⟨"java/lang/System", "arraycopy", "(Ljava/lang/Object;ILjava/lang/Object;II)V"⟩ ∈ fx_tb := fx_m1 355 (by decide +kernel)
theorem sq_BE_40 : fx_wV "FrameSwapper$Beam" 40 2 mq_PN_mixInto 7 := ⟨⟨kc_PN_mixInto, kn_PN, ⟨by decide, by decide⟩, by decide +kernel, fx_m1 358 (by decide +kernel)⟩, ki_PN_mixInto, ke_PN_mixInto, _, rfl, rfl⟩
theorem sq_PN_31 : Cond.methodLink "FrameSwapper$Planes" 31 ⟨"java/lang/System", "arraycopy", "(Ljava/lang/Object;ILjava/lang/Object;II)V"⟩ ∈ fx_tb := fx_m1 362 (by decide +kernel)
theorem sq_PN_27 : fx_wV "FrameSwapper$Planes" 27 1 mq_RE_become 1 := ⟨⟨kc_RE_become, kn_RE, ⟨by decide, by decide⟩, by decide +kernel, fx_m1 375 (by decide +kernel)⟩, ki_RE_become, ke_RE_become, _, rfl, rfl⟩
theorem sq_RE_22 : fx_wV "FrameSwapper$Rectangle" 22 4 mq_RE_set 1 := ⟨⟨kc_RE_set, kn_RE, ⟨by decide, by decide⟩, by decide +kernel, fx_m1 379 (by decide +kernel)⟩, ki_RE_set, ke_RE_set, _, rfl, rfl⟩
theorem sq_FS_206 : fx_wS "FrameSwapper" 206 2 mq_FS_isOnScreen := ⟨⟨kc_FS_isOnScreen, kn_FS, ⟨by decide, by decide⟩, by decide +kernel, fx_m1 391 (by decide +kernel)⟩, ks_FS_isOnScreen⟩
theorem sq_FS_48 : fx_wS "FrameSwapper" 48 3 mq_FS_isWithin := ⟨⟨kc_FS_isWithin, kn_FS, ⟨by decide, by decide⟩, by decide +kernel, fx_m1 394 (by decide +kernel)⟩, ks_FS_isWithin⟩
theorem sq_FS_217 : fx_wV "FrameSwapper" 217 2 mq_PL_colorAt 3 := ⟨⟨kc_PL_colorAt, kn_PL, ⟨by decide, by decide⟩, by decide +kernel, fx_m1 401 (by decide +kernel)⟩, ki_PL_colorAt, ke_PL_colorAt, _, rfl, rfl⟩
theorem sq_PL_44 : fx_wV "FrameSwapper$Pile" 44 2 mq_RE_has 1 := ⟨⟨kc_RE_has, kn_RE, ⟨by decide, by decide⟩, by decide +kernel, fx_m1 405 (by decide +kernel)⟩, ki_RE_has, ke_RE_has, _, rfl, rfl⟩
theorem sq_PL_50 : fx_wV "FrameSwapper$Pile" 50 2 mq_PI_colorAt 2 := ⟨⟨kc_PI_colorAt, kn_PI, ⟨by decide, by decide⟩, by decide +kernel, fx_m1 409 (by decide +kernel)⟩, ki_PI_colorAt, ke_PI_colorAt, _, rfl, rfl⟩
theorem sq_PL_57 : fx_wSN "FrameSwapper$Pile" 57 3 mq_FS_mix "FrameSwapper" := ⟨⟨kc_FS_mix, kn_FS, ⟨by decide, by decide⟩, by decide +kernel, fx_m1 413 (by decide +kernel)⟩, ks_FS_mix⟩
theorem sq_FS_258 : fx_wS "FrameSwapper" 258 3 mq_FS_mixPart := ⟨⟨kc_FS_mixPart, kn_FS, ⟨by decide, by decide⟩, by decide +kernel, fx_m1 416 (by decide +kernel)⟩, ks_FS_mixPart⟩
theorem sq_LA_7 : fx_wV "FrameSwapperLaw" 7 3 mq_FS_surface 0 := ⟨⟨kc_FS_surface, kn_FS, ⟨by decide, by decide⟩, by decide +kernel, fx_m1 440 (by decide +kernel)⟩, ki_FS_surface, ke_FS_surface, _, rfl, rfl⟩
theorem sq_FS_44 : fx_wS "FrameSwapper" 44 1 mq_FS_isClient := ⟨⟨kc_FS_isClient, kn_FS, ⟨by decide, by decide⟩, by decide +kernel, fx_m1 444 (by decide +kernel)⟩, ks_FS_isClient⟩
theorem sq_FS_52 : fx_wS "FrameSwapper" 52 1 mq_FS_demand := ⟨⟨kc_FS_demand, kn_FS, ⟨by decide, by decide⟩, by decide +kernel, fx_m1 447 (by decide +kernel)⟩, ks_FS_demand⟩
theorem sq_FS_56 : fx_wV "FrameSwapper" 56 0 mq_DE_lowestFreeNumber 4 := ⟨⟨kc_DE_lowestFreeNumber, kn_DE, ⟨by decide, by decide⟩, by decide +kernel, fx_m1 513 (by decide +kernel)⟩, ki_DE_lowestFreeNumber, ke_DE_lowestFreeNumber, _, rfl, rfl⟩
theorem sq_FS_66 : Cond.methodLink "FrameSwapper" 66 ⟨"java/lang/IllegalStateException", "<init>", "()V"⟩ ∈ fx_tb := fx_m1 526 (by decide +kernel)
theorem sq_FS_67 : fx_wV "FrameSwapper" 67 4 mq_DE_open 4 := ⟨⟨kc_DE_open, kn_DE, ⟨by decide, by decide⟩, by decide +kernel, fx_m1 532 (by decide +kernel)⟩, ki_DE_open, ke_DE_open, _, rfl, rfl⟩
theorem sq_FS_256 : Cond.methodLink "FrameSwapper" 256 ⟨"java/lang/IllegalArgumentException", "<init>", "()V"⟩ ∈ fx_tb := fx_m1 491 (by decide +kernel)
theorem sq_DE_44 : fx_wV "FrameSwapper$Desk" 44 2 mq_PI_start 2 := ⟨⟨kc_PI_start, kn_PI, ⟨by decide, by decide⟩, by decide +kernel, fx_m1 536 (by decide +kernel)⟩, ki_PI_start, ke_PI_start, _, rfl, rfl⟩
theorem sq_PI_51 : fx_wS "FrameSwapper$Picture" 51 2 mq_AR_fill := ⟨⟨kc_AR_fill, kn_AR, ⟨by decide, by decide⟩, by decide +kernel, fx_m1 540 (by decide +kernel)⟩, ks_AR_fill⟩
theorem sq_PI_57 : fx_wV "FrameSwapper$Picture" 57 4 mq_RE_set 1 := ⟨⟨kc_RE_set, kn_RE, ⟨by decide, by decide⟩, by decide +kernel, fx_m1 543 (by decide +kernel)⟩, ki_RE_set, ke_RE_set, _, rfl, rfl⟩
theorem sq_PI_61 : fx_wV "FrameSwapper$Picture" 61 0 mq_PI_findShown 2 := ⟨⟨kc_PI_findShown, kn_PI, ⟨by decide, by decide⟩, by decide +kernel, fx_m1 544 (by decide +kernel)⟩, ki_PI_findShown, ke_PI_findShown, _, rfl, rfl⟩
theorem sq_PI_70 : fx_wV "FrameSwapper$Picture" 70 1 mq_RE_become 1 := ⟨⟨kc_RE_become, kn_RE, ⟨by decide, by decide⟩, by decide +kernel, fx_m1 548 (by decide +kernel)⟩, ki_RE_become, ke_RE_become, _, rfl, rfl⟩
theorem sq_PI_74 : fx_wV "FrameSwapper$Picture" 74 2 mq_RE_shift 1 := ⟨⟨kc_RE_shift, kn_RE, ⟨by decide, by decide⟩, by decide +kernel, fx_m1 549 (by decide +kernel)⟩, ki_RE_shift, ke_RE_shift, _, rfl, rfl⟩
theorem sq_PI_78 : fx_wV "FrameSwapper$Picture" 78 2 mq_RE_cut 1 := ⟨⟨kc_RE_cut, kn_RE, ⟨by decide, by decide⟩, by decide +kernel, fx_m1 553 (by decide +kernel)⟩, ki_RE_cut, ke_RE_cut, _, rfl, rfl⟩
theorem sq_RE_26 : Cond.methodLink "FrameSwapper$Rectangle" 26 ⟨"java/lang/Math", "min", "(II)I"⟩ ∈ fx_tb := fx_m1 557 (by decide +kernel)
theorem sq_RE_32 : Cond.methodLink "FrameSwapper$Rectangle" 32 ⟨"java/lang/Math", "max", "(II)I"⟩ ∈ fx_tb := fx_m1 560 (by decide +kernel)
theorem sq_LA_17 : fx_wV "FrameSwapperLaw" 17 1 mq_FS_destroy 0 := ⟨⟨kc_FS_destroy, kn_FS, ⟨by decide, by decide⟩, by decide +kernel, fx_m1 566 (by decide +kernel)⟩, ki_FS_destroy, ke_FS_destroy, _, rfl, rfl⟩
theorem sq_FS_71 : fx_wV "FrameSwapper" 71 1 mq_DE_hasDraft 4 := ⟨⟨kc_DE_hasDraft, kn_DE, ⟨by decide, by decide⟩, by decide +kernel, fx_m1 570 (by decide +kernel)⟩, ki_DE_hasDraft, ke_DE_hasDraft, _, rfl, rfl⟩
theorem sq_FS_78 : fx_wV "FrameSwapper" 78 0 mq_PI_remove 2 := ⟨⟨kc_PI_remove, kn_PI, ⟨by decide, by decide⟩, by decide +kernel, fx_m1 574 (by decide +kernel)⟩, ki_PI_remove, ke_PI_remove, _, rfl, rfl⟩
theorem sq_LA_21 : fx_wV "FrameSwapperLaw" 21 6 mq_FS_place 0 := ⟨⟨kc_FS_place, kn_FS, ⟨by decide, by decide⟩, by decide +kernel, fx_m1 581 (by decide +kernel)⟩, ki_FS_place, ke_FS_place, _, rfl, rfl⟩
theorem sq_FS_100 : fx_wV "FrameSwapper" 100 0 mq_PI_findShown 2 := ⟨⟨kc_PI_findShown, kn_PI, ⟨by decide, by decide⟩, by decide +kernel, fx_m1 588 (by decide +kernel)⟩, ki_PI_findShown, ke_PI_findShown, _, rfl, rfl⟩
theorem sq_FS_81 : fx_wS "FrameSwapper" 81 1 mq_FS_isPlace := ⟨⟨kc_FS_isPlace, kn_FS, ⟨by decide, by decide⟩, by decide +kernel, fx_m1 585 (by decide +kernel)⟩, ks_FS_isPlace⟩
theorem sq_LA_25 : fx_wV "FrameSwapperLaw" 25 5 mq_FS_clip 0 := ⟨⟨kc_FS_clip, kn_FS, ⟨by decide, by decide⟩, by decide +kernel, fx_m1 592 (by decide +kernel)⟩, ki_FS_clip, ke_FS_clip, _, rfl, rfl⟩
theorem sq_FS_110 : fx_wV "FrameSwapper" 110 4 mq_RE_set 1 := ⟨⟨kc_RE_set, kn_RE, ⟨by decide, by decide⟩, by decide +kernel, fx_m1 599 (by decide +kernel)⟩, ki_RE_set, ke_RE_set, _, rfl, rfl⟩
theorem sq_FS_119 : fx_wV "FrameSwapper" 119 2 mq_RE_cut 1 := ⟨⟨kc_RE_cut, kn_RE, ⟨by decide, by decide⟩, by decide +kernel, fx_m1 600 (by decide +kernel)⟩, ki_RE_cut, ke_RE_cut, _, rfl, rfl⟩
theorem sq_FS_103 : fx_wS "FrameSwapper" 103 4 mq_FS_isArea := ⟨⟨kc_FS_isArea, kn_FS, ⟨by decide, by decide⟩, by decide +kernel, fx_m1 596 (by decide +kernel)⟩, ks_FS_isArea⟩
theorem sq_LA_29 : fx_wV "FrameSwapperLaw" 29 4 mq_FS_put 0 := ⟨⟨kc_FS_put, kn_FS, ⟨by decide, by decide⟩, by decide +kernel, fx_m1 605 (by decide +kernel)⟩, ki_FS_put, ke_FS_put, _, rfl, rfl⟩
theorem sq_FS_128 : Cond.methodLink "FrameSwapper" 128 ⟨"java/lang/IndexOutOfBoundsException", "<init>", "()V"⟩ ∈ fx_tb := fx_m1 622 (by decide +kernel)
theorem sq_FS_123 : fx_wS "FrameSwapper" 123 1 mq_FS_isColor := ⟨⟨kc_FS_isColor, kn_FS, ⟨by decide, by decide⟩, by decide +kernel, fx_m1 609 (by decide +kernel)⟩, ks_FS_isColor⟩
theorem sq_LA_35 : fx_wV "FrameSwapperLaw" 35 6 mq_FS_fill 0 := ⟨⟨kc_FS_fill, kn_FS, ⟨by decide, by decide⟩, by decide +kernel, fx_m1 631 (by decide +kernel)⟩, ki_FS_fill, ke_FS_fill, _, rfl, rfl⟩
theorem sq_FS_133 : fx_wV "FrameSwapper" 133 2 mq_PI_paintOver 2 := ⟨⟨kc_PI_paintOver, kn_PI, ⟨by decide, by decide⟩, by decide +kernel, fx_m1 635 (by decide +kernel)⟩, ki_PI_paintOver, ke_PI_paintOver, _, rfl, rfl⟩
theorem sq_FS_137 : fx_wV "FrameSwapper" 137 0 mq_RE_pixels 1 := ⟨⟨kc_RE_pixels, kn_RE, ⟨by decide, by decide⟩, by decide +kernel, fx_m1 639 (by decide +kernel)⟩, ki_RE_pixels, ke_RE_pixels, _, rfl, rfl⟩
theorem sq_LA_39 : fx_wV "FrameSwapperLaw" 39 8 mq_FS_copy 0 := ⟨⟨kc_FS_copy, kn_FS, ⟨by decide, by decide⟩, by decide +kernel, fx_m1 646 (by decide +kernel)⟩, ki_FS_copy, ke_FS_copy, _, rfl, rfl⟩
theorem sq_FS_142 : fx_wV "FrameSwapper" 142 2 mq_RE_shift 1 := ⟨⟨kc_RE_shift, kn_RE, ⟨by decide, by decide⟩, by decide +kernel, fx_m1 650 (by decide +kernel)⟩, ki_RE_shift, ke_RE_shift, _, rfl, rfl⟩
theorem sq_FS_145 : fx_wV "FrameSwapper" 145 1 mq_PI_become 2 := ⟨⟨kc_PI_become, kn_PI, ⟨by decide, by decide⟩, by decide +kernel, fx_m1 651 (by decide +kernel)⟩, ki_PI_become, ke_PI_become, _, rfl, rfl⟩
theorem sq_FS_149 : fx_wV "FrameSwapper" 149 2 mq_PI_layDown 2 := ⟨⟨kc_PI_layDown, kn_PI, ⟨by decide, by decide⟩, by decide +kernel, fx_m1 656 (by decide +kernel)⟩, ki_PI_layDown, ke_PI_layDown, _, rfl, rfl⟩
theorem sq_PI_64 : Cond.methodLink "FrameSwapper$Picture" 64 ⟨"java/lang/System", "arraycopy", "(Ljava/lang/Object;ILjava/lang/Object;II)V"⟩ ∈ fx_tb := fx_m1 655 (by decide +kernel)
theorem sq_PI_85 : fx_wV "FrameSwapper$Picture" 85 2 mq_PI_colorAt 2 := ⟨⟨kc_PI_colorAt, kn_PI, ⟨by decide, by decide⟩, by decide +kernel, fx_m1 660 (by decide +kernel)⟩, ki_PI_colorAt, ke_PI_colorAt, _, rfl, rfl⟩
theorem sq_LA_43 : fx_wV "FrameSwapperLaw" 43 1 mq_FS_commit 0 := ⟨⟨kc_FS_commit, kn_FS, ⟨by decide, by decide⟩, by decide +kernel, fx_m1 664 (by decide +kernel)⟩, ki_FS_commit, ke_FS_commit, _, rfl, rfl⟩
theorem sq_FS_159 : fx_wV "FrameSwapper" 159 1 mq_DE_commitAll 4 := ⟨⟨kc_DE_commitAll, kn_DE, ⟨by decide, by decide⟩, by decide +kernel, fx_m1 668 (by decide +kernel)⟩, ki_DE_commitAll, ke_DE_commitAll, _, rfl, rfl⟩
theorem sq_DE_55 : fx_wV "FrameSwapper$Desk" 55 0 mq_PL_sort 3 := ⟨⟨kc_PL_sort, kn_PL, ⟨by decide, by decide⟩, by decide +kernel, fx_m1 673 (by decide +kernel)⟩, ki_PL_sort, ke_PL_sort, _, rfl, rfl⟩
theorem sq_DE_51 : fx_wV "FrameSwapper$Desk" 51 1 mq_PI_become 2 := ⟨⟨kc_PI_become, kn_PI, ⟨by decide, by decide⟩, by decide +kernel, fx_m1 672 (by decide +kernel)⟩, ki_PI_become, ke_PI_become, _, rfl, rfl⟩
theorem sq_LA_47 : fx_wV "FrameSwapperLaw" 47 1 mq_FS_draw 0 := ⟨⟨kc_FS_draw, kn_FS, ⟨by decide, by decide⟩, by decide +kernel, fx_m1 680 (by decide +kernel)⟩, ki_FS_draw, ke_FS_draw, _, rfl, rfl⟩
theorem sq_FS_170 : fx_wV "FrameSwapper" 170 1 mq_CO_makeSteps 8 := ⟨⟨kc_CO_makeSteps, kn_CO, ⟨by decide, by decide⟩, by decide +kernel, fx_m1 772 (by decide +kernel)⟩, ki_CO_makeSteps, ke_CO_makeSteps, _, rfl, rfl⟩
theorem sq_FS_166 : fx_wV "FrameSwapper" 166 1 mq_CO_begin 8 := ⟨⟨kc_CO_begin, kn_CO, ⟨by decide, by decide⟩, by decide +kernel, fx_m1 684 (by decide +kernel)⟩, ki_CO_begin, ke_CO_begin, _, rfl, rfl⟩
theorem sq_CO_50 : fx_wV "FrameSwapper$Composer" 50 0 mq_CO_rememberBefore 8 := ⟨⟨kc_CO_rememberBefore, kn_CO, ⟨by decide, by decide⟩, by decide +kernel, fx_m1 688 (by decide +kernel)⟩, ki_CO_rememberBefore, ke_CO_rememberBefore, _, rfl, rfl⟩
theorem sq_CO_58 : fx_wV "FrameSwapper$Composer" 58 1 mq_PL_become 3 := ⟨⟨kc_PL_become, kn_PL, ⟨by decide, by decide⟩, by decide +kernel, fx_m1 697 (by decide +kernel)⟩, ki_PL_become, ke_PL_become, _, rfl, rfl⟩
theorem sq_CO_68 : fx_wV "FrameSwapper$Composer" 68 1 mq_PN_choose 7 := ⟨⟨kc_PN_choose, kn_PN, ⟨by decide, by decide⟩, by decide +kernel, fx_m1 703 (by decide +kernel)⟩, ki_PN_choose, ke_PN_choose, _, rfl, rfl⟩
theorem sq_CO_71 : fx_wV "FrameSwapper$Composer" 71 1 mq_CO_noteChanges 8 := ⟨⟨kc_CO_noteChanges, kn_CO, ⟨by decide, by decide⟩, by decide +kernel, fx_m1 726 (by decide +kernel)⟩, ki_CO_noteChanges, ke_CO_noteChanges, _, rfl, rfl⟩
theorem sq_CO_75 : fx_wV "FrameSwapper$Composer" 75 0 mq_DE_allTaken 4 := ⟨⟨kc_DE_allTaken, kn_DE, ⟨by decide, by decide⟩, by decide +kernel, fx_m1 764 (by decide +kernel)⟩, ki_DE_allTaken, ke_DE_allTaken, _, rfl, rfl⟩
theorem sq_CO_78 : fx_wV "FrameSwapper$Composer" 78 1 mq_CO_startHole 8 := ⟨⟨kc_CO_startHole, kn_CO, ⟨by decide, by decide⟩, by decide +kernel, fx_m1 768 (by decide +kernel)⟩, ki_CO_startHole, ke_CO_startHole, _, rfl, rfl⟩
theorem sq_CO_82 : fx_wV "FrameSwapper$Composer" 82 1 mq_PN_has 7 := ⟨⟨kc_PN_has, kn_PN, ⟨by decide, by decide⟩, by decide +kernel, fx_m1 692 (by decide +kernel)⟩, ki_PN_has, ke_PN_has, _, rfl, rfl⟩
theorem sq_CO_96 : fx_wV "FrameSwapper$Composer" 96 1 mq_RE_become 1 := ⟨⟨kc_RE_become, kn_RE, ⟨by decide, by decide⟩, by decide +kernel, fx_m1 696 (by decide +kernel)⟩, ki_RE_become, ke_RE_become, _, rfl, rfl⟩
theorem sq_PL_37 : fx_wV "FrameSwapper$Pile" 37 0 mq_PL_sort 3 := ⟨⟨kc_PL_sort, kn_PL, ⟨by decide, by decide⟩, by decide +kernel, fx_m1 702 (by decide +kernel)⟩, ki_PL_sort, ke_PL_sort, _, rfl, rfl⟩
theorem sq_PL_33 : fx_wV "FrameSwapper$Pile" 33 1 mq_PI_become 2 := ⟨⟨kc_PI_become, kn_PI, ⟨by decide, by decide⟩, by decide +kernel, fx_m1 701 (by decide +kernel)⟩, ki_PI_become, ke_PI_become, _, rfl, rfl⟩
theorem sq_PN_37 : fx_wS "FrameSwapper$Planes" 37 2 mq_AR_fill := ⟨⟨kc_AR_fill, kn_AR, ⟨by decide, by decide⟩, by decide +kernel, fx_m1 707 (by decide +kernel)⟩, ks_AR_fill⟩
theorem sq_PN_49 : fx_wV "FrameSwapper$Planes" 49 2 mq_PN_isFit 7 := ⟨⟨kc_PN_isFit, kn_PN, ⟨by decide, by decide⟩, by decide +kernel, fx_m1 708 (by decide +kernel)⟩, ki_PN_isFit, ke_PN_isFit, _, rfl, rfl⟩
theorem sq_PN_60 : fx_wV "FrameSwapper$Planes" 60 3 mq_PN_give 7 := ⟨⟨kc_PN_give, kn_PN, ⟨by decide, by decide⟩, by decide +kernel, fx_m1 721 (by decide +kernel)⟩, ki_PN_give, ke_PN_give, _, rfl, rfl⟩
theorem sq_PN_72 : fx_wV "FrameSwapper$Planes" 72 0 mq_RE_isEmpty 1 := ⟨⟨kc_RE_isEmpty, kn_RE, ⟨by decide, by decide⟩, by decide +kernel, fx_m1 712 (by decide +kernel)⟩, ki_RE_isEmpty, ke_RE_isEmpty, _, rfl, rfl⟩
theorem sq_PN_76 : fx_wV "FrameSwapper$Planes" 76 0 mq_RE_pixels 1 := ⟨⟨kc_RE_pixels, kn_RE, ⟨by decide, by decide⟩, by decide +kernel, fx_m1 716 (by decide +kernel)⟩, ki_RE_pixels, ke_RE_pixels, _, rfl, rfl⟩
theorem sq_PN_80 : fx_wV "FrameSwapper$Planes" 80 1 mq_RE_meets 1 := ⟨⟨kc_RE_meets, kn_RE, ⟨by decide, by decide⟩, by decide +kernel, fx_m1 717 (by decide +kernel)⟩, ki_RE_meets, ke_RE_meets, _, rfl, rfl⟩
theorem sq_PN_96 : fx_wV "FrameSwapper$Planes" 96 2 mq_PI_colorAt 2 := ⟨⟨kc_PI_colorAt, kn_PI, ⟨by decide, by decide⟩, by decide +kernel, fx_m1 725 (by decide +kernel)⟩, ki_PI_colorAt, ke_PI_colorAt, _, rfl, rfl⟩
theorem sq_CO_99 : fx_wV "FrameSwapper$Composer" 99 1 mq_DE_isWaiting 4 := ⟨⟨kc_DE_isWaiting, kn_DE, ⟨by decide, by decide⟩, by decide +kernel, fx_m1 730 (by decide +kernel)⟩, ki_DE_isWaiting, ke_DE_isWaiting, _, rfl, rfl⟩
theorem sq_CO_106 : fx_wV "FrameSwapper$Composer" 106 1 mq_MI_add 5 := ⟨⟨kc_MI_add, kn_MI, ⟨by decide, by decide⟩, by decide +kernel, fx_m1 734 (by decide +kernel)⟩, ki_MI_add, ke_MI_add, _, rfl, rfl⟩
theorem sq_MI_18 : fx_wV "FrameSwapper$Misses" 18 0 mq_RE_isEmpty 1 := ⟨⟨kc_RE_isEmpty, kn_RE, ⟨by decide, by decide⟩, by decide +kernel, fx_m1 738 (by decide +kernel)⟩, ki_RE_isEmpty, ke_RE_isEmpty, _, rfl, rfl⟩
theorem sq_MI_22 : fx_wV "FrameSwapper$Misses" 22 1 mq_MI_isCovered 5 := ⟨⟨kc_MI_isCovered, kn_MI, ⟨by decide, by decide⟩, by decide +kernel, fx_m1 739 (by decide +kernel)⟩, ki_MI_isCovered, ke_MI_isCovered, _, rfl, rfl⟩
theorem sq_MI_30 : fx_wV "FrameSwapper$Misses" 30 1 mq_RE_become 1 := ⟨⟨kc_RE_become, kn_RE, ⟨by decide, by decide⟩, by decide +kernel, fx_m1 747 (by decide +kernel)⟩, ki_RE_become, ke_RE_become, _, rfl, rfl⟩
theorem sq_MI_34 : fx_wV "FrameSwapper$Misses" 34 0 mq_MI_joinNearest 5 := ⟨⟨kc_MI_joinNearest, kn_MI, ⟨by decide, by decide⟩, by decide +kernel, fx_m1 748 (by decide +kernel)⟩, ki_MI_joinNearest, ke_MI_joinNearest, _, rfl, rfl⟩
theorem sq_MI_37 : fx_wV "FrameSwapper$Misses" 37 1 mq_RE_contains 1 := ⟨⟨kc_RE_contains, kn_RE, ⟨by decide, by decide⟩, by decide +kernel, fx_m1 743 (by decide +kernel)⟩, ki_RE_contains, ke_RE_contains, _, rfl, rfl⟩
theorem sq_MI_40 : fx_wV "FrameSwapper$Misses" 40 1 mq_RE_wasteWith 1 := ⟨⟨kc_RE_wasteWith, kn_RE, ⟨by decide, by decide⟩, by decide +kernel, fx_m1 752 (by decide +kernel)⟩, ki_RE_wasteWith, ke_RE_wasteWith, _, rfl, rfl⟩
theorem sq_MI_44 : fx_wV "FrameSwapper$Misses" 44 1 mq_RE_growOver 1 := ⟨⟨kc_RE_growOver, kn_RE, ⟨by decide, by decide⟩, by decide +kernel, fx_m1 756 (by decide +kernel)⟩, ki_RE_growOver, ke_RE_growOver, _, rfl, rfl⟩
theorem sq_MI_47 : fx_wV "FrameSwapper$Misses" 47 1 mq_MI_dropAt 5 := ⟨⟨kc_MI_dropAt, kn_MI, ⟨by decide, by decide⟩, by decide +kernel, fx_m1 760 (by decide +kernel)⟩, ki_MI_dropAt, ke_MI_dropAt, _, rfl, rfl⟩
theorem sq_CO_120 : fx_wV "FrameSwapper$Composer" 120 0 mq_CO_makeStep 8 := ⟨⟨kc_CO_makeStep, kn_CO, ⟨by decide, by decide⟩, by decide +kernel, fx_m1 776 (by decide +kernel)⟩, ki_CO_makeStep, ke_CO_makeStep, _, rfl, rfl⟩
theorem sq_CO_133 : fx_wV "FrameSwapper$Composer" 133 2 mq_ME_paint 6 := ⟨⟨kc_ME_paint, kn_ME, ⟨by decide, by decide⟩, by decide +kernel, fx_m1 784 (by decide +kernel)⟩, ki_ME_paint, ke_ME_paint, _, rfl, rfl⟩
theorem sq_CO_137 : fx_wV "FrameSwapper$Composer" 137 1 mq_CO_nextLevel 8 := ⟨⟨kc_CO_nextLevel, kn_CO, ⟨by decide, by decide⟩, by decide +kernel, fx_m1 791 (by decide +kernel)⟩, ki_CO_nextLevel, ke_CO_nextLevel, _, rfl, rfl⟩
theorem sq_CO_126 : fx_wV "FrameSwapper$Composer" 126 1 mq_ME_blacken 6 := ⟨⟨kc_ME_blacken, kn_ME, ⟨by decide, by decide⟩, by decide +kernel, fx_m1 780 (by decide +kernel)⟩, ki_ME_blacken, ke_ME_blacken, _, rfl, rfl⟩
theorem sq_ME_43 : fx_wV "FrameSwapper$Memory" 43 2 mq_RE_has 1 := ⟨⟨kc_RE_has, kn_RE, ⟨by decide, by decide⟩, by decide +kernel, fx_m1 788 (by decide +kernel)⟩, ki_RE_has, ke_RE_has, _, rfl, rfl⟩
theorem sq_ME_47 : fx_wV "FrameSwapper$Memory" 47 2 mq_PI_colorAt 2 := ⟨⟨kc_PI_colorAt, kn_PI, ⟨by decide, by decide⟩, by decide +kernel, fx_m1 789 (by decide +kernel)⟩, ki_PI_colorAt, ke_PI_colorAt, _, rfl, rfl⟩
theorem sq_ME_54 : fx_wSN "FrameSwapper$Memory" 54 3 mq_FS_mix "FrameSwapper" := ⟨⟨kc_FS_mix, kn_FS, ⟨by decide, by decide⟩, by decide +kernel, fx_m1 790 (by decide +kernel)⟩, ks_FS_mix⟩
theorem sq_CO_144 : fx_wV "FrameSwapper$Composer" 144 1 mq_RE_meets 1 := ⟨⟨kc_RE_meets, kn_RE, ⟨by decide, by decide⟩, by decide +kernel, fx_m1 795 (by decide +kernel)⟩, ki_RE_meets, ke_RE_meets, _, rfl, rfl⟩
theorem sq_MO_1 : Cond.methodLink "FrameSwapperModel" 1 ⟨"java/lang/Object", "<init>", "()V"⟩ ∈ fx_tb := fx_m1 801 (by decide +kernel)
theorem sq_MO_129 : fx_wS "FrameSwapperModel" 129 3 mq_MO_within := ⟨⟨kc_MO_within, kn_MO, ⟨by decide, by decide⟩, by decide +kernel, fx_m1 967 (by decide +kernel)⟩, ks_MO_within⟩
theorem sq_MO_133 : fx_wV "FrameSwapperModel" 133 0 mq_MO_freePixels 10 := ⟨⟨kc_MO_freePixels, kn_MO, ⟨by decide, by decide⟩, by decide +kernel, fx_m1 970 (by decide +kernel)⟩, ki_MO_freePixels, ke_MO_freePixels, _, rfl, rfl⟩
theorem sq_MO_137 : fx_wV "FrameSwapperModel" 137 1 mq_MO_hasDraft 10 := ⟨⟨kc_MO_hasDraft, kn_MO, ⟨by decide, by decide⟩, by decide +kernel, fx_m1 978 (by decide +kernel)⟩, ki_MO_hasDraft, ke_MO_hasDraft, _, rfl, rfl⟩
theorem sq_MO_153 : fx_wS "FrameSwapperModel" 153 4 mq_MO_isArea := ⟨⟨kc_MO_isArea, kn_MO, ⟨by decide, by decide⟩, by decide +kernel, fx_m1 990 (by decide +kernel)⟩, ks_MO_isArea⟩
theorem sq_MO_158 : fx_wV "FrameSwapperModel" 158 3 mq_MO_has 10 := ⟨⟨kc_MO_has, kn_MO, ⟨by decide, by decide⟩, by decide +kernel, fx_m1 998 (by decide +kernel)⟩, ki_MO_has, ke_MO_has, _, rfl, rfl⟩
theorem sq_MO_161 : fx_wV "FrameSwapperModel" 161 4 mq_MO_isCopy 10 := ⟨⟨kc_MO_isCopy, kn_MO, ⟨by decide, by decide⟩, by decide +kernel, fx_m1 1010 (by decide +kernel)⟩, ki_MO_isCopy, ke_MO_isCopy, _, rfl, rfl⟩
theorem sq_MO_170 : fx_wV "FrameSwapperModel" 170 2 mq_MO_copyPicture 10 := ⟨⟨kc_MO_copyPicture, kn_MO, ⟨by decide, by decide⟩, by decide +kernel, fx_m1 1018 (by decide +kernel)⟩, ki_MO_copyPicture, ke_MO_copyPicture, _, rfl, rfl⟩
theorem sq_MO_244 : fx_wV "FrameSwapperModel" 244 0 mq_MO_make 10 := ⟨⟨kc_MO_make, kn_MO, ⟨by decide, by decide⟩, by decide +kernel, fx_m1 1083 (by decide +kernel)⟩, ki_MO_make, ke_MO_make, _, rfl, rfl⟩
theorem sq_MO_241 : fx_wV "FrameSwapperModel" 241 0 mq_MO_begin 10 := ⟨⟨kc_MO_begin, kn_MO, ⟨by decide, by decide⟩, by decide +kernel, fx_m1 1026 (by decide +kernel)⟩, ki_MO_begin, ke_MO_begin, _, rfl, rfl⟩
theorem sq_MO_238 : fx_wV "FrameSwapperModel" 238 0 mq_MO_findStep 10 := ⟨⟨kc_MO_findStep, kn_MO, ⟨by decide, by decide⟩, by decide +kernel, fx_m1 1075 (by decide +kernel)⟩, ki_MO_findStep, ke_MO_findStep, _, rfl, rfl⟩
theorem sq_MO_210 : fx_wV "FrameSwapperModel" 210 0 mq_MO_choosePlanes 10 := ⟨⟨kc_MO_choosePlanes, kn_MO, ⟨by decide, by decide⟩, by decide +kernel, fx_m1 1042 (by decide +kernel)⟩, ki_MO_choosePlanes, ke_MO_choosePlanes, _, rfl, rfl⟩
theorem sq_MO_207 : fx_wV "FrameSwapperModel" 207 1 mq_MO_isPlane 10 := ⟨⟨kc_MO_isPlane, kn_MO, ⟨by decide, by decide⟩, by decide +kernel, fx_m1 1038 (by decide +kernel)⟩, ki_MO_isPlane, ke_MO_isPlane, _, rfl, rfl⟩
theorem sq_MO_213 : fx_wV "FrameSwapperModel" 213 0 mq_MO_miss 10 := ⟨⟨kc_MO_miss, kn_MO, ⟨by decide, by decide⟩, by decide +kernel, fx_m1 1054 (by decide +kernel)⟩, ki_MO_miss, ke_MO_miss, _, rfl, rfl⟩
theorem sq_MO_204 : fx_wV "FrameSwapperModel" 204 1 mq_MO_show 10 := ⟨⟨kc_MO_show, kn_MO, ⟨by decide, by decide⟩, by decide +kernel, fx_m1 1030 (by decide +kernel)⟩, ki_MO_show, ke_MO_show, _, rfl, rfl⟩
theorem sq_MO_174 : fx_wV "FrameSwapperModel" 174 4 mq_MO_cut 10 := ⟨⟨kc_MO_cut, kn_MO, ⟨by decide, by decide⟩, by decide +kernel, fx_m1 1034 (by decide +kernel)⟩, ki_MO_cut, ke_MO_cut, _, rfl, rfl⟩
theorem sq_MO_201 : fx_wV "FrameSwapperModel" 201 2 mq_MO_nth 10 := ⟨⟨kc_MO_nth, kn_MO, ⟨by decide, by decide⟩, by decide +kernel, fx_m1 1046 (by decide +kernel)⟩, ki_MO_nth, ke_MO_nth, _, rfl, rfl⟩
theorem sq_MO_178 : fx_wV "FrameSwapperModel" 178 2 mq_MO_isAbove 10 := ⟨⟨kc_MO_isAbove, kn_MO, ⟨by decide, by decide⟩, by decide +kernel, fx_m1 1050 (by decide +kernel)⟩, ki_MO_isAbove, ke_MO_isAbove, _, rfl, rfl⟩
theorem sq_MO_197 : fx_wV "FrameSwapperModel" 197 1 mq_MO_join 10 := ⟨⟨kc_MO_join, kn_MO, ⟨by decide, by decide⟩, by decide +kernel, fx_m1 1062 (by decide +kernel)⟩, ki_MO_join, ke_MO_join, _, rfl, rfl⟩
theorem sq_MO_194 : fx_wV "FrameSwapperModel" 194 2 mq_MO_lies 10 := ⟨⟨kc_MO_lies, kn_MO, ⟨by decide, by decide⟩, by decide +kernel, fx_m1 1058 (by decide +kernel)⟩, ki_MO_lies, ke_MO_lies, _, rfl, rfl⟩
theorem sq_MO_187 : fx_wV "FrameSwapperModel" 187 2 mq_MO_hullWide 10 := ⟨⟨kc_MO_hullWide, kn_MO, ⟨by decide, by decide⟩, by decide +kernel, fx_m1 1067 (by decide +kernel)⟩, ki_MO_hullWide, ke_MO_hullWide, _, rfl, rfl⟩
theorem sq_MO_191 : fx_wV "FrameSwapperModel" 191 2 mq_MO_hullHigh 10 := ⟨⟨kc_MO_hullHigh, kn_MO, ⟨by decide, by decide⟩, by decide +kernel, fx_m1 1071 (by decide +kernel)⟩, ki_MO_hullHigh, ke_MO_hullHigh, _, rfl, rfl⟩
theorem sq_MO_232 : fx_wV "FrameSwapperModel" 232 1 mq_MO_meet 10 := ⟨⟨kc_MO_meet, kn_MO, ⟨by decide, by decide⟩, by decide +kernel, fx_m1 1079 (by decide +kernel)⟩, ki_MO_meet, ke_MO_meet, _, rfl, rfl⟩
theorem sq_MO_235 : fx_wV "FrameSwapperModel" 235 1 mq_MO_paint 10 := ⟨⟨kc_MO_paint, kn_MO, ⟨by decide, by decide⟩, by decide +kernel, fx_m1 1087 (by decide +kernel)⟩, ki_MO_paint, ke_MO_paint, _, rfl, rfl⟩
theorem sq_MO_225 : fx_wV "FrameSwapperModel" 225 3 mq_MO_pixelOf 10 := ⟨⟨kc_MO_pixelOf, kn_MO, ⟨by decide, by decide⟩, by decide +kernel, fx_m1 1091 (by decide +kernel)⟩, ki_MO_pixelOf, ke_MO_pixelOf, _, rfl, rfl⟩
theorem sq_MO_229 : fx_wS "FrameSwapperModel" 229 3 mq_MO_mixed := ⟨⟨kc_MO_mixed, kn_MO, ⟨by decide, by decide⟩, by decide +kernel, fx_m1 1095 (by decide +kernel)⟩, ks_MO_mixed⟩
theorem sq_MO_182 : fx_wS "FrameSwapperModel" 182 5 mq_MO_part := ⟨⟨kc_MO_part, kn_MO, ⟨by decide, by decide⟩, by decide +kernel, fx_m1 1098 (by decide +kernel)⟩, ks_MO_part⟩
theorem sq_MO_259 : fx_wV "FrameSwapperModel" 259 0 mq_MO_look 10 := ⟨⟨kc_MO_look, kn_MO, ⟨by decide, by decide⟩, by decide +kernel, fx_m1 1105 (by decide +kernel)⟩, ki_MO_look, ke_MO_look, _, rfl, rfl⟩
theorem sq_MO_262 : fx_wV "FrameSwapperModel" 262 0 mq_MO_change 10 := ⟨⟨kc_MO_change, kn_MO, ⟨by decide, by decide⟩, by decide +kernel, fx_m1 1109 (by decide +kernel)⟩, ki_MO_change, ke_MO_change, _, rfl, rfl⟩
theorem sq_MO_265 : fx_wS "FrameSwapperModel" 265 2 mq_MO_isPixel := ⟨⟨kc_MO_isPixel, kn_MO, ⟨by decide, by decide⟩, by decide +kernel, fx_m1 1121 (by decide +kernel)⟩, ks_MO_isPixel⟩
set_option maxRecDepth 20000 in
theorem lq_FS : ∀ w ∈ u_ws Rq_FS Tq_FS 5, w ∈ fx_tb := fx_mU [336, 338, 340, 342, 344] (by decide +kernel)
set_option maxRecDepth 20000 in
theorem lq_RE : ∀ w ∈ u_ws Rq_RE Tq_RE 4, w ∈ fx_tb := fx_mU [75, 77, 79, 81] (by decide +kernel)
set_option maxRecDepth 20000 in
theorem lq_PI : ∀ w ∈ u_ws Rq_PI Tq_PI 11, w ∈ fx_tb := fx_mU [117, 119, 121, 123, 125, 127, 129, 131, 133, 135, 137] (by decide +kernel)
set_option maxRecDepth 20000 in
theorem lq_PL : ∀ w ∈ u_ws Rq_PL Tq_PL 3, w ∈ fx_tb := fx_mU [150, 152, 154] (by decide +kernel)
set_option maxRecDepth 20000 in
theorem lq_DE : ∀ w ∈ u_ws Rq_DE Tq_DE 7, w ∈ fx_tb := fx_mU [172, 174, 176, 178, 180, 182, 184] (by decide +kernel)
set_option maxRecDepth 20000 in
theorem lq_MI : ∀ w ∈ u_ws Rq_MI Tq_MI 2, w ∈ fx_tb := fx_mU [239, 241] (by decide +kernel)
set_option maxRecDepth 20000 in
theorem lq_ME : ∀ w ∈ u_ws Rq_ME Tq_ME 2, w ∈ fx_tb := fx_mU [249, 251] (by decide +kernel)
set_option maxRecDepth 20000 in
theorem lq_PN : ∀ w ∈ u_ws Rq_PN Tq_PN 3, w ∈ fx_tb := fx_mU [211, 213, 215] (by decide +kernel)
set_option maxRecDepth 20000 in
theorem lq_CO : ∀ w ∈ u_ws Rq_CO Tq_CO 11, w ∈ fx_tb := fx_mU [272, 274, 276, 278, 280, 282, 284, 286, 288, 290, 292] (by decide +kernel)
set_option maxRecDepth 20000 in
theorem lq_BE : ∀ w ∈ u_ws Rq_BE Tq_BE 6, w ∈ fx_tb := fx_mU [314, 316, 318, 320, 322, 324] (by decide +kernel)
set_option maxRecDepth 20000 in
theorem lq_MO : ∀ w ∈ u_ws Rq_MO Tq_MO 52, w ∈ fx_tb := fx_mU [854, 856, 858, 860, 862, 864, 866, 868, 870, 872, 874, 876, 878, 880, 882, 884, 886, 888, 890, 892, 894, 896, 898, 900, 902, 904, 906, 908, 910, 912, 914, 916, 918, 920, 922, 924, 926, 928, 930, 932, 934, 936, 938, 940, 942, 944, 946, 948, 950, 952, 954, 956] (by decide +kernel)
theorem fp_RE_7 : fx_fw "FrameSwapper$Rectangle" 7 1 0 false := ⟨Rq_RE, Tq_RE, 4, tq_RE, rfl, lq_RE, by decide, fx_m1 55 (by decide +kernel), tq_RE_ok, nq_RE, rfl, fun _ => rfl, by decide, by decide, by decide, by decide⟩
theorem fq_RE_7 : fx_fg "FrameSwapper$Rectangle" 7 1 0 := fx_fg_of fp_RE_7
theorem fp_ME_31 : fx_fw "FrameSwapper$Memory" 31 1 0 false := ⟨Rq_RE, Tq_RE, 4, tq_RE, rfl, lq_RE, by decide, fx_m1 56 (by decide +kernel), tq_RE_ok, nq_RE, rfl, (by decide), by decide, by decide, by decide, by decide⟩
theorem fq_ME_31 : fx_fg "FrameSwapper$Memory" 31 1 0 := fx_fg_of fp_ME_31
theorem fp_PN_90 : fx_fw "FrameSwapper$Planes" 90 1 0 false := ⟨Rq_RE, Tq_RE, 4, tq_RE, rfl, lq_RE, by decide, fx_m1 57 (by decide +kernel), tq_RE_ok, nq_RE, rfl, (by decide), by decide, by decide, by decide, by decide⟩
theorem fq_PN_90 : fx_fg "FrameSwapper$Planes" 90 1 0 := fx_fg_of fp_PN_90
theorem fp_PI_83 : fx_fw "FrameSwapper$Picture" 83 1 0 false := ⟨Rq_RE, Tq_RE, 4, tq_RE, rfl, lq_RE, by decide, fx_m1 58 (by decide +kernel), tq_RE_ok, nq_RE, rfl, (by decide), by decide, by decide, by decide, by decide⟩
theorem fq_PI_83 : fx_fg "FrameSwapper$Picture" 83 1 0 := fx_fg_of fp_PI_83
theorem fp_FS_247 : fx_fw "FrameSwapper" 247 1 0 false := ⟨Rq_RE, Tq_RE, 4, tq_RE, rfl, lq_RE, by decide, fx_m1 59 (by decide +kernel), tq_RE_ok, nq_RE, rfl, (by decide), by decide, by decide, by decide, by decide⟩
theorem fq_FS_247 : fx_fg "FrameSwapper" 247 1 0 := fx_fg_of fp_FS_247
theorem fp_ME_22 : fx_fw "FrameSwapper$Memory" 22 1 1 false := ⟨Rq_RE, Tq_RE, 4, tq_RE, rfl, lq_RE, by decide, fx_m1 60 (by decide +kernel), tq_RE_ok, nq_RE, rfl, (by decide), by decide, by decide, by decide, by decide⟩
theorem fq_ME_22 : fx_fg "FrameSwapper$Memory" 22 1 1 := fx_fg_of fp_ME_22
theorem fp_RE_13 : fx_fw "FrameSwapper$Rectangle" 13 1 1 false := ⟨Rq_RE, Tq_RE, 4, tq_RE, rfl, lq_RE, by decide, fx_m1 61 (by decide +kernel), tq_RE_ok, nq_RE, rfl, fun _ => rfl, by decide, by decide, by decide, by decide⟩
theorem fq_RE_13 : fx_fg "FrameSwapper$Rectangle" 13 1 1 := fx_fg_of fp_RE_13
theorem fp_PN_84 : fx_fw "FrameSwapper$Planes" 84 1 1 false := ⟨Rq_RE, Tq_RE, 4, tq_RE, rfl, lq_RE, by decide, fx_m1 62 (by decide +kernel), tq_RE_ok, nq_RE, rfl, (by decide), by decide, by decide, by decide, by decide⟩
theorem fq_PN_84 : fx_fg "FrameSwapper$Planes" 84 1 1 := fx_fg_of fp_PN_84
theorem fp_PI_81 : fx_fw "FrameSwapper$Picture" 81 1 1 false := ⟨Rq_RE, Tq_RE, 4, tq_RE, rfl, lq_RE, by decide, fx_m1 63 (by decide +kernel), tq_RE_ok, nq_RE, rfl, (by decide), by decide, by decide, by decide, by decide⟩
theorem fq_PI_81 : fx_fg "FrameSwapper$Picture" 81 1 1 := fx_fg_of fp_PI_81
theorem fp_FS_248 : fx_fw "FrameSwapper" 248 1 1 false := ⟨Rq_RE, Tq_RE, 4, tq_RE, rfl, lq_RE, by decide, fx_m1 64 (by decide +kernel), tq_RE_ok, nq_RE, rfl, (by decide), by decide, by decide, by decide, by decide⟩
theorem fq_FS_248 : fx_fg "FrameSwapper" 248 1 1 := fx_fg_of fp_FS_248
theorem fp_RE_16 : fx_fw "FrameSwapper$Rectangle" 16 1 2 false := ⟨Rq_RE, Tq_RE, 4, tq_RE, rfl, lq_RE, by decide, fx_m1 65 (by decide +kernel), tq_RE_ok, nq_RE, rfl, fun _ => rfl, by decide, by decide, by decide, by decide⟩
theorem fq_RE_16 : fx_fg "FrameSwapper$Rectangle" 16 1 2 := fx_fg_of fp_RE_16
theorem fp_ME_34 : fx_fw "FrameSwapper$Memory" 34 1 2 false := ⟨Rq_RE, Tq_RE, 4, tq_RE, rfl, lq_RE, by decide, fx_m1 66 (by decide +kernel), tq_RE_ok, nq_RE, rfl, (by decide), by decide, by decide, by decide, by decide⟩
theorem fq_ME_34 : fx_fg "FrameSwapper$Memory" 34 1 2 := fx_fg_of fp_ME_34
theorem fp_PN_93 : fx_fw "FrameSwapper$Planes" 93 1 2 false := ⟨Rq_RE, Tq_RE, 4, tq_RE, rfl, lq_RE, by decide, fx_m1 67 (by decide +kernel), tq_RE_ok, nq_RE, rfl, (by decide), by decide, by decide, by decide, by decide⟩
theorem fq_PN_93 : fx_fg "FrameSwapper$Planes" 93 1 2 := fx_fg_of fp_PN_93
theorem fp_PI_84 : fx_fw "FrameSwapper$Picture" 84 1 2 false := ⟨Rq_RE, Tq_RE, 4, tq_RE, rfl, lq_RE, by decide, fx_m1 68 (by decide +kernel), tq_RE_ok, nq_RE, rfl, (by decide), by decide, by decide, by decide, by decide⟩
theorem fq_PI_84 : fx_fg "FrameSwapper$Picture" 84 1 2 := fx_fg_of fp_PI_84
theorem fp_FS_249 : fx_fw "FrameSwapper" 249 1 2 false := ⟨Rq_RE, Tq_RE, 4, tq_RE, rfl, lq_RE, by decide, fx_m1 69 (by decide +kernel), tq_RE_ok, nq_RE, rfl, (by decide), by decide, by decide, by decide, by decide⟩
theorem fq_FS_249 : fx_fg "FrameSwapper" 249 1 2 := fx_fg_of fp_FS_249
theorem fp_ME_28 : fx_fw "FrameSwapper$Memory" 28 1 3 false := ⟨Rq_RE, Tq_RE, 4, tq_RE, rfl, lq_RE, by decide, fx_m1 70 (by decide +kernel), tq_RE_ok, nq_RE, rfl, (by decide), by decide, by decide, by decide, by decide⟩
theorem fq_ME_28 : fx_fg "FrameSwapper$Memory" 28 1 3 := fx_fg_of fp_ME_28
theorem fp_RE_19 : fx_fw "FrameSwapper$Rectangle" 19 1 3 false := ⟨Rq_RE, Tq_RE, 4, tq_RE, rfl, lq_RE, by decide, fx_m1 71 (by decide +kernel), tq_RE_ok, nq_RE, rfl, fun _ => rfl, by decide, by decide, by decide, by decide⟩
theorem fq_RE_19 : fx_fg "FrameSwapper$Rectangle" 19 1 3 := fx_fg_of fp_RE_19
theorem fp_PN_87 : fx_fw "FrameSwapper$Planes" 87 1 3 false := ⟨Rq_RE, Tq_RE, 4, tq_RE, rfl, lq_RE, by decide, fx_m1 72 (by decide +kernel), tq_RE_ok, nq_RE, rfl, (by decide), by decide, by decide, by decide, by decide⟩
theorem fq_PN_87 : fx_fg "FrameSwapper$Planes" 87 1 3 := fx_fg_of fp_PN_87
theorem fp_PI_82 : fx_fw "FrameSwapper$Picture" 82 1 3 false := ⟨Rq_RE, Tq_RE, 4, tq_RE, rfl, lq_RE, by decide, fx_m1 73 (by decide +kernel), tq_RE_ok, nq_RE, rfl, (by decide), by decide, by decide, by decide, by decide⟩
theorem fq_PI_82 : fx_fg "FrameSwapper$Picture" 82 1 3 := fx_fg_of fp_PI_82
theorem fp_FS_250 : fx_fw "FrameSwapper" 250 1 3 false := ⟨Rq_RE, Tq_RE, 4, tq_RE, rfl, lq_RE, by decide, fx_m1 74 (by decide +kernel), tq_RE_ok, nq_RE, rfl, (by decide), by decide, by decide, by decide, by decide⟩
theorem fq_FS_250 : fx_fg "FrameSwapper" 250 1 3 := fx_fg_of fp_FS_250
theorem fp_PI_25 : fx_fw "FrameSwapper$Picture" 25 2 0 false := ⟨Rq_PI, Tq_PI, 11, tq_PI, rfl, lq_PI, by decide, fx_m1 85 (by decide +kernel), tq_PI_ok, nq_PI, rfl, fun _ => rfl, by decide, by decide, by decide, by decide⟩
theorem fq_PI_25 : fx_fg "FrameSwapper$Picture" 25 2 0 := fx_fg_of fp_PI_25
theorem fp_DE_40 : fx_fw "FrameSwapper$Desk" 40 2 0 false := ⟨Rq_PI, Tq_PI, 11, tq_PI, rfl, lq_PI, by decide, fx_m1 86 (by decide +kernel), tq_PI_ok, nq_PI, rfl, (by decide), by decide, by decide, by decide, by decide⟩
theorem fq_DE_40 : fx_fg "FrameSwapper$Desk" 40 2 0 := fx_fg_of fp_DE_40
theorem fp_PL_26 : fx_fw "FrameSwapper$Pile" 26 2 0 false := ⟨Rq_PI, Tq_PI, 11, tq_PI, rfl, lq_PI, by decide, fx_m1 87 (by decide +kernel), tq_PI_ok, nq_PI, rfl, (by decide), by decide, by decide, by decide, by decide⟩
theorem fq_PL_26 : fx_fg "FrameSwapper$Pile" 26 2 0 := fx_fg_of fp_PL_26
theorem fp_PI_29 : fx_fw "FrameSwapper$Picture" 29 2 1 false := ⟨Rq_PI, Tq_PI, 11, tq_PI, rfl, lq_PI, by decide, fx_m1 88 (by decide +kernel), tq_PI_ok, nq_PI, rfl, fun _ => rfl, by decide, by decide, by decide, by decide⟩
theorem fq_PI_29 : fx_fg "FrameSwapper$Picture" 29 2 1 := fx_fg_of fp_PI_29
theorem fp_FS_113 : fx_fw "FrameSwapper" 113 2 1 false := ⟨Rq_PI, Tq_PI, 11, tq_PI, rfl, lq_PI, by decide, fx_m1 89 (by decide +kernel), tq_PI_ok, nq_PI, rfl, (by decide), by decide, by decide, by decide, by decide⟩
theorem fq_FS_113 : fx_fg "FrameSwapper" 113 2 1 := fx_fg_of fp_FS_113
theorem fp_DE_61 : fx_fw "FrameSwapper$Desk" 61 2 1 false := ⟨Rq_PI, Tq_PI, 11, tq_PI, rfl, lq_PI, by decide, fx_m1 90 (by decide +kernel), tq_PI_ok, nq_PI, rfl, (by decide), by decide, by decide, by decide, by decide⟩
theorem fq_DE_61 : fx_fg "FrameSwapper$Desk" 61 2 1 := fx_fg_of fp_DE_61
theorem fp_PI_33 : fx_fw "FrameSwapper$Picture" 33 2 2 false := ⟨Rq_PI, Tq_PI, 11, tq_PI, rfl, lq_PI, by decide, fx_m1 91 (by decide +kernel), tq_PI_ok, nq_PI, rfl, fun _ => rfl, by decide, by decide, by decide, by decide⟩
theorem fq_PI_33 : fx_fg "FrameSwapper$Picture" 33 2 2 := fx_fg_of fp_PI_33
theorem fp_FS_116 : fx_fw "FrameSwapper" 116 2 2 false := ⟨Rq_PI, Tq_PI, 11, tq_PI, rfl, lq_PI, by decide, fx_m1 92 (by decide +kernel), tq_PI_ok, nq_PI, rfl, (by decide), by decide, by decide, by decide, by decide⟩
theorem fq_FS_116 : fx_fg "FrameSwapper" 116 2 2 := fx_fg_of fp_FS_116
theorem fp_DE_64 : fx_fw "FrameSwapper$Desk" 64 2 2 false := ⟨Rq_PI, Tq_PI, 11, tq_PI, rfl, lq_PI, by decide, fx_m1 93 (by decide +kernel), tq_PI_ok, nq_PI, rfl, (by decide), by decide, by decide, by decide, by decide⟩
theorem fq_DE_64 : fx_fg "FrameSwapper$Desk" 64 2 2 := fx_fg_of fp_DE_64
theorem fp_PI_36 : fx_fw "FrameSwapper$Picture" 36 2 3 false := ⟨Rq_PI, Tq_PI, 11, tq_PI, rfl, lq_PI, by decide, fx_m1 94 (by decide +kernel), tq_PI_ok, nq_PI, rfl, fun _ => rfl, by decide, by decide, by decide, by decide⟩
theorem fq_PI_36 : fx_fg "FrameSwapper$Picture" 36 2 3 := fx_fg_of fp_PI_36
theorem fp_FS_84 : fx_fw "FrameSwapper" 84 2 3 false := ⟨Rq_PI, Tq_PI, 11, tq_PI, rfl, lq_PI, by decide, fx_m1 95 (by decide +kernel), tq_PI_ok, nq_PI, rfl, (by decide), by decide, by decide, by decide, by decide⟩
theorem fq_FS_84 : fx_fg "FrameSwapper" 84 2 3 := fx_fg_of fp_FS_84
theorem fp_PI_39 : fx_fw "FrameSwapper$Picture" 39 2 4 false := ⟨Rq_PI, Tq_PI, 11, tq_PI, rfl, lq_PI, by decide, fx_m1 96 (by decide +kernel), tq_PI_ok, nq_PI, rfl, fun _ => rfl, by decide, by decide, by decide, by decide⟩
theorem fq_PI_39 : fx_fg "FrameSwapper$Picture" 39 2 4 := fx_fg_of fp_PI_39
theorem fp_FS_87 : fx_fw "FrameSwapper" 87 2 4 false := ⟨Rq_PI, Tq_PI, 11, tq_PI, rfl, lq_PI, by decide, fx_m1 97 (by decide +kernel), tq_PI_ok, nq_PI, rfl, (by decide), by decide, by decide, by decide, by decide⟩
theorem fq_FS_87 : fx_fg "FrameSwapper" 87 2 4 := fx_fg_of fp_FS_87
theorem fp_PI_42 : fx_fw "FrameSwapper$Picture" 42 2 5 false := ⟨Rq_PI, Tq_PI, 11, tq_PI, rfl, lq_PI, by decide, fx_m1 98 (by decide +kernel), tq_PI_ok, nq_PI, rfl, fun _ => rfl, by decide, by decide, by decide, by decide⟩
theorem fq_PI_42 : fx_fg "FrameSwapper$Picture" 42 2 5 := fx_fg_of fp_PI_42
theorem fp_PL_30 : fx_fw "FrameSwapper$Pile" 30 2 5 false := ⟨Rq_PI, Tq_PI, 11, tq_PI, rfl, lq_PI, by decide, fx_m1 99 (by decide +kernel), tq_PI_ok, nq_PI, rfl, (by decide), by decide, by decide, by decide, by decide⟩
theorem fq_PL_30 : fx_fg "FrameSwapper$Pile" 30 2 5 := fx_fg_of fp_PL_30
theorem fp_FS_90 : fx_fw "FrameSwapper" 90 2 5 false := ⟨Rq_PI, Tq_PI, 11, tq_PI, rfl, lq_PI, by decide, fx_m1 100 (by decide +kernel), tq_PI_ok, nq_PI, rfl, (by decide), by decide, by decide, by decide, by decide⟩
theorem fq_FS_90 : fx_fg "FrameSwapper" 90 2 5 := fx_fg_of fp_FS_90
theorem fp_PI_45 : fx_fw "FrameSwapper$Picture" 45 2 6 false := ⟨Rq_PI, Tq_PI, 11, tq_PI, rfl, lq_PI, by decide, fx_m1 101 (by decide +kernel), tq_PI_ok, nq_PI, rfl, fun _ => rfl, by decide, by decide, by decide, by decide⟩
theorem fq_PI_45 : fx_fg "FrameSwapper$Picture" 45 2 6 := fx_fg_of fp_PI_45
theorem fp_ME_51 : fx_fw "FrameSwapper$Memory" 51 2 6 false := ⟨Rq_PI, Tq_PI, 11, tq_PI, rfl, lq_PI, by decide, fx_m1 102 (by decide +kernel), tq_PI_ok, nq_PI, rfl, (by decide), by decide, by decide, by decide, by decide⟩
theorem fq_ME_51 : fx_fg "FrameSwapper$Memory" 51 2 6 := fx_fg_of fp_ME_51
theorem fp_PL_54 : fx_fw "FrameSwapper$Pile" 54 2 6 false := ⟨Rq_PI, Tq_PI, 11, tq_PI, rfl, lq_PI, by decide, fx_m1 103 (by decide +kernel), tq_PI_ok, nq_PI, rfl, (by decide), by decide, by decide, by decide, by decide⟩
theorem fq_PL_54 : fx_fg "FrameSwapper$Pile" 54 2 6 := fx_fg_of fp_PL_54
theorem fp_FS_93 : fx_fw "FrameSwapper" 93 2 6 false := ⟨Rq_PI, Tq_PI, 11, tq_PI, rfl, lq_PI, by decide, fx_m1 104 (by decide +kernel), tq_PI_ok, nq_PI, rfl, (by decide), by decide, by decide, by decide, by decide⟩
theorem fq_FS_93 : fx_fg "FrameSwapper" 93 2 6 := fx_fg_of fp_FS_93
theorem fp_PN_64 : fx_fw "FrameSwapper$Planes" 64 2 6 false := ⟨Rq_PI, Tq_PI, 11, tq_PI, rfl, lq_PI, by decide, fx_m1 105 (by decide +kernel), tq_PI_ok, nq_PI, rfl, (by decide), by decide, by decide, by decide, by decide⟩
theorem fq_PN_64 : fx_fg "FrameSwapper$Planes" 64 2 6 := fx_fg_of fp_PN_64
theorem fp_PI_48 : fx_fw "FrameSwapper$Picture" 48 2 7 false := ⟨Rq_PI, Tq_PI, 11, tq_PI, rfl, lq_PI, by decide, fx_m1 106 (by decide +kernel), tq_PI_ok, nq_PI, rfl, fun _ => rfl, by decide, by decide, by decide, by decide⟩
theorem fq_PI_48 : fx_fg "FrameSwapper$Picture" 48 2 7 := fx_fg_of fp_PI_48
theorem fp_FS_96 : fx_fw "FrameSwapper" 96 2 7 false := ⟨Rq_PI, Tq_PI, 11, tq_PI, rfl, lq_PI, by decide, fx_m1 107 (by decide +kernel), tq_PI_ok, nq_PI, rfl, (by decide), by decide, by decide, by decide, by decide⟩
theorem fq_FS_96 : fx_fg "FrameSwapper" 96 2 7 := fx_fg_of fp_FS_96
theorem fp_PI_9 : fx_fw "FrameSwapper$Picture" 9 2 8 true := ⟨Rq_PI, Tq_PI, 11, tq_PI, rfl, lq_PI, by decide, fx_m1 108 (by decide +kernel), tq_PI_ok, nq_PI, rfl, fun _ => rfl, by decide, by decide, by decide, by decide⟩
theorem fq_PI_9 : fx_fg "FrameSwapper$Picture" 9 2 8 := fx_fg_of fp_PI_9
theorem fq_FS_129 : fx_fg "FrameSwapper" 129 2 8 := ⟨Rq_PI, Tq_PI, 11, rfl, lq_PI, by decide, fx_m1 109 (by decide +kernel)⟩
theorem fp_PI_18 : fx_fw "FrameSwapper$Picture" 18 2 9 true := ⟨Rq_PI, Tq_PI, 11, tq_PI, rfl, lq_PI, by decide, fx_m1 110 (by decide +kernel), tq_PI_ok, nq_PI, rfl, fun _ => rfl, by decide, by decide, by decide, by decide⟩
theorem fq_PI_18 : fx_fg "FrameSwapper$Picture" 18 2 9 := fx_fg_of fp_PI_18
theorem fq_FS_107 : fx_fg "FrameSwapper" 107 2 9 := ⟨Rq_PI, Tq_PI, 11, rfl, lq_PI, by decide, fx_m1 111 (by decide +kernel)⟩
theorem fp_PI_22 : fx_fw "FrameSwapper$Picture" 22 2 10 true := ⟨Rq_PI, Tq_PI, 11, tq_PI, rfl, lq_PI, by decide, fx_m1 112 (by decide +kernel), tq_PI_ok, nq_PI, rfl, fun _ => rfl, by decide, by decide, by decide, by decide⟩
theorem fq_PI_22 : fx_fg "FrameSwapper$Picture" 22 2 10 := fx_fg_of fp_PI_22
theorem fq_CO_90 : fx_fg "FrameSwapper$Composer" 90 2 10 := ⟨Rq_PI, Tq_PI, 11, rfl, lq_PI, by decide, fx_m1 113 (by decide +kernel)⟩
theorem fq_ME_37 : fx_fg "FrameSwapper$Memory" 37 2 10 := ⟨Rq_PI, Tq_PI, 11, rfl, lq_PI, by decide, fx_m1 114 (by decide +kernel)⟩
theorem fq_PL_40 : fx_fg "FrameSwapper$Pile" 40 2 10 := ⟨Rq_PI, Tq_PI, 11, rfl, lq_PI, by decide, fx_m1 115 (by decide +kernel)⟩
theorem fq_PN_69 : fx_fg "FrameSwapper$Planes" 69 2 10 := ⟨Rq_PI, Tq_PI, 11, rfl, lq_PI, by decide, fx_m1 116 (by decide +kernel)⟩
theorem fp_PL_11 : fx_fw "FrameSwapper$Pile" 11 3 0 true := ⟨Rq_PL, Tq_PL, 3, tq_PL, rfl, lq_PL, by decide, fx_m1 140 (by decide +kernel), tq_PL_ok, nq_PL, rfl, fun _ => rfl, by decide, by decide, by decide, by decide⟩
theorem fq_PL_11 : fx_fg "FrameSwapper$Pile" 11 3 0 := fx_fg_of fp_PL_11
theorem fq_CO_86 : fx_fg "FrameSwapper$Composer" 86 3 0 := ⟨Rq_PL, Tq_PL, 3, rfl, lq_PL, by decide, fx_m1 141 (by decide +kernel)⟩
theorem fq_PN_56 : fx_fg "FrameSwapper$Planes" 56 3 0 := ⟨Rq_PL, Tq_PL, 3, rfl, lq_PL, by decide, fx_m1 142 (by decide +kernel)⟩
theorem fq_DE_48 : fx_fg "FrameSwapper$Desk" 48 3 0 := ⟨Rq_PL, Tq_PL, 3, rfl, lq_PL, by decide, fx_m1 143 (by decide +kernel)⟩
theorem fp_PL_17 : fx_fw "FrameSwapper$Pile" 17 3 1 true := ⟨Rq_PL, Tq_PL, 3, tq_PL, rfl, lq_PL, by decide, fx_m1 144 (by decide +kernel), tq_PL_ok, nq_PL, rfl, fun _ => rfl, by decide, by decide, by decide, by decide⟩
theorem fq_PL_17 : fx_fg "FrameSwapper$Pile" 17 3 1 := fx_fg_of fp_PL_17
theorem fq_PN_53 : fx_fg "FrameSwapper$Planes" 53 3 1 := ⟨Rq_PL, Tq_PL, 3, rfl, lq_PL, by decide, fx_m1 145 (by decide +kernel)⟩
theorem fq_CO_129 : fx_fg "FrameSwapper$Composer" 129 3 1 := ⟨Rq_PL, Tq_PL, 3, rfl, lq_PL, by decide, fx_m1 146 (by decide +kernel)⟩
theorem fp_PL_22 : fx_fw "FrameSwapper$Pile" 22 3 2 false := ⟨Rq_PL, Tq_PL, 3, tq_PL, rfl, lq_PL, by decide, fx_m1 147 (by decide +kernel), tq_PL_ok, nq_PL, rfl, fun _ => rfl, by decide, by decide, by decide, by decide⟩
theorem fq_PL_22 : fx_fg "FrameSwapper$Pile" 22 3 2 := fx_fg_of fp_PL_22
theorem fp_PN_43 : fx_fw "FrameSwapper$Planes" 43 3 2 false := ⟨Rq_PL, Tq_PL, 3, tq_PL, rfl, lq_PL, by decide, fx_m1 148 (by decide +kernel), tq_PL_ok, nq_PL, rfl, (by decide), by decide, by decide, by decide, by decide⟩
theorem fq_PN_43 : fx_fg "FrameSwapper$Planes" 43 3 2 := fx_fg_of fp_PN_43
theorem fp_CO_141 : fx_fw "FrameSwapper$Composer" 141 3 2 false := ⟨Rq_PL, Tq_PL, 3, tq_PL, rfl, lq_PL, by decide, fx_m1 149 (by decide +kernel), tq_PL_ok, nq_PL, rfl, (by decide), by decide, by decide, by decide, by decide⟩
theorem fq_CO_141 : fx_fg "FrameSwapper$Composer" 141 3 2 := fx_fg_of fp_CO_141
theorem fp_DE_11 : fx_fw "FrameSwapper$Desk" 11 4 0 true := ⟨Rq_DE, Tq_DE, 7, tq_DE, rfl, lq_DE, by decide, fx_m1 158 (by decide +kernel), tq_DE_ok, nq_DE, rfl, fun _ => rfl, by decide, by decide, by decide, by decide⟩
theorem fq_DE_11 : fx_fg "FrameSwapper$Desk" 11 4 0 := fx_fg_of fp_DE_11
theorem fq_FS_74 : fx_fg "FrameSwapper" 74 4 0 := ⟨Rq_DE, Tq_DE, 7, rfl, lq_DE, by decide, fx_m1 159 (by decide +kernel)⟩
theorem fp_DE_20 : fx_fw "FrameSwapper$Desk" 20 4 1 true := ⟨Rq_DE, Tq_DE, 7, tq_DE, rfl, lq_DE, by decide, fx_m1 160 (by decide +kernel), tq_DE_ok, nq_DE, rfl, fun _ => rfl, by decide, by decide, by decide, by decide⟩
theorem fq_DE_20 : fx_fg "FrameSwapper$Desk" 20 4 1 := fx_fg_of fp_DE_20
theorem fq_CO_53 : fx_fg "FrameSwapper$Composer" 53 4 1 := ⟨Rq_DE, Tq_DE, 7, rfl, lq_DE, by decide, fx_m1 161 (by decide +kernel)⟩
theorem fq_FS_213 : fx_fg "FrameSwapper" 213 4 1 := ⟨Rq_DE, Tq_DE, 7, rfl, lq_DE, by decide, fx_m1 162 (by decide +kernel)⟩
theorem fp_DE_24 : fx_fw "FrameSwapper$Desk" 24 4 2 true := ⟨Rq_DE, Tq_DE, 7, tq_DE, rfl, lq_DE, by decide, fx_m1 163 (by decide +kernel), tq_DE_ok, nq_DE, rfl, fun _ => rfl, by decide, by decide, by decide, by decide⟩
theorem fq_DE_24 : fx_fg "FrameSwapper$Desk" 24 4 2 := fx_fg_of fp_DE_24
theorem fq_FS_139 : fx_fg "FrameSwapper" 139 4 2 := ⟨Rq_DE, Tq_DE, 7, rfl, lq_DE, by decide, fx_m1 164 (by decide +kernel)⟩
theorem fp_DE_28 : fx_fw "FrameSwapper$Desk" 28 4 3 true := ⟨Rq_DE, Tq_DE, 7, tq_DE, rfl, lq_DE, by decide, fx_m1 165 (by decide +kernel), tq_DE_ok, nq_DE, rfl, fun _ => rfl, by decide, by decide, by decide, by decide⟩
theorem fq_DE_28 : fx_fg "FrameSwapper$Desk" 28 4 3 := fx_fg_of fp_DE_28
theorem fp_DE_32 : fx_fw "FrameSwapper$Desk" 32 4 4 true := ⟨Rq_DE, Tq_DE, 7, tq_DE, rfl, lq_DE, by decide, fx_m1 166 (by decide +kernel), tq_DE_ok, nq_DE, rfl, fun _ => rfl, by decide, by decide, by decide, by decide⟩
theorem fq_DE_32 : fx_fg "FrameSwapper$Desk" 32 4 4 := fx_fg_of fp_DE_32
theorem fp_CO_62 : fx_fw "FrameSwapper$Composer" 62 4 5 false := ⟨Rq_DE, Tq_DE, 7, tq_DE, rfl, lq_DE, by decide, fx_m1 167 (by decide +kernel), tq_DE_ok, nq_DE, rfl, (by decide), by decide, by decide, by decide, by decide⟩
theorem fq_CO_62 : fx_fg "FrameSwapper$Composer" 62 4 5 := fx_fg_of fp_CO_62
theorem fp_DE_58 : fx_fw "FrameSwapper$Desk" 58 4 5 false := ⟨Rq_DE, Tq_DE, 7, tq_DE, rfl, lq_DE, by decide, fx_m1 168 (by decide +kernel), tq_DE_ok, nq_DE, rfl, fun _ => rfl, by decide, by decide, by decide, by decide⟩
theorem fq_DE_58 : fx_fg "FrameSwapper$Desk" 58 4 5 := fx_fg_of fp_DE_58
theorem fp_FS_153 : fx_fw "FrameSwapper" 153 4 5 false := ⟨Rq_DE, Tq_DE, 7, tq_DE, rfl, lq_DE, by decide, fx_m1 169 (by decide +kernel), tq_DE_ok, nq_DE, rfl, (by decide), by decide, by decide, by decide, by decide⟩
theorem fq_FS_153 : fx_fg "FrameSwapper" 153 4 5 := fx_fg_of fp_FS_153
theorem fp_DE_35 : fx_fw "FrameSwapper$Desk" 35 4 6 false := ⟨Rq_DE, Tq_DE, 7, tq_DE, rfl, lq_DE, by decide, fx_m1 170 (by decide +kernel), tq_DE_ok, nq_DE, rfl, fun _ => rfl, by decide, by decide, by decide, by decide⟩
theorem fq_DE_35 : fx_fg "FrameSwapper$Desk" 35 4 6 := fx_fg_of fp_DE_35
theorem fp_FS_60 : fx_fw "FrameSwapper" 60 4 6 false := ⟨Rq_DE, Tq_DE, 7, tq_DE, rfl, lq_DE, by decide, fx_m1 171 (by decide +kernel), tq_DE_ok, nq_DE, rfl, (by decide), by decide, by decide, by decide, by decide⟩
theorem fq_FS_60 : fx_fg "FrameSwapper" 60 4 6 := fx_fg_of fp_FS_60
theorem fp_PN_9 : fx_fw "FrameSwapper$Planes" 9 7 0 true := ⟨Rq_PN, Tq_PN, 3, tq_PN, rfl, lq_PN, by decide, fx_m1 207 (by decide +kernel), tq_PN_ok, nq_PN, rfl, fun _ => rfl, by decide, by decide, by decide, by decide⟩
theorem fq_PN_9 : fx_fg "FrameSwapper$Planes" 9 7 0 := fx_fg_of fp_PN_9
theorem fq_FS_251 : fx_fg "FrameSwapper" 251 7 0 := ⟨Rq_PN, Tq_PN, 3, rfl, lq_PN, by decide, fx_m1 208 (by decide +kernel)⟩
theorem fp_PN_18 : fx_fw "FrameSwapper$Planes" 18 7 1 true := ⟨Rq_PN, Tq_PN, 3, tq_PN, rfl, lq_PN, by decide, fx_m1 209 (by decide +kernel), tq_PN_ok, nq_PN, rfl, fun _ => rfl, by decide, by decide, by decide, by decide⟩
theorem fq_PN_18 : fx_fg "FrameSwapper$Planes" 18 7 1 := fx_fg_of fp_PN_18
theorem fp_PN_24 : fx_fw "FrameSwapper$Planes" 24 7 2 true := ⟨Rq_PN, Tq_PN, 3, tq_PN, rfl, lq_PN, by decide, fx_m1 210 (by decide +kernel), tq_PN_ok, nq_PN, rfl, fun _ => rfl, by decide, by decide, by decide, by decide⟩
theorem fq_PN_24 : fx_fg "FrameSwapper$Planes" 24 7 2 := fx_fg_of fp_PN_24
theorem fp_MI_11 : fx_fw "FrameSwapper$Misses" 11 5 0 true := ⟨Rq_MI, Tq_MI, 2, tq_MI, rfl, lq_MI, by decide, fx_m1 233 (by decide +kernel), tq_MI_ok, nq_MI, rfl, fun _ => rfl, by decide, by decide, by decide, by decide⟩
theorem fq_MI_11 : fx_fg "FrameSwapper$Misses" 11 5 0 := fx_fg_of fp_MI_11
theorem fq_CO_123 : fx_fg "FrameSwapper$Composer" 123 5 0 := ⟨Rq_MI, Tq_MI, 2, rfl, lq_MI, by decide, fx_m1 234 (by decide +kernel)⟩
theorem fq_FS_243 : fx_fg "FrameSwapper" 243 5 0 := ⟨Rq_MI, Tq_MI, 2, rfl, lq_MI, by decide, fx_m1 235 (by decide +kernel)⟩
theorem fp_MI_26 : fx_fw "FrameSwapper$Misses" 26 5 1 false := ⟨Rq_MI, Tq_MI, 2, tq_MI, rfl, lq_MI, by decide, fx_m1 236 (by decide +kernel), tq_MI_ok, nq_MI, rfl, fun _ => rfl, by decide, by decide, by decide, by decide⟩
theorem fq_MI_26 : fx_fg "FrameSwapper$Misses" 26 5 1 := fx_fg_of fp_MI_26
theorem fp_CO_117 : fx_fw "FrameSwapper$Composer" 117 5 1 false := ⟨Rq_MI, Tq_MI, 2, tq_MI, rfl, lq_MI, by decide, fx_m1 237 (by decide +kernel), tq_MI_ok, nq_MI, rfl, (by decide), by decide, by decide, by decide, by decide⟩
theorem fq_CO_117 : fx_fg "FrameSwapper$Composer" 117 5 1 := fx_fg_of fp_CO_117
theorem fp_FS_238 : fx_fw "FrameSwapper" 238 5 1 false := ⟨Rq_MI, Tq_MI, 2, tq_MI, rfl, lq_MI, by decide, fx_m1 238 (by decide +kernel), tq_MI_ok, nq_MI, rfl, (by decide), by decide, by decide, by decide, by decide⟩
theorem fq_FS_238 : fx_fg "FrameSwapper" 238 5 1 := fx_fg_of fp_FS_238
theorem fp_ME_9 : fx_fw "FrameSwapper$Memory" 9 6 0 true := ⟨Rq_ME, Tq_ME, 2, tq_ME, rfl, lq_ME, by decide, fx_m1 244 (by decide +kernel), tq_ME_ok, nq_ME, rfl, fun _ => rfl, by decide, by decide, by decide, by decide⟩
theorem fq_ME_9 : fx_fg "FrameSwapper$Memory" 9 6 0 := fx_fg_of fp_ME_9
theorem fq_BE_29 : fx_fg "FrameSwapper$Beam" 29 6 0 := ⟨Rq_ME, Tq_ME, 2, rfl, lq_ME, by decide, fx_m1 245 (by decide +kernel)⟩
theorem fp_ME_18 : fx_fw "FrameSwapper$Memory" 18 6 1 true := ⟨Rq_ME, Tq_ME, 2, tq_ME, rfl, lq_ME, by decide, fx_m1 246 (by decide +kernel), tq_ME_ok, nq_ME, rfl, fun _ => rfl, by decide, by decide, by decide, by decide⟩
theorem fq_ME_18 : fx_fg "FrameSwapper$Memory" 18 6 1 := fx_fg_of fp_ME_18
theorem fq_CO_102 : fx_fg "FrameSwapper$Composer" 102 6 1 := ⟨Rq_ME, Tq_ME, 2, rfl, lq_ME, by decide, fx_m1 247 (by decide +kernel)⟩
theorem fq_FS_232 : fx_fg "FrameSwapper" 232 6 1 := ⟨Rq_ME, Tq_ME, 2, rfl, lq_ME, by decide, fx_m1 248 (by decide +kernel)⟩
theorem fp_CO_12 : fx_fw "FrameSwapper$Composer" 12 8 0 true := ⟨Rq_CO, Tq_CO, 11, tq_CO, rfl, lq_CO, by decide, fx_m1 255 (by decide +kernel), tq_CO_ok, nq_CO, rfl, fun _ => rfl, by decide, by decide, by decide, by decide⟩
theorem fq_CO_12 : fx_fg "FrameSwapper$Composer" 12 8 0 := fx_fg_of fp_CO_12
theorem fp_CO_21 : fx_fw "FrameSwapper$Composer" 21 8 1 true := ⟨Rq_CO, Tq_CO, 11, tq_CO, rfl, lq_CO, by decide, fx_m1 256 (by decide +kernel), tq_CO_ok, nq_CO, rfl, fun _ => rfl, by decide, by decide, by decide, by decide⟩
theorem fq_CO_21 : fx_fg "FrameSwapper$Composer" 21 8 1 := fx_fg_of fp_CO_21
theorem fq_FS_198 : fx_fg "FrameSwapper" 198 8 1 := ⟨Rq_CO, Tq_CO, 11, rfl, lq_CO, by decide, fx_m1 257 (by decide +kernel)⟩
theorem fp_CO_25 : fx_fw "FrameSwapper$Composer" 25 8 2 true := ⟨Rq_CO, Tq_CO, 11, tq_CO, rfl, lq_CO, by decide, fx_m1 258 (by decide +kernel), tq_CO_ok, nq_CO, rfl, fun _ => rfl, by decide, by decide, by decide, by decide⟩
theorem fq_CO_25 : fx_fg "FrameSwapper$Composer" 25 8 2 := fx_fg_of fp_CO_25
theorem fp_CO_31 : fx_fw "FrameSwapper$Composer" 31 8 3 true := ⟨Rq_CO, Tq_CO, 11, tq_CO, rfl, lq_CO, by decide, fx_m1 259 (by decide +kernel), tq_CO_ok, nq_CO, rfl, fun _ => rfl, by decide, by decide, by decide, by decide⟩
theorem fq_CO_31 : fx_fg "FrameSwapper$Composer" 31 8 3 := fx_fg_of fp_CO_31
theorem fp_CO_38 : fx_fw "FrameSwapper$Composer" 38 8 4 false := ⟨Rq_CO, Tq_CO, 11, tq_CO, rfl, lq_CO, by decide, fx_m1 260 (by decide +kernel), tq_CO_ok, nq_CO, rfl, fun _ => rfl, by decide, by decide, by decide, by decide⟩
theorem fq_CO_38 : fx_fg "FrameSwapper$Composer" 38 8 4 := fx_fg_of fp_CO_38
theorem fp_FS_177 : fx_fw "FrameSwapper" 177 8 4 false := ⟨Rq_CO, Tq_CO, 11, tq_CO, rfl, lq_CO, by decide, fx_m1 261 (by decide +kernel), tq_CO_ok, nq_CO, rfl, (by decide), by decide, by decide, by decide, by decide⟩
theorem fq_FS_177 : fx_fg "FrameSwapper" 177 8 4 := fx_fg_of fp_FS_177
theorem fp_CO_42 : fx_fw "FrameSwapper$Composer" 42 8 5 false := ⟨Rq_CO, Tq_CO, 11, tq_CO, rfl, lq_CO, by decide, fx_m1 262 (by decide +kernel), tq_CO_ok, nq_CO, rfl, fun _ => rfl, by decide, by decide, by decide, by decide⟩
theorem fq_CO_42 : fx_fg "FrameSwapper$Composer" 42 8 5 := fx_fg_of fp_CO_42
theorem fp_FS_229 : fx_fw "FrameSwapper" 229 8 5 false := ⟨Rq_CO, Tq_CO, 11, tq_CO, rfl, lq_CO, by decide, fx_m1 263 (by decide +kernel), tq_CO_ok, nq_CO, rfl, (by decide), by decide, by decide, by decide, by decide⟩
theorem fq_FS_229 : fx_fg "FrameSwapper" 229 8 5 := fx_fg_of fp_FS_229
theorem fp_CO_45 : fx_fw "FrameSwapper$Composer" 45 8 6 false := ⟨Rq_CO, Tq_CO, 11, tq_CO, rfl, lq_CO, by decide, fx_m1 264 (by decide +kernel), tq_CO_ok, nq_CO, rfl, fun _ => rfl, by decide, by decide, by decide, by decide⟩
theorem fq_CO_45 : fx_fg "FrameSwapper$Composer" 45 8 6 := fx_fg_of fp_CO_45
theorem fp_FS_163 : fx_fw "FrameSwapper" 163 8 6 false := ⟨Rq_CO, Tq_CO, 11, tq_CO, rfl, lq_CO, by decide, fx_m1 265 (by decide +kernel), tq_CO_ok, nq_CO, rfl, (by decide), by decide, by decide, by decide, by decide⟩
theorem fq_FS_163 : fx_fg "FrameSwapper" 163 8 6 := fx_fg_of fp_FS_163
theorem fp_CO_65 : fx_fw "FrameSwapper$Composer" 65 8 7 false := ⟨Rq_CO, Tq_CO, 11, tq_CO, rfl, lq_CO, by decide, fx_m1 266 (by decide +kernel), tq_CO_ok, nq_CO, rfl, fun _ => rfl, by decide, by decide, by decide, by decide⟩
theorem fq_CO_65 : fx_fg "FrameSwapper$Composer" 65 8 7 := fx_fg_of fp_CO_65
theorem fp_FS_156 : fx_fw "FrameSwapper" 156 8 7 false := ⟨Rq_CO, Tq_CO, 11, tq_CO, rfl, lq_CO, by decide, fx_m1 267 (by decide +kernel), tq_CO_ok, nq_CO, rfl, (by decide), by decide, by decide, by decide, by decide⟩
theorem fq_FS_156 : fx_fg "FrameSwapper" 156 8 7 := fx_fg_of fp_FS_156
theorem fp_CO_148 : fx_fw "FrameSwapper$Composer" 148 8 8 false := ⟨Rq_CO, Tq_CO, 11, tq_CO, rfl, lq_CO, by decide, fx_m1 268 (by decide +kernel), tq_CO_ok, nq_CO, rfl, fun _ => rfl, by decide, by decide, by decide, by decide⟩
theorem fq_CO_148 : fx_fg "FrameSwapper$Composer" 148 8 8 := fx_fg_of fp_CO_148
theorem fp_FS_185 : fx_fw "FrameSwapper" 185 8 8 false := ⟨Rq_CO, Tq_CO, 11, tq_CO, rfl, lq_CO, by decide, fx_m1 269 (by decide +kernel), tq_CO_ok, nq_CO, rfl, (by decide), by decide, by decide, by decide, by decide⟩
theorem fq_FS_185 : fx_fg "FrameSwapper" 185 8 8 := fx_fg_of fp_FS_185
theorem fp_CO_111 : fx_fw "FrameSwapper$Composer" 111 8 9 false := ⟨Rq_CO, Tq_CO, 11, tq_CO, rfl, lq_CO, by decide, fx_m1 270 (by decide +kernel), tq_CO_ok, nq_CO, rfl, fun _ => rfl, by decide, by decide, by decide, by decide⟩
theorem fq_CO_111 : fx_fg "FrameSwapper$Composer" 111 8 9 := fx_fg_of fp_CO_111
theorem fp_CO_114 : fx_fw "FrameSwapper$Composer" 114 8 10 false := ⟨Rq_CO, Tq_CO, 11, tq_CO, rfl, lq_CO, by decide, fx_m1 271 (by decide +kernel), tq_CO_ok, nq_CO, rfl, fun _ => rfl, by decide, by decide, by decide, by decide⟩
theorem fq_CO_114 : fx_fg "FrameSwapper$Composer" 114 8 10 := fx_fg_of fp_CO_114
theorem fp_BE_12 : fx_fw "FrameSwapper$Beam" 12 9 0 true := ⟨Rq_BE, Tq_BE, 6, tq_BE, rfl, lq_BE, by decide, fx_m1 303 (by decide +kernel), tq_BE_ok, nq_BE, rfl, fun _ => rfl, by decide, by decide, by decide, by decide⟩
theorem fq_BE_12 : fx_fg "FrameSwapper$Beam" 12 9 0 := fx_fg_of fp_BE_12
theorem fq_FS_194 : fx_fg "FrameSwapper" 194 9 0 := ⟨Rq_BE, Tq_BE, 6, rfl, lq_BE, by decide, fx_m1 304 (by decide +kernel)⟩
theorem fp_BE_18 : fx_fw "FrameSwapper$Beam" 18 9 1 true := ⟨Rq_BE, Tq_BE, 6, tq_BE, rfl, lq_BE, by decide, fx_m1 305 (by decide +kernel), tq_BE_ok, nq_BE, rfl, fun _ => rfl, by decide, by decide, by decide, by decide⟩
theorem fq_BE_18 : fx_fg "FrameSwapper$Beam" 18 9 1 := fx_fg_of fp_BE_18
theorem fp_BE_22 : fx_fw "FrameSwapper$Beam" 22 9 2 true := ⟨Rq_BE, Tq_BE, 6, tq_BE, rfl, lq_BE, by decide, fx_m1 306 (by decide +kernel), tq_BE_ok, nq_BE, rfl, fun _ => rfl, by decide, by decide, by decide, by decide⟩
theorem fq_BE_22 : fx_fg "FrameSwapper$Beam" 22 9 2 := fx_fg_of fp_BE_22
theorem fq_FS_210 : fx_fg "FrameSwapper" 210 9 2 := ⟨Rq_BE, Tq_BE, 6, rfl, lq_BE, by decide, fx_m1 307 (by decide +kernel)⟩
theorem fp_BE_25 : fx_fw "FrameSwapper$Beam" 25 9 3 false := ⟨Rq_BE, Tq_BE, 6, tq_BE, rfl, lq_BE, by decide, fx_m1 308 (by decide +kernel), tq_BE_ok, nq_BE, rfl, fun _ => rfl, by decide, by decide, by decide, by decide⟩
theorem fq_BE_25 : fx_fg "FrameSwapper$Beam" 25 9 3 := fx_fg_of fp_BE_25
theorem fp_FS_174 : fx_fw "FrameSwapper" 174 9 3 false := ⟨Rq_BE, Tq_BE, 6, tq_BE, rfl, lq_BE, by decide, fx_m1 309 (by decide +kernel), tq_BE_ok, nq_BE, rfl, (by decide), by decide, by decide, by decide, by decide⟩
theorem fq_FS_174 : fx_fg "FrameSwapper" 174 9 3 := fx_fg_of fp_FS_174
theorem fp_BE_47 : fx_fw "FrameSwapper$Beam" 47 9 4 false := ⟨Rq_BE, Tq_BE, 6, tq_BE, rfl, lq_BE, by decide, fx_m1 310 (by decide +kernel), tq_BE_ok, nq_BE, rfl, fun _ => rfl, by decide, by decide, by decide, by decide⟩
theorem fq_BE_47 : fx_fg "FrameSwapper$Beam" 47 9 4 := fx_fg_of fp_BE_47
theorem fp_FS_223 : fx_fw "FrameSwapper" 223 9 4 false := ⟨Rq_BE, Tq_BE, 6, tq_BE, rfl, lq_BE, by decide, fx_m1 311 (by decide +kernel), tq_BE_ok, nq_BE, rfl, (by decide), by decide, by decide, by decide, by decide⟩
theorem fq_FS_223 : fx_fg "FrameSwapper" 223 9 4 := fx_fg_of fp_FS_223
theorem fp_BE_44 : fx_fw "FrameSwapper$Beam" 44 9 5 false := ⟨Rq_BE, Tq_BE, 6, tq_BE, rfl, lq_BE, by decide, fx_m1 312 (by decide +kernel), tq_BE_ok, nq_BE, rfl, fun _ => rfl, by decide, by decide, by decide, by decide⟩
theorem fq_BE_44 : fx_fg "FrameSwapper$Beam" 44 9 5 := fx_fg_of fp_BE_44
theorem fp_FS_226 : fx_fw "FrameSwapper" 226 9 5 false := ⟨Rq_BE, Tq_BE, 6, tq_BE, rfl, lq_BE, by decide, fx_m1 313 (by decide +kernel), tq_BE_ok, nq_BE, rfl, (by decide), by decide, by decide, by decide, by decide⟩
theorem fq_FS_226 : fx_fg "FrameSwapper" 226 9 5 := fx_fg_of fp_FS_226
theorem fp_FS_10 : fx_fw "FrameSwapper" 10 0 0 true := ⟨Rq_FS, Tq_FS, 5, tq_FS, rfl, lq_FS, by decide, fx_m1 331 (by decide +kernel), tq_FS_ok, nq_FS, rfl, fun _ => rfl, by decide, by decide, by decide, by decide⟩
theorem fq_FS_10 : fx_fg "FrameSwapper" 10 0 0 := fx_fg_of fp_FS_10
theorem fp_FS_19 : fx_fw "FrameSwapper" 19 0 1 true := ⟨Rq_FS, Tq_FS, 5, tq_FS, rfl, lq_FS, by decide, fx_m1 332 (by decide +kernel), tq_FS_ok, nq_FS, rfl, fun _ => rfl, by decide, by decide, by decide, by decide⟩
theorem fq_FS_19 : fx_fg "FrameSwapper" 19 0 1 := fx_fg_of fp_FS_19
theorem fp_FS_26 : fx_fw "FrameSwapper" 26 0 2 true := ⟨Rq_FS, Tq_FS, 5, tq_FS, rfl, lq_FS, by decide, fx_m1 333 (by decide +kernel), tq_FS_ok, nq_FS, rfl, fun _ => rfl, by decide, by decide, by decide, by decide⟩
theorem fq_FS_26 : fx_fg "FrameSwapper" 26 0 2 := fx_fg_of fp_FS_26
theorem fp_FS_33 : fx_fw "FrameSwapper" 33 0 3 true := ⟨Rq_FS, Tq_FS, 5, tq_FS, rfl, lq_FS, by decide, fx_m1 334 (by decide +kernel), tq_FS_ok, nq_FS, rfl, fun _ => rfl, by decide, by decide, by decide, by decide⟩
theorem fq_FS_33 : fx_fg "FrameSwapper" 33 0 3 := fx_fg_of fp_FS_33
theorem fp_FS_40 : fx_fw "FrameSwapper" 40 0 4 true := ⟨Rq_FS, Tq_FS, 5, tq_FS, rfl, lq_FS, by decide, fx_m1 335 (by decide +kernel), tq_FS_ok, nq_FS, rfl, fun _ => rfl, by decide, by decide, by decide, by decide⟩
theorem fq_FS_40 : fx_fg "FrameSwapper" 40 0 4 := fx_fg_of fp_FS_40
theorem fp_MO_126 : fx_fw "FrameSwapperModel" 126 10 0 false := ⟨Rq_MO, Tq_MO, 52, tq_MO, rfl, lq_MO, by decide, fx_m1 802 (by decide +kernel), tq_MO_ok, nq_MO, rfl, fun _ => rfl, by decide, by decide, by decide, by decide⟩
theorem fq_MO_126 : fx_fg "FrameSwapperModel" 126 10 0 := fx_fg_of fp_MO_126
theorem fp_MO_7 : fx_fw "FrameSwapperModel" 7 10 1 true := ⟨Rq_MO, Tq_MO, 52, tq_MO, rfl, lq_MO, by decide, fx_m1 803 (by decide +kernel), tq_MO_ok, nq_MO, rfl, fun _ => rfl, by decide, by decide, by decide, by decide⟩
theorem fq_MO_7 : fx_fg "FrameSwapperModel" 7 10 1 := fx_fg_of fp_MO_7
theorem fp_MO_13 : fx_fw "FrameSwapperModel" 13 10 2 true := ⟨Rq_MO, Tq_MO, 52, tq_MO, rfl, lq_MO, by decide, fx_m1 804 (by decide +kernel), tq_MO_ok, nq_MO, rfl, fun _ => rfl, by decide, by decide, by decide, by decide⟩
theorem fq_MO_13 : fx_fg "FrameSwapperModel" 13 10 2 := fx_fg_of fp_MO_13
theorem fp_MO_17 : fx_fw "FrameSwapperModel" 17 10 3 true := ⟨Rq_MO, Tq_MO, 52, tq_MO, rfl, lq_MO, by decide, fx_m1 805 (by decide +kernel), tq_MO_ok, nq_MO, rfl, fun _ => rfl, by decide, by decide, by decide, by decide⟩
theorem fq_MO_17 : fx_fg "FrameSwapperModel" 17 10 3 := fx_fg_of fp_MO_17
theorem fp_MO_20 : fx_fw "FrameSwapperModel" 20 10 4 true := ⟨Rq_MO, Tq_MO, 52, tq_MO, rfl, lq_MO, by decide, fx_m1 806 (by decide +kernel), tq_MO_ok, nq_MO, rfl, fun _ => rfl, by decide, by decide, by decide, by decide⟩
theorem fq_MO_20 : fx_fg "FrameSwapperModel" 20 10 4 := fx_fg_of fp_MO_20
theorem fp_MO_23 : fx_fw "FrameSwapperModel" 23 10 5 true := ⟨Rq_MO, Tq_MO, 52, tq_MO, rfl, lq_MO, by decide, fx_m1 807 (by decide +kernel), tq_MO_ok, nq_MO, rfl, fun _ => rfl, by decide, by decide, by decide, by decide⟩
theorem fq_MO_23 : fx_fg "FrameSwapperModel" 23 10 5 := fx_fg_of fp_MO_23
theorem fp_MO_26 : fx_fw "FrameSwapperModel" 26 10 6 true := ⟨Rq_MO, Tq_MO, 52, tq_MO, rfl, lq_MO, by decide, fx_m1 808 (by decide +kernel), tq_MO_ok, nq_MO, rfl, fun _ => rfl, by decide, by decide, by decide, by decide⟩
theorem fq_MO_26 : fx_fg "FrameSwapperModel" 26 10 6 := fx_fg_of fp_MO_26
theorem fp_MO_29 : fx_fw "FrameSwapperModel" 29 10 7 true := ⟨Rq_MO, Tq_MO, 52, tq_MO, rfl, lq_MO, by decide, fx_m1 809 (by decide +kernel), tq_MO_ok, nq_MO, rfl, fun _ => rfl, by decide, by decide, by decide, by decide⟩
theorem fq_MO_29 : fx_fg "FrameSwapperModel" 29 10 7 := fx_fg_of fp_MO_29
theorem fp_MO_32 : fx_fw "FrameSwapperModel" 32 10 8 true := ⟨Rq_MO, Tq_MO, 52, tq_MO, rfl, lq_MO, by decide, fx_m1 810 (by decide +kernel), tq_MO_ok, nq_MO, rfl, fun _ => rfl, by decide, by decide, by decide, by decide⟩
theorem fq_MO_32 : fx_fg "FrameSwapperModel" 32 10 8 := fx_fg_of fp_MO_32
theorem fp_MO_35 : fx_fw "FrameSwapperModel" 35 10 9 true := ⟨Rq_MO, Tq_MO, 52, tq_MO, rfl, lq_MO, by decide, fx_m1 811 (by decide +kernel), tq_MO_ok, nq_MO, rfl, fun _ => rfl, by decide, by decide, by decide, by decide⟩
theorem fq_MO_35 : fx_fg "FrameSwapperModel" 35 10 9 := fx_fg_of fp_MO_35
theorem fp_MO_38 : fx_fw "FrameSwapperModel" 38 10 10 true := ⟨Rq_MO, Tq_MO, 52, tq_MO, rfl, lq_MO, by decide, fx_m1 812 (by decide +kernel), tq_MO_ok, nq_MO, rfl, fun _ => rfl, by decide, by decide, by decide, by decide⟩
theorem fq_MO_38 : fx_fg "FrameSwapperModel" 38 10 10 := fx_fg_of fp_MO_38
theorem fp_MO_41 : fx_fw "FrameSwapperModel" 41 10 11 true := ⟨Rq_MO, Tq_MO, 52, tq_MO, rfl, lq_MO, by decide, fx_m1 813 (by decide +kernel), tq_MO_ok, nq_MO, rfl, fun _ => rfl, by decide, by decide, by decide, by decide⟩
theorem fq_MO_41 : fx_fg "FrameSwapperModel" 41 10 11 := fx_fg_of fp_MO_41
theorem fp_MO_44 : fx_fw "FrameSwapperModel" 44 10 12 true := ⟨Rq_MO, Tq_MO, 52, tq_MO, rfl, lq_MO, by decide, fx_m1 814 (by decide +kernel), tq_MO_ok, nq_MO, rfl, fun _ => rfl, by decide, by decide, by decide, by decide⟩
theorem fq_MO_44 : fx_fg "FrameSwapperModel" 44 10 12 := fx_fg_of fp_MO_44
theorem fp_MO_47 : fx_fw "FrameSwapperModel" 47 10 13 true := ⟨Rq_MO, Tq_MO, 52, tq_MO, rfl, lq_MO, by decide, fx_m1 815 (by decide +kernel), tq_MO_ok, nq_MO, rfl, fun _ => rfl, by decide, by decide, by decide, by decide⟩
theorem fq_MO_47 : fx_fg "FrameSwapperModel" 47 10 13 := fx_fg_of fp_MO_47
theorem fp_MO_50 : fx_fw "FrameSwapperModel" 50 10 14 true := ⟨Rq_MO, Tq_MO, 52, tq_MO, rfl, lq_MO, by decide, fx_m1 816 (by decide +kernel), tq_MO_ok, nq_MO, rfl, fun _ => rfl, by decide, by decide, by decide, by decide⟩
theorem fq_MO_50 : fx_fg "FrameSwapperModel" 50 10 14 := fx_fg_of fp_MO_50
theorem fp_MO_53 : fx_fw "FrameSwapperModel" 53 10 15 true := ⟨Rq_MO, Tq_MO, 52, tq_MO, rfl, lq_MO, by decide, fx_m1 817 (by decide +kernel), tq_MO_ok, nq_MO, rfl, fun _ => rfl, by decide, by decide, by decide, by decide⟩
theorem fq_MO_53 : fx_fg "FrameSwapperModel" 53 10 15 := fx_fg_of fp_MO_53
theorem fp_MO_56 : fx_fw "FrameSwapperModel" 56 10 16 true := ⟨Rq_MO, Tq_MO, 52, tq_MO, rfl, lq_MO, by decide, fx_m1 818 (by decide +kernel), tq_MO_ok, nq_MO, rfl, fun _ => rfl, by decide, by decide, by decide, by decide⟩
theorem fq_MO_56 : fx_fg "FrameSwapperModel" 56 10 16 := fx_fg_of fp_MO_56
theorem fp_MO_59 : fx_fw "FrameSwapperModel" 59 10 17 true := ⟨Rq_MO, Tq_MO, 52, tq_MO, rfl, lq_MO, by decide, fx_m1 819 (by decide +kernel), tq_MO_ok, nq_MO, rfl, fun _ => rfl, by decide, by decide, by decide, by decide⟩
theorem fq_MO_59 : fx_fg "FrameSwapperModel" 59 10 17 := fx_fg_of fp_MO_59
theorem fp_MO_62 : fx_fw "FrameSwapperModel" 62 10 18 true := ⟨Rq_MO, Tq_MO, 52, tq_MO, rfl, lq_MO, by decide, fx_m1 820 (by decide +kernel), tq_MO_ok, nq_MO, rfl, fun _ => rfl, by decide, by decide, by decide, by decide⟩
theorem fq_MO_62 : fx_fg "FrameSwapperModel" 62 10 18 := fx_fg_of fp_MO_62
theorem fp_MO_164 : fx_fw "FrameSwapperModel" 164 10 19 false := ⟨Rq_MO, Tq_MO, 52, tq_MO, rfl, lq_MO, by decide, fx_m1 821 (by decide +kernel), tq_MO_ok, nq_MO, rfl, fun _ => rfl, by decide, by decide, by decide, by decide⟩
theorem fq_MO_164 : fx_fg "FrameSwapperModel" 164 10 19 := fx_fg_of fp_MO_164
theorem fp_MO_167 : fx_fw "FrameSwapperModel" 167 10 20 false := ⟨Rq_MO, Tq_MO, 52, tq_MO, rfl, lq_MO, by decide, fx_m1 822 (by decide +kernel), tq_MO_ok, nq_MO, rfl, fun _ => rfl, by decide, by decide, by decide, by decide⟩
theorem fq_MO_167 : fx_fg "FrameSwapperModel" 167 10 20 := fx_fg_of fp_MO_167
theorem fp_MO_65 : fx_fw "FrameSwapperModel" 65 10 21 true := ⟨Rq_MO, Tq_MO, 52, tq_MO, rfl, lq_MO, by decide, fx_m1 823 (by decide +kernel), tq_MO_ok, nq_MO, rfl, fun _ => rfl, by decide, by decide, by decide, by decide⟩
theorem fq_MO_65 : fx_fg "FrameSwapperModel" 65 10 21 := fx_fg_of fp_MO_65
theorem fp_MO_216 : fx_fw "FrameSwapperModel" 216 10 22 false := ⟨Rq_MO, Tq_MO, 52, tq_MO, rfl, lq_MO, by decide, fx_m1 824 (by decide +kernel), tq_MO_ok, nq_MO, rfl, fun _ => rfl, by decide, by decide, by decide, by decide⟩
theorem fq_MO_216 : fx_fg "FrameSwapperModel" 216 10 22 := fx_fg_of fp_MO_216
theorem fp_MO_68 : fx_fw "FrameSwapperModel" 68 10 23 false := ⟨Rq_MO, Tq_MO, 52, tq_MO, rfl, lq_MO, by decide, fx_m1 825 (by decide +kernel), tq_MO_ok, nq_MO, rfl, fun _ => rfl, by decide, by decide, by decide, by decide⟩
theorem fq_MO_68 : fx_fg "FrameSwapperModel" 68 10 23 := fx_fg_of fp_MO_68
theorem fp_MO_72 : fx_fw "FrameSwapperModel" 72 10 24 true := ⟨Rq_MO, Tq_MO, 52, tq_MO, rfl, lq_MO, by decide, fx_m1 826 (by decide +kernel), tq_MO_ok, nq_MO, rfl, fun _ => rfl, by decide, by decide, by decide, by decide⟩
theorem fq_MO_72 : fx_fg "FrameSwapperModel" 72 10 24 := fx_fg_of fp_MO_72
theorem fp_MO_75 : fx_fw "FrameSwapperModel" 75 10 25 true := ⟨Rq_MO, Tq_MO, 52, tq_MO, rfl, lq_MO, by decide, fx_m1 827 (by decide +kernel), tq_MO_ok, nq_MO, rfl, fun _ => rfl, by decide, by decide, by decide, by decide⟩
theorem fq_MO_75 : fx_fg "FrameSwapperModel" 75 10 25 := fx_fg_of fp_MO_75
theorem fp_MO_78 : fx_fw "FrameSwapperModel" 78 10 26 true := ⟨Rq_MO, Tq_MO, 52, tq_MO, rfl, lq_MO, by decide, fx_m1 828 (by decide +kernel), tq_MO_ok, nq_MO, rfl, fun _ => rfl, by decide, by decide, by decide, by decide⟩
theorem fq_MO_78 : fx_fg "FrameSwapperModel" 78 10 26 := fx_fg_of fp_MO_78
theorem fp_MO_81 : fx_fw "FrameSwapperModel" 81 10 27 true := ⟨Rq_MO, Tq_MO, 52, tq_MO, rfl, lq_MO, by decide, fx_m1 829 (by decide +kernel), tq_MO_ok, nq_MO, rfl, fun _ => rfl, by decide, by decide, by decide, by decide⟩
theorem fq_MO_81 : fx_fg "FrameSwapperModel" 81 10 27 := fx_fg_of fp_MO_81
theorem fp_MO_84 : fx_fw "FrameSwapperModel" 84 10 28 true := ⟨Rq_MO, Tq_MO, 52, tq_MO, rfl, lq_MO, by decide, fx_m1 830 (by decide +kernel), tq_MO_ok, nq_MO, rfl, fun _ => rfl, by decide, by decide, by decide, by decide⟩
theorem fq_MO_84 : fx_fg "FrameSwapperModel" 84 10 28 := fx_fg_of fp_MO_84
theorem fp_MO_87 : fx_fw "FrameSwapperModel" 87 10 29 true := ⟨Rq_MO, Tq_MO, 52, tq_MO, rfl, lq_MO, by decide, fx_m1 831 (by decide +kernel), tq_MO_ok, nq_MO, rfl, fun _ => rfl, by decide, by decide, by decide, by decide⟩
theorem fq_MO_87 : fx_fg "FrameSwapperModel" 87 10 29 := fx_fg_of fp_MO_87
theorem fp_MO_90 : fx_fw "FrameSwapperModel" 90 10 30 true := ⟨Rq_MO, Tq_MO, 52, tq_MO, rfl, lq_MO, by decide, fx_m1 832 (by decide +kernel), tq_MO_ok, nq_MO, rfl, fun _ => rfl, by decide, by decide, by decide, by decide⟩
theorem fq_MO_90 : fx_fg "FrameSwapperModel" 90 10 30 := fx_fg_of fp_MO_90
theorem fp_MO_219 : fx_fw "FrameSwapperModel" 219 10 31 false := ⟨Rq_MO, Tq_MO, 52, tq_MO, rfl, lq_MO, by decide, fx_m1 833 (by decide +kernel), tq_MO_ok, nq_MO, rfl, fun _ => rfl, by decide, by decide, by decide, by decide⟩
theorem fq_MO_219 : fx_fg "FrameSwapperModel" 219 10 31 := fx_fg_of fp_MO_219
theorem fp_MO_222 : fx_fw "FrameSwapperModel" 222 10 32 false := ⟨Rq_MO, Tq_MO, 52, tq_MO, rfl, lq_MO, by decide, fx_m1 834 (by decide +kernel), tq_MO_ok, nq_MO, rfl, fun _ => rfl, by decide, by decide, by decide, by decide⟩
theorem fq_MO_222 : fx_fg "FrameSwapperModel" 222 10 32 := fx_fg_of fp_MO_222
theorem fp_MO_93 : fx_fw "FrameSwapperModel" 93 10 33 true := ⟨Rq_MO, Tq_MO, 52, tq_MO, rfl, lq_MO, by decide, fx_m1 835 (by decide +kernel), tq_MO_ok, nq_MO, rfl, fun _ => rfl, by decide, by decide, by decide, by decide⟩
theorem fq_MO_93 : fx_fg "FrameSwapperModel" 93 10 33 := fx_fg_of fp_MO_93
theorem fp_MO_96 : fx_fw "FrameSwapperModel" 96 10 34 true := ⟨Rq_MO, Tq_MO, 52, tq_MO, rfl, lq_MO, by decide, fx_m1 836 (by decide +kernel), tq_MO_ok, nq_MO, rfl, fun _ => rfl, by decide, by decide, by decide, by decide⟩
theorem fq_MO_96 : fx_fg "FrameSwapperModel" 96 10 34 := fx_fg_of fp_MO_96
theorem fp_MO_99 : fx_fw "FrameSwapperModel" 99 10 35 true := ⟨Rq_MO, Tq_MO, 52, tq_MO, rfl, lq_MO, by decide, fx_m1 837 (by decide +kernel), tq_MO_ok, nq_MO, rfl, fun _ => rfl, by decide, by decide, by decide, by decide⟩
theorem fq_MO_99 : fx_fg "FrameSwapperModel" 99 10 35 := fx_fg_of fp_MO_99
theorem fp_MO_102 : fx_fw "FrameSwapperModel" 102 10 36 true := ⟨Rq_MO, Tq_MO, 52, tq_MO, rfl, lq_MO, by decide, fx_m1 838 (by decide +kernel), tq_MO_ok, nq_MO, rfl, fun _ => rfl, by decide, by decide, by decide, by decide⟩
theorem fq_MO_102 : fx_fg "FrameSwapperModel" 102 10 36 := fx_fg_of fp_MO_102
theorem fp_MO_105 : fx_fw "FrameSwapperModel" 105 10 37 true := ⟨Rq_MO, Tq_MO, 52, tq_MO, rfl, lq_MO, by decide, fx_m1 839 (by decide +kernel), tq_MO_ok, nq_MO, rfl, fun _ => rfl, by decide, by decide, by decide, by decide⟩
theorem fq_MO_105 : fx_fg "FrameSwapperModel" 105 10 37 := fx_fg_of fp_MO_105
theorem fp_MO_141 : fx_fw "FrameSwapperModel" 141 10 38 false := ⟨Rq_MO, Tq_MO, 52, tq_MO, rfl, lq_MO, by decide, fx_m1 840 (by decide +kernel), tq_MO_ok, nq_MO, rfl, fun _ => rfl, by decide, by decide, by decide, by decide⟩
theorem fq_MO_141 : fx_fg "FrameSwapperModel" 141 10 38 := fx_fg_of fp_MO_141
theorem fp_MO_147 : fx_fw "FrameSwapperModel" 147 10 39 false := ⟨Rq_MO, Tq_MO, 52, tq_MO, rfl, lq_MO, by decide, fx_m1 841 (by decide +kernel), tq_MO_ok, nq_MO, rfl, fun _ => rfl, by decide, by decide, by decide, by decide⟩
theorem fq_MO_147 : fx_fg "FrameSwapperModel" 147 10 39 := fx_fg_of fp_MO_147
theorem fp_MO_144 : fx_fw "FrameSwapperModel" 144 10 40 false := ⟨Rq_MO, Tq_MO, 52, tq_MO, rfl, lq_MO, by decide, fx_m1 842 (by decide +kernel), tq_MO_ok, nq_MO, rfl, fun _ => rfl, by decide, by decide, by decide, by decide⟩
theorem fq_MO_144 : fx_fg "FrameSwapperModel" 144 10 40 := fx_fg_of fp_MO_144
theorem fp_MO_150 : fx_fw "FrameSwapperModel" 150 10 41 false := ⟨Rq_MO, Tq_MO, 52, tq_MO, rfl, lq_MO, by decide, fx_m1 843 (by decide +kernel), tq_MO_ok, nq_MO, rfl, fun _ => rfl, by decide, by decide, by decide, by decide⟩
theorem fq_MO_150 : fx_fg "FrameSwapperModel" 150 10 41 := fx_fg_of fp_MO_150
theorem fp_MO_256 : fx_fw "FrameSwapperModel" 256 10 42 false := ⟨Rq_MO, Tq_MO, 52, tq_MO, rfl, lq_MO, by decide, fx_m1 844 (by decide +kernel), tq_MO_ok, nq_MO, rfl, fun _ => rfl, by decide, by decide, by decide, by decide⟩
theorem fq_MO_256 : fx_fg "FrameSwapperModel" 256 10 42 := fx_fg_of fp_MO_256
theorem fp_MO_253 : fx_fw "FrameSwapperModel" 253 10 43 false := ⟨Rq_MO, Tq_MO, 52, tq_MO, rfl, lq_MO, by decide, fx_m1 845 (by decide +kernel), tq_MO_ok, nq_MO, rfl, fun _ => rfl, by decide, by decide, by decide, by decide⟩
theorem fq_MO_253 : fx_fg "FrameSwapperModel" 253 10 43 := fx_fg_of fp_MO_253
theorem fp_MO_247 : fx_fw "FrameSwapperModel" 247 10 44 false := ⟨Rq_MO, Tq_MO, 52, tq_MO, rfl, lq_MO, by decide, fx_m1 846 (by decide +kernel), tq_MO_ok, nq_MO, rfl, fun _ => rfl, by decide, by decide, by decide, by decide⟩
theorem fq_MO_247 : fx_fg "FrameSwapperModel" 247 10 44 := fx_fg_of fp_MO_247
theorem fp_MO_250 : fx_fw "FrameSwapperModel" 250 10 45 false := ⟨Rq_MO, Tq_MO, 52, tq_MO, rfl, lq_MO, by decide, fx_m1 847 (by decide +kernel), tq_MO_ok, nq_MO, rfl, fun _ => rfl, by decide, by decide, by decide, by decide⟩
theorem fq_MO_250 : fx_fg "FrameSwapperModel" 250 10 45 := fx_fg_of fp_MO_250
theorem fp_MO_108 : fx_fw "FrameSwapperModel" 108 10 46 true := ⟨Rq_MO, Tq_MO, 52, tq_MO, rfl, lq_MO, by decide, fx_m1 848 (by decide +kernel), tq_MO_ok, nq_MO, rfl, fun _ => rfl, by decide, by decide, by decide, by decide⟩
theorem fq_MO_108 : fx_fg "FrameSwapperModel" 108 10 46 := fx_fg_of fp_MO_108
theorem fp_MO_111 : fx_fw "FrameSwapperModel" 111 10 47 true := ⟨Rq_MO, Tq_MO, 52, tq_MO, rfl, lq_MO, by decide, fx_m1 849 (by decide +kernel), tq_MO_ok, nq_MO, rfl, fun _ => rfl, by decide, by decide, by decide, by decide⟩
theorem fq_MO_111 : fx_fg "FrameSwapperModel" 111 10 47 := fx_fg_of fp_MO_111
theorem fp_MO_114 : fx_fw "FrameSwapperModel" 114 10 48 true := ⟨Rq_MO, Tq_MO, 52, tq_MO, rfl, lq_MO, by decide, fx_m1 850 (by decide +kernel), tq_MO_ok, nq_MO, rfl, fun _ => rfl, by decide, by decide, by decide, by decide⟩
theorem fq_MO_114 : fx_fg "FrameSwapperModel" 114 10 48 := fx_fg_of fp_MO_114
theorem fp_MO_117 : fx_fw "FrameSwapperModel" 117 10 49 true := ⟨Rq_MO, Tq_MO, 52, tq_MO, rfl, lq_MO, by decide, fx_m1 851 (by decide +kernel), tq_MO_ok, nq_MO, rfl, fun _ => rfl, by decide, by decide, by decide, by decide⟩
theorem fq_MO_117 : fx_fg "FrameSwapperModel" 117 10 49 := fx_fg_of fp_MO_117
theorem fp_MO_120 : fx_fw "FrameSwapperModel" 120 10 50 true := ⟨Rq_MO, Tq_MO, 52, tq_MO, rfl, lq_MO, by decide, fx_m1 852 (by decide +kernel), tq_MO_ok, nq_MO, rfl, fun _ => rfl, by decide, by decide, by decide, by decide⟩
theorem fq_MO_120 : fx_fg "FrameSwapperModel" 120 10 50 := fx_fg_of fp_MO_120
theorem fp_MO_123 : fx_fw "FrameSwapperModel" 123 10 51 true := ⟨Rq_MO, Tq_MO, 52, tq_MO, rfl, lq_MO, by decide, fx_m1 853 (by decide +kernel), tq_MO_ok, nq_MO, rfl, fun _ => rfl, by decide, by decide, by decide, by decide⟩
theorem fq_MO_123 : fx_fg "FrameSwapperModel" 123 10 51 := fx_fg_of fp_MO_123
