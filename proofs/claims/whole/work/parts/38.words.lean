/-! ===== words of constants, of JDK members, of what is made ===== -/
theorem lk_LA_8 : Cond.classLink "FrameSwapperLaw" 8 "FrameSwapper" ∈ fx_tb := fx_m1 21 (by decide +kernel)
theorem lk_FS_7 : Cond.classLink "FrameSwapper" 7 "FrameSwapper$Desk" ∈ fx_tb := fx_m1 29 (by decide +kernel)
theorem lk_DE_9 : Cond.classLink "FrameSwapper$Desk" 9 "FrameSwapper$Picture" ∈ fx_tb := fx_m1 35 (by decide +kernel)
theorem lk_DE_17 : Cond.classLink "FrameSwapper$Desk" 17 "FrameSwapper$Pile" ∈ fx_tb := fx_m1 37 (by decide +kernel)
theorem lk_PL_9 : Cond.classLink "FrameSwapper$Pile" 9 "FrameSwapper$Picture" ∈ fx_tb := fx_m1 43 (by decide +kernel)
theorem lk_PI_15 : Cond.classLink "FrameSwapper$Picture" 15 "FrameSwapper$Rectangle" ∈ fx_tb := fx_m1 49 (by decide +kernel)
theorem lk_FS_16 : Cond.classLink "FrameSwapper" 16 "FrameSwapper$Composer" ∈ fx_tb := fx_m1 188 (by decide +kernel)
theorem lk_CO_9 : Cond.classLink "FrameSwapper$Composer" 9 "FrameSwapper$Pile" ∈ fx_tb := fx_m1 194 (by decide +kernel)
theorem lk_CO_18 : Cond.classLink "FrameSwapper$Composer" 18 "FrameSwapper$Planes" ∈ fx_tb := fx_m1 196 (by decide +kernel)
theorem lk_PN_15 : Cond.classLink "FrameSwapper$Planes" 15 "FrameSwapper$Rectangle" ∈ fx_tb := fx_m1 202 (by decide +kernel)
theorem lk_PN_22 : Cond.classLink "FrameSwapper$Planes" 22 "[[I" ∈ fx_tb := fx_m1 205 (by decide +kernel)
theorem lk_CO_29 : Cond.classLink "FrameSwapper$Composer" 29 "FrameSwapper$Rectangle" ∈ fx_tb := fx_m1 218 (by decide +kernel)
theorem lk_CO_35 : Cond.classLink "FrameSwapper$Composer" 35 "FrameSwapper$Memory" ∈ fx_tb := fx_m1 219 (by decide +kernel)
theorem lk_ME_15 : Cond.classLink "FrameSwapper$Memory" 15 "FrameSwapper$Misses" ∈ fx_tb := fx_m1 225 (by decide +kernel)
theorem lk_MI_9 : Cond.classLink "FrameSwapper$Misses" 9 "FrameSwapper$Rectangle" ∈ fx_tb := fx_m1 231 (by decide +kernel)
theorem lk_FS_23 : Cond.classLink "FrameSwapper" 23 "FrameSwapper$Beam" ∈ fx_tb := fx_m1 295 (by decide +kernel)
theorem lk_BE_9 : Cond.classLink "FrameSwapper$Beam" 9 "FrameSwapper$Planes" ∈ fx_tb := fx_m1 301 (by decide +kernel)
theorem lk_FS_30 : Cond.classLink "FrameSwapper" 30 "FrameSwapper$Rectangle" ∈ fx_tb := fx_m1 327 (by decide +kernel)
theorem lk_FS_37 : Cond.classLink "FrameSwapper" 37 "FrameSwapper$Picture" ∈ fx_tb := fx_m1 329 (by decide +kernel)
theorem lk_LA_13 : Cond.classLink "FrameSwapperLaw" 13 "java/lang/IllegalArgumentException" ∈ fx_tb := fx_m1 438 (by decide +kernel)
theorem lk_LA_15 : Cond.classLink "FrameSwapperLaw" 15 "java/lang/IllegalStateException" ∈ fx_tb := fx_m1 439 (by decide +kernel)
theorem lk_FS_254 : Cond.classLink "FrameSwapper" 254 "java/lang/IllegalArgumentException" ∈ fx_tb := fx_m1 450 (by decide +kernel)
theorem lk_FS_64 : Cond.classLink "FrameSwapper" 64 "java/lang/IllegalStateException" ∈ fx_tb := fx_m1 517 (by decide +kernel)
theorem lk_LA_33 : Cond.classLink "FrameSwapperLaw" 33 "java/lang/IndexOutOfBoundsException" ∈ fx_tb := fx_m1 604 (by decide +kernel)
theorem kq_FS_257 : Cond.constant "FrameSwapper" 257 65535 ∈ fx_tb := fx_m1 612 (by decide +kernel)
theorem lk_FS_126 : Cond.classLink "FrameSwapper" 126 "java/lang/IndexOutOfBoundsException" ∈ fx_tb := fx_m1 613 (by decide +kernel)
theorem lk_LA_51 : Cond.classLink "FrameSwapperLaw" 51 "FrameSwapperModel" ∈ fx_tb := fx_m1 796 (by decide +kernel)
theorem kq_MO_157 : Cond.constant "FrameSwapperModel" 157 65535 ∈ fx_tb := fx_m1 997 (by decide +kernel)
theorem kq_MO_186 : Cond.constant "FrameSwapperModel" 186 100000 ∈ fx_tb := fx_m1 1066 (by decide +kernel)
theorem kj_max : Cond.static Lib.Math.max.name ∈ fx_tb ∧ Cond.initialized "java/lang/Math" ∈ fx_tb ∧ Cond.code Lib.Math.max.name Lib.Math.max.code 2 (some .int) ∈ fx_tb := ⟨fx_m1 561 (by decide +kernel), fx_m1 18 (by decide +kernel), fx_m1 562 (by decide +kernel)⟩
theorem kj_min : Cond.static Lib.Math.min.name ∈ fx_tb ∧ Cond.initialized "java/lang/Math" ∈ fx_tb ∧ Cond.code Lib.Math.min.name Lib.Math.min.code 2 (some .int) ∈ fx_tb := ⟨fx_m1 558 (by decide +kernel), fx_m1 18 (by decide +kernel), fx_m1 559 (by decide +kernel)⟩
theorem kj_obj : Cond.instanceMethod Lib.objectInit ∈ fx_tb ∧ Cond.code Lib.objectInit ⟨#[0xb1]⟩ 1 none ∈ fx_tb := ⟨fx_m1 27 (by decide +kernel), fx_m1 28 (by decide +kernel)⟩
theorem kj_cp : Cond.native arraycopyName ∈ fx_tb ∧ Cond.static arraycopyName ∈ fx_tb ∧ Cond.initialized "java/lang/System" ∈ fx_tb := ⟨fx_m1 357 (by decide +kernel), fx_m1 356 (by decide +kernel), fx_m1 20 (by decide +kernel)⟩
theorem nw_FS : (∀ j, j < 5 → (fx_fk 0 j ≠ 2 → defaultValue (tq_FS j) = .int 0) ∧ (fx_fk 0 j = 2 → defaultValue (tq_FS j) = .null)) := by decide +kernel
theorem ko_FS : Cond.instantiable "FrameSwapper" 5 ∈ fx_tb := fx_m1 22 (by decide +kernel)
theorem nw_RE : (∀ j, j < 4 → (fx_fk 1 j ≠ 2 → defaultValue (tq_RE j) = .int 0) ∧ (fx_fk 1 j = 2 → defaultValue (tq_RE j) = .null)) := by decide +kernel
theorem ko_RE : Cond.instantiable "FrameSwapper$Rectangle" 4 ∈ fx_tb := fx_m1 50 (by decide +kernel)
theorem nw_PI : (∀ j, j < 11 → (fx_fk 2 j ≠ 2 → defaultValue (tq_PI j) = .int 0) ∧ (fx_fk 2 j = 2 → defaultValue (tq_PI j) = .null)) := by decide +kernel
theorem ko_PI : Cond.instantiable "FrameSwapper$Picture" 11 ∈ fx_tb := fx_m1 44 (by decide +kernel)
theorem nw_PL : (∀ j, j < 3 → (fx_fk 3 j ≠ 2 → defaultValue (tq_PL j) = .int 0) ∧ (fx_fk 3 j = 2 → defaultValue (tq_PL j) = .null)) := by decide +kernel
theorem ko_PL : Cond.instantiable "FrameSwapper$Pile" 3 ∈ fx_tb := fx_m1 38 (by decide +kernel)
theorem nw_DE : (∀ j, j < 7 → (fx_fk 4 j ≠ 2 → defaultValue (tq_DE j) = .int 0) ∧ (fx_fk 4 j = 2 → defaultValue (tq_DE j) = .null)) := by decide +kernel
theorem ko_DE : Cond.instantiable "FrameSwapper$Desk" 7 ∈ fx_tb := fx_m1 30 (by decide +kernel)
theorem nw_MI : (∀ j, j < 2 → (fx_fk 5 j ≠ 2 → defaultValue (tq_MI j) = .int 0) ∧ (fx_fk 5 j = 2 → defaultValue (tq_MI j) = .null)) := by decide +kernel
theorem ko_MI : Cond.instantiable "FrameSwapper$Misses" 2 ∈ fx_tb := fx_m1 226 (by decide +kernel)
theorem nw_ME : (∀ j, j < 2 → (fx_fk 6 j ≠ 2 → defaultValue (tq_ME j) = .int 0) ∧ (fx_fk 6 j = 2 → defaultValue (tq_ME j) = .null)) := by decide +kernel
theorem ko_ME : Cond.instantiable "FrameSwapper$Memory" 2 ∈ fx_tb := fx_m1 220 (by decide +kernel)
theorem nw_PN : (∀ j, j < 3 → (fx_fk 7 j ≠ 2 → defaultValue (tq_PN j) = .int 0) ∧ (fx_fk 7 j = 2 → defaultValue (tq_PN j) = .null)) := by decide +kernel
theorem ko_PN : Cond.instantiable "FrameSwapper$Planes" 3 ∈ fx_tb := fx_m1 197 (by decide +kernel)
theorem nw_CO : (∀ j, j < 11 → (fx_fk 8 j ≠ 2 → defaultValue (tq_CO j) = .int 0) ∧ (fx_fk 8 j = 2 → defaultValue (tq_CO j) = .null)) := by decide +kernel
theorem ko_CO : Cond.instantiable "FrameSwapper$Composer" 11 ∈ fx_tb := fx_m1 189 (by decide +kernel)
theorem nw_BE : (∀ j, j < 6 → (fx_fk 9 j ≠ 2 → defaultValue (tq_BE j) = .int 0) ∧ (fx_fk 9 j = 2 → defaultValue (tq_BE j) = .null)) := by decide +kernel
theorem ko_BE : Cond.instantiable "FrameSwapper$Beam" 6 ∈ fx_tb := fx_m1 296 (by decide +kernel)
theorem nw_MO : (∀ j, j < 52 → (fx_fk 10 j ≠ 2 → defaultValue (tq_MO j) = .int 0) ∧ (fx_fk 10 j = 2 → defaultValue (tq_MO j) = .null)) := by decide +kernel
theorem ko_MO : Cond.instantiable "FrameSwapperModel" 52 ∈ fx_tb := fx_m1 797 (by decide +kernel)
theorem ka_int : Cond.arrayClass .int ∈ fx_tb := fx_m1 84 (by decide +kernel)
theorem ka_boolean : Cond.arrayClass .boolean ∈ fx_tb := fx_m1 187 (by decide +kernel)
theorem ka_long : Cond.arrayClass .long ∈ fx_tb := fx_m1 1144 (by decide +kernel)
