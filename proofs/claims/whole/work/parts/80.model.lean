/-! ===== the Model: its world, its small methods ===== -/
/-- the arrays of the Model: field, place behind the object, kind, length -/
def moT : List (Nat × Nat × Nat × Nat) := [(1, 1, 1, 10), (2, 2, 0, 10), (3, 3, 0, 10), (4, 4, 0, 10), (5, 5, 1, 10), (6, 6, 1, 10), (7, 7, 1, 30), (8, 8, 0, 30), (9, 9, 0, 30), (10, 10, 0, 30), (11, 11, 0, 30), (12, 12, 1, 30), (13, 13, 0, 30), (14, 14, 0, 30), (15, 15, 0, 30), (16, 16, 0, 30), (17, 17, 0, 2880), (18, 18, 0, 96), (21, 19, 1, 4), (24, 20, 0, 400), (25, 21, 0, 2), (26, 22, 0, 14), (27, 23, 0, 14), (28, 24, 0, 14), (29, 25, 0, 14), (30, 26, 0, 2), (33, 27, 0, 10), (34, 28, 0, 10), (35, 29, 0, 10), (36, 30, 0, 10), (37, 31, 1, 10), (46, 32, 0, 2), (47, 33, 0, 2), (48, 34, 0, 2), (49, 35, 0, 2), (50, 36, 0, 48), (51, 37, 0, 200)]
theorem vp_up {s : Int32} {n m : Nat} (h : vp_in s n) (hn : n ≤ m) : vp_in s m := fun z => h (z.imp id (fun y => Nat.le_trans hn y))
def isM (h : fx_H) (q : Nat) : Prop := fx_s h q = some (.inl 10) ∧ ∀ t ∈ moT, fx_r h q t.1 = some (q + t.2.1) ∧ fx_s h (q + t.2.1) = some (.inr (t.2.2.1, t.2.2.2))
theorem isM_sm {h h' : fx_H} {q : Nat} (e : fx_sm h h') (hm : isM h q) : isM h' q := ⟨(fx_sm_s e _).trans hm.1, fun t ht => ⟨(fx_sm_r e _ _).trans (hm.2 t ht).1, (fx_sm_s e _).trans (hm.2 t ht).2⟩⟩
theorem mo_used {h : fx_H} {q : Nat} (hm : isM h q) : fx_r h q 1 = some (q + 1) ∧ fx_s h (q + 1) = some (.inr (1, 10)) := hm.2 (1, 1, 1, 10) (by decide)
theorem mo_client {h : fx_H} {q : Nat} (hm : isM h q) : fx_r h q 2 = some (q + 2) ∧ fx_s h (q + 2) = some (.inr (0, 10)) := hm.2 (2, 2, 0, 10) (by decide)
theorem mo_columns {h : fx_H} {q : Nat} (hm : isM h q) : fx_r h q 3 = some (q + 3) ∧ fx_s h (q + 3) = some (.inr (0, 10)) := hm.2 (3, 3, 0, 10) (by decide)
theorem mo_rows {h : fx_H} {q : Nat} (hm : isM h q) : fx_r h q 4 = some (q + 4) ∧ fx_s h (q + 4) = some (.inr (0, 10)) := hm.2 (4, 4, 0, 10) (by decide)
theorem mo_destroyed {h : fx_H} {q : Nat} (hm : isM h q) : fx_r h q 5 = some (q + 5) ∧ fx_s h (q + 5) = some (.inr (1, 10)) := hm.2 (5, 5, 1, 10) (by decide)
theorem mo_gone {h : fx_H} {q : Nat} (hm : isM h q) : fx_r h q 6 = some (q + 6) ∧ fx_s h (q + 6) = some (.inr (1, 10)) := hm.2 (6, 6, 1, 10) (by decide)
theorem mo_there {h : fx_H} {q : Nat} (hm : isM h q) : fx_r h q 7 = some (q + 7) ∧ fx_s h (q + 7) = some (.inr (1, 30)) := hm.2 (7, 7, 1, 30) (by decide)
theorem mo_px {h : fx_H} {q : Nat} (hm : isM h q) : fx_r h q 8 = some (q + 8) ∧ fx_s h (q + 8) = some (.inr (0, 30)) := hm.2 (8, 8, 0, 30) (by decide)
theorem mo_py {h : fx_H} {q : Nat} (hm : isM h q) : fx_r h q 9 = some (q + 9) ∧ fx_s h (q + 9) = some (.inr (0, 30)) := hm.2 (9, 9, 0, 30) (by decide)
theorem mo_order {h : fx_H} {q : Nat} (hm : isM h q) : fx_r h q 10 = some (q + 10) ∧ fx_s h (q + 10) = some (.inr (0, 30)) := hm.2 (10, 10, 0, 30) (by decide)
theorem mo_alpha {h : fx_H} {q : Nat} (hm : isM h q) : fx_r h q 11 = some (q + 11) ∧ fx_s h (q + 11) = some (.inr (0, 30)) := hm.2 (11, 11, 0, 30) (by decide)
theorem mo_visible {h : fx_H} {q : Nat} (hm : isM h q) : fx_r h q 12 = some (q + 12) ∧ fx_s h (q + 12) = some (.inr (1, 30)) := hm.2 (12, 12, 1, 30) (by decide)
theorem mo_cx {h : fx_H} {q : Nat} (hm : isM h q) : fx_r h q 13 = some (q + 13) ∧ fx_s h (q + 13) = some (.inr (0, 30)) := hm.2 (13, 13, 0, 30) (by decide)
theorem mo_cy {h : fx_H} {q : Nat} (hm : isM h q) : fx_r h q 14 = some (q + 14) ∧ fx_s h (q + 14) = some (.inr (0, 30)) := hm.2 (14, 14, 0, 30) (by decide)
theorem mo_cw {h : fx_H} {q : Nat} (hm : isM h q) : fx_r h q 15 = some (q + 15) ∧ fx_s h (q + 15) = some (.inr (0, 30)) := hm.2 (15, 15, 0, 30) (by decide)
theorem mo_ch {h : fx_H} {q : Nat} (hm : isM h q) : fx_r h q 16 = some (q + 16) ∧ fx_s h (q + 16) = some (.inr (0, 30)) := hm.2 (16, 16, 0, 30) (by decide)
theorem mo_pixels {h : fx_H} {q : Nat} (hm : isM h q) : fx_r h q 17 = some (q + 17) ∧ fx_s h (q + 17) = some (.inr (0, 2880)) := hm.2 (17, 17, 0, 2880) (by decide)
theorem mo_copied {h : fx_H} {q : Nat} (hm : isM h q) : fx_r h q 18 = some (q + 18) ∧ fx_s h (q + 18) = some (.inr (0, 96)) := hm.2 (18, 18, 0, 96) (by decide)
theorem mo_committed {h : fx_H} {q : Nat} (hm : isM h q) : fx_r h q 21 = some (q + 19) ∧ fx_s h (q + 19) = some (.inr (1, 4)) := hm.2 (21, 19, 1, 4) (by decide)
theorem mo_memory {h : fx_H} {q : Nat} (hm : isM h q) : fx_r h q 24 = some (q + 20) ∧ fx_s h (q + 20) = some (.inr (0, 400)) := hm.2 (24, 20, 0, 400) (by decide)
theorem mo_misses {h : fx_H} {q : Nat} (hm : isM h q) : fx_r h q 25 = some (q + 21) ∧ fx_s h (q + 21) = some (.inr (0, 2)) := hm.2 (25, 21, 0, 2) (by decide)
theorem mo_mx {h : fx_H} {q : Nat} (hm : isM h q) : fx_r h q 26 = some (q + 22) ∧ fx_s h (q + 22) = some (.inr (0, 14)) := hm.2 (26, 22, 0, 14) (by decide)
theorem mo_my {h : fx_H} {q : Nat} (hm : isM h q) : fx_r h q 27 = some (q + 23) ∧ fx_s h (q + 23) = some (.inr (0, 14)) := hm.2 (27, 23, 0, 14) (by decide)
theorem mo_mw {h : fx_H} {q : Nat} (hm : isM h q) : fx_r h q 28 = some (q + 24) ∧ fx_s h (q + 24) = some (.inr (0, 14)) := hm.2 (28, 24, 0, 14) (by decide)
theorem mo_mh {h : fx_H} {q : Nat} (hm : isM h q) : fx_r h q 29 = some (q + 25) ∧ fx_s h (q + 25) = some (.inr (0, 14)) := hm.2 (29, 25, 0, 14) (by decide)
theorem mo_planes {h : fx_H} {q : Nat} (hm : isM h q) : fx_r h q 30 = some (q + 26) ∧ fx_s h (q + 26) = some (.inr (0, 2)) := hm.2 (30, 26, 0, 2) (by decide)
theorem mo_wasX {h : fx_H} {q : Nat} (hm : isM h q) : fx_r h q 33 = some (q + 27) ∧ fx_s h (q + 27) = some (.inr (0, 10)) := hm.2 (33, 27, 0, 10) (by decide)
theorem mo_wasY {h : fx_H} {q : Nat} (hm : isM h q) : fx_r h q 34 = some (q + 28) ∧ fx_s h (q + 28) = some (.inr (0, 10)) := hm.2 (34, 28, 0, 10) (by decide)
theorem mo_wasW {h : fx_H} {q : Nat} (hm : isM h q) : fx_r h q 35 = some (q + 29) ∧ fx_s h (q + 29) = some (.inr (0, 10)) := hm.2 (35, 29, 0, 10) (by decide)
theorem mo_wasH {h : fx_H} {q : Nat} (hm : isM h q) : fx_r h q 36 = some (q + 30) ∧ fx_s h (q + 30) = some (.inr (0, 10)) := hm.2 (36, 30, 0, 10) (by decide)
theorem mo_wasPlane {h : fx_H} {q : Nat} (hm : isM h q) : fx_r h q 37 = some (q + 31) ∧ fx_s h (q + 31) = some (.inr (1, 10)) := hm.2 (37, 31, 1, 10) (by decide)
theorem mo_setX {h : fx_H} {q : Nat} (hm : isM h q) : fx_r h q 46 = some (q + 32) ∧ fx_s h (q + 32) = some (.inr (0, 2)) := hm.2 (46, 32, 0, 2) (by decide)
theorem mo_setY {h : fx_H} {q : Nat} (hm : isM h q) : fx_r h q 47 = some (q + 33) ∧ fx_s h (q + 33) = some (.inr (0, 2)) := hm.2 (47, 33, 0, 2) (by decide)
theorem mo_setW {h : fx_H} {q : Nat} (hm : isM h q) : fx_r h q 48 = some (q + 34) ∧ fx_s h (q + 34) = some (.inr (0, 2)) := hm.2 (48, 34, 0, 2) (by decide)
theorem mo_setH {h : fx_H} {q : Nat} (hm : isM h q) : fx_r h q 49 = some (q + 35) ∧ fx_s h (q + 35) = some (.inr (0, 2)) := hm.2 (49, 35, 0, 2) (by decide)
theorem mo_setPixels {h : fx_H} {q : Nat} (hm : isM h q) : fx_r h q 50 = some (q + 36) ∧ fx_s h (q + 36) = some (.inr (0, 48)) := hm.2 (50, 36, 0, 48) (by decide)
theorem mo_seen {h : fx_H} {q : Nat} (hm : isM h q) : fx_r h q 51 = some (q + 37) ∧ fx_s h (q + 37) = some (.inr (0, 200)) := hm.2 (51, 37, 0, 200) (by decide)
def v_MO_within (h : fx_H) (v lo hi : Int32) : Int32 := if v < lo then (0 : Int32) else if hi < v then (0 : Int32) else (1 : Int32)
set_option maxRecDepth 100000 in
set_option maxHeartbeats 600000 in
theorem c_MO_within {g : fx_G} (ok : fx_ok g) (h : fx_H) (v lo hi : Int32)  : fx_C g mq_MO_within [.int v, .int lo, .int hi] h (fx_is (some (v_MO_within h v lo hi)) h) 0 0 := by
  refine fx_body (by decide +kernel) (Nat.le_of_ble_eq_true rfl) ?_
  show fx_X g mq_MO_within 0 [(0, .int v), (1, .int lo), (2, .int hi)] [] h _ 0 0
  refine fx_iload_n 0 dq_MO_within_0 rfl rfl ?_
  refine fx_iload_n 1 dq_MO_within_1 rfl rfl ?_
  refine fx_icmp_lt (tgt := 14) dq_MO_within_2 (by decide) (fun hc2 => ?_) (fun hc2 => ?_)
  · -- 2: jump
    refine fx_iconst (v := 0) dq_MO_within_14 (by decide) ?_
    exact fx_zreturn rfl (by decide) dq_MO_within_15 ⟨by rw [v_MO_within, if_pos hc2], rfl⟩
  · -- 2: fall
    refine fx_iload_n 0 dq_MO_within_5 rfl rfl ?_
    refine fx_iload_n 2 dq_MO_within_6 rfl rfl ?_
    refine fx_icmp_gt (tgt := 14) dq_MO_within_7 (by decide) (fun hc7 => ?_) (fun hc7 => ?_)
    · -- 7: jump
      refine fx_iconst (v := 0) dq_MO_within_14 (by decide) ?_
      exact fx_zreturn rfl (by decide) dq_MO_within_15 ⟨by rw [v_MO_within, if_neg hc2, if_pos hc7], rfl⟩
    · -- 7: fall
      refine fx_iconst (v := 1) dq_MO_within_10 (by decide) ?_
      refine fx_goto (tgt := 15) dq_MO_within_11 (by decide) ?_
      exact fx_zreturn rfl (by decide) dq_MO_within_15 ⟨by rw [v_MO_within, if_neg hc2, if_neg hc7], rfl⟩
def v_MO_isArea (h : fx_H) (x y cs rs : Int32) : Int32 := if (v_MO_within h x (-20 : Int32) (30 : Int32)) = 0 then (0 : Int32) else if (v_MO_within h y (-20 : Int32) (30 : Int32)) = 0 then (0 : Int32) else if (v_MO_within h cs (0 : Int32) (30 : Int32)) = 0 then (0 : Int32) else if (v_MO_within h rs (0 : Int32) (30 : Int32)) = 0 then (0 : Int32) else (1 : Int32)
set_option maxRecDepth 100000 in
set_option maxHeartbeats 600000 in
theorem c_MO_isArea {g : fx_G} (ok : fx_ok g) (h : fx_H) (x y cs rs : Int32)  : fx_C g mq_MO_isArea [.int x, .int y, .int cs, .int rs] h (fx_is (some (v_MO_isArea h x y cs rs)) h) 0 0 := by
  refine fx_body (by decide +kernel) (Nat.le_of_ble_eq_true rfl) ?_
  show fx_X g mq_MO_isArea 0 [(0, .int x), (1, .int y), (2, .int cs), (3, .int rs)] [] h _ 0 0
  refine fx_iload_n 0 dq_MO_isArea_0 rfl rfl ?_
  refine fx_bipush (v := -20) dq_MO_isArea_1 (by decide) ?_
  refine fx_bipush (v := 30) dq_MO_isArea_3 (by decide) ?_
  refine fx_Si3 ok sq_MO_129 (c_MO_within ok h x (-20 : Int32) (30 : Int32) ) (by decide) (Nat.le_of_ble_eq_true rfl) dq_MO_isArea_5 ?_
  refine fx_if_eq (tgt := 46) dq_MO_isArea_8 (by decide) (fun hc8 => ?_) (fun hc8 => ?_)
  · -- 8: jump
    refine fx_iconst (v := 0) dq_MO_isArea_46 (by decide) ?_
    exact fx_zreturn rfl (by decide) dq_MO_isArea_47 ⟨by rw [v_MO_isArea, if_pos hc8], rfl⟩
  · -- 8: fall
    refine fx_iload_n 1 dq_MO_isArea_11 rfl rfl ?_
    refine fx_bipush (v := -20) dq_MO_isArea_12 (by decide) ?_
    refine fx_bipush (v := 30) dq_MO_isArea_14 (by decide) ?_
    refine fx_Si3 ok sq_MO_129 (c_MO_within ok h y (-20 : Int32) (30 : Int32) ) (by decide) (Nat.le_of_ble_eq_true rfl) dq_MO_isArea_16 ?_
    refine fx_if_eq (tgt := 46) dq_MO_isArea_19 (by decide) (fun hc19 => ?_) (fun hc19 => ?_)
    · -- 19: jump
      refine fx_iconst (v := 0) dq_MO_isArea_46 (by decide) ?_
      exact fx_zreturn rfl (by decide) dq_MO_isArea_47 ⟨by rw [v_MO_isArea, if_neg hc8, if_pos hc19], rfl⟩
    · -- 19: fall
      refine fx_iload_n 2 dq_MO_isArea_22 rfl rfl ?_
      refine fx_iconst (v := 0) dq_MO_isArea_23 (by decide) ?_
      refine fx_bipush (v := 30) dq_MO_isArea_24 (by decide) ?_
      refine fx_Si3 ok sq_MO_129 (c_MO_within ok h cs (0 : Int32) (30 : Int32) ) (by decide) (Nat.le_of_ble_eq_true rfl) dq_MO_isArea_26 ?_
      refine fx_if_eq (tgt := 46) dq_MO_isArea_29 (by decide) (fun hc29 => ?_) (fun hc29 => ?_)
      · -- 29: jump
        refine fx_iconst (v := 0) dq_MO_isArea_46 (by decide) ?_
        exact fx_zreturn rfl (by decide) dq_MO_isArea_47 ⟨by rw [v_MO_isArea, if_neg hc8, if_neg hc19, if_pos hc29], rfl⟩
      · -- 29: fall
        refine fx_iload_n 3 dq_MO_isArea_32 rfl rfl ?_
        refine fx_iconst (v := 0) dq_MO_isArea_33 (by decide) ?_
        refine fx_bipush (v := 30) dq_MO_isArea_34 (by decide) ?_
        refine fx_Si3 ok sq_MO_129 (c_MO_within ok h rs (0 : Int32) (30 : Int32) ) (by decide) (Nat.le_of_ble_eq_true rfl) dq_MO_isArea_36 ?_
        refine fx_if_eq (tgt := 46) dq_MO_isArea_39 (by decide) (fun hc39 => ?_) (fun hc39 => ?_)
        · -- 39: jump
          refine fx_iconst (v := 0) dq_MO_isArea_46 (by decide) ?_
          exact fx_zreturn rfl (by decide) dq_MO_isArea_47 ⟨by rw [v_MO_isArea, if_neg hc8, if_neg hc19, if_neg hc29, if_pos hc39], rfl⟩
        · -- 39: fall
          refine fx_iconst (v := 1) dq_MO_isArea_42 (by decide) ?_
          refine fx_goto (tgt := 47) dq_MO_isArea_43 (by decide) ?_
          exact fx_zreturn rfl (by decide) dq_MO_isArea_47 ⟨by rw [v_MO_isArea, if_neg hc8, if_neg hc19, if_neg hc29, if_neg hc39], rfl⟩
def v_MO_isPixel (h : fx_H) (x y : Int32) : Int32 := if x < 0 then (0 : Int32) else if (20 : Int32) ≤ x then (0 : Int32) else if y < 0 then (0 : Int32) else if (10 : Int32) ≤ y then (0 : Int32) else (1 : Int32)
set_option maxRecDepth 100000 in
set_option maxHeartbeats 600000 in
theorem c_MO_isPixel {g : fx_G} (ok : fx_ok g) (h : fx_H) (x y : Int32)  : fx_C g mq_MO_isPixel [.int x, .int y] h (fx_is (some (v_MO_isPixel h x y)) h) 0 0 := by
  refine fx_body (by decide +kernel) (Nat.le_of_ble_eq_true rfl) ?_
  show fx_X g mq_MO_isPixel 0 [(0, .int x), (1, .int y)] [] h _ 0 0
  refine fx_iload_n 0 dq_MO_isPixel_0 rfl rfl ?_
  refine fx_if_lt (tgt := 24) dq_MO_isPixel_1 (by decide) (fun hc1 => ?_) (fun hc1 => ?_)
  · -- 1: jump
    refine fx_iconst (v := 0) dq_MO_isPixel_24 (by decide) ?_
    exact fx_zreturn rfl (by decide) dq_MO_isPixel_25 ⟨by rw [v_MO_isPixel, if_pos hc1], rfl⟩
  · -- 1: fall
    refine fx_iload_n 0 dq_MO_isPixel_4 rfl rfl ?_
    refine fx_bipush (v := 20) dq_MO_isPixel_5 (by decide) ?_
    refine fx_icmp_ge (tgt := 24) dq_MO_isPixel_7 (by decide) (fun hc7 => ?_) (fun hc7 => ?_)
    · -- 7: jump
      refine fx_iconst (v := 0) dq_MO_isPixel_24 (by decide) ?_
      exact fx_zreturn rfl (by decide) dq_MO_isPixel_25 ⟨by rw [v_MO_isPixel, if_neg hc1, if_pos hc7], rfl⟩
    · -- 7: fall
      refine fx_iload_n 1 dq_MO_isPixel_10 rfl rfl ?_
      refine fx_if_lt (tgt := 24) dq_MO_isPixel_11 (by decide) (fun hc11 => ?_) (fun hc11 => ?_)
      · -- 11: jump
        refine fx_iconst (v := 0) dq_MO_isPixel_24 (by decide) ?_
        exact fx_zreturn rfl (by decide) dq_MO_isPixel_25 ⟨by rw [v_MO_isPixel, if_neg hc1, if_neg hc7, if_pos hc11], rfl⟩
      · -- 11: fall
        refine fx_iload_n 1 dq_MO_isPixel_14 rfl rfl ?_
        refine fx_bipush (v := 10) dq_MO_isPixel_15 (by decide) ?_
        refine fx_icmp_ge (tgt := 24) dq_MO_isPixel_17 (by decide) (fun hc17 => ?_) (fun hc17 => ?_)
        · -- 17: jump
          refine fx_iconst (v := 0) dq_MO_isPixel_24 (by decide) ?_
          exact fx_zreturn rfl (by decide) dq_MO_isPixel_25 ⟨by rw [v_MO_isPixel, if_neg hc1, if_neg hc7, if_neg hc11, if_pos hc17], rfl⟩
        · -- 17: fall
          refine fx_iconst (v := 1) dq_MO_isPixel_20 (by decide) ?_
          refine fx_goto (tgt := 25) dq_MO_isPixel_21 (by decide) ?_
          exact fx_zreturn rfl (by decide) dq_MO_isPixel_25 ⟨by rw [v_MO_isPixel, if_neg hc1, if_neg hc7, if_neg hc11, if_neg hc17], rfl⟩
def v_MO_part (h : fx_H) (ow un al sf mo : Int32) : Int32 := ((((al * ((ow >>> (sf &&& 31)) &&& mo)) + (((16 : Int32) - al) * ((un >>> (sf &&& 31)) &&& mo))) / (16 : Int32)) <<< (sf &&& 31))
set_option maxRecDepth 100000 in
set_option maxHeartbeats 600000 in
theorem c_MO_part {g : fx_G} (ok : fx_ok g) (h : fx_H) (ow un al sf mo : Int32)  : fx_C g mq_MO_part [.int ow, .int un, .int al, .int sf, .int mo] h (fx_is (some (v_MO_part h ow un al sf mo)) h) 0 0 := by
  refine fx_body (by decide +kernel) (Nat.le_of_ble_eq_true rfl) ?_
  show fx_X g mq_MO_part 0 [(0, .int ow), (1, .int un), (2, .int al), (3, .int sf), (4, .int mo)] [] h _ 0 0
  refine fx_iload_n 2 dq_MO_part_0 rfl rfl ?_
  refine fx_iload_n 0 dq_MO_part_1 rfl rfl ?_
  refine fx_iload_n 3 dq_MO_part_2 rfl rfl ?_
  refine fx_ishr dq_MO_part_3 ?_
  refine fx_iload 4 dq_MO_part_4 rfl ?_
  refine fx_iand dq_MO_part_6 ?_
  refine fx_imul dq_MO_part_7 ?_
  refine fx_bipush (v := 16) dq_MO_part_8 (by decide) ?_
  refine fx_iload_n 2 dq_MO_part_10 rfl rfl ?_
  refine fx_isub dq_MO_part_11 ?_
  refine fx_iload_n 1 dq_MO_part_12 rfl rfl ?_
  refine fx_iload_n 3 dq_MO_part_13 rfl rfl ?_
  refine fx_ishr dq_MO_part_14 ?_
  refine fx_iload 4 dq_MO_part_15 rfl ?_
  refine fx_iand dq_MO_part_17 ?_
  refine fx_imul dq_MO_part_18 ?_
  refine fx_iadd dq_MO_part_19 ?_
  refine fx_bipush (v := 16) dq_MO_part_20 (by decide) ?_
  refine fx_idiv dq_MO_part_22 (by decide) ?_
  refine fx_iload_n 3 dq_MO_part_23 rfl rfl ?_
  refine fx_ishl dq_MO_part_24 ?_
  exact fx_ireturn rfl dq_MO_part_25 ⟨rfl, rfl⟩
def v_MO_mixed (h : fx_H) (ow un al : Int32) : Int32 := (((v_MO_part h ow un al (11 : Int32) (31 : Int32)) ||| (v_MO_part h ow un al (5 : Int32) (63 : Int32))) ||| (v_MO_part h ow un al (0 : Int32) (31 : Int32)))
set_option maxRecDepth 100000 in
set_option maxHeartbeats 600000 in
theorem c_MO_mixed {g : fx_G} (ok : fx_ok g) (h : fx_H) (ow un al : Int32)  : fx_C g mq_MO_mixed [.int ow, .int un, .int al] h (fx_is (some (v_MO_mixed h ow un al)) h) 0 0 := by
  refine fx_body (by decide +kernel) (Nat.le_of_ble_eq_true rfl) ?_
  show fx_X g mq_MO_mixed 0 [(0, .int ow), (1, .int un), (2, .int al)] [] h _ 0 0
  refine fx_iload_n 0 dq_MO_mixed_0 rfl rfl ?_
  refine fx_iload_n 1 dq_MO_mixed_1 rfl rfl ?_
  refine fx_iload_n 2 dq_MO_mixed_2 rfl rfl ?_
  refine fx_bipush (v := 11) dq_MO_mixed_3 (by decide) ?_
  refine fx_bipush (v := 31) dq_MO_mixed_5 (by decide) ?_
  refine fx_Si5 ok sq_MO_182 (c_MO_part ok h ow un al (11 : Int32) (31 : Int32) ) (by decide) (Nat.le_of_ble_eq_true rfl) dq_MO_mixed_7 ?_
  refine fx_iload_n 0 dq_MO_mixed_10 rfl rfl ?_
  refine fx_iload_n 1 dq_MO_mixed_11 rfl rfl ?_
  refine fx_iload_n 2 dq_MO_mixed_12 rfl rfl ?_
  refine fx_iconst (v := 5) dq_MO_mixed_13 (by decide) ?_
  refine fx_bipush (v := 63) dq_MO_mixed_14 (by decide) ?_
  refine fx_Si5 ok sq_MO_182 (c_MO_part ok h ow un al (5 : Int32) (63 : Int32) ) (by decide) (Nat.le_of_ble_eq_true rfl) dq_MO_mixed_16 ?_
  refine fx_ior dq_MO_mixed_19 ?_
  refine fx_iload_n 0 dq_MO_mixed_20 rfl rfl ?_
  refine fx_iload_n 1 dq_MO_mixed_21 rfl rfl ?_
  refine fx_iload_n 2 dq_MO_mixed_22 rfl rfl ?_
  refine fx_iconst (v := 0) dq_MO_mixed_23 (by decide) ?_
  refine fx_bipush (v := 31) dq_MO_mixed_24 (by decide) ?_
  refine fx_Si5 ok sq_MO_182 (c_MO_part ok h ow un al (0 : Int32) (31 : Int32) ) (by decide) (Nat.le_of_ble_eq_true rfl) dq_MO_mixed_26 ?_
  refine fx_ior dq_MO_mixed_29 ?_
  exact fx_ireturn rfl dq_MO_mixed_30 ⟨rfl, rfl⟩
def v_MO_thrown (h : fx_H) (q : Nat)  : Int32 := (fx_i h q 0)
set_option maxRecDepth 100000 in
set_option maxHeartbeats 600000 in
theorem c_MO_thrown {g : fx_G} (ok : fx_ok g) (h : fx_H) (q : Nat)  (hm : isM h q)  : fx_C g mq_MO_thrown [.ref q] h (fx_is (some (v_MO_thrown h q)) h) 0 0 := by
  refine fx_body (by decide +kernel) (Nat.le_of_ble_eq_true rfl) ?_
  show fx_X g mq_MO_thrown 0 [(0, .ref q)] [] h _ 0 0
  refine fx_aload_n 0 dq_MO_thrown_0 rfl rfl ?_
  refine fx_geti ok fq_MO_126 hm.1 dq_MO_thrown_1 (by decide) ?_
  exact fx_ireturn rfl dq_MO_thrown_4 ⟨rfl, rfl⟩
def v_MO_state (h : fx_H) (q : Nat)  : Int32 := (fx_i (fx_wi h q 0 (0 : Int32)) q 22)
def k_MO_state (h : fx_H) (q : Nat)  : fx_H := fx_wi h q 0 (0 : Int32)
set_option maxRecDepth 100000 in
set_option maxHeartbeats 600000 in
theorem c_MO_state {g : fx_G} (ok : fx_ok g) (h : fx_H) (q : Nat)  (hm : isM h q)  : fx_C g mq_MO_state [.ref q] h (fx_is (some (v_MO_state h q)) (k_MO_state h q)) 0 0 := by
  refine fx_body (by decide +kernel) (Nat.le_of_ble_eq_true rfl) ?_
  show fx_X g mq_MO_state 0 [(0, .ref q)] [] h _ 0 0
  refine fx_aload_n 0 dq_MO_state_0 rfl rfl ?_
  refine fx_iconst (v := 0) dq_MO_state_1 (by decide) ?_
  refine fx_puti ok fp_MO_126 hm.1 (by decide) dq_MO_state_2 (Or.inl (by decide)) ?_
  refine fx_aload_n 0 dq_MO_state_5 rfl rfl ?_
  refine fx_geti ok fq_MO_216 hm.1 dq_MO_state_6 (by decide) ?_
  exact fx_ireturn rfl dq_MO_state_9 ⟨rfl, rfl⟩
theorem sm_MO_state (h : fx_H) (q : Nat) : fx_sm h (k_MO_state h q) := rfl
def v_MO_hasDraft (h : fx_H) (q : Nat) (s : Int32) : Int32 := if s < 0 then (0 : Int32) else if (10 : Int32) ≤ s then (0 : Int32) else if (fx_i h (q + 1) s.toNatClampNeg) = 0 then (0 : Int32) else if (fx_i h (q + 7) s.toNatClampNeg) = 0 then (0 : Int32) else (1 : Int32)
set_option maxRecDepth 100000 in
set_option maxHeartbeats 600000 in
theorem c_MO_hasDraft {g : fx_G} (ok : fx_ok g) (h : fx_H) (q : Nat) (s : Int32) (hm : isM h q)  : fx_C g mq_MO_hasDraft [.ref q, .int s] h (fx_is (some (v_MO_hasDraft h q s)) h) 0 0 := by
  refine fx_body (by decide +kernel) (Nat.le_of_ble_eq_true rfl) ?_
  show fx_X g mq_MO_hasDraft 0 [(0, .ref q), (1, .int s)] [] h _ 0 0
  refine fx_iload_n 1 dq_MO_hasDraft_0 rfl rfl ?_
  refine fx_if_lt (tgt := 32) dq_MO_hasDraft_1 (by decide) (fun hc1 => ?_) (fun hc1 => ?_)
  · -- 1: jump
    refine fx_iconst (v := 0) dq_MO_hasDraft_32 (by decide) ?_
    exact fx_zreturn rfl (by decide) dq_MO_hasDraft_33 ⟨by rw [v_MO_hasDraft, if_pos hc1], rfl⟩
  · -- 1: fall
    refine fx_iload_n 1 dq_MO_hasDraft_4 rfl rfl ?_
    refine fx_bipush (v := 10) dq_MO_hasDraft_5 (by decide) ?_
    refine fx_icmp_ge (tgt := 32) dq_MO_hasDraft_7 (by decide) (fun hc7 => ?_) (fun hc7 => ?_)
    · -- 7: jump
      refine fx_iconst (v := 0) dq_MO_hasDraft_32 (by decide) ?_
      exact fx_zreturn rfl (by decide) dq_MO_hasDraft_33 ⟨by rw [v_MO_hasDraft, if_neg hc1, if_pos hc7], rfl⟩
    · -- 7: fall
      refine fx_aload_n 0 dq_MO_hasDraft_10 rfl rfl ?_
      refine fx_getr ok fq_MO_7 hm.1 dq_MO_hasDraft_11 (by decide) (mo_used hm).1 ?_
      refine fx_iload_n 1 dq_MO_hasDraft_14 rfl rfl ?_
      refine fx_baload ok (mo_used hm).2 (jz_in hc1 hc7) dq_MO_hasDraft_15 ?_
      refine fx_if_eq (tgt := 32) dq_MO_hasDraft_16 (by decide) (fun hc16 => ?_) (fun hc16 => ?_)
      · -- 16: jump
        refine fx_iconst (v := 0) dq_MO_hasDraft_32 (by decide) ?_
        exact fx_zreturn rfl (by decide) dq_MO_hasDraft_33 ⟨by rw [v_MO_hasDraft, if_neg hc1, if_neg hc7, if_pos hc16], rfl⟩
      · -- 16: fall
        refine fx_aload_n 0 dq_MO_hasDraft_19 rfl rfl ?_
        refine fx_getr ok fq_MO_29 hm.1 dq_MO_hasDraft_20 (by decide) (mo_there hm).1 ?_
        refine fx_iload_n 1 dq_MO_hasDraft_23 rfl rfl ?_
        refine fx_baload ok (mo_there hm).2 (vp_up (jz_in hc1 hc7) (by decide)) dq_MO_hasDraft_24 ?_
        refine fx_if_eq (tgt := 32) dq_MO_hasDraft_25 (by decide) (fun hc25 => ?_) (fun hc25 => ?_)
        · -- 25: jump
          refine fx_iconst (v := 0) dq_MO_hasDraft_32 (by decide) ?_
          exact fx_zreturn rfl (by decide) dq_MO_hasDraft_33 ⟨by rw [v_MO_hasDraft, if_neg hc1, if_neg hc7, if_neg hc16, if_pos hc25], rfl⟩
        · -- 25: fall
          refine fx_iconst (v := 1) dq_MO_hasDraft_28 (by decide) ?_
          refine fx_goto (tgt := 33) dq_MO_hasDraft_29 (by decide) ?_
          exact fx_zreturn rfl (by decide) dq_MO_hasDraft_33 ⟨by rw [v_MO_hasDraft, if_neg hc1, if_neg hc7, if_neg hc16, if_neg hc25], rfl⟩
def v_MO_isPlane (h : fx_H) (q : Nat) (s : Int32) : Int32 := if (fx_i h (q + 26) (0 : Int32).toNatClampNeg) = s then (1 : Int32) else if (fx_i h (q + 26) (1 : Int32).toNatClampNeg) = s then (1 : Int32) else (0 : Int32)
set_option maxRecDepth 100000 in
set_option maxHeartbeats 600000 in
theorem c_MO_isPlane {g : fx_G} (ok : fx_ok g) (h : fx_H) (q : Nat) (s : Int32) (hm : isM h q)  : fx_C g mq_MO_isPlane [.ref q, .int s] h (fx_is (some (v_MO_isPlane h q s)) h) 0 0 := by
  refine fx_body (by decide +kernel) (Nat.le_of_ble_eq_true rfl) ?_
  show fx_X g mq_MO_isPlane 0 [(0, .ref q), (1, .int s)] [] h _ 0 0
  refine fx_aload_n 0 dq_MO_isPlane_0 rfl rfl ?_
  refine fx_getr ok fq_MO_90 hm.1 dq_MO_isPlane_1 (by decide) (mo_planes hm).1 ?_
  refine fx_iconst (v := 0) dq_MO_isPlane_4 (by decide) ?_
  refine fx_iaload ok (mo_planes hm).2 (by unfold vp_in; decide) dq_MO_isPlane_5 ?_
  refine fx_iload_n 1 dq_MO_isPlane_6 rfl rfl ?_
  refine fx_icmp_eq (tgt := 20) dq_MO_isPlane_7 (by decide) (fun hc7 => ?_) (fun hc7 => ?_)
  · -- 7: jump
    refine fx_iconst (v := 1) dq_MO_isPlane_20 (by decide) ?_
    refine fx_goto (tgt := 25) dq_MO_isPlane_21 (by decide) ?_
    exact fx_zreturn rfl (by decide) dq_MO_isPlane_25 ⟨by rw [v_MO_isPlane, if_pos hc7], rfl⟩
  · -- 7: fall
    refine fx_aload_n 0 dq_MO_isPlane_10 rfl rfl ?_
    refine fx_getr ok fq_MO_90 hm.1 dq_MO_isPlane_11 (by decide) (mo_planes hm).1 ?_
    refine fx_iconst (v := 1) dq_MO_isPlane_14 (by decide) ?_
    refine fx_iaload ok (mo_planes hm).2 (by unfold vp_in; decide) dq_MO_isPlane_15 ?_
    refine fx_iload_n 1 dq_MO_isPlane_16 rfl rfl ?_
    refine fx_icmp_ne (tgt := 24) dq_MO_isPlane_17 (by decide) (fun hc17 => ?_) (fun hc17 => ?_)
    · -- 17: jump
      refine fx_iconst (v := 0) dq_MO_isPlane_24 (by decide) ?_
      exact fx_zreturn rfl (by decide) dq_MO_isPlane_25 ⟨by rw [v_MO_isPlane, if_neg hc7, if_neg hc17], rfl⟩
    · -- 17: fall
      refine fx_iconst (v := 1) dq_MO_isPlane_20 (by decide) ?_
      refine fx_goto (tgt := 25) dq_MO_isPlane_21 (by decide) ?_
      exact fx_zreturn rfl (by decide) dq_MO_isPlane_25 ⟨by rw [v_MO_isPlane, if_neg hc7, if_pos hc17], rfl⟩
def v_MO_has (h : fx_H) (q : Nat) (s x y : Int32) : Int32 := if x < 0 then (0 : Int32) else if (fx_i h (q + 3) s.toNatClampNeg) ≤ x then (0 : Int32) else if y < 0 then (0 : Int32) else if (fx_i h (q + 4) s.toNatClampNeg) ≤ y then (0 : Int32) else (1 : Int32)
set_option maxRecDepth 100000 in
set_option maxHeartbeats 600000 in
theorem c_MO_has {g : fx_G} (ok : fx_ok g) (h : fx_H) (q : Nat) (s x y : Int32) (hm : isM h q) (hs : vp_in s 10) : fx_C g mq_MO_has [.ref q, .int s, .int x, .int y] h (fx_is (some (v_MO_has h q s x y)) h) 0 0 := by
  refine fx_body (by decide +kernel) (Nat.le_of_ble_eq_true rfl) ?_
  show fx_X g mq_MO_has 0 [(0, .ref q), (1, .int s), (2, .int x), (3, .int y)] [] h _ 0 0
  refine fx_iload_n 2 dq_MO_has_0 rfl rfl ?_
  refine fx_if_lt (tgt := 32) dq_MO_has_1 (by decide) (fun hc1 => ?_) (fun hc1 => ?_)
  · -- 1: jump
    refine fx_iconst (v := 0) dq_MO_has_32 (by decide) ?_
    exact fx_zreturn rfl (by decide) dq_MO_has_33 ⟨by rw [v_MO_has, if_pos hc1], rfl⟩
  · -- 1: fall
    refine fx_iload_n 2 dq_MO_has_4 rfl rfl ?_
    refine fx_aload_n 0 dq_MO_has_5 rfl rfl ?_
    refine fx_getr ok fq_MO_17 hm.1 dq_MO_has_6 (by decide) (mo_columns hm).1 ?_
    refine fx_iload_n 1 dq_MO_has_9 rfl rfl ?_
    refine fx_iaload ok (mo_columns hm).2 hs dq_MO_has_10 ?_
    refine fx_icmp_ge (tgt := 32) dq_MO_has_11 (by decide) (fun hc11 => ?_) (fun hc11 => ?_)
    · -- 11: jump
      refine fx_iconst (v := 0) dq_MO_has_32 (by decide) ?_
      exact fx_zreturn rfl (by decide) dq_MO_has_33 ⟨by rw [v_MO_has, if_neg hc1, if_pos hc11], rfl⟩
    · -- 11: fall
      refine fx_iload_n 3 dq_MO_has_14 rfl rfl ?_
      refine fx_if_lt (tgt := 32) dq_MO_has_15 (by decide) (fun hc15 => ?_) (fun hc15 => ?_)
      · -- 15: jump
        refine fx_iconst (v := 0) dq_MO_has_32 (by decide) ?_
        exact fx_zreturn rfl (by decide) dq_MO_has_33 ⟨by rw [v_MO_has, if_neg hc1, if_neg hc11, if_pos hc15], rfl⟩
      · -- 15: fall
        refine fx_iload_n 3 dq_MO_has_18 rfl rfl ?_
        refine fx_aload_n 0 dq_MO_has_19 rfl rfl ?_
        refine fx_getr ok fq_MO_20 hm.1 dq_MO_has_20 (by decide) (mo_rows hm).1 ?_
        refine fx_iload_n 1 dq_MO_has_23 rfl rfl ?_
        refine fx_iaload ok (mo_rows hm).2 hs dq_MO_has_24 ?_
        refine fx_icmp_ge (tgt := 32) dq_MO_has_25 (by decide) (fun hc25 => ?_) (fun hc25 => ?_)
        · -- 25: jump
          refine fx_iconst (v := 0) dq_MO_has_32 (by decide) ?_
          exact fx_zreturn rfl (by decide) dq_MO_has_33 ⟨by rw [v_MO_has, if_neg hc1, if_neg hc11, if_neg hc15, if_pos hc25], rfl⟩
        · -- 25: fall
          refine fx_iconst (v := 1) dq_MO_has_28 (by decide) ?_
          refine fx_goto (tgt := 33) dq_MO_has_29 (by decide) ?_
          exact fx_zreturn rfl (by decide) dq_MO_has_33 ⟨by rw [v_MO_has, if_neg hc1, if_neg hc11, if_neg hc15, if_neg hc25], rfl⟩
def v_MO_isAbove (h : fx_H) (q : Nat) (a b : Int32) : Int32 := if (fx_i h (q + 10) b.toNatClampNeg) < (fx_i h (q + 10) a.toNatClampNeg) then (1 : Int32) else if (fx_i h (q + 10) a.toNatClampNeg) = (fx_i h (q + 10) b.toNatClampNeg) then if a ≤ b then (0 : Int32) else (1 : Int32) else (0 : Int32)
set_option maxRecDepth 100000 in
set_option maxHeartbeats 600000 in
theorem c_MO_isAbove {g : fx_G} (ok : fx_ok g) (h : fx_H) (q : Nat) (a b : Int32) (hm : isM h q) (ha : vp_in a 30) (hb : vp_in b 30) : fx_C g mq_MO_isAbove [.ref q, .int a, .int b] h (fx_is (some (v_MO_isAbove h q a b)) h) 0 0 := by
  refine fx_body (by decide +kernel) (Nat.le_of_ble_eq_true rfl) ?_
  show fx_X g mq_MO_isAbove 0 [(0, .ref q), (1, .int a), (2, .int b)] [] h _ 0 0
  refine fx_aload_n 0 dq_MO_isAbove_0 rfl rfl ?_
  refine fx_getr ok fq_MO_38 hm.1 dq_MO_isAbove_1 (by decide) (mo_order hm).1 ?_
  refine fx_iload_n 1 dq_MO_isAbove_4 rfl rfl ?_
  refine fx_iaload ok (mo_order hm).2 ha dq_MO_isAbove_5 ?_
  refine fx_aload_n 0 dq_MO_isAbove_6 rfl rfl ?_
  refine fx_getr ok fq_MO_38 hm.1 dq_MO_isAbove_7 (by decide) (mo_order hm).1 ?_
  refine fx_iload_n 2 dq_MO_isAbove_10 rfl rfl ?_
  refine fx_iaload ok (mo_order hm).2 hb dq_MO_isAbove_11 ?_
  refine fx_icmp_gt (tgt := 35) dq_MO_isAbove_12 (by decide) (fun hc12 => ?_) (fun hc12 => ?_)
  · -- 12: jump
    refine fx_iconst (v := 1) dq_MO_isAbove_35 (by decide) ?_
    refine fx_goto (tgt := 40) dq_MO_isAbove_36 (by decide) ?_
    exact fx_zreturn rfl (by decide) dq_MO_isAbove_40 ⟨by rw [v_MO_isAbove, if_pos hc12], rfl⟩
  · -- 12: fall
    refine fx_aload_n 0 dq_MO_isAbove_15 rfl rfl ?_
    refine fx_getr ok fq_MO_38 hm.1 dq_MO_isAbove_16 (by decide) (mo_order hm).1 ?_
    refine fx_iload_n 1 dq_MO_isAbove_19 rfl rfl ?_
    refine fx_iaload ok (mo_order hm).2 ha dq_MO_isAbove_20 ?_
    refine fx_aload_n 0 dq_MO_isAbove_21 rfl rfl ?_
    refine fx_getr ok fq_MO_38 hm.1 dq_MO_isAbove_22 (by decide) (mo_order hm).1 ?_
    refine fx_iload_n 2 dq_MO_isAbove_25 rfl rfl ?_
    refine fx_iaload ok (mo_order hm).2 hb dq_MO_isAbove_26 ?_
    refine fx_icmp_ne (tgt := 39) dq_MO_isAbove_27 (by decide) (fun hc27 => ?_) (fun hc27 => ?_)
    · -- 27: jump
      refine fx_iconst (v := 0) dq_MO_isAbove_39 (by decide) ?_
      exact fx_zreturn rfl (by decide) dq_MO_isAbove_40 ⟨by rw [v_MO_isAbove, if_neg hc12, if_neg hc27], rfl⟩
    · -- 27: fall
      refine fx_iload_n 1 dq_MO_isAbove_30 rfl rfl ?_
      refine fx_iload_n 2 dq_MO_isAbove_31 rfl rfl ?_
      refine fx_icmp_le (tgt := 39) dq_MO_isAbove_32 (by decide) (fun hc32 => ?_) (fun hc32 => ?_)
      · -- 32: jump
        refine fx_iconst (v := 0) dq_MO_isAbove_39 (by decide) ?_
        exact fx_zreturn rfl (by decide) dq_MO_isAbove_40 ⟨by rw [v_MO_isAbove, if_neg hc12, if_pos hc27, if_pos hc32], rfl⟩
      · -- 32: fall
        refine fx_iconst (v := 1) dq_MO_isAbove_35 (by decide) ?_
        refine fx_goto (tgt := 40) dq_MO_isAbove_36 (by decide) ?_
        exact fx_zreturn rfl (by decide) dq_MO_isAbove_40 ⟨by rw [v_MO_isAbove, if_neg hc12, if_pos hc27, if_neg hc32], rfl⟩
def v_MO_hullWide (h : fx_H) (q : Nat) (i j : Int32) : Int32 := if (fx_i h (q + 22) j.toNatClampNeg) ≤ (fx_i h (q + 22) i.toNatClampNeg) then if ((fx_i h (q + 22) i.toNatClampNeg) + (fx_i h (q + 24) i.toNatClampNeg)) ≤ ((fx_i h (q + 22) j.toNatClampNeg) + (fx_i h (q + 24) j.toNatClampNeg)) then (((fx_i h (q + 22) j.toNatClampNeg) + (fx_i h (q + 24) j.toNatClampNeg)) - (fx_i h (q + 22) j.toNatClampNeg)) else (((fx_i h (q + 22) i.toNatClampNeg) + (fx_i h (q + 24) i.toNatClampNeg)) - (fx_i h (q + 22) j.toNatClampNeg)) else if ((fx_i h (q + 22) i.toNatClampNeg) + (fx_i h (q + 24) i.toNatClampNeg)) ≤ ((fx_i h (q + 22) j.toNatClampNeg) + (fx_i h (q + 24) j.toNatClampNeg)) then (((fx_i h (q + 22) j.toNatClampNeg) + (fx_i h (q + 24) j.toNatClampNeg)) - (fx_i h (q + 22) i.toNatClampNeg)) else (((fx_i h (q + 22) i.toNatClampNeg) + (fx_i h (q + 24) i.toNatClampNeg)) - (fx_i h (q + 22) i.toNatClampNeg))
set_option maxRecDepth 100000 in
set_option maxHeartbeats 600000 in
theorem c_MO_hullWide {g : fx_G} (ok : fx_ok g) (h : fx_H) (q : Nat) (i j : Int32) (hm : isM h q) (hi : vp_in i 14) (hj : vp_in j 14) : fx_C g mq_MO_hullWide [.ref q, .int i, .int j] h (fx_is (some (v_MO_hullWide h q i j)) h) 0 0 := by
  refine fx_body (by decide +kernel) (Nat.le_of_ble_eq_true rfl) ?_
  show fx_X g mq_MO_hullWide 0 [(0, .ref q), (1, .int i), (2, .int j)] [] h _ 0 0
  refine fx_aload_n 0 dq_MO_hullWide_0 rfl rfl ?_
  refine fx_getr ok fq_MO_78 hm.1 dq_MO_hullWide_1 (by decide) (mo_mx hm).1 ?_
  refine fx_iload_n 1 dq_MO_hullWide_4 rfl rfl ?_
  refine fx_iaload ok (mo_mx hm).2 hi dq_MO_hullWide_5 ?_
  refine fx_aload_n 0 dq_MO_hullWide_6 rfl rfl ?_
  refine fx_getr ok fq_MO_78 hm.1 dq_MO_hullWide_7 (by decide) (mo_mx hm).1 ?_
  refine fx_iload_n 2 dq_MO_hullWide_10 rfl rfl ?_
  refine fx_iaload ok (mo_mx hm).2 hj dq_MO_hullWide_11 ?_
  refine fx_icmp_ge (tgt := 24) dq_MO_hullWide_12 (by decide) (fun hc12 => ?_) (fun hc12 => ?_)
  · -- 12: jump
    refine fx_aload_n 0 dq_MO_hullWide_24 rfl rfl ?_
    refine fx_getr ok fq_MO_78 hm.1 dq_MO_hullWide_25 (by decide) (mo_mx hm).1 ?_
    refine fx_iload_n 2 dq_MO_hullWide_28 rfl rfl ?_
    refine fx_iaload ok (mo_mx hm).2 hj dq_MO_hullWide_29 ?_
    refine fx_istore_n dq_MO_hullWide_30 rfl (by decide) rfl ?_
    refine fx_aload_n 1 dq_MO_hullWide_31 rfl rfl ?_
    refine fx_getr ok fq_MO_78 hm.1 dq_MO_hullWide_32 (by decide) (mo_mx hm).1 ?_
    refine fx_iload_n 2 dq_MO_hullWide_35 rfl rfl ?_
    refine fx_iaload ok (mo_mx hm).2 hi dq_MO_hullWide_36 ?_
    refine fx_aload_n 1 dq_MO_hullWide_37 rfl rfl ?_
    refine fx_getr ok fq_MO_84 hm.1 dq_MO_hullWide_38 (by decide) (mo_mw hm).1 ?_
    refine fx_iload_n 2 dq_MO_hullWide_41 rfl rfl ?_
    refine fx_iaload ok (mo_mw hm).2 hi dq_MO_hullWide_42 ?_
    refine fx_iadd dq_MO_hullWide_43 ?_
    refine fx_aload_n 1 dq_MO_hullWide_44 rfl rfl ?_
    refine fx_getr ok fq_MO_78 hm.1 dq_MO_hullWide_45 (by decide) (mo_mx hm).1 ?_
    refine fx_iload_n 3 dq_MO_hullWide_48 rfl rfl ?_
    refine fx_iaload ok (mo_mx hm).2 hj dq_MO_hullWide_49 ?_
    refine fx_aload_n 1 dq_MO_hullWide_50 rfl rfl ?_
    refine fx_getr ok fq_MO_84 hm.1 dq_MO_hullWide_51 (by decide) (mo_mw hm).1 ?_
    refine fx_iload_n 3 dq_MO_hullWide_54 rfl rfl ?_
    refine fx_iaload ok (mo_mw hm).2 hj dq_MO_hullWide_55 ?_
    refine fx_iadd dq_MO_hullWide_56 ?_
    refine fx_icmp_le (tgt := 76) dq_MO_hullWide_57 (by decide) (fun hc57 => ?_) (fun hc57 => ?_)
    · -- 57: jump
      refine fx_aload_n 1 dq_MO_hullWide_76 rfl rfl ?_
      refine fx_getr ok fq_MO_78 hm.1 dq_MO_hullWide_77 (by decide) (mo_mx hm).1 ?_
      refine fx_iload_n 3 dq_MO_hullWide_80 rfl rfl ?_
      refine fx_iaload ok (mo_mx hm).2 hj dq_MO_hullWide_81 ?_
      refine fx_aload_n 1 dq_MO_hullWide_82 rfl rfl ?_
      refine fx_getr ok fq_MO_84 hm.1 dq_MO_hullWide_83 (by decide) (mo_mw hm).1 ?_
      refine fx_iload_n 3 dq_MO_hullWide_86 rfl rfl ?_
      refine fx_iaload ok (mo_mw hm).2 hj dq_MO_hullWide_87 ?_
      refine fx_iadd dq_MO_hullWide_88 ?_
      refine fx_istore dq_MO_hullWide_89 (by decide) rfl ?_
      refine fx_iload 0 dq_MO_hullWide_91 rfl ?_
      refine fx_iload_n 1 dq_MO_hullWide_93 rfl rfl ?_
      refine fx_isub dq_MO_hullWide_94 ?_
      exact fx_ireturn rfl dq_MO_hullWide_95 ⟨by rw [v_MO_hullWide, if_pos hc12, if_pos hc57], rfl⟩
    · -- 57: fall
      refine fx_aload_n 1 dq_MO_hullWide_60 rfl rfl ?_
      refine fx_getr ok fq_MO_78 hm.1 dq_MO_hullWide_61 (by decide) (mo_mx hm).1 ?_
      refine fx_iload_n 2 dq_MO_hullWide_64 rfl rfl ?_
      refine fx_iaload ok (mo_mx hm).2 hi dq_MO_hullWide_65 ?_
      refine fx_aload_n 1 dq_MO_hullWide_66 rfl rfl ?_
      refine fx_getr ok fq_MO_84 hm.1 dq_MO_hullWide_67 (by decide) (mo_mw hm).1 ?_
      refine fx_iload_n 2 dq_MO_hullWide_70 rfl rfl ?_
      refine fx_iaload ok (mo_mw hm).2 hi dq_MO_hullWide_71 ?_
      refine fx_iadd dq_MO_hullWide_72 ?_
      refine fx_goto (tgt := 89) dq_MO_hullWide_73 (by decide) ?_
      refine fx_istore dq_MO_hullWide_89 (by decide) rfl ?_
      refine fx_iload 0 dq_MO_hullWide_91 rfl ?_
      refine fx_iload_n 1 dq_MO_hullWide_93 rfl rfl ?_
      refine fx_isub dq_MO_hullWide_94 ?_
      exact fx_ireturn rfl dq_MO_hullWide_95 ⟨by rw [v_MO_hullWide, if_pos hc12, if_neg hc57], rfl⟩
  · -- 12: fall
    refine fx_aload_n 0 dq_MO_hullWide_15 rfl rfl ?_
    refine fx_getr ok fq_MO_78 hm.1 dq_MO_hullWide_16 (by decide) (mo_mx hm).1 ?_
    refine fx_iload_n 1 dq_MO_hullWide_19 rfl rfl ?_
    refine fx_iaload ok (mo_mx hm).2 hi dq_MO_hullWide_20 ?_
    refine fx_goto (tgt := 30) dq_MO_hullWide_21 (by decide) ?_
    refine fx_istore_n dq_MO_hullWide_30 rfl (by decide) rfl ?_
    refine fx_aload_n 1 dq_MO_hullWide_31 rfl rfl ?_
    refine fx_getr ok fq_MO_78 hm.1 dq_MO_hullWide_32 (by decide) (mo_mx hm).1 ?_
    refine fx_iload_n 2 dq_MO_hullWide_35 rfl rfl ?_
    refine fx_iaload ok (mo_mx hm).2 hi dq_MO_hullWide_36 ?_
    refine fx_aload_n 1 dq_MO_hullWide_37 rfl rfl ?_
    refine fx_getr ok fq_MO_84 hm.1 dq_MO_hullWide_38 (by decide) (mo_mw hm).1 ?_
    refine fx_iload_n 2 dq_MO_hullWide_41 rfl rfl ?_
    refine fx_iaload ok (mo_mw hm).2 hi dq_MO_hullWide_42 ?_
    refine fx_iadd dq_MO_hullWide_43 ?_
    refine fx_aload_n 1 dq_MO_hullWide_44 rfl rfl ?_
    refine fx_getr ok fq_MO_78 hm.1 dq_MO_hullWide_45 (by decide) (mo_mx hm).1 ?_
    refine fx_iload_n 3 dq_MO_hullWide_48 rfl rfl ?_
    refine fx_iaload ok (mo_mx hm).2 hj dq_MO_hullWide_49 ?_
    refine fx_aload_n 1 dq_MO_hullWide_50 rfl rfl ?_
    refine fx_getr ok fq_MO_84 hm.1 dq_MO_hullWide_51 (by decide) (mo_mw hm).1 ?_
    refine fx_iload_n 3 dq_MO_hullWide_54 rfl rfl ?_
    refine fx_iaload ok (mo_mw hm).2 hj dq_MO_hullWide_55 ?_
    refine fx_iadd dq_MO_hullWide_56 ?_
    refine fx_icmp_le (tgt := 76) dq_MO_hullWide_57 (by decide) (fun hc57 => ?_) (fun hc57 => ?_)
    · -- 57: jump
      refine fx_aload_n 1 dq_MO_hullWide_76 rfl rfl ?_
      refine fx_getr ok fq_MO_78 hm.1 dq_MO_hullWide_77 (by decide) (mo_mx hm).1 ?_
      refine fx_iload_n 3 dq_MO_hullWide_80 rfl rfl ?_
      refine fx_iaload ok (mo_mx hm).2 hj dq_MO_hullWide_81 ?_
      refine fx_aload_n 1 dq_MO_hullWide_82 rfl rfl ?_
      refine fx_getr ok fq_MO_84 hm.1 dq_MO_hullWide_83 (by decide) (mo_mw hm).1 ?_
      refine fx_iload_n 3 dq_MO_hullWide_86 rfl rfl ?_
      refine fx_iaload ok (mo_mw hm).2 hj dq_MO_hullWide_87 ?_
      refine fx_iadd dq_MO_hullWide_88 ?_
      refine fx_istore dq_MO_hullWide_89 (by decide) rfl ?_
      refine fx_iload 0 dq_MO_hullWide_91 rfl ?_
      refine fx_iload_n 1 dq_MO_hullWide_93 rfl rfl ?_
      refine fx_isub dq_MO_hullWide_94 ?_
      exact fx_ireturn rfl dq_MO_hullWide_95 ⟨by rw [v_MO_hullWide, if_neg hc12, if_pos hc57], rfl⟩
    · -- 57: fall
      refine fx_aload_n 1 dq_MO_hullWide_60 rfl rfl ?_
      refine fx_getr ok fq_MO_78 hm.1 dq_MO_hullWide_61 (by decide) (mo_mx hm).1 ?_
      refine fx_iload_n 2 dq_MO_hullWide_64 rfl rfl ?_
      refine fx_iaload ok (mo_mx hm).2 hi dq_MO_hullWide_65 ?_
      refine fx_aload_n 1 dq_MO_hullWide_66 rfl rfl ?_
      refine fx_getr ok fq_MO_84 hm.1 dq_MO_hullWide_67 (by decide) (mo_mw hm).1 ?_
      refine fx_iload_n 2 dq_MO_hullWide_70 rfl rfl ?_
      refine fx_iaload ok (mo_mw hm).2 hi dq_MO_hullWide_71 ?_
      refine fx_iadd dq_MO_hullWide_72 ?_
      refine fx_goto (tgt := 89) dq_MO_hullWide_73 (by decide) ?_
      refine fx_istore dq_MO_hullWide_89 (by decide) rfl ?_
      refine fx_iload 0 dq_MO_hullWide_91 rfl ?_
      refine fx_iload_n 1 dq_MO_hullWide_93 rfl rfl ?_
      refine fx_isub dq_MO_hullWide_94 ?_
      exact fx_ireturn rfl dq_MO_hullWide_95 ⟨by rw [v_MO_hullWide, if_neg hc12, if_neg hc57], rfl⟩
def v_MO_hullHigh (h : fx_H) (q : Nat) (i j : Int32) : Int32 := if (fx_i h (q + 23) j.toNatClampNeg) ≤ (fx_i h (q + 23) i.toNatClampNeg) then if ((fx_i h (q + 23) i.toNatClampNeg) + (fx_i h (q + 25) i.toNatClampNeg)) ≤ ((fx_i h (q + 23) j.toNatClampNeg) + (fx_i h (q + 25) j.toNatClampNeg)) then (((fx_i h (q + 23) j.toNatClampNeg) + (fx_i h (q + 25) j.toNatClampNeg)) - (fx_i h (q + 23) j.toNatClampNeg)) else (((fx_i h (q + 23) i.toNatClampNeg) + (fx_i h (q + 25) i.toNatClampNeg)) - (fx_i h (q + 23) j.toNatClampNeg)) else if ((fx_i h (q + 23) i.toNatClampNeg) + (fx_i h (q + 25) i.toNatClampNeg)) ≤ ((fx_i h (q + 23) j.toNatClampNeg) + (fx_i h (q + 25) j.toNatClampNeg)) then (((fx_i h (q + 23) j.toNatClampNeg) + (fx_i h (q + 25) j.toNatClampNeg)) - (fx_i h (q + 23) i.toNatClampNeg)) else (((fx_i h (q + 23) i.toNatClampNeg) + (fx_i h (q + 25) i.toNatClampNeg)) - (fx_i h (q + 23) i.toNatClampNeg))
set_option maxRecDepth 100000 in
set_option maxHeartbeats 600000 in
theorem c_MO_hullHigh {g : fx_G} (ok : fx_ok g) (h : fx_H) (q : Nat) (i j : Int32) (hm : isM h q) (hi : vp_in i 14) (hj : vp_in j 14) : fx_C g mq_MO_hullHigh [.ref q, .int i, .int j] h (fx_is (some (v_MO_hullHigh h q i j)) h) 0 0 := by
  refine fx_body (by decide +kernel) (Nat.le_of_ble_eq_true rfl) ?_
  show fx_X g mq_MO_hullHigh 0 [(0, .ref q), (1, .int i), (2, .int j)] [] h _ 0 0
  refine fx_aload_n 0 dq_MO_hullHigh_0 rfl rfl ?_
  refine fx_getr ok fq_MO_81 hm.1 dq_MO_hullHigh_1 (by decide) (mo_my hm).1 ?_
  refine fx_iload_n 1 dq_MO_hullHigh_4 rfl rfl ?_
  refine fx_iaload ok (mo_my hm).2 hi dq_MO_hullHigh_5 ?_
  refine fx_aload_n 0 dq_MO_hullHigh_6 rfl rfl ?_
  refine fx_getr ok fq_MO_81 hm.1 dq_MO_hullHigh_7 (by decide) (mo_my hm).1 ?_
  refine fx_iload_n 2 dq_MO_hullHigh_10 rfl rfl ?_
  refine fx_iaload ok (mo_my hm).2 hj dq_MO_hullHigh_11 ?_
  refine fx_icmp_ge (tgt := 24) dq_MO_hullHigh_12 (by decide) (fun hc12 => ?_) (fun hc12 => ?_)
  · -- 12: jump
    refine fx_aload_n 0 dq_MO_hullHigh_24 rfl rfl ?_
    refine fx_getr ok fq_MO_81 hm.1 dq_MO_hullHigh_25 (by decide) (mo_my hm).1 ?_
    refine fx_iload_n 2 dq_MO_hullHigh_28 rfl rfl ?_
    refine fx_iaload ok (mo_my hm).2 hj dq_MO_hullHigh_29 ?_
    refine fx_istore_n dq_MO_hullHigh_30 rfl (by decide) rfl ?_
    refine fx_aload_n 1 dq_MO_hullHigh_31 rfl rfl ?_
    refine fx_getr ok fq_MO_81 hm.1 dq_MO_hullHigh_32 (by decide) (mo_my hm).1 ?_
    refine fx_iload_n 2 dq_MO_hullHigh_35 rfl rfl ?_
    refine fx_iaload ok (mo_my hm).2 hi dq_MO_hullHigh_36 ?_
    refine fx_aload_n 1 dq_MO_hullHigh_37 rfl rfl ?_
    refine fx_getr ok fq_MO_87 hm.1 dq_MO_hullHigh_38 (by decide) (mo_mh hm).1 ?_
    refine fx_iload_n 2 dq_MO_hullHigh_41 rfl rfl ?_
    refine fx_iaload ok (mo_mh hm).2 hi dq_MO_hullHigh_42 ?_
    refine fx_iadd dq_MO_hullHigh_43 ?_
    refine fx_aload_n 1 dq_MO_hullHigh_44 rfl rfl ?_
    refine fx_getr ok fq_MO_81 hm.1 dq_MO_hullHigh_45 (by decide) (mo_my hm).1 ?_
    refine fx_iload_n 3 dq_MO_hullHigh_48 rfl rfl ?_
    refine fx_iaload ok (mo_my hm).2 hj dq_MO_hullHigh_49 ?_
    refine fx_aload_n 1 dq_MO_hullHigh_50 rfl rfl ?_
    refine fx_getr ok fq_MO_87 hm.1 dq_MO_hullHigh_51 (by decide) (mo_mh hm).1 ?_
    refine fx_iload_n 3 dq_MO_hullHigh_54 rfl rfl ?_
    refine fx_iaload ok (mo_mh hm).2 hj dq_MO_hullHigh_55 ?_
    refine fx_iadd dq_MO_hullHigh_56 ?_
    refine fx_icmp_le (tgt := 76) dq_MO_hullHigh_57 (by decide) (fun hc57 => ?_) (fun hc57 => ?_)
    · -- 57: jump
      refine fx_aload_n 1 dq_MO_hullHigh_76 rfl rfl ?_
      refine fx_getr ok fq_MO_81 hm.1 dq_MO_hullHigh_77 (by decide) (mo_my hm).1 ?_
      refine fx_iload_n 3 dq_MO_hullHigh_80 rfl rfl ?_
      refine fx_iaload ok (mo_my hm).2 hj dq_MO_hullHigh_81 ?_
      refine fx_aload_n 1 dq_MO_hullHigh_82 rfl rfl ?_
      refine fx_getr ok fq_MO_87 hm.1 dq_MO_hullHigh_83 (by decide) (mo_mh hm).1 ?_
      refine fx_iload_n 3 dq_MO_hullHigh_86 rfl rfl ?_
      refine fx_iaload ok (mo_mh hm).2 hj dq_MO_hullHigh_87 ?_
      refine fx_iadd dq_MO_hullHigh_88 ?_
      refine fx_istore dq_MO_hullHigh_89 (by decide) rfl ?_
      refine fx_iload 0 dq_MO_hullHigh_91 rfl ?_
      refine fx_iload_n 1 dq_MO_hullHigh_93 rfl rfl ?_
      refine fx_isub dq_MO_hullHigh_94 ?_
      exact fx_ireturn rfl dq_MO_hullHigh_95 ⟨by rw [v_MO_hullHigh, if_pos hc12, if_pos hc57], rfl⟩
    · -- 57: fall
      refine fx_aload_n 1 dq_MO_hullHigh_60 rfl rfl ?_
      refine fx_getr ok fq_MO_81 hm.1 dq_MO_hullHigh_61 (by decide) (mo_my hm).1 ?_
      refine fx_iload_n 2 dq_MO_hullHigh_64 rfl rfl ?_
      refine fx_iaload ok (mo_my hm).2 hi dq_MO_hullHigh_65 ?_
      refine fx_aload_n 1 dq_MO_hullHigh_66 rfl rfl ?_
      refine fx_getr ok fq_MO_87 hm.1 dq_MO_hullHigh_67 (by decide) (mo_mh hm).1 ?_
      refine fx_iload_n 2 dq_MO_hullHigh_70 rfl rfl ?_
      refine fx_iaload ok (mo_mh hm).2 hi dq_MO_hullHigh_71 ?_
      refine fx_iadd dq_MO_hullHigh_72 ?_
      refine fx_goto (tgt := 89) dq_MO_hullHigh_73 (by decide) ?_
      refine fx_istore dq_MO_hullHigh_89 (by decide) rfl ?_
      refine fx_iload 0 dq_MO_hullHigh_91 rfl ?_
      refine fx_iload_n 1 dq_MO_hullHigh_93 rfl rfl ?_
      refine fx_isub dq_MO_hullHigh_94 ?_
      exact fx_ireturn rfl dq_MO_hullHigh_95 ⟨by rw [v_MO_hullHigh, if_pos hc12, if_neg hc57], rfl⟩
  · -- 12: fall
    refine fx_aload_n 0 dq_MO_hullHigh_15 rfl rfl ?_
    refine fx_getr ok fq_MO_81 hm.1 dq_MO_hullHigh_16 (by decide) (mo_my hm).1 ?_
    refine fx_iload_n 1 dq_MO_hullHigh_19 rfl rfl ?_
    refine fx_iaload ok (mo_my hm).2 hi dq_MO_hullHigh_20 ?_
    refine fx_goto (tgt := 30) dq_MO_hullHigh_21 (by decide) ?_
    refine fx_istore_n dq_MO_hullHigh_30 rfl (by decide) rfl ?_
    refine fx_aload_n 1 dq_MO_hullHigh_31 rfl rfl ?_
    refine fx_getr ok fq_MO_81 hm.1 dq_MO_hullHigh_32 (by decide) (mo_my hm).1 ?_
    refine fx_iload_n 2 dq_MO_hullHigh_35 rfl rfl ?_
    refine fx_iaload ok (mo_my hm).2 hi dq_MO_hullHigh_36 ?_
    refine fx_aload_n 1 dq_MO_hullHigh_37 rfl rfl ?_
    refine fx_getr ok fq_MO_87 hm.1 dq_MO_hullHigh_38 (by decide) (mo_mh hm).1 ?_
    refine fx_iload_n 2 dq_MO_hullHigh_41 rfl rfl ?_
    refine fx_iaload ok (mo_mh hm).2 hi dq_MO_hullHigh_42 ?_
    refine fx_iadd dq_MO_hullHigh_43 ?_
    refine fx_aload_n 1 dq_MO_hullHigh_44 rfl rfl ?_
    refine fx_getr ok fq_MO_81 hm.1 dq_MO_hullHigh_45 (by decide) (mo_my hm).1 ?_
    refine fx_iload_n 3 dq_MO_hullHigh_48 rfl rfl ?_
    refine fx_iaload ok (mo_my hm).2 hj dq_MO_hullHigh_49 ?_
    refine fx_aload_n 1 dq_MO_hullHigh_50 rfl rfl ?_
    refine fx_getr ok fq_MO_87 hm.1 dq_MO_hullHigh_51 (by decide) (mo_mh hm).1 ?_
    refine fx_iload_n 3 dq_MO_hullHigh_54 rfl rfl ?_
    refine fx_iaload ok (mo_mh hm).2 hj dq_MO_hullHigh_55 ?_
    refine fx_iadd dq_MO_hullHigh_56 ?_
    refine fx_icmp_le (tgt := 76) dq_MO_hullHigh_57 (by decide) (fun hc57 => ?_) (fun hc57 => ?_)
    · -- 57: jump
      refine fx_aload_n 1 dq_MO_hullHigh_76 rfl rfl ?_
      refine fx_getr ok fq_MO_81 hm.1 dq_MO_hullHigh_77 (by decide) (mo_my hm).1 ?_
      refine fx_iload_n 3 dq_MO_hullHigh_80 rfl rfl ?_
      refine fx_iaload ok (mo_my hm).2 hj dq_MO_hullHigh_81 ?_
      refine fx_aload_n 1 dq_MO_hullHigh_82 rfl rfl ?_
      refine fx_getr ok fq_MO_87 hm.1 dq_MO_hullHigh_83 (by decide) (mo_mh hm).1 ?_
      refine fx_iload_n 3 dq_MO_hullHigh_86 rfl rfl ?_
      refine fx_iaload ok (mo_mh hm).2 hj dq_MO_hullHigh_87 ?_
      refine fx_iadd dq_MO_hullHigh_88 ?_
      refine fx_istore dq_MO_hullHigh_89 (by decide) rfl ?_
      refine fx_iload 0 dq_MO_hullHigh_91 rfl ?_
      refine fx_iload_n 1 dq_MO_hullHigh_93 rfl rfl ?_
      refine fx_isub dq_MO_hullHigh_94 ?_
      exact fx_ireturn rfl dq_MO_hullHigh_95 ⟨by rw [v_MO_hullHigh, if_neg hc12, if_pos hc57], rfl⟩
    · -- 57: fall
      refine fx_aload_n 1 dq_MO_hullHigh_60 rfl rfl ?_
      refine fx_getr ok fq_MO_81 hm.1 dq_MO_hullHigh_61 (by decide) (mo_my hm).1 ?_
      refine fx_iload_n 2 dq_MO_hullHigh_64 rfl rfl ?_
      refine fx_iaload ok (mo_my hm).2 hi dq_MO_hullHigh_65 ?_
      refine fx_aload_n 1 dq_MO_hullHigh_66 rfl rfl ?_
      refine fx_getr ok fq_MO_87 hm.1 dq_MO_hullHigh_67 (by decide) (mo_mh hm).1 ?_
      refine fx_iload_n 2 dq_MO_hullHigh_70 rfl rfl ?_
      refine fx_iaload ok (mo_mh hm).2 hi dq_MO_hullHigh_71 ?_
      refine fx_iadd dq_MO_hullHigh_72 ?_
      refine fx_goto (tgt := 89) dq_MO_hullHigh_73 (by decide) ?_
      refine fx_istore dq_MO_hullHigh_89 (by decide) rfl ?_
      refine fx_iload 0 dq_MO_hullHigh_91 rfl ?_
      refine fx_iload_n 1 dq_MO_hullHigh_93 rfl rfl ?_
      refine fx_isub dq_MO_hullHigh_94 ?_
      exact fx_ireturn rfl dq_MO_hullHigh_95 ⟨by rw [v_MO_hullHigh, if_neg hc12, if_neg hc57], rfl⟩
def v_MO_lies (h : fx_H) (q : Nat) (m i : Int32) : Int32 := if (fx_i h q 38) < (fx_i h (q + 22) (((7 : Int32) * m) + i).toNatClampNeg) then (0 : Int32) else if (fx_i h q 39) < (fx_i h (q + 23) (((7 : Int32) * m) + i).toNatClampNeg) then (0 : Int32) else if ((fx_i h (q + 22) (((7 : Int32) * m) + i).toNatClampNeg) + (fx_i h (q + 24) (((7 : Int32) * m) + i).toNatClampNeg)) < ((fx_i h q 38) + (fx_i h q 40)) then (0 : Int32) else if ((fx_i h (q + 23) (((7 : Int32) * m) + i).toNatClampNeg) + (fx_i h (q + 25) (((7 : Int32) * m) + i).toNatClampNeg)) < ((fx_i h q 39) + (fx_i h q 41)) then (0 : Int32) else (1 : Int32)
set_option maxRecDepth 100000 in
set_option maxHeartbeats 600000 in
theorem c_MO_lies {g : fx_G} (ok : fx_ok g) (h : fx_H) (q : Nat) (m i : Int32) (hm : isM h q) (hk : vp_in (7 * m + i) 14) : fx_C g mq_MO_lies [.ref q, .int m, .int i] h (fx_is (some (v_MO_lies h q m i)) h) 0 0 := by
  refine fx_body (by decide +kernel) (Nat.le_of_ble_eq_true rfl) ?_
  show fx_X g mq_MO_lies 0 [(0, .ref q), (1, .int m), (2, .int i)] [] h _ 0 0
  refine fx_bipush (v := 7) dq_MO_lies_0 (by decide) ?_
  refine fx_iload_n 1 dq_MO_lies_2 rfl rfl ?_
  refine fx_imul dq_MO_lies_3 ?_
  refine fx_iload_n 2 dq_MO_lies_4 rfl rfl ?_
  refine fx_iadd dq_MO_lies_5 ?_
  refine fx_istore_n dq_MO_lies_6 rfl (by decide) rfl ?_
  refine fx_aload_n 1 dq_MO_lies_7 rfl rfl ?_
  refine fx_geti ok fq_MO_141 hm.1 dq_MO_lies_8 (by decide) ?_
  refine fx_aload_n 1 dq_MO_lies_11 rfl rfl ?_
  refine fx_getr ok fq_MO_78 hm.1 dq_MO_lies_12 (by decide) (mo_mx hm).1 ?_
  refine fx_iload_n 0 dq_MO_lies_15 rfl rfl ?_
  refine fx_iaload ok (mo_mx hm).2 hk dq_MO_lies_16 ?_
  refine fx_icmp_lt (tgt := 87) dq_MO_lies_17 (by decide) (fun hc17 => ?_) (fun hc17 => ?_)
  · -- 17: jump
    refine fx_iconst (v := 0) dq_MO_lies_87 (by decide) ?_
    exact fx_zreturn rfl (by decide) dq_MO_lies_88 ⟨by rw [v_MO_lies, if_pos hc17], rfl⟩
  · -- 17: fall
    refine fx_aload_n 1 dq_MO_lies_20 rfl rfl ?_
    refine fx_geti ok fq_MO_147 hm.1 dq_MO_lies_21 (by decide) ?_
    refine fx_aload_n 1 dq_MO_lies_24 rfl rfl ?_
    refine fx_getr ok fq_MO_81 hm.1 dq_MO_lies_25 (by decide) (mo_my hm).1 ?_
    refine fx_iload_n 0 dq_MO_lies_28 rfl rfl ?_
    refine fx_iaload ok (mo_my hm).2 hk dq_MO_lies_29 ?_
    refine fx_icmp_lt (tgt := 87) dq_MO_lies_30 (by decide) (fun hc30 => ?_) (fun hc30 => ?_)
    · -- 30: jump
      refine fx_iconst (v := 0) dq_MO_lies_87 (by decide) ?_
      exact fx_zreturn rfl (by decide) dq_MO_lies_88 ⟨by rw [v_MO_lies, if_neg hc17, if_pos hc30], rfl⟩
    · -- 30: fall
      refine fx_aload_n 1 dq_MO_lies_33 rfl rfl ?_
      refine fx_geti ok fq_MO_141 hm.1 dq_MO_lies_34 (by decide) ?_
      refine fx_aload_n 1 dq_MO_lies_37 rfl rfl ?_
      refine fx_geti ok fq_MO_144 hm.1 dq_MO_lies_38 (by decide) ?_
      refine fx_iadd dq_MO_lies_41 ?_
      refine fx_aload_n 1 dq_MO_lies_42 rfl rfl ?_
      refine fx_getr ok fq_MO_78 hm.1 dq_MO_lies_43 (by decide) (mo_mx hm).1 ?_
      refine fx_iload_n 0 dq_MO_lies_46 rfl rfl ?_
      refine fx_iaload ok (mo_mx hm).2 hk dq_MO_lies_47 ?_
      refine fx_aload_n 1 dq_MO_lies_48 rfl rfl ?_
      refine fx_getr ok fq_MO_84 hm.1 dq_MO_lies_49 (by decide) (mo_mw hm).1 ?_
      refine fx_iload_n 0 dq_MO_lies_52 rfl rfl ?_
      refine fx_iaload ok (mo_mw hm).2 hk dq_MO_lies_53 ?_
      refine fx_iadd dq_MO_lies_54 ?_
      refine fx_icmp_gt (tgt := 87) dq_MO_lies_55 (by decide) (fun hc55 => ?_) (fun hc55 => ?_)
      · -- 55: jump
        refine fx_iconst (v := 0) dq_MO_lies_87 (by decide) ?_
        exact fx_zreturn rfl (by decide) dq_MO_lies_88 ⟨by rw [v_MO_lies, if_neg hc17, if_neg hc30, if_pos hc55], rfl⟩
      · -- 55: fall
        refine fx_aload_n 1 dq_MO_lies_58 rfl rfl ?_
        refine fx_geti ok fq_MO_147 hm.1 dq_MO_lies_59 (by decide) ?_
        refine fx_aload_n 1 dq_MO_lies_62 rfl rfl ?_
        refine fx_geti ok fq_MO_150 hm.1 dq_MO_lies_63 (by decide) ?_
        refine fx_iadd dq_MO_lies_66 ?_
        refine fx_aload_n 1 dq_MO_lies_67 rfl rfl ?_
        refine fx_getr ok fq_MO_81 hm.1 dq_MO_lies_68 (by decide) (mo_my hm).1 ?_
        refine fx_iload_n 0 dq_MO_lies_71 rfl rfl ?_
        refine fx_iaload ok (mo_my hm).2 hk dq_MO_lies_72 ?_
        refine fx_aload_n 1 dq_MO_lies_73 rfl rfl ?_
        refine fx_getr ok fq_MO_87 hm.1 dq_MO_lies_74 (by decide) (mo_mh hm).1 ?_
        refine fx_iload_n 0 dq_MO_lies_77 rfl rfl ?_
        refine fx_iaload ok (mo_mh hm).2 hk dq_MO_lies_78 ?_
        refine fx_iadd dq_MO_lies_79 ?_
        refine fx_icmp_gt (tgt := 87) dq_MO_lies_80 (by decide) (fun hc80 => ?_) (fun hc80 => ?_)
        · -- 80: jump
          refine fx_iconst (v := 0) dq_MO_lies_87 (by decide) ?_
          exact fx_zreturn rfl (by decide) dq_MO_lies_88 ⟨by rw [v_MO_lies, if_neg hc17, if_neg hc30, if_neg hc55, if_pos hc80], rfl⟩
        · -- 80: fall
          refine fx_iconst (v := 1) dq_MO_lies_83 (by decide) ?_
          refine fx_goto (tgt := 88) dq_MO_lies_84 (by decide) ?_
          exact fx_zreturn rfl (by decide) dq_MO_lies_88 ⟨by rw [v_MO_lies, if_neg hc17, if_neg hc30, if_neg hc55, if_neg hc80], rfl⟩
def k_MO_cut (h : fx_H) (q : Nat) (fx fy tx ty : Int32) : fx_H := if tx ≤ ((fx_i h q 38) + (fx_i h q 40)) then if ty ≤ ((fx_i h q 39) + (fx_i h q 41)) then if (fx_i h q 38) ≤ fx then if (fx_i (fx_wi h q 38 fx) q 39) ≤ fy then if (fx_i (fx_wi (fx_wi (fx_wi (fx_wi h q 38 fx) q 39 fy) q 40 (tx - (fx_i (fx_wi (fx_wi h q 38 fx) q 39 fy) q 38))) q 41 (ty - (fx_i (fx_wi (fx_wi (fx_wi h q 38 fx) q 39 fy) q 40 (tx - (fx_i (fx_wi (fx_wi h q 38 fx) q 39 fy) q 38))) q 39))) q 40) ≤ 0 then fx_wi (fx_wi (fx_wi (fx_wi (fx_wi (fx_wi h q 38 fx) q 39 fy) q 40 (tx - (fx_i (fx_wi (fx_wi h q 38 fx) q 39 fy) q 38))) q 41 (ty - (fx_i (fx_wi (fx_wi (fx_wi h q 38 fx) q 39 fy) q 40 (tx - (fx_i (fx_wi (fx_wi h q 38 fx) q 39 fy) q 38))) q 39))) q 40 (0 : Int32)) q 41 (0 : Int32) else if (fx_i (fx_wi (fx_wi (fx_wi (fx_wi h q 38 fx) q 39 fy) q 40 (tx - (fx_i (fx_wi (fx_wi h q 38 fx) q 39 fy) q 38))) q 41 (ty - (fx_i (fx_wi (fx_wi (fx_wi h q 38 fx) q 39 fy) q 40 (tx - (fx_i (fx_wi (fx_wi h q 38 fx) q 39 fy) q 38))) q 39))) q 41) ≤ 0 then fx_wi (fx_wi (fx_wi (fx_wi (fx_wi (fx_wi h q 38 fx) q 39 fy) q 40 (tx - (fx_i (fx_wi (fx_wi h q 38 fx) q 39 fy) q 38))) q 41 (ty - (fx_i (fx_wi (fx_wi (fx_wi h q 38 fx) q 39 fy) q 40 (tx - (fx_i (fx_wi (fx_wi h q 38 fx) q 39 fy) q 38))) q 39))) q 40 (0 : Int32)) q 41 (0 : Int32) else fx_wi (fx_wi (fx_wi (fx_wi h q 38 fx) q 39 fy) q 40 (tx - (fx_i (fx_wi (fx_wi h q 38 fx) q 39 fy) q 38))) q 41 (ty - (fx_i (fx_wi (fx_wi (fx_wi h q 38 fx) q 39 fy) q 40 (tx - (fx_i (fx_wi (fx_wi h q 38 fx) q 39 fy) q 38))) q 39)) else if (fx_i (fx_wi (fx_wi (fx_wi (fx_wi h q 38 fx) q 39 (fx_i (fx_wi h q 38 fx) q 39)) q 40 (tx - (fx_i (fx_wi (fx_wi h q 38 fx) q 39 (fx_i (fx_wi h q 38 fx) q 39)) q 38))) q 41 (ty - (fx_i (fx_wi (fx_wi (fx_wi h q 38 fx) q 39 (fx_i (fx_wi h q 38 fx) q 39)) q 40 (tx - (fx_i (fx_wi (fx_wi h q 38 fx) q 39 (fx_i (fx_wi h q 38 fx) q 39)) q 38))) q 39))) q 40) ≤ 0 then fx_wi (fx_wi (fx_wi (fx_wi (fx_wi (fx_wi h q 38 fx) q 39 (fx_i (fx_wi h q 38 fx) q 39)) q 40 (tx - (fx_i (fx_wi (fx_wi h q 38 fx) q 39 (fx_i (fx_wi h q 38 fx) q 39)) q 38))) q 41 (ty - (fx_i (fx_wi (fx_wi (fx_wi h q 38 fx) q 39 (fx_i (fx_wi h q 38 fx) q 39)) q 40 (tx - (fx_i (fx_wi (fx_wi h q 38 fx) q 39 (fx_i (fx_wi h q 38 fx) q 39)) q 38))) q 39))) q 40 (0 : Int32)) q 41 (0 : Int32) else if (fx_i (fx_wi (fx_wi (fx_wi (fx_wi h q 38 fx) q 39 (fx_i (fx_wi h q 38 fx) q 39)) q 40 (tx - (fx_i (fx_wi (fx_wi h q 38 fx) q 39 (fx_i (fx_wi h q 38 fx) q 39)) q 38))) q 41 (ty - (fx_i (fx_wi (fx_wi (fx_wi h q 38 fx) q 39 (fx_i (fx_wi h q 38 fx) q 39)) q 40 (tx - (fx_i (fx_wi (fx_wi h q 38 fx) q 39 (fx_i (fx_wi h q 38 fx) q 39)) q 38))) q 39))) q 41) ≤ 0 then fx_wi (fx_wi (fx_wi (fx_wi (fx_wi (fx_wi h q 38 fx) q 39 (fx_i (fx_wi h q 38 fx) q 39)) q 40 (tx - (fx_i (fx_wi (fx_wi h q 38 fx) q 39 (fx_i (fx_wi h q 38 fx) q 39)) q 38))) q 41 (ty - (fx_i (fx_wi (fx_wi (fx_wi h q 38 fx) q 39 (fx_i (fx_wi h q 38 fx) q 39)) q 40 (tx - (fx_i (fx_wi (fx_wi h q 38 fx) q 39 (fx_i (fx_wi h q 38 fx) q 39)) q 38))) q 39))) q 40 (0 : Int32)) q 41 (0 : Int32) else fx_wi (fx_wi (fx_wi (fx_wi h q 38 fx) q 39 (fx_i (fx_wi h q 38 fx) q 39)) q 40 (tx - (fx_i (fx_wi (fx_wi h q 38 fx) q 39 (fx_i (fx_wi h q 38 fx) q 39)) q 38))) q 41 (ty - (fx_i (fx_wi (fx_wi (fx_wi h q 38 fx) q 39 (fx_i (fx_wi h q 38 fx) q 39)) q 40 (tx - (fx_i (fx_wi (fx_wi h q 38 fx) q 39 (fx_i (fx_wi h q 38 fx) q 39)) q 38))) q 39)) else if (fx_i (fx_wi h q 38 (fx_i h q 38)) q 39) ≤ fy then if (fx_i (fx_wi (fx_wi (fx_wi (fx_wi h q 38 (fx_i h q 38)) q 39 fy) q 40 (tx - (fx_i (fx_wi (fx_wi h q 38 (fx_i h q 38)) q 39 fy) q 38))) q 41 (ty - (fx_i (fx_wi (fx_wi (fx_wi h q 38 (fx_i h q 38)) q 39 fy) q 40 (tx - (fx_i (fx_wi (fx_wi h q 38 (fx_i h q 38)) q 39 fy) q 38))) q 39))) q 40) ≤ 0 then fx_wi (fx_wi (fx_wi (fx_wi (fx_wi (fx_wi h q 38 (fx_i h q 38)) q 39 fy) q 40 (tx - (fx_i (fx_wi (fx_wi h q 38 (fx_i h q 38)) q 39 fy) q 38))) q 41 (ty - (fx_i (fx_wi (fx_wi (fx_wi h q 38 (fx_i h q 38)) q 39 fy) q 40 (tx - (fx_i (fx_wi (fx_wi h q 38 (fx_i h q 38)) q 39 fy) q 38))) q 39))) q 40 (0 : Int32)) q 41 (0 : Int32) else if (fx_i (fx_wi (fx_wi (fx_wi (fx_wi h q 38 (fx_i h q 38)) q 39 fy) q 40 (tx - (fx_i (fx_wi (fx_wi h q 38 (fx_i h q 38)) q 39 fy) q 38))) q 41 (ty - (fx_i (fx_wi (fx_wi (fx_wi h q 38 (fx_i h q 38)) q 39 fy) q 40 (tx - (fx_i (fx_wi (fx_wi h q 38 (fx_i h q 38)) q 39 fy) q 38))) q 39))) q 41) ≤ 0 then fx_wi (fx_wi (fx_wi (fx_wi (fx_wi (fx_wi h q 38 (fx_i h q 38)) q 39 fy) q 40 (tx - (fx_i (fx_wi (fx_wi h q 38 (fx_i h q 38)) q 39 fy) q 38))) q 41 (ty - (fx_i (fx_wi (fx_wi (fx_wi h q 38 (fx_i h q 38)) q 39 fy) q 40 (tx - (fx_i (fx_wi (fx_wi h q 38 (fx_i h q 38)) q 39 fy) q 38))) q 39))) q 40 (0 : Int32)) q 41 (0 : Int32) else fx_wi (fx_wi (fx_wi (fx_wi h q 38 (fx_i h q 38)) q 39 fy) q 40 (tx - (fx_i (fx_wi (fx_wi h q 38 (fx_i h q 38)) q 39 fy) q 38))) q 41 (ty - (fx_i (fx_wi (fx_wi (fx_wi h q 38 (fx_i h q 38)) q 39 fy) q 40 (tx - (fx_i (fx_wi (fx_wi h q 38 (fx_i h q 38)) q 39 fy) q 38))) q 39)) else if (fx_i (fx_wi (fx_wi (fx_wi (fx_wi h q 38 (fx_i h q 38)) q 39 (fx_i (fx_wi h q 38 (fx_i h q 38)) q 39)) q 40 (tx - (fx_i (fx_wi (fx_wi h q 38 (fx_i h q 38)) q 39 (fx_i (fx_wi h q 38 (fx_i h q 38)) q 39)) q 38))) q 41 (ty - (fx_i (fx_wi (fx_wi (fx_wi h q 38 (fx_i h q 38)) q 39 (fx_i (fx_wi h q 38 (fx_i h q 38)) q 39)) q 40 (tx - (fx_i (fx_wi (fx_wi h q 38 (fx_i h q 38)) q 39 (fx_i (fx_wi h q 38 (fx_i h q 38)) q 39)) q 38))) q 39))) q 40) ≤ 0 then fx_wi (fx_wi (fx_wi (fx_wi (fx_wi (fx_wi h q 38 (fx_i h q 38)) q 39 (fx_i (fx_wi h q 38 (fx_i h q 38)) q 39)) q 40 (tx - (fx_i (fx_wi (fx_wi h q 38 (fx_i h q 38)) q 39 (fx_i (fx_wi h q 38 (fx_i h q 38)) q 39)) q 38))) q 41 (ty - (fx_i (fx_wi (fx_wi (fx_wi h q 38 (fx_i h q 38)) q 39 (fx_i (fx_wi h q 38 (fx_i h q 38)) q 39)) q 40 (tx - (fx_i (fx_wi (fx_wi h q 38 (fx_i h q 38)) q 39 (fx_i (fx_wi h q 38 (fx_i h q 38)) q 39)) q 38))) q 39))) q 40 (0 : Int32)) q 41 (0 : Int32) else if (fx_i (fx_wi (fx_wi (fx_wi (fx_wi h q 38 (fx_i h q 38)) q 39 (fx_i (fx_wi h q 38 (fx_i h q 38)) q 39)) q 40 (tx - (fx_i (fx_wi (fx_wi h q 38 (fx_i h q 38)) q 39 (fx_i (fx_wi h q 38 (fx_i h q 38)) q 39)) q 38))) q 41 (ty - (fx_i (fx_wi (fx_wi (fx_wi h q 38 (fx_i h q 38)) q 39 (fx_i (fx_wi h q 38 (fx_i h q 38)) q 39)) q 40 (tx - (fx_i (fx_wi (fx_wi h q 38 (fx_i h q 38)) q 39 (fx_i (fx_wi h q 38 (fx_i h q 38)) q 39)) q 38))) q 39))) q 41) ≤ 0 then fx_wi (fx_wi (fx_wi (fx_wi (fx_wi (fx_wi h q 38 (fx_i h q 38)) q 39 (fx_i (fx_wi h q 38 (fx_i h q 38)) q 39)) q 40 (tx - (fx_i (fx_wi (fx_wi h q 38 (fx_i h q 38)) q 39 (fx_i (fx_wi h q 38 (fx_i h q 38)) q 39)) q 38))) q 41 (ty - (fx_i (fx_wi (fx_wi (fx_wi h q 38 (fx_i h q 38)) q 39 (fx_i (fx_wi h q 38 (fx_i h q 38)) q 39)) q 40 (tx - (fx_i (fx_wi (fx_wi h q 38 (fx_i h q 38)) q 39 (fx_i (fx_wi h q 38 (fx_i h q 38)) q 39)) q 38))) q 39))) q 40 (0 : Int32)) q 41 (0 : Int32) else fx_wi (fx_wi (fx_wi (fx_wi h q 38 (fx_i h q 38)) q 39 (fx_i (fx_wi h q 38 (fx_i h q 38)) q 39)) q 40 (tx - (fx_i (fx_wi (fx_wi h q 38 (fx_i h q 38)) q 39 (fx_i (fx_wi h q 38 (fx_i h q 38)) q 39)) q 38))) q 41 (ty - (fx_i (fx_wi (fx_wi (fx_wi h q 38 (fx_i h q 38)) q 39 (fx_i (fx_wi h q 38 (fx_i h q 38)) q 39)) q 40 (tx - (fx_i (fx_wi (fx_wi h q 38 (fx_i h q 38)) q 39 (fx_i (fx_wi h q 38 (fx_i h q 38)) q 39)) q 38))) q 39)) else if (fx_i h q 38) ≤ fx then if (fx_i (fx_wi h q 38 fx) q 39) ≤ fy then if (fx_i (fx_wi (fx_wi (fx_wi (fx_wi h q 38 fx) q 39 fy) q 40 (tx - (fx_i (fx_wi (fx_wi h q 38 fx) q 39 fy) q 38))) q 41 (((fx_i h q 39) + (fx_i h q 41)) - (fx_i (fx_wi (fx_wi (fx_wi h q 38 fx) q 39 fy) q 40 (tx - (fx_i (fx_wi (fx_wi h q 38 fx) q 39 fy) q 38))) q 39))) q 40) ≤ 0 then fx_wi (fx_wi (fx_wi (fx_wi (fx_wi (fx_wi h q 38 fx) q 39 fy) q 40 (tx - (fx_i (fx_wi (fx_wi h q 38 fx) q 39 fy) q 38))) q 41 (((fx_i h q 39) + (fx_i h q 41)) - (fx_i (fx_wi (fx_wi (fx_wi h q 38 fx) q 39 fy) q 40 (tx - (fx_i (fx_wi (fx_wi h q 38 fx) q 39 fy) q 38))) q 39))) q 40 (0 : Int32)) q 41 (0 : Int32) else if (fx_i (fx_wi (fx_wi (fx_wi (fx_wi h q 38 fx) q 39 fy) q 40 (tx - (fx_i (fx_wi (fx_wi h q 38 fx) q 39 fy) q 38))) q 41 (((fx_i h q 39) + (fx_i h q 41)) - (fx_i (fx_wi (fx_wi (fx_wi h q 38 fx) q 39 fy) q 40 (tx - (fx_i (fx_wi (fx_wi h q 38 fx) q 39 fy) q 38))) q 39))) q 41) ≤ 0 then fx_wi (fx_wi (fx_wi (fx_wi (fx_wi (fx_wi h q 38 fx) q 39 fy) q 40 (tx - (fx_i (fx_wi (fx_wi h q 38 fx) q 39 fy) q 38))) q 41 (((fx_i h q 39) + (fx_i h q 41)) - (fx_i (fx_wi (fx_wi (fx_wi h q 38 fx) q 39 fy) q 40 (tx - (fx_i (fx_wi (fx_wi h q 38 fx) q 39 fy) q 38))) q 39))) q 40 (0 : Int32)) q 41 (0 : Int32) else fx_wi (fx_wi (fx_wi (fx_wi h q 38 fx) q 39 fy) q 40 (tx - (fx_i (fx_wi (fx_wi h q 38 fx) q 39 fy) q 38))) q 41 (((fx_i h q 39) + (fx_i h q 41)) - (fx_i (fx_wi (fx_wi (fx_wi h q 38 fx) q 39 fy) q 40 (tx - (fx_i (fx_wi (fx_wi h q 38 fx) q 39 fy) q 38))) q 39)) else if (fx_i (fx_wi (fx_wi (fx_wi (fx_wi h q 38 fx) q 39 (fx_i (fx_wi h q 38 fx) q 39)) q 40 (tx - (fx_i (fx_wi (fx_wi h q 38 fx) q 39 (fx_i (fx_wi h q 38 fx) q 39)) q 38))) q 41 (((fx_i h q 39) + (fx_i h q 41)) - (fx_i (fx_wi (fx_wi (fx_wi h q 38 fx) q 39 (fx_i (fx_wi h q 38 fx) q 39)) q 40 (tx - (fx_i (fx_wi (fx_wi h q 38 fx) q 39 (fx_i (fx_wi h q 38 fx) q 39)) q 38))) q 39))) q 40) ≤ 0 then fx_wi (fx_wi (fx_wi (fx_wi (fx_wi (fx_wi h q 38 fx) q 39 (fx_i (fx_wi h q 38 fx) q 39)) q 40 (tx - (fx_i (fx_wi (fx_wi h q 38 fx) q 39 (fx_i (fx_wi h q 38 fx) q 39)) q 38))) q 41 (((fx_i h q 39) + (fx_i h q 41)) - (fx_i (fx_wi (fx_wi (fx_wi h q 38 fx) q 39 (fx_i (fx_wi h q 38 fx) q 39)) q 40 (tx - (fx_i (fx_wi (fx_wi h q 38 fx) q 39 (fx_i (fx_wi h q 38 fx) q 39)) q 38))) q 39))) q 40 (0 : Int32)) q 41 (0 : Int32) else if (fx_i (fx_wi (fx_wi (fx_wi (fx_wi h q 38 fx) q 39 (fx_i (fx_wi h q 38 fx) q 39)) q 40 (tx - (fx_i (fx_wi (fx_wi h q 38 fx) q 39 (fx_i (fx_wi h q 38 fx) q 39)) q 38))) q 41 (((fx_i h q 39) + (fx_i h q 41)) - (fx_i (fx_wi (fx_wi (fx_wi h q 38 fx) q 39 (fx_i (fx_wi h q 38 fx) q 39)) q 40 (tx - (fx_i (fx_wi (fx_wi h q 38 fx) q 39 (fx_i (fx_wi h q 38 fx) q 39)) q 38))) q 39))) q 41) ≤ 0 then fx_wi (fx_wi (fx_wi (fx_wi (fx_wi (fx_wi h q 38 fx) q 39 (fx_i (fx_wi h q 38 fx) q 39)) q 40 (tx - (fx_i (fx_wi (fx_wi h q 38 fx) q 39 (fx_i (fx_wi h q 38 fx) q 39)) q 38))) q 41 (((fx_i h q 39) + (fx_i h q 41)) - (fx_i (fx_wi (fx_wi (fx_wi h q 38 fx) q 39 (fx_i (fx_wi h q 38 fx) q 39)) q 40 (tx - (fx_i (fx_wi (fx_wi h q 38 fx) q 39 (fx_i (fx_wi h q 38 fx) q 39)) q 38))) q 39))) q 40 (0 : Int32)) q 41 (0 : Int32) else fx_wi (fx_wi (fx_wi (fx_wi h q 38 fx) q 39 (fx_i (fx_wi h q 38 fx) q 39)) q 40 (tx - (fx_i (fx_wi (fx_wi h q 38 fx) q 39 (fx_i (fx_wi h q 38 fx) q 39)) q 38))) q 41 (((fx_i h q 39) + (fx_i h q 41)) - (fx_i (fx_wi (fx_wi (fx_wi h q 38 fx) q 39 (fx_i (fx_wi h q 38 fx) q 39)) q 40 (tx - (fx_i (fx_wi (fx_wi h q 38 fx) q 39 (fx_i (fx_wi h q 38 fx) q 39)) q 38))) q 39)) else if (fx_i (fx_wi h q 38 (fx_i h q 38)) q 39) ≤ fy then if (fx_i (fx_wi (fx_wi (fx_wi (fx_wi h q 38 (fx_i h q 38)) q 39 fy) q 40 (tx - (fx_i (fx_wi (fx_wi h q 38 (fx_i h q 38)) q 39 fy) q 38))) q 41 (((fx_i h q 39) + (fx_i h q 41)) - (fx_i (fx_wi (fx_wi (fx_wi h q 38 (fx_i h q 38)) q 39 fy) q 40 (tx - (fx_i (fx_wi (fx_wi h q 38 (fx_i h q 38)) q 39 fy) q 38))) q 39))) q 40) ≤ 0 then fx_wi (fx_wi (fx_wi (fx_wi (fx_wi (fx_wi h q 38 (fx_i h q 38)) q 39 fy) q 40 (tx - (fx_i (fx_wi (fx_wi h q 38 (fx_i h q 38)) q 39 fy) q 38))) q 41 (((fx_i h q 39) + (fx_i h q 41)) - (fx_i (fx_wi (fx_wi (fx_wi h q 38 (fx_i h q 38)) q 39 fy) q 40 (tx - (fx_i (fx_wi (fx_wi h q 38 (fx_i h q 38)) q 39 fy) q 38))) q 39))) q 40 (0 : Int32)) q 41 (0 : Int32) else if (fx_i (fx_wi (fx_wi (fx_wi (fx_wi h q 38 (fx_i h q 38)) q 39 fy) q 40 (tx - (fx_i (fx_wi (fx_wi h q 38 (fx_i h q 38)) q 39 fy) q 38))) q 41 (((fx_i h q 39) + (fx_i h q 41)) - (fx_i (fx_wi (fx_wi (fx_wi h q 38 (fx_i h q 38)) q 39 fy) q 40 (tx - (fx_i (fx_wi (fx_wi h q 38 (fx_i h q 38)) q 39 fy) q 38))) q 39))) q 41) ≤ 0 then fx_wi (fx_wi (fx_wi (fx_wi (fx_wi (fx_wi h q 38 (fx_i h q 38)) q 39 fy) q 40 (tx - (fx_i (fx_wi (fx_wi h q 38 (fx_i h q 38)) q 39 fy) q 38))) q 41 (((fx_i h q 39) + (fx_i h q 41)) - (fx_i (fx_wi (fx_wi (fx_wi h q 38 (fx_i h q 38)) q 39 fy) q 40 (tx - (fx_i (fx_wi (fx_wi h q 38 (fx_i h q 38)) q 39 fy) q 38))) q 39))) q 40 (0 : Int32)) q 41 (0 : Int32) else fx_wi (fx_wi (fx_wi (fx_wi h q 38 (fx_i h q 38)) q 39 fy) q 40 (tx - (fx_i (fx_wi (fx_wi h q 38 (fx_i h q 38)) q 39 fy) q 38))) q 41 (((fx_i h q 39) + (fx_i h q 41)) - (fx_i (fx_wi (fx_wi (fx_wi h q 38 (fx_i h q 38)) q 39 fy) q 40 (tx - (fx_i (fx_wi (fx_wi h q 38 (fx_i h q 38)) q 39 fy) q 38))) q 39)) else if (fx_i (fx_wi (fx_wi (fx_wi (fx_wi h q 38 (fx_i h q 38)) q 39 (fx_i (fx_wi h q 38 (fx_i h q 38)) q 39)) q 40 (tx - (fx_i (fx_wi (fx_wi h q 38 (fx_i h q 38)) q 39 (fx_i (fx_wi h q 38 (fx_i h q 38)) q 39)) q 38))) q 41 (((fx_i h q 39) + (fx_i h q 41)) - (fx_i (fx_wi (fx_wi (fx_wi h q 38 (fx_i h q 38)) q 39 (fx_i (fx_wi h q 38 (fx_i h q 38)) q 39)) q 40 (tx - (fx_i (fx_wi (fx_wi h q 38 (fx_i h q 38)) q 39 (fx_i (fx_wi h q 38 (fx_i h q 38)) q 39)) q 38))) q 39))) q 40) ≤ 0 then fx_wi (fx_wi (fx_wi (fx_wi (fx_wi (fx_wi h q 38 (fx_i h q 38)) q 39 (fx_i (fx_wi h q 38 (fx_i h q 38)) q 39)) q 40 (tx - (fx_i (fx_wi (fx_wi h q 38 (fx_i h q 38)) q 39 (fx_i (fx_wi h q 38 (fx_i h q 38)) q 39)) q 38))) q 41 (((fx_i h q 39) + (fx_i h q 41)) - (fx_i (fx_wi (fx_wi (fx_wi h q 38 (fx_i h q 38)) q 39 (fx_i (fx_wi h q 38 (fx_i h q 38)) q 39)) q 40 (tx - (fx_i (fx_wi (fx_wi h q 38 (fx_i h q 38)) q 39 (fx_i (fx_wi h q 38 (fx_i h q 38)) q 39)) q 38))) q 39))) q 40 (0 : Int32)) q 41 (0 : Int32) else if (fx_i (fx_wi (fx_wi (fx_wi (fx_wi h q 38 (fx_i h q 38)) q 39 (fx_i (fx_wi h q 38 (fx_i h q 38)) q 39)) q 40 (tx - (fx_i (fx_wi (fx_wi h q 38 (fx_i h q 38)) q 39 (fx_i (fx_wi h q 38 (fx_i h q 38)) q 39)) q 38))) q 41 (((fx_i h q 39) + (fx_i h q 41)) - (fx_i (fx_wi (fx_wi (fx_wi h q 38 (fx_i h q 38)) q 39 (fx_i (fx_wi h q 38 (fx_i h q 38)) q 39)) q 40 (tx - (fx_i (fx_wi (fx_wi h q 38 (fx_i h q 38)) q 39 (fx_i (fx_wi h q 38 (fx_i h q 38)) q 39)) q 38))) q 39))) q 41) ≤ 0 then fx_wi (fx_wi (fx_wi (fx_wi (fx_wi (fx_wi h q 38 (fx_i h q 38)) q 39 (fx_i (fx_wi h q 38 (fx_i h q 38)) q 39)) q 40 (tx - (fx_i (fx_wi (fx_wi h q 38 (fx_i h q 38)) q 39 (fx_i (fx_wi h q 38 (fx_i h q 38)) q 39)) q 38))) q 41 (((fx_i h q 39) + (fx_i h q 41)) - (fx_i (fx_wi (fx_wi (fx_wi h q 38 (fx_i h q 38)) q 39 (fx_i (fx_wi h q 38 (fx_i h q 38)) q 39)) q 40 (tx - (fx_i (fx_wi (fx_wi h q 38 (fx_i h q 38)) q 39 (fx_i (fx_wi h q 38 (fx_i h q 38)) q 39)) q 38))) q 39))) q 40 (0 : Int32)) q 41 (0 : Int32) else fx_wi (fx_wi (fx_wi (fx_wi h q 38 (fx_i h q 38)) q 39 (fx_i (fx_wi h q 38 (fx_i h q 38)) q 39)) q 40 (tx - (fx_i (fx_wi (fx_wi h q 38 (fx_i h q 38)) q 39 (fx_i (fx_wi h q 38 (fx_i h q 38)) q 39)) q 38))) q 41 (((fx_i h q 39) + (fx_i h q 41)) - (fx_i (fx_wi (fx_wi (fx_wi h q 38 (fx_i h q 38)) q 39 (fx_i (fx_wi h q 38 (fx_i h q 38)) q 39)) q 40 (tx - (fx_i (fx_wi (fx_wi h q 38 (fx_i h q 38)) q 39 (fx_i (fx_wi h q 38 (fx_i h q 38)) q 39)) q 38))) q 39)) else if ty ≤ ((fx_i h q 39) + (fx_i h q 41)) then if (fx_i h q 38) ≤ fx then if (fx_i (fx_wi h q 38 fx) q 39) ≤ fy then if (fx_i (fx_wi (fx_wi (fx_wi (fx_wi h q 38 fx) q 39 fy) q 40 (((fx_i h q 38) + (fx_i h q 40)) - (fx_i (fx_wi (fx_wi h q 38 fx) q 39 fy) q 38))) q 41 (ty - (fx_i (fx_wi (fx_wi (fx_wi h q 38 fx) q 39 fy) q 40 (((fx_i h q 38) + (fx_i h q 40)) - (fx_i (fx_wi (fx_wi h q 38 fx) q 39 fy) q 38))) q 39))) q 40) ≤ 0 then fx_wi (fx_wi (fx_wi (fx_wi (fx_wi (fx_wi h q 38 fx) q 39 fy) q 40 (((fx_i h q 38) + (fx_i h q 40)) - (fx_i (fx_wi (fx_wi h q 38 fx) q 39 fy) q 38))) q 41 (ty - (fx_i (fx_wi (fx_wi (fx_wi h q 38 fx) q 39 fy) q 40 (((fx_i h q 38) + (fx_i h q 40)) - (fx_i (fx_wi (fx_wi h q 38 fx) q 39 fy) q 38))) q 39))) q 40 (0 : Int32)) q 41 (0 : Int32) else if (fx_i (fx_wi (fx_wi (fx_wi (fx_wi h q 38 fx) q 39 fy) q 40 (((fx_i h q 38) + (fx_i h q 40)) - (fx_i (fx_wi (fx_wi h q 38 fx) q 39 fy) q 38))) q 41 (ty - (fx_i (fx_wi (fx_wi (fx_wi h q 38 fx) q 39 fy) q 40 (((fx_i h q 38) + (fx_i h q 40)) - (fx_i (fx_wi (fx_wi h q 38 fx) q 39 fy) q 38))) q 39))) q 41) ≤ 0 then fx_wi (fx_wi (fx_wi (fx_wi (fx_wi (fx_wi h q 38 fx) q 39 fy) q 40 (((fx_i h q 38) + (fx_i h q 40)) - (fx_i (fx_wi (fx_wi h q 38 fx) q 39 fy) q 38))) q 41 (ty - (fx_i (fx_wi (fx_wi (fx_wi h q 38 fx) q 39 fy) q 40 (((fx_i h q 38) + (fx_i h q 40)) - (fx_i (fx_wi (fx_wi h q 38 fx) q 39 fy) q 38))) q 39))) q 40 (0 : Int32)) q 41 (0 : Int32) else fx_wi (fx_wi (fx_wi (fx_wi h q 38 fx) q 39 fy) q 40 (((fx_i h q 38) + (fx_i h q 40)) - (fx_i (fx_wi (fx_wi h q 38 fx) q 39 fy) q 38))) q 41 (ty - (fx_i (fx_wi (fx_wi (fx_wi h q 38 fx) q 39 fy) q 40 (((fx_i h q 38) + (fx_i h q 40)) - (fx_i (fx_wi (fx_wi h q 38 fx) q 39 fy) q 38))) q 39)) else if (fx_i (fx_wi (fx_wi (fx_wi (fx_wi h q 38 fx) q 39 (fx_i (fx_wi h q 38 fx) q 39)) q 40 (((fx_i h q 38) + (fx_i h q 40)) - (fx_i (fx_wi (fx_wi h q 38 fx) q 39 (fx_i (fx_wi h q 38 fx) q 39)) q 38))) q 41 (ty - (fx_i (fx_wi (fx_wi (fx_wi h q 38 fx) q 39 (fx_i (fx_wi h q 38 fx) q 39)) q 40 (((fx_i h q 38) + (fx_i h q 40)) - (fx_i (fx_wi (fx_wi h q 38 fx) q 39 (fx_i (fx_wi h q 38 fx) q 39)) q 38))) q 39))) q 40) ≤ 0 then fx_wi (fx_wi (fx_wi (fx_wi (fx_wi (fx_wi h q 38 fx) q 39 (fx_i (fx_wi h q 38 fx) q 39)) q 40 (((fx_i h q 38) + (fx_i h q 40)) - (fx_i (fx_wi (fx_wi h q 38 fx) q 39 (fx_i (fx_wi h q 38 fx) q 39)) q 38))) q 41 (ty - (fx_i (fx_wi (fx_wi (fx_wi h q 38 fx) q 39 (fx_i (fx_wi h q 38 fx) q 39)) q 40 (((fx_i h q 38) + (fx_i h q 40)) - (fx_i (fx_wi (fx_wi h q 38 fx) q 39 (fx_i (fx_wi h q 38 fx) q 39)) q 38))) q 39))) q 40 (0 : Int32)) q 41 (0 : Int32) else if (fx_i (fx_wi (fx_wi (fx_wi (fx_wi h q 38 fx) q 39 (fx_i (fx_wi h q 38 fx) q 39)) q 40 (((fx_i h q 38) + (fx_i h q 40)) - (fx_i (fx_wi (fx_wi h q 38 fx) q 39 (fx_i (fx_wi h q 38 fx) q 39)) q 38))) q 41 (ty - (fx_i (fx_wi (fx_wi (fx_wi h q 38 fx) q 39 (fx_i (fx_wi h q 38 fx) q 39)) q 40 (((fx_i h q 38) + (fx_i h q 40)) - (fx_i (fx_wi (fx_wi h q 38 fx) q 39 (fx_i (fx_wi h q 38 fx) q 39)) q 38))) q 39))) q 41) ≤ 0 then fx_wi (fx_wi (fx_wi (fx_wi (fx_wi (fx_wi h q 38 fx) q 39 (fx_i (fx_wi h q 38 fx) q 39)) q 40 (((fx_i h q 38) + (fx_i h q 40)) - (fx_i (fx_wi (fx_wi h q 38 fx) q 39 (fx_i (fx_wi h q 38 fx) q 39)) q 38))) q 41 (ty - (fx_i (fx_wi (fx_wi (fx_wi h q 38 fx) q 39 (fx_i (fx_wi h q 38 fx) q 39)) q 40 (((fx_i h q 38) + (fx_i h q 40)) - (fx_i (fx_wi (fx_wi h q 38 fx) q 39 (fx_i (fx_wi h q 38 fx) q 39)) q 38))) q 39))) q 40 (0 : Int32)) q 41 (0 : Int32) else fx_wi (fx_wi (fx_wi (fx_wi h q 38 fx) q 39 (fx_i (fx_wi h q 38 fx) q 39)) q 40 (((fx_i h q 38) + (fx_i h q 40)) - (fx_i (fx_wi (fx_wi h q 38 fx) q 39 (fx_i (fx_wi h q 38 fx) q 39)) q 38))) q 41 (ty - (fx_i (fx_wi (fx_wi (fx_wi h q 38 fx) q 39 (fx_i (fx_wi h q 38 fx) q 39)) q 40 (((fx_i h q 38) + (fx_i h q 40)) - (fx_i (fx_wi (fx_wi h q 38 fx) q 39 (fx_i (fx_wi h q 38 fx) q 39)) q 38))) q 39)) else if (fx_i (fx_wi h q 38 (fx_i h q 38)) q 39) ≤ fy then if (fx_i (fx_wi (fx_wi (fx_wi (fx_wi h q 38 (fx_i h q 38)) q 39 fy) q 40 (((fx_i h q 38) + (fx_i h q 40)) - (fx_i (fx_wi (fx_wi h q 38 (fx_i h q 38)) q 39 fy) q 38))) q 41 (ty - (fx_i (fx_wi (fx_wi (fx_wi h q 38 (fx_i h q 38)) q 39 fy) q 40 (((fx_i h q 38) + (fx_i h q 40)) - (fx_i (fx_wi (fx_wi h q 38 (fx_i h q 38)) q 39 fy) q 38))) q 39))) q 40) ≤ 0 then fx_wi (fx_wi (fx_wi (fx_wi (fx_wi (fx_wi h q 38 (fx_i h q 38)) q 39 fy) q 40 (((fx_i h q 38) + (fx_i h q 40)) - (fx_i (fx_wi (fx_wi h q 38 (fx_i h q 38)) q 39 fy) q 38))) q 41 (ty - (fx_i (fx_wi (fx_wi (fx_wi h q 38 (fx_i h q 38)) q 39 fy) q 40 (((fx_i h q 38) + (fx_i h q 40)) - (fx_i (fx_wi (fx_wi h q 38 (fx_i h q 38)) q 39 fy) q 38))) q 39))) q 40 (0 : Int32)) q 41 (0 : Int32) else if (fx_i (fx_wi (fx_wi (fx_wi (fx_wi h q 38 (fx_i h q 38)) q 39 fy) q 40 (((fx_i h q 38) + (fx_i h q 40)) - (fx_i (fx_wi (fx_wi h q 38 (fx_i h q 38)) q 39 fy) q 38))) q 41 (ty - (fx_i (fx_wi (fx_wi (fx_wi h q 38 (fx_i h q 38)) q 39 fy) q 40 (((fx_i h q 38) + (fx_i h q 40)) - (fx_i (fx_wi (fx_wi h q 38 (fx_i h q 38)) q 39 fy) q 38))) q 39))) q 41) ≤ 0 then fx_wi (fx_wi (fx_wi (fx_wi (fx_wi (fx_wi h q 38 (fx_i h q 38)) q 39 fy) q 40 (((fx_i h q 38) + (fx_i h q 40)) - (fx_i (fx_wi (fx_wi h q 38 (fx_i h q 38)) q 39 fy) q 38))) q 41 (ty - (fx_i (fx_wi (fx_wi (fx_wi h q 38 (fx_i h q 38)) q 39 fy) q 40 (((fx_i h q 38) + (fx_i h q 40)) - (fx_i (fx_wi (fx_wi h q 38 (fx_i h q 38)) q 39 fy) q 38))) q 39))) q 40 (0 : Int32)) q 41 (0 : Int32) else fx_wi (fx_wi (fx_wi (fx_wi h q 38 (fx_i h q 38)) q 39 fy) q 40 (((fx_i h q 38) + (fx_i h q 40)) - (fx_i (fx_wi (fx_wi h q 38 (fx_i h q 38)) q 39 fy) q 38))) q 41 (ty - (fx_i (fx_wi (fx_wi (fx_wi h q 38 (fx_i h q 38)) q 39 fy) q 40 (((fx_i h q 38) + (fx_i h q 40)) - (fx_i (fx_wi (fx_wi h q 38 (fx_i h q 38)) q 39 fy) q 38))) q 39)) else if (fx_i (fx_wi (fx_wi (fx_wi (fx_wi h q 38 (fx_i h q 38)) q 39 (fx_i (fx_wi h q 38 (fx_i h q 38)) q 39)) q 40 (((fx_i h q 38) + (fx_i h q 40)) - (fx_i (fx_wi (fx_wi h q 38 (fx_i h q 38)) q 39 (fx_i (fx_wi h q 38 (fx_i h q 38)) q 39)) q 38))) q 41 (ty - (fx_i (fx_wi (fx_wi (fx_wi h q 38 (fx_i h q 38)) q 39 (fx_i (fx_wi h q 38 (fx_i h q 38)) q 39)) q 40 (((fx_i h q 38) + (fx_i h q 40)) - (fx_i (fx_wi (fx_wi h q 38 (fx_i h q 38)) q 39 (fx_i (fx_wi h q 38 (fx_i h q 38)) q 39)) q 38))) q 39))) q 40) ≤ 0 then fx_wi (fx_wi (fx_wi (fx_wi (fx_wi (fx_wi h q 38 (fx_i h q 38)) q 39 (fx_i (fx_wi h q 38 (fx_i h q 38)) q 39)) q 40 (((fx_i h q 38) + (fx_i h q 40)) - (fx_i (fx_wi (fx_wi h q 38 (fx_i h q 38)) q 39 (fx_i (fx_wi h q 38 (fx_i h q 38)) q 39)) q 38))) q 41 (ty - (fx_i (fx_wi (fx_wi (fx_wi h q 38 (fx_i h q 38)) q 39 (fx_i (fx_wi h q 38 (fx_i h q 38)) q 39)) q 40 (((fx_i h q 38) + (fx_i h q 40)) - (fx_i (fx_wi (fx_wi h q 38 (fx_i h q 38)) q 39 (fx_i (fx_wi h q 38 (fx_i h q 38)) q 39)) q 38))) q 39))) q 40 (0 : Int32)) q 41 (0 : Int32) else if (fx_i (fx_wi (fx_wi (fx_wi (fx_wi h q 38 (fx_i h q 38)) q 39 (fx_i (fx_wi h q 38 (fx_i h q 38)) q 39)) q 40 (((fx_i h q 38) + (fx_i h q 40)) - (fx_i (fx_wi (fx_wi h q 38 (fx_i h q 38)) q 39 (fx_i (fx_wi h q 38 (fx_i h q 38)) q 39)) q 38))) q 41 (ty - (fx_i (fx_wi (fx_wi (fx_wi h q 38 (fx_i h q 38)) q 39 (fx_i (fx_wi h q 38 (fx_i h q 38)) q 39)) q 40 (((fx_i h q 38) + (fx_i h q 40)) - (fx_i (fx_wi (fx_wi h q 38 (fx_i h q 38)) q 39 (fx_i (fx_wi h q 38 (fx_i h q 38)) q 39)) q 38))) q 39))) q 41) ≤ 0 then fx_wi (fx_wi (fx_wi (fx_wi (fx_wi (fx_wi h q 38 (fx_i h q 38)) q 39 (fx_i (fx_wi h q 38 (fx_i h q 38)) q 39)) q 40 (((fx_i h q 38) + (fx_i h q 40)) - (fx_i (fx_wi (fx_wi h q 38 (fx_i h q 38)) q 39 (fx_i (fx_wi h q 38 (fx_i h q 38)) q 39)) q 38))) q 41 (ty - (fx_i (fx_wi (fx_wi (fx_wi h q 38 (fx_i h q 38)) q 39 (fx_i (fx_wi h q 38 (fx_i h q 38)) q 39)) q 40 (((fx_i h q 38) + (fx_i h q 40)) - (fx_i (fx_wi (fx_wi h q 38 (fx_i h q 38)) q 39 (fx_i (fx_wi h q 38 (fx_i h q 38)) q 39)) q 38))) q 39))) q 40 (0 : Int32)) q 41 (0 : Int32) else fx_wi (fx_wi (fx_wi (fx_wi h q 38 (fx_i h q 38)) q 39 (fx_i (fx_wi h q 38 (fx_i h q 38)) q 39)) q 40 (((fx_i h q 38) + (fx_i h q 40)) - (fx_i (fx_wi (fx_wi h q 38 (fx_i h q 38)) q 39 (fx_i (fx_wi h q 38 (fx_i h q 38)) q 39)) q 38))) q 41 (ty - (fx_i (fx_wi (fx_wi (fx_wi h q 38 (fx_i h q 38)) q 39 (fx_i (fx_wi h q 38 (fx_i h q 38)) q 39)) q 40 (((fx_i h q 38) + (fx_i h q 40)) - (fx_i (fx_wi (fx_wi h q 38 (fx_i h q 38)) q 39 (fx_i (fx_wi h q 38 (fx_i h q 38)) q 39)) q 38))) q 39)) else if (fx_i h q 38) ≤ fx then if (fx_i (fx_wi h q 38 fx) q 39) ≤ fy then if (fx_i (fx_wi (fx_wi (fx_wi (fx_wi h q 38 fx) q 39 fy) q 40 (((fx_i h q 38) + (fx_i h q 40)) - (fx_i (fx_wi (fx_wi h q 38 fx) q 39 fy) q 38))) q 41 (((fx_i h q 39) + (fx_i h q 41)) - (fx_i (fx_wi (fx_wi (fx_wi h q 38 fx) q 39 fy) q 40 (((fx_i h q 38) + (fx_i h q 40)) - (fx_i (fx_wi (fx_wi h q 38 fx) q 39 fy) q 38))) q 39))) q 40) ≤ 0 then fx_wi (fx_wi (fx_wi (fx_wi (fx_wi (fx_wi h q 38 fx) q 39 fy) q 40 (((fx_i h q 38) + (fx_i h q 40)) - (fx_i (fx_wi (fx_wi h q 38 fx) q 39 fy) q 38))) q 41 (((fx_i h q 39) + (fx_i h q 41)) - (fx_i (fx_wi (fx_wi (fx_wi h q 38 fx) q 39 fy) q 40 (((fx_i h q 38) + (fx_i h q 40)) - (fx_i (fx_wi (fx_wi h q 38 fx) q 39 fy) q 38))) q 39))) q 40 (0 : Int32)) q 41 (0 : Int32) else if (fx_i (fx_wi (fx_wi (fx_wi (fx_wi h q 38 fx) q 39 fy) q 40 (((fx_i h q 38) + (fx_i h q 40)) - (fx_i (fx_wi (fx_wi h q 38 fx) q 39 fy) q 38))) q 41 (((fx_i h q 39) + (fx_i h q 41)) - (fx_i (fx_wi (fx_wi (fx_wi h q 38 fx) q 39 fy) q 40 (((fx_i h q 38) + (fx_i h q 40)) - (fx_i (fx_wi (fx_wi h q 38 fx) q 39 fy) q 38))) q 39))) q 41) ≤ 0 then fx_wi (fx_wi (fx_wi (fx_wi (fx_wi (fx_wi h q 38 fx) q 39 fy) q 40 (((fx_i h q 38) + (fx_i h q 40)) - (fx_i (fx_wi (fx_wi h q 38 fx) q 39 fy) q 38))) q 41 (((fx_i h q 39) + (fx_i h q 41)) - (fx_i (fx_wi (fx_wi (fx_wi h q 38 fx) q 39 fy) q 40 (((fx_i h q 38) + (fx_i h q 40)) - (fx_i (fx_wi (fx_wi h q 38 fx) q 39 fy) q 38))) q 39))) q 40 (0 : Int32)) q 41 (0 : Int32) else fx_wi (fx_wi (fx_wi (fx_wi h q 38 fx) q 39 fy) q 40 (((fx_i h q 38) + (fx_i h q 40)) - (fx_i (fx_wi (fx_wi h q 38 fx) q 39 fy) q 38))) q 41 (((fx_i h q 39) + (fx_i h q 41)) - (fx_i (fx_wi (fx_wi (fx_wi h q 38 fx) q 39 fy) q 40 (((fx_i h q 38) + (fx_i h q 40)) - (fx_i (fx_wi (fx_wi h q 38 fx) q 39 fy) q 38))) q 39)) else if (fx_i (fx_wi (fx_wi (fx_wi (fx_wi h q 38 fx) q 39 (fx_i (fx_wi h q 38 fx) q 39)) q 40 (((fx_i h q 38) + (fx_i h q 40)) - (fx_i (fx_wi (fx_wi h q 38 fx) q 39 (fx_i (fx_wi h q 38 fx) q 39)) q 38))) q 41 (((fx_i h q 39) + (fx_i h q 41)) - (fx_i (fx_wi (fx_wi (fx_wi h q 38 fx) q 39 (fx_i (fx_wi h q 38 fx) q 39)) q 40 (((fx_i h q 38) + (fx_i h q 40)) - (fx_i (fx_wi (fx_wi h q 38 fx) q 39 (fx_i (fx_wi h q 38 fx) q 39)) q 38))) q 39))) q 40) ≤ 0 then fx_wi (fx_wi (fx_wi (fx_wi (fx_wi (fx_wi h q 38 fx) q 39 (fx_i (fx_wi h q 38 fx) q 39)) q 40 (((fx_i h q 38) + (fx_i h q 40)) - (fx_i (fx_wi (fx_wi h q 38 fx) q 39 (fx_i (fx_wi h q 38 fx) q 39)) q 38))) q 41 (((fx_i h q 39) + (fx_i h q 41)) - (fx_i (fx_wi (fx_wi (fx_wi h q 38 fx) q 39 (fx_i (fx_wi h q 38 fx) q 39)) q 40 (((fx_i h q 38) + (fx_i h q 40)) - (fx_i (fx_wi (fx_wi h q 38 fx) q 39 (fx_i (fx_wi h q 38 fx) q 39)) q 38))) q 39))) q 40 (0 : Int32)) q 41 (0 : Int32) else if (fx_i (fx_wi (fx_wi (fx_wi (fx_wi h q 38 fx) q 39 (fx_i (fx_wi h q 38 fx) q 39)) q 40 (((fx_i h q 38) + (fx_i h q 40)) - (fx_i (fx_wi (fx_wi h q 38 fx) q 39 (fx_i (fx_wi h q 38 fx) q 39)) q 38))) q 41 (((fx_i h q 39) + (fx_i h q 41)) - (fx_i (fx_wi (fx_wi (fx_wi h q 38 fx) q 39 (fx_i (fx_wi h q 38 fx) q 39)) q 40 (((fx_i h q 38) + (fx_i h q 40)) - (fx_i (fx_wi (fx_wi h q 38 fx) q 39 (fx_i (fx_wi h q 38 fx) q 39)) q 38))) q 39))) q 41) ≤ 0 then fx_wi (fx_wi (fx_wi (fx_wi (fx_wi (fx_wi h q 38 fx) q 39 (fx_i (fx_wi h q 38 fx) q 39)) q 40 (((fx_i h q 38) + (fx_i h q 40)) - (fx_i (fx_wi (fx_wi h q 38 fx) q 39 (fx_i (fx_wi h q 38 fx) q 39)) q 38))) q 41 (((fx_i h q 39) + (fx_i h q 41)) - (fx_i (fx_wi (fx_wi (fx_wi h q 38 fx) q 39 (fx_i (fx_wi h q 38 fx) q 39)) q 40 (((fx_i h q 38) + (fx_i h q 40)) - (fx_i (fx_wi (fx_wi h q 38 fx) q 39 (fx_i (fx_wi h q 38 fx) q 39)) q 38))) q 39))) q 40 (0 : Int32)) q 41 (0 : Int32) else fx_wi (fx_wi (fx_wi (fx_wi h q 38 fx) q 39 (fx_i (fx_wi h q 38 fx) q 39)) q 40 (((fx_i h q 38) + (fx_i h q 40)) - (fx_i (fx_wi (fx_wi h q 38 fx) q 39 (fx_i (fx_wi h q 38 fx) q 39)) q 38))) q 41 (((fx_i h q 39) + (fx_i h q 41)) - (fx_i (fx_wi (fx_wi (fx_wi h q 38 fx) q 39 (fx_i (fx_wi h q 38 fx) q 39)) q 40 (((fx_i h q 38) + (fx_i h q 40)) - (fx_i (fx_wi (fx_wi h q 38 fx) q 39 (fx_i (fx_wi h q 38 fx) q 39)) q 38))) q 39)) else if (fx_i (fx_wi h q 38 (fx_i h q 38)) q 39) ≤ fy then if (fx_i (fx_wi (fx_wi (fx_wi (fx_wi h q 38 (fx_i h q 38)) q 39 fy) q 40 (((fx_i h q 38) + (fx_i h q 40)) - (fx_i (fx_wi (fx_wi h q 38 (fx_i h q 38)) q 39 fy) q 38))) q 41 (((fx_i h q 39) + (fx_i h q 41)) - (fx_i (fx_wi (fx_wi (fx_wi h q 38 (fx_i h q 38)) q 39 fy) q 40 (((fx_i h q 38) + (fx_i h q 40)) - (fx_i (fx_wi (fx_wi h q 38 (fx_i h q 38)) q 39 fy) q 38))) q 39))) q 40) ≤ 0 then fx_wi (fx_wi (fx_wi (fx_wi (fx_wi (fx_wi h q 38 (fx_i h q 38)) q 39 fy) q 40 (((fx_i h q 38) + (fx_i h q 40)) - (fx_i (fx_wi (fx_wi h q 38 (fx_i h q 38)) q 39 fy) q 38))) q 41 (((fx_i h q 39) + (fx_i h q 41)) - (fx_i (fx_wi (fx_wi (fx_wi h q 38 (fx_i h q 38)) q 39 fy) q 40 (((fx_i h q 38) + (fx_i h q 40)) - (fx_i (fx_wi (fx_wi h q 38 (fx_i h q 38)) q 39 fy) q 38))) q 39))) q 40 (0 : Int32)) q 41 (0 : Int32) else if (fx_i (fx_wi (fx_wi (fx_wi (fx_wi h q 38 (fx_i h q 38)) q 39 fy) q 40 (((fx_i h q 38) + (fx_i h q 40)) - (fx_i (fx_wi (fx_wi h q 38 (fx_i h q 38)) q 39 fy) q 38))) q 41 (((fx_i h q 39) + (fx_i h q 41)) - (fx_i (fx_wi (fx_wi (fx_wi h q 38 (fx_i h q 38)) q 39 fy) q 40 (((fx_i h q 38) + (fx_i h q 40)) - (fx_i (fx_wi (fx_wi h q 38 (fx_i h q 38)) q 39 fy) q 38))) q 39))) q 41) ≤ 0 then fx_wi (fx_wi (fx_wi (fx_wi (fx_wi (fx_wi h q 38 (fx_i h q 38)) q 39 fy) q 40 (((fx_i h q 38) + (fx_i h q 40)) - (fx_i (fx_wi (fx_wi h q 38 (fx_i h q 38)) q 39 fy) q 38))) q 41 (((fx_i h q 39) + (fx_i h q 41)) - (fx_i (fx_wi (fx_wi (fx_wi h q 38 (fx_i h q 38)) q 39 fy) q 40 (((fx_i h q 38) + (fx_i h q 40)) - (fx_i (fx_wi (fx_wi h q 38 (fx_i h q 38)) q 39 fy) q 38))) q 39))) q 40 (0 : Int32)) q 41 (0 : Int32) else fx_wi (fx_wi (fx_wi (fx_wi h q 38 (fx_i h q 38)) q 39 fy) q 40 (((fx_i h q 38) + (fx_i h q 40)) - (fx_i (fx_wi (fx_wi h q 38 (fx_i h q 38)) q 39 fy) q 38))) q 41 (((fx_i h q 39) + (fx_i h q 41)) - (fx_i (fx_wi (fx_wi (fx_wi h q 38 (fx_i h q 38)) q 39 fy) q 40 (((fx_i h q 38) + (fx_i h q 40)) - (fx_i (fx_wi (fx_wi h q 38 (fx_i h q 38)) q 39 fy) q 38))) q 39)) else if (fx_i (fx_wi (fx_wi (fx_wi (fx_wi h q 38 (fx_i h q 38)) q 39 (fx_i (fx_wi h q 38 (fx_i h q 38)) q 39)) q 40 (((fx_i h q 38) + (fx_i h q 40)) - (fx_i (fx_wi (fx_wi h q 38 (fx_i h q 38)) q 39 (fx_i (fx_wi h q 38 (fx_i h q 38)) q 39)) q 38))) q 41 (((fx_i h q 39) + (fx_i h q 41)) - (fx_i (fx_wi (fx_wi (fx_wi h q 38 (fx_i h q 38)) q 39 (fx_i (fx_wi h q 38 (fx_i h q 38)) q 39)) q 40 (((fx_i h q 38) + (fx_i h q 40)) - (fx_i (fx_wi (fx_wi h q 38 (fx_i h q 38)) q 39 (fx_i (fx_wi h q 38 (fx_i h q 38)) q 39)) q 38))) q 39))) q 40) ≤ 0 then fx_wi (fx_wi (fx_wi (fx_wi (fx_wi (fx_wi h q 38 (fx_i h q 38)) q 39 (fx_i (fx_wi h q 38 (fx_i h q 38)) q 39)) q 40 (((fx_i h q 38) + (fx_i h q 40)) - (fx_i (fx_wi (fx_wi h q 38 (fx_i h q 38)) q 39 (fx_i (fx_wi h q 38 (fx_i h q 38)) q 39)) q 38))) q 41 (((fx_i h q 39) + (fx_i h q 41)) - (fx_i (fx_wi (fx_wi (fx_wi h q 38 (fx_i h q 38)) q 39 (fx_i (fx_wi h q 38 (fx_i h q 38)) q 39)) q 40 (((fx_i h q 38) + (fx_i h q 40)) - (fx_i (fx_wi (fx_wi h q 38 (fx_i h q 38)) q 39 (fx_i (fx_wi h q 38 (fx_i h q 38)) q 39)) q 38))) q 39))) q 40 (0 : Int32)) q 41 (0 : Int32) else if (fx_i (fx_wi (fx_wi (fx_wi (fx_wi h q 38 (fx_i h q 38)) q 39 (fx_i (fx_wi h q 38 (fx_i h q 38)) q 39)) q 40 (((fx_i h q 38) + (fx_i h q 40)) - (fx_i (fx_wi (fx_wi h q 38 (fx_i h q 38)) q 39 (fx_i (fx_wi h q 38 (fx_i h q 38)) q 39)) q 38))) q 41 (((fx_i h q 39) + (fx_i h q 41)) - (fx_i (fx_wi (fx_wi (fx_wi h q 38 (fx_i h q 38)) q 39 (fx_i (fx_wi h q 38 (fx_i h q 38)) q 39)) q 40 (((fx_i h q 38) + (fx_i h q 40)) - (fx_i (fx_wi (fx_wi h q 38 (fx_i h q 38)) q 39 (fx_i (fx_wi h q 38 (fx_i h q 38)) q 39)) q 38))) q 39))) q 41) ≤ 0 then fx_wi (fx_wi (fx_wi (fx_wi (fx_wi (fx_wi h q 38 (fx_i h q 38)) q 39 (fx_i (fx_wi h q 38 (fx_i h q 38)) q 39)) q 40 (((fx_i h q 38) + (fx_i h q 40)) - (fx_i (fx_wi (fx_wi h q 38 (fx_i h q 38)) q 39 (fx_i (fx_wi h q 38 (fx_i h q 38)) q 39)) q 38))) q 41 (((fx_i h q 39) + (fx_i h q 41)) - (fx_i (fx_wi (fx_wi (fx_wi h q 38 (fx_i h q 38)) q 39 (fx_i (fx_wi h q 38 (fx_i h q 38)) q 39)) q 40 (((fx_i h q 38) + (fx_i h q 40)) - (fx_i (fx_wi (fx_wi h q 38 (fx_i h q 38)) q 39 (fx_i (fx_wi h q 38 (fx_i h q 38)) q 39)) q 38))) q 39))) q 40 (0 : Int32)) q 41 (0 : Int32) else fx_wi (fx_wi (fx_wi (fx_wi h q 38 (fx_i h q 38)) q 39 (fx_i (fx_wi h q 38 (fx_i h q 38)) q 39)) q 40 (((fx_i h q 38) + (fx_i h q 40)) - (fx_i (fx_wi (fx_wi h q 38 (fx_i h q 38)) q 39 (fx_i (fx_wi h q 38 (fx_i h q 38)) q 39)) q 38))) q 41 (((fx_i h q 39) + (fx_i h q 41)) - (fx_i (fx_wi (fx_wi (fx_wi h q 38 (fx_i h q 38)) q 39 (fx_i (fx_wi h q 38 (fx_i h q 38)) q 39)) q 40 (((fx_i h q 38) + (fx_i h q 40)) - (fx_i (fx_wi (fx_wi h q 38 (fx_i h q 38)) q 39 (fx_i (fx_wi h q 38 (fx_i h q 38)) q 39)) q 38))) q 39))
set_option maxRecDepth 100000 in
set_option maxHeartbeats 600000 in
theorem c_MO_cut {g : fx_G} (ok : fx_ok g) (h : fx_H) (q : Nat) (fx fy tx ty : Int32) (hm : isM h q)  : fx_C g mq_MO_cut [.ref q, .int fx, .int fy, .int tx, .int ty] h (fx_is none (k_MO_cut h q fx fy tx ty)) 0 0 := by
  refine fx_body (by decide +kernel) (Nat.le_of_ble_eq_true rfl) ?_
  show fx_X g mq_MO_cut 0 [(0, .ref q), (1, .int fx), (2, .int fy), (3, .int tx), (4, .int ty)] [] h _ 0 0
  refine fx_aload_n 0 dq_MO_cut_0 rfl rfl ?_
  refine fx_geti ok fq_MO_141 hm.1 dq_MO_cut_1 (by decide) ?_
  refine fx_aload_n 0 dq_MO_cut_4 rfl rfl ?_
  refine fx_geti ok fq_MO_144 hm.1 dq_MO_cut_5 (by decide) ?_
  refine fx_iadd dq_MO_cut_8 ?_
  refine fx_iload_n 3 dq_MO_cut_9 rfl rfl ?_
  refine fx_icmp_ge (tgt := 25) dq_MO_cut_10 (by decide) (fun hc10 => ?_) (fun hc10 => ?_)
  · -- 10: jump
    refine fx_iload_n 3 dq_MO_cut_25 rfl rfl ?_
    refine fx_istore dq_MO_cut_26 (by decide) rfl ?_
    refine fx_aload_n 1 dq_MO_cut_28 rfl rfl ?_
    refine fx_geti ok fq_MO_147 hm.1 dq_MO_cut_29 (by decide) ?_
    refine fx_aload_n 1 dq_MO_cut_32 rfl rfl ?_
    refine fx_geti ok fq_MO_150 hm.1 dq_MO_cut_33 (by decide) ?_
    refine fx_iadd dq_MO_cut_36 ?_
    refine fx_iload 5 dq_MO_cut_37 rfl ?_
    refine fx_icmp_ge (tgt := 54) dq_MO_cut_39 (by decide) (fun hc39 => ?_) (fun hc39 => ?_)
    · -- 39: jump
      refine fx_iload 5 dq_MO_cut_54 rfl ?_
      refine fx_istore dq_MO_cut_56 (by decide) rfl ?_
      refine fx_aload_n 2 dq_MO_cut_58 rfl rfl ?_
      refine fx_aload_n 2 dq_MO_cut_59 rfl rfl ?_
      refine fx_geti ok fq_MO_141 hm.1 dq_MO_cut_60 (by decide) ?_
      refine fx_iload_n 3 dq_MO_cut_63 rfl rfl ?_
      refine fx_icmp_le (tgt := 74) dq_MO_cut_64 (by decide) (fun hc64 => ?_) (fun hc64 => ?_)
      · -- 64: jump
        refine fx_iload_n 3 dq_MO_cut_74 rfl rfl ?_
        refine fx_puti ok fp_MO_141 hm.1 (by decide) dq_MO_cut_75 (Or.inl (by decide)) ?_
        refine fx_aload_n 2 dq_MO_cut_78 rfl rfl ?_
        refine fx_aload_n 2 dq_MO_cut_79 rfl rfl ?_
        refine fx_geti ok fq_MO_147 hm.1 dq_MO_cut_80 (by decide) ?_
        refine fx_iload_n 4 dq_MO_cut_83 rfl rfl ?_
        refine fx_icmp_le (tgt := 94) dq_MO_cut_84 (by decide) (fun hc84 => ?_) (fun hc84 => ?_)
        · -- 84: jump
          refine fx_iload_n 4 dq_MO_cut_94 rfl rfl ?_
          refine fx_puti ok fp_MO_147 hm.1 (by decide) dq_MO_cut_95 (Or.inl (by decide)) ?_
          refine fx_aload_n 2 dq_MO_cut_98 rfl rfl ?_
          refine fx_iload 1 dq_MO_cut_99 rfl ?_
          refine fx_aload_n 2 dq_MO_cut_101 rfl rfl ?_
          refine fx_geti ok fq_MO_141 hm.1 dq_MO_cut_102 (by decide) ?_
          refine fx_isub dq_MO_cut_105 ?_
          refine fx_puti ok fp_MO_144 hm.1 (by decide) dq_MO_cut_106 (Or.inl (by decide)) ?_
          refine fx_aload_n 2 dq_MO_cut_109 rfl rfl ?_
          refine fx_iload 0 dq_MO_cut_110 rfl ?_
          refine fx_aload_n 2 dq_MO_cut_112 rfl rfl ?_
          refine fx_geti ok fq_MO_147 hm.1 dq_MO_cut_113 (by decide) ?_
          refine fx_isub dq_MO_cut_116 ?_
          refine fx_puti ok fp_MO_150 hm.1 (by decide) dq_MO_cut_117 (Or.inl (by decide)) ?_
          refine fx_aload_n 2 dq_MO_cut_120 rfl rfl ?_
          refine fx_geti ok fq_MO_144 hm.1 dq_MO_cut_121 (by decide) ?_
          refine fx_if_le (tgt := 135) dq_MO_cut_124 (by decide) (fun hc124 => ?_) (fun hc124 => ?_)
          · -- 124: jump
            refine fx_aload_n 2 dq_MO_cut_135 rfl rfl ?_
            refine fx_iconst (v := 0) dq_MO_cut_136 (by decide) ?_
            refine fx_puti ok fp_MO_144 hm.1 (by decide) dq_MO_cut_137 (Or.inl (by decide)) ?_
            refine fx_aload_n 2 dq_MO_cut_140 rfl rfl ?_
            refine fx_iconst (v := 0) dq_MO_cut_141 (by decide) ?_
            refine fx_puti ok fp_MO_150 hm.1 (by decide) dq_MO_cut_142 (Or.inl (by decide)) ?_
            exact fx_vreturn rfl dq_MO_cut_145 ⟨rfl, by rw [k_MO_cut, if_pos hc10, if_pos hc39, if_pos hc64, if_pos hc84, if_pos hc124]⟩
          · -- 124: fall
            refine fx_aload_n 2 dq_MO_cut_127 rfl rfl ?_
            refine fx_geti ok fq_MO_150 hm.1 dq_MO_cut_128 (by decide) ?_
            refine fx_if_le (tgt := 135) dq_MO_cut_131 (by decide) (fun hc131 => ?_) (fun hc131 => ?_)
            · -- 131: jump
              refine fx_aload_n 2 dq_MO_cut_135 rfl rfl ?_
              refine fx_iconst (v := 0) dq_MO_cut_136 (by decide) ?_
              refine fx_puti ok fp_MO_144 hm.1 (by decide) dq_MO_cut_137 (Or.inl (by decide)) ?_
              refine fx_aload_n 2 dq_MO_cut_140 rfl rfl ?_
              refine fx_iconst (v := 0) dq_MO_cut_141 (by decide) ?_
              refine fx_puti ok fp_MO_150 hm.1 (by decide) dq_MO_cut_142 (Or.inl (by decide)) ?_
              exact fx_vreturn rfl dq_MO_cut_145 ⟨rfl, by rw [k_MO_cut, if_pos hc10, if_pos hc39, if_pos hc64, if_pos hc84, if_neg hc124, if_pos hc131]⟩
            · -- 131: fall
              exact fx_vreturn rfl dq_MO_cut_134 ⟨rfl, by rw [k_MO_cut, if_pos hc10, if_pos hc39, if_pos hc64, if_pos hc84, if_neg hc124, if_neg hc131]⟩
        · -- 84: fall
          refine fx_aload_n 2 dq_MO_cut_87 rfl rfl ?_
          refine fx_geti ok fq_MO_147 hm.1 dq_MO_cut_88 (by decide) ?_
          refine fx_goto (tgt := 95) dq_MO_cut_91 (by decide) ?_
          refine fx_puti ok fp_MO_147 hm.1 (by decide) dq_MO_cut_95 (Or.inl (by decide)) ?_
          refine fx_aload_n 2 dq_MO_cut_98 rfl rfl ?_
          refine fx_iload 1 dq_MO_cut_99 rfl ?_
          refine fx_aload_n 2 dq_MO_cut_101 rfl rfl ?_
          refine fx_geti ok fq_MO_141 hm.1 dq_MO_cut_102 (by decide) ?_
          refine fx_isub dq_MO_cut_105 ?_
          refine fx_puti ok fp_MO_144 hm.1 (by decide) dq_MO_cut_106 (Or.inl (by decide)) ?_
          refine fx_aload_n 2 dq_MO_cut_109 rfl rfl ?_
          refine fx_iload 0 dq_MO_cut_110 rfl ?_
          refine fx_aload_n 2 dq_MO_cut_112 rfl rfl ?_
          refine fx_geti ok fq_MO_147 hm.1 dq_MO_cut_113 (by decide) ?_
          refine fx_isub dq_MO_cut_116 ?_
          refine fx_puti ok fp_MO_150 hm.1 (by decide) dq_MO_cut_117 (Or.inl (by decide)) ?_
          refine fx_aload_n 2 dq_MO_cut_120 rfl rfl ?_
          refine fx_geti ok fq_MO_144 hm.1 dq_MO_cut_121 (by decide) ?_
          refine fx_if_le (tgt := 135) dq_MO_cut_124 (by decide) (fun hc124 => ?_) (fun hc124 => ?_)
          · -- 124: jump
            refine fx_aload_n 2 dq_MO_cut_135 rfl rfl ?_
            refine fx_iconst (v := 0) dq_MO_cut_136 (by decide) ?_
            refine fx_puti ok fp_MO_144 hm.1 (by decide) dq_MO_cut_137 (Or.inl (by decide)) ?_
            refine fx_aload_n 2 dq_MO_cut_140 rfl rfl ?_
            refine fx_iconst (v := 0) dq_MO_cut_141 (by decide) ?_
            refine fx_puti ok fp_MO_150 hm.1 (by decide) dq_MO_cut_142 (Or.inl (by decide)) ?_
            exact fx_vreturn rfl dq_MO_cut_145 ⟨rfl, by rw [k_MO_cut, if_pos hc10, if_pos hc39, if_pos hc64, if_neg hc84, if_pos hc124]⟩
          · -- 124: fall
            refine fx_aload_n 2 dq_MO_cut_127 rfl rfl ?_
            refine fx_geti ok fq_MO_150 hm.1 dq_MO_cut_128 (by decide) ?_
            refine fx_if_le (tgt := 135) dq_MO_cut_131 (by decide) (fun hc131 => ?_) (fun hc131 => ?_)
            · -- 131: jump
              refine fx_aload_n 2 dq_MO_cut_135 rfl rfl ?_
              refine fx_iconst (v := 0) dq_MO_cut_136 (by decide) ?_
              refine fx_puti ok fp_MO_144 hm.1 (by decide) dq_MO_cut_137 (Or.inl (by decide)) ?_
              refine fx_aload_n 2 dq_MO_cut_140 rfl rfl ?_
              refine fx_iconst (v := 0) dq_MO_cut_141 (by decide) ?_
              refine fx_puti ok fp_MO_150 hm.1 (by decide) dq_MO_cut_142 (Or.inl (by decide)) ?_
              exact fx_vreturn rfl dq_MO_cut_145 ⟨rfl, by rw [k_MO_cut, if_pos hc10, if_pos hc39, if_pos hc64, if_neg hc84, if_neg hc124, if_pos hc131]⟩
            · -- 131: fall
              exact fx_vreturn rfl dq_MO_cut_134 ⟨rfl, by rw [k_MO_cut, if_pos hc10, if_pos hc39, if_pos hc64, if_neg hc84, if_neg hc124, if_neg hc131]⟩
      · -- 64: fall
        refine fx_aload_n 2 dq_MO_cut_67 rfl rfl ?_
        refine fx_geti ok fq_MO_141 hm.1 dq_MO_cut_68 (by decide) ?_
        refine fx_goto (tgt := 75) dq_MO_cut_71 (by decide) ?_
        refine fx_puti ok fp_MO_141 hm.1 (by decide) dq_MO_cut_75 (Or.inl (by decide)) ?_
        refine fx_aload_n 2 dq_MO_cut_78 rfl rfl ?_
        refine fx_aload_n 2 dq_MO_cut_79 rfl rfl ?_
        refine fx_geti ok fq_MO_147 hm.1 dq_MO_cut_80 (by decide) ?_
        refine fx_iload_n 4 dq_MO_cut_83 rfl rfl ?_
        refine fx_icmp_le (tgt := 94) dq_MO_cut_84 (by decide) (fun hc84 => ?_) (fun hc84 => ?_)
        · -- 84: jump
          refine fx_iload_n 4 dq_MO_cut_94 rfl rfl ?_
          refine fx_puti ok fp_MO_147 hm.1 (by decide) dq_MO_cut_95 (Or.inl (by decide)) ?_
          refine fx_aload_n 2 dq_MO_cut_98 rfl rfl ?_
          refine fx_iload 1 dq_MO_cut_99 rfl ?_
          refine fx_aload_n 2 dq_MO_cut_101 rfl rfl ?_
          refine fx_geti ok fq_MO_141 hm.1 dq_MO_cut_102 (by decide) ?_
          refine fx_isub dq_MO_cut_105 ?_
          refine fx_puti ok fp_MO_144 hm.1 (by decide) dq_MO_cut_106 (Or.inl (by decide)) ?_
          refine fx_aload_n 2 dq_MO_cut_109 rfl rfl ?_
          refine fx_iload 0 dq_MO_cut_110 rfl ?_
          refine fx_aload_n 2 dq_MO_cut_112 rfl rfl ?_
          refine fx_geti ok fq_MO_147 hm.1 dq_MO_cut_113 (by decide) ?_
          refine fx_isub dq_MO_cut_116 ?_
          refine fx_puti ok fp_MO_150 hm.1 (by decide) dq_MO_cut_117 (Or.inl (by decide)) ?_
          refine fx_aload_n 2 dq_MO_cut_120 rfl rfl ?_
          refine fx_geti ok fq_MO_144 hm.1 dq_MO_cut_121 (by decide) ?_
          refine fx_if_le (tgt := 135) dq_MO_cut_124 (by decide) (fun hc124 => ?_) (fun hc124 => ?_)
          · -- 124: jump
            refine fx_aload_n 2 dq_MO_cut_135 rfl rfl ?_
            refine fx_iconst (v := 0) dq_MO_cut_136 (by decide) ?_
            refine fx_puti ok fp_MO_144 hm.1 (by decide) dq_MO_cut_137 (Or.inl (by decide)) ?_
            refine fx_aload_n 2 dq_MO_cut_140 rfl rfl ?_
            refine fx_iconst (v := 0) dq_MO_cut_141 (by decide) ?_
            refine fx_puti ok fp_MO_150 hm.1 (by decide) dq_MO_cut_142 (Or.inl (by decide)) ?_
            exact fx_vreturn rfl dq_MO_cut_145 ⟨rfl, by rw [k_MO_cut, if_pos hc10, if_pos hc39, if_neg hc64, if_pos hc84, if_pos hc124]⟩
          · -- 124: fall
            refine fx_aload_n 2 dq_MO_cut_127 rfl rfl ?_
            refine fx_geti ok fq_MO_150 hm.1 dq_MO_cut_128 (by decide) ?_
            refine fx_if_le (tgt := 135) dq_MO_cut_131 (by decide) (fun hc131 => ?_) (fun hc131 => ?_)
            · -- 131: jump
              refine fx_aload_n 2 dq_MO_cut_135 rfl rfl ?_
              refine fx_iconst (v := 0) dq_MO_cut_136 (by decide) ?_
              refine fx_puti ok fp_MO_144 hm.1 (by decide) dq_MO_cut_137 (Or.inl (by decide)) ?_
              refine fx_aload_n 2 dq_MO_cut_140 rfl rfl ?_
              refine fx_iconst (v := 0) dq_MO_cut_141 (by decide) ?_
              refine fx_puti ok fp_MO_150 hm.1 (by decide) dq_MO_cut_142 (Or.inl (by decide)) ?_
              exact fx_vreturn rfl dq_MO_cut_145 ⟨rfl, by rw [k_MO_cut, if_pos hc10, if_pos hc39, if_neg hc64, if_pos hc84, if_neg hc124, if_pos hc131]⟩
            · -- 131: fall
              exact fx_vreturn rfl dq_MO_cut_134 ⟨rfl, by rw [k_MO_cut, if_pos hc10, if_pos hc39, if_neg hc64, if_pos hc84, if_neg hc124, if_neg hc131]⟩
        · -- 84: fall
          refine fx_aload_n 2 dq_MO_cut_87 rfl rfl ?_
          refine fx_geti ok fq_MO_147 hm.1 dq_MO_cut_88 (by decide) ?_
          refine fx_goto (tgt := 95) dq_MO_cut_91 (by decide) ?_
          refine fx_puti ok fp_MO_147 hm.1 (by decide) dq_MO_cut_95 (Or.inl (by decide)) ?_
          refine fx_aload_n 2 dq_MO_cut_98 rfl rfl ?_
          refine fx_iload 1 dq_MO_cut_99 rfl ?_
          refine fx_aload_n 2 dq_MO_cut_101 rfl rfl ?_
          refine fx_geti ok fq_MO_141 hm.1 dq_MO_cut_102 (by decide) ?_
          refine fx_isub dq_MO_cut_105 ?_
          refine fx_puti ok fp_MO_144 hm.1 (by decide) dq_MO_cut_106 (Or.inl (by decide)) ?_
          refine fx_aload_n 2 dq_MO_cut_109 rfl rfl ?_
          refine fx_iload 0 dq_MO_cut_110 rfl ?_
          refine fx_aload_n 2 dq_MO_cut_112 rfl rfl ?_
          refine fx_geti ok fq_MO_147 hm.1 dq_MO_cut_113 (by decide) ?_
          refine fx_isub dq_MO_cut_116 ?_
          refine fx_puti ok fp_MO_150 hm.1 (by decide) dq_MO_cut_117 (Or.inl (by decide)) ?_
          refine fx_aload_n 2 dq_MO_cut_120 rfl rfl ?_
          refine fx_geti ok fq_MO_144 hm.1 dq_MO_cut_121 (by decide) ?_
          refine fx_if_le (tgt := 135) dq_MO_cut_124 (by decide) (fun hc124 => ?_) (fun hc124 => ?_)
          · -- 124: jump
            refine fx_aload_n 2 dq_MO_cut_135 rfl rfl ?_
            refine fx_iconst (v := 0) dq_MO_cut_136 (by decide) ?_
            refine fx_puti ok fp_MO_144 hm.1 (by decide) dq_MO_cut_137 (Or.inl (by decide)) ?_
            refine fx_aload_n 2 dq_MO_cut_140 rfl rfl ?_
            refine fx_iconst (v := 0) dq_MO_cut_141 (by decide) ?_
            refine fx_puti ok fp_MO_150 hm.1 (by decide) dq_MO_cut_142 (Or.inl (by decide)) ?_
            exact fx_vreturn rfl dq_MO_cut_145 ⟨rfl, by rw [k_MO_cut, if_pos hc10, if_pos hc39, if_neg hc64, if_neg hc84, if_pos hc124]⟩
          · -- 124: fall
            refine fx_aload_n 2 dq_MO_cut_127 rfl rfl ?_
            refine fx_geti ok fq_MO_150 hm.1 dq_MO_cut_128 (by decide) ?_
            refine fx_if_le (tgt := 135) dq_MO_cut_131 (by decide) (fun hc131 => ?_) (fun hc131 => ?_)
            · -- 131: jump
              refine fx_aload_n 2 dq_MO_cut_135 rfl rfl ?_
              refine fx_iconst (v := 0) dq_MO_cut_136 (by decide) ?_
              refine fx_puti ok fp_MO_144 hm.1 (by decide) dq_MO_cut_137 (Or.inl (by decide)) ?_
              refine fx_aload_n 2 dq_MO_cut_140 rfl rfl ?_
              refine fx_iconst (v := 0) dq_MO_cut_141 (by decide) ?_
              refine fx_puti ok fp_MO_150 hm.1 (by decide) dq_MO_cut_142 (Or.inl (by decide)) ?_
              exact fx_vreturn rfl dq_MO_cut_145 ⟨rfl, by rw [k_MO_cut, if_pos hc10, if_pos hc39, if_neg hc64, if_neg hc84, if_neg hc124, if_pos hc131]⟩
            · -- 131: fall
              exact fx_vreturn rfl dq_MO_cut_134 ⟨rfl, by rw [k_MO_cut, if_pos hc10, if_pos hc39, if_neg hc64, if_neg hc84, if_neg hc124, if_neg hc131]⟩
    · -- 39: fall
      refine fx_aload_n 1 dq_MO_cut_42 rfl rfl ?_
      refine fx_geti ok fq_MO_147 hm.1 dq_MO_cut_43 (by decide) ?_
      refine fx_aload_n 1 dq_MO_cut_46 rfl rfl ?_
      refine fx_geti ok fq_MO_150 hm.1 dq_MO_cut_47 (by decide) ?_
      refine fx_iadd dq_MO_cut_50 ?_
      refine fx_goto (tgt := 56) dq_MO_cut_51 (by decide) ?_
      refine fx_istore dq_MO_cut_56 (by decide) rfl ?_
      refine fx_aload_n 2 dq_MO_cut_58 rfl rfl ?_
      refine fx_aload_n 2 dq_MO_cut_59 rfl rfl ?_
      refine fx_geti ok fq_MO_141 hm.1 dq_MO_cut_60 (by decide) ?_
      refine fx_iload_n 3 dq_MO_cut_63 rfl rfl ?_
      refine fx_icmp_le (tgt := 74) dq_MO_cut_64 (by decide) (fun hc64 => ?_) (fun hc64 => ?_)
      · -- 64: jump
        refine fx_iload_n 3 dq_MO_cut_74 rfl rfl ?_
        refine fx_puti ok fp_MO_141 hm.1 (by decide) dq_MO_cut_75 (Or.inl (by decide)) ?_
        refine fx_aload_n 2 dq_MO_cut_78 rfl rfl ?_
        refine fx_aload_n 2 dq_MO_cut_79 rfl rfl ?_
        refine fx_geti ok fq_MO_147 hm.1 dq_MO_cut_80 (by decide) ?_
        refine fx_iload_n 4 dq_MO_cut_83 rfl rfl ?_
        refine fx_icmp_le (tgt := 94) dq_MO_cut_84 (by decide) (fun hc84 => ?_) (fun hc84 => ?_)
        · -- 84: jump
          refine fx_iload_n 4 dq_MO_cut_94 rfl rfl ?_
          refine fx_puti ok fp_MO_147 hm.1 (by decide) dq_MO_cut_95 (Or.inl (by decide)) ?_
          refine fx_aload_n 2 dq_MO_cut_98 rfl rfl ?_
          refine fx_iload 1 dq_MO_cut_99 rfl ?_
          refine fx_aload_n 2 dq_MO_cut_101 rfl rfl ?_
          refine fx_geti ok fq_MO_141 hm.1 dq_MO_cut_102 (by decide) ?_
          refine fx_isub dq_MO_cut_105 ?_
          refine fx_puti ok fp_MO_144 hm.1 (by decide) dq_MO_cut_106 (Or.inl (by decide)) ?_
          refine fx_aload_n 2 dq_MO_cut_109 rfl rfl ?_
          refine fx_iload 0 dq_MO_cut_110 rfl ?_
          refine fx_aload_n 2 dq_MO_cut_112 rfl rfl ?_
          refine fx_geti ok fq_MO_147 hm.1 dq_MO_cut_113 (by decide) ?_
          refine fx_isub dq_MO_cut_116 ?_
          refine fx_puti ok fp_MO_150 hm.1 (by decide) dq_MO_cut_117 (Or.inl (by decide)) ?_
          refine fx_aload_n 2 dq_MO_cut_120 rfl rfl ?_
          refine fx_geti ok fq_MO_144 hm.1 dq_MO_cut_121 (by decide) ?_
          refine fx_if_le (tgt := 135) dq_MO_cut_124 (by decide) (fun hc124 => ?_) (fun hc124 => ?_)
          · -- 124: jump
            refine fx_aload_n 2 dq_MO_cut_135 rfl rfl ?_
            refine fx_iconst (v := 0) dq_MO_cut_136 (by decide) ?_
            refine fx_puti ok fp_MO_144 hm.1 (by decide) dq_MO_cut_137 (Or.inl (by decide)) ?_
            refine fx_aload_n 2 dq_MO_cut_140 rfl rfl ?_
            refine fx_iconst (v := 0) dq_MO_cut_141 (by decide) ?_
            refine fx_puti ok fp_MO_150 hm.1 (by decide) dq_MO_cut_142 (Or.inl (by decide)) ?_
            exact fx_vreturn rfl dq_MO_cut_145 ⟨rfl, by rw [k_MO_cut, if_pos hc10, if_neg hc39, if_pos hc64, if_pos hc84, if_pos hc124]⟩
          · -- 124: fall
            refine fx_aload_n 2 dq_MO_cut_127 rfl rfl ?_
            refine fx_geti ok fq_MO_150 hm.1 dq_MO_cut_128 (by decide) ?_
            refine fx_if_le (tgt := 135) dq_MO_cut_131 (by decide) (fun hc131 => ?_) (fun hc131 => ?_)
            · -- 131: jump
              refine fx_aload_n 2 dq_MO_cut_135 rfl rfl ?_
              refine fx_iconst (v := 0) dq_MO_cut_136 (by decide) ?_
              refine fx_puti ok fp_MO_144 hm.1 (by decide) dq_MO_cut_137 (Or.inl (by decide)) ?_
              refine fx_aload_n 2 dq_MO_cut_140 rfl rfl ?_
              refine fx_iconst (v := 0) dq_MO_cut_141 (by decide) ?_
              refine fx_puti ok fp_MO_150 hm.1 (by decide) dq_MO_cut_142 (Or.inl (by decide)) ?_
              exact fx_vreturn rfl dq_MO_cut_145 ⟨rfl, by rw [k_MO_cut, if_pos hc10, if_neg hc39, if_pos hc64, if_pos hc84, if_neg hc124, if_pos hc131]⟩
            · -- 131: fall
              exact fx_vreturn rfl dq_MO_cut_134 ⟨rfl, by rw [k_MO_cut, if_pos hc10, if_neg hc39, if_pos hc64, if_pos hc84, if_neg hc124, if_neg hc131]⟩
        · -- 84: fall
          refine fx_aload_n 2 dq_MO_cut_87 rfl rfl ?_
          refine fx_geti ok fq_MO_147 hm.1 dq_MO_cut_88 (by decide) ?_
          refine fx_goto (tgt := 95) dq_MO_cut_91 (by decide) ?_
          refine fx_puti ok fp_MO_147 hm.1 (by decide) dq_MO_cut_95 (Or.inl (by decide)) ?_
          refine fx_aload_n 2 dq_MO_cut_98 rfl rfl ?_
          refine fx_iload 1 dq_MO_cut_99 rfl ?_
          refine fx_aload_n 2 dq_MO_cut_101 rfl rfl ?_
          refine fx_geti ok fq_MO_141 hm.1 dq_MO_cut_102 (by decide) ?_
          refine fx_isub dq_MO_cut_105 ?_
          refine fx_puti ok fp_MO_144 hm.1 (by decide) dq_MO_cut_106 (Or.inl (by decide)) ?_
          refine fx_aload_n 2 dq_MO_cut_109 rfl rfl ?_
          refine fx_iload 0 dq_MO_cut_110 rfl ?_
          refine fx_aload_n 2 dq_MO_cut_112 rfl rfl ?_
          refine fx_geti ok fq_MO_147 hm.1 dq_MO_cut_113 (by decide) ?_
          refine fx_isub dq_MO_cut_116 ?_
          refine fx_puti ok fp_MO_150 hm.1 (by decide) dq_MO_cut_117 (Or.inl (by decide)) ?_
          refine fx_aload_n 2 dq_MO_cut_120 rfl rfl ?_
          refine fx_geti ok fq_MO_144 hm.1 dq_MO_cut_121 (by decide) ?_
          refine fx_if_le (tgt := 135) dq_MO_cut_124 (by decide) (fun hc124 => ?_) (fun hc124 => ?_)
          · -- 124: jump
            refine fx_aload_n 2 dq_MO_cut_135 rfl rfl ?_
            refine fx_iconst (v := 0) dq_MO_cut_136 (by decide) ?_
            refine fx_puti ok fp_MO_144 hm.1 (by decide) dq_MO_cut_137 (Or.inl (by decide)) ?_
            refine fx_aload_n 2 dq_MO_cut_140 rfl rfl ?_
            refine fx_iconst (v := 0) dq_MO_cut_141 (by decide) ?_
            refine fx_puti ok fp_MO_150 hm.1 (by decide) dq_MO_cut_142 (Or.inl (by decide)) ?_
            exact fx_vreturn rfl dq_MO_cut_145 ⟨rfl, by rw [k_MO_cut, if_pos hc10, if_neg hc39, if_pos hc64, if_neg hc84, if_pos hc124]⟩
          · -- 124: fall
            refine fx_aload_n 2 dq_MO_cut_127 rfl rfl ?_
            refine fx_geti ok fq_MO_150 hm.1 dq_MO_cut_128 (by decide) ?_
            refine fx_if_le (tgt := 135) dq_MO_cut_131 (by decide) (fun hc131 => ?_) (fun hc131 => ?_)
            · -- 131: jump
              refine fx_aload_n 2 dq_MO_cut_135 rfl rfl ?_
              refine fx_iconst (v := 0) dq_MO_cut_136 (by decide) ?_
              refine fx_puti ok fp_MO_144 hm.1 (by decide) dq_MO_cut_137 (Or.inl (by decide)) ?_
              refine fx_aload_n 2 dq_MO_cut_140 rfl rfl ?_
              refine fx_iconst (v := 0) dq_MO_cut_141 (by decide) ?_
              refine fx_puti ok fp_MO_150 hm.1 (by decide) dq_MO_cut_142 (Or.inl (by decide)) ?_
              exact fx_vreturn rfl dq_MO_cut_145 ⟨rfl, by rw [k_MO_cut, if_pos hc10, if_neg hc39, if_pos hc64, if_neg hc84, if_neg hc124, if_pos hc131]⟩
            · -- 131: fall
              exact fx_vreturn rfl dq_MO_cut_134 ⟨rfl, by rw [k_MO_cut, if_pos hc10, if_neg hc39, if_pos hc64, if_neg hc84, if_neg hc124, if_neg hc131]⟩
      · -- 64: fall
        refine fx_aload_n 2 dq_MO_cut_67 rfl rfl ?_
        refine fx_geti ok fq_MO_141 hm.1 dq_MO_cut_68 (by decide) ?_
        refine fx_goto (tgt := 75) dq_MO_cut_71 (by decide) ?_
        refine fx_puti ok fp_MO_141 hm.1 (by decide) dq_MO_cut_75 (Or.inl (by decide)) ?_
        refine fx_aload_n 2 dq_MO_cut_78 rfl rfl ?_
        refine fx_aload_n 2 dq_MO_cut_79 rfl rfl ?_
        refine fx_geti ok fq_MO_147 hm.1 dq_MO_cut_80 (by decide) ?_
        refine fx_iload_n 4 dq_MO_cut_83 rfl rfl ?_
        refine fx_icmp_le (tgt := 94) dq_MO_cut_84 (by decide) (fun hc84 => ?_) (fun hc84 => ?_)
        · -- 84: jump
          refine fx_iload_n 4 dq_MO_cut_94 rfl rfl ?_
          refine fx_puti ok fp_MO_147 hm.1 (by decide) dq_MO_cut_95 (Or.inl (by decide)) ?_
          refine fx_aload_n 2 dq_MO_cut_98 rfl rfl ?_
          refine fx_iload 1 dq_MO_cut_99 rfl ?_
          refine fx_aload_n 2 dq_MO_cut_101 rfl rfl ?_
          refine fx_geti ok fq_MO_141 hm.1 dq_MO_cut_102 (by decide) ?_
          refine fx_isub dq_MO_cut_105 ?_
          refine fx_puti ok fp_MO_144 hm.1 (by decide) dq_MO_cut_106 (Or.inl (by decide)) ?_
          refine fx_aload_n 2 dq_MO_cut_109 rfl rfl ?_
          refine fx_iload 0 dq_MO_cut_110 rfl ?_
          refine fx_aload_n 2 dq_MO_cut_112 rfl rfl ?_
          refine fx_geti ok fq_MO_147 hm.1 dq_MO_cut_113 (by decide) ?_
          refine fx_isub dq_MO_cut_116 ?_
          refine fx_puti ok fp_MO_150 hm.1 (by decide) dq_MO_cut_117 (Or.inl (by decide)) ?_
          refine fx_aload_n 2 dq_MO_cut_120 rfl rfl ?_
          refine fx_geti ok fq_MO_144 hm.1 dq_MO_cut_121 (by decide) ?_
          refine fx_if_le (tgt := 135) dq_MO_cut_124 (by decide) (fun hc124 => ?_) (fun hc124 => ?_)
          · -- 124: jump
            refine fx_aload_n 2 dq_MO_cut_135 rfl rfl ?_
            refine fx_iconst (v := 0) dq_MO_cut_136 (by decide) ?_
            refine fx_puti ok fp_MO_144 hm.1 (by decide) dq_MO_cut_137 (Or.inl (by decide)) ?_
            refine fx_aload_n 2 dq_MO_cut_140 rfl rfl ?_
            refine fx_iconst (v := 0) dq_MO_cut_141 (by decide) ?_
            refine fx_puti ok fp_MO_150 hm.1 (by decide) dq_MO_cut_142 (Or.inl (by decide)) ?_
            exact fx_vreturn rfl dq_MO_cut_145 ⟨rfl, by rw [k_MO_cut, if_pos hc10, if_neg hc39, if_neg hc64, if_pos hc84, if_pos hc124]⟩
          · -- 124: fall
            refine fx_aload_n 2 dq_MO_cut_127 rfl rfl ?_
            refine fx_geti ok fq_MO_150 hm.1 dq_MO_cut_128 (by decide) ?_
            refine fx_if_le (tgt := 135) dq_MO_cut_131 (by decide) (fun hc131 => ?_) (fun hc131 => ?_)
            · -- 131: jump
              refine fx_aload_n 2 dq_MO_cut_135 rfl rfl ?_
              refine fx_iconst (v := 0) dq_MO_cut_136 (by decide) ?_
              refine fx_puti ok fp_MO_144 hm.1 (by decide) dq_MO_cut_137 (Or.inl (by decide)) ?_
              refine fx_aload_n 2 dq_MO_cut_140 rfl rfl ?_
              refine fx_iconst (v := 0) dq_MO_cut_141 (by decide) ?_
              refine fx_puti ok fp_MO_150 hm.1 (by decide) dq_MO_cut_142 (Or.inl (by decide)) ?_
              exact fx_vreturn rfl dq_MO_cut_145 ⟨rfl, by rw [k_MO_cut, if_pos hc10, if_neg hc39, if_neg hc64, if_pos hc84, if_neg hc124, if_pos hc131]⟩
            · -- 131: fall
              exact fx_vreturn rfl dq_MO_cut_134 ⟨rfl, by rw [k_MO_cut, if_pos hc10, if_neg hc39, if_neg hc64, if_pos hc84, if_neg hc124, if_neg hc131]⟩
        · -- 84: fall
          refine fx_aload_n 2 dq_MO_cut_87 rfl rfl ?_
          refine fx_geti ok fq_MO_147 hm.1 dq_MO_cut_88 (by decide) ?_
          refine fx_goto (tgt := 95) dq_MO_cut_91 (by decide) ?_
          refine fx_puti ok fp_MO_147 hm.1 (by decide) dq_MO_cut_95 (Or.inl (by decide)) ?_
          refine fx_aload_n 2 dq_MO_cut_98 rfl rfl ?_
          refine fx_iload 1 dq_MO_cut_99 rfl ?_
          refine fx_aload_n 2 dq_MO_cut_101 rfl rfl ?_
          refine fx_geti ok fq_MO_141 hm.1 dq_MO_cut_102 (by decide) ?_
          refine fx_isub dq_MO_cut_105 ?_
          refine fx_puti ok fp_MO_144 hm.1 (by decide) dq_MO_cut_106 (Or.inl (by decide)) ?_
          refine fx_aload_n 2 dq_MO_cut_109 rfl rfl ?_
          refine fx_iload 0 dq_MO_cut_110 rfl ?_
          refine fx_aload_n 2 dq_MO_cut_112 rfl rfl ?_
          refine fx_geti ok fq_MO_147 hm.1 dq_MO_cut_113 (by decide) ?_
          refine fx_isub dq_MO_cut_116 ?_
          refine fx_puti ok fp_MO_150 hm.1 (by decide) dq_MO_cut_117 (Or.inl (by decide)) ?_
          refine fx_aload_n 2 dq_MO_cut_120 rfl rfl ?_
          refine fx_geti ok fq_MO_144 hm.1 dq_MO_cut_121 (by decide) ?_
          refine fx_if_le (tgt := 135) dq_MO_cut_124 (by decide) (fun hc124 => ?_) (fun hc124 => ?_)
          · -- 124: jump
            refine fx_aload_n 2 dq_MO_cut_135 rfl rfl ?_
            refine fx_iconst (v := 0) dq_MO_cut_136 (by decide) ?_
            refine fx_puti ok fp_MO_144 hm.1 (by decide) dq_MO_cut_137 (Or.inl (by decide)) ?_
            refine fx_aload_n 2 dq_MO_cut_140 rfl rfl ?_
            refine fx_iconst (v := 0) dq_MO_cut_141 (by decide) ?_
            refine fx_puti ok fp_MO_150 hm.1 (by decide) dq_MO_cut_142 (Or.inl (by decide)) ?_
            exact fx_vreturn rfl dq_MO_cut_145 ⟨rfl, by rw [k_MO_cut, if_pos hc10, if_neg hc39, if_neg hc64, if_neg hc84, if_pos hc124]⟩
          · -- 124: fall
            refine fx_aload_n 2 dq_MO_cut_127 rfl rfl ?_
            refine fx_geti ok fq_MO_150 hm.1 dq_MO_cut_128 (by decide) ?_
            refine fx_if_le (tgt := 135) dq_MO_cut_131 (by decide) (fun hc131 => ?_) (fun hc131 => ?_)
            · -- 131: jump
              refine fx_aload_n 2 dq_MO_cut_135 rfl rfl ?_
              refine fx_iconst (v := 0) dq_MO_cut_136 (by decide) ?_
              refine fx_puti ok fp_MO_144 hm.1 (by decide) dq_MO_cut_137 (Or.inl (by decide)) ?_
              refine fx_aload_n 2 dq_MO_cut_140 rfl rfl ?_
              refine fx_iconst (v := 0) dq_MO_cut_141 (by decide) ?_
              refine fx_puti ok fp_MO_150 hm.1 (by decide) dq_MO_cut_142 (Or.inl (by decide)) ?_
              exact fx_vreturn rfl dq_MO_cut_145 ⟨rfl, by rw [k_MO_cut, if_pos hc10, if_neg hc39, if_neg hc64, if_neg hc84, if_neg hc124, if_pos hc131]⟩
            · -- 131: fall
              exact fx_vreturn rfl dq_MO_cut_134 ⟨rfl, by rw [k_MO_cut, if_pos hc10, if_neg hc39, if_neg hc64, if_neg hc84, if_neg hc124, if_neg hc131]⟩
  · -- 10: fall
    refine fx_aload_n 0 dq_MO_cut_13 rfl rfl ?_
    refine fx_geti ok fq_MO_141 hm.1 dq_MO_cut_14 (by decide) ?_
    refine fx_aload_n 0 dq_MO_cut_17 rfl rfl ?_
    refine fx_geti ok fq_MO_144 hm.1 dq_MO_cut_18 (by decide) ?_
    refine fx_iadd dq_MO_cut_21 ?_
    refine fx_goto (tgt := 26) dq_MO_cut_22 (by decide) ?_
    refine fx_istore dq_MO_cut_26 (by decide) rfl ?_
    refine fx_aload_n 1 dq_MO_cut_28 rfl rfl ?_
    refine fx_geti ok fq_MO_147 hm.1 dq_MO_cut_29 (by decide) ?_
    refine fx_aload_n 1 dq_MO_cut_32 rfl rfl ?_
    refine fx_geti ok fq_MO_150 hm.1 dq_MO_cut_33 (by decide) ?_
    refine fx_iadd dq_MO_cut_36 ?_
    refine fx_iload 5 dq_MO_cut_37 rfl ?_
    refine fx_icmp_ge (tgt := 54) dq_MO_cut_39 (by decide) (fun hc39 => ?_) (fun hc39 => ?_)
    · -- 39: jump
      refine fx_iload 5 dq_MO_cut_54 rfl ?_
      refine fx_istore dq_MO_cut_56 (by decide) rfl ?_
      refine fx_aload_n 2 dq_MO_cut_58 rfl rfl ?_
      refine fx_aload_n 2 dq_MO_cut_59 rfl rfl ?_
      refine fx_geti ok fq_MO_141 hm.1 dq_MO_cut_60 (by decide) ?_
      refine fx_iload_n 3 dq_MO_cut_63 rfl rfl ?_
      refine fx_icmp_le (tgt := 74) dq_MO_cut_64 (by decide) (fun hc64 => ?_) (fun hc64 => ?_)
      · -- 64: jump
        refine fx_iload_n 3 dq_MO_cut_74 rfl rfl ?_
        refine fx_puti ok fp_MO_141 hm.1 (by decide) dq_MO_cut_75 (Or.inl (by decide)) ?_
        refine fx_aload_n 2 dq_MO_cut_78 rfl rfl ?_
        refine fx_aload_n 2 dq_MO_cut_79 rfl rfl ?_
        refine fx_geti ok fq_MO_147 hm.1 dq_MO_cut_80 (by decide) ?_
        refine fx_iload_n 4 dq_MO_cut_83 rfl rfl ?_
        refine fx_icmp_le (tgt := 94) dq_MO_cut_84 (by decide) (fun hc84 => ?_) (fun hc84 => ?_)
        · -- 84: jump
          refine fx_iload_n 4 dq_MO_cut_94 rfl rfl ?_
          refine fx_puti ok fp_MO_147 hm.1 (by decide) dq_MO_cut_95 (Or.inl (by decide)) ?_
          refine fx_aload_n 2 dq_MO_cut_98 rfl rfl ?_
          refine fx_iload 1 dq_MO_cut_99 rfl ?_
          refine fx_aload_n 2 dq_MO_cut_101 rfl rfl ?_
          refine fx_geti ok fq_MO_141 hm.1 dq_MO_cut_102 (by decide) ?_
          refine fx_isub dq_MO_cut_105 ?_
          refine fx_puti ok fp_MO_144 hm.1 (by decide) dq_MO_cut_106 (Or.inl (by decide)) ?_
          refine fx_aload_n 2 dq_MO_cut_109 rfl rfl ?_
          refine fx_iload 0 dq_MO_cut_110 rfl ?_
          refine fx_aload_n 2 dq_MO_cut_112 rfl rfl ?_
          refine fx_geti ok fq_MO_147 hm.1 dq_MO_cut_113 (by decide) ?_
          refine fx_isub dq_MO_cut_116 ?_
          refine fx_puti ok fp_MO_150 hm.1 (by decide) dq_MO_cut_117 (Or.inl (by decide)) ?_
          refine fx_aload_n 2 dq_MO_cut_120 rfl rfl ?_
          refine fx_geti ok fq_MO_144 hm.1 dq_MO_cut_121 (by decide) ?_
          refine fx_if_le (tgt := 135) dq_MO_cut_124 (by decide) (fun hc124 => ?_) (fun hc124 => ?_)
          · -- 124: jump
            refine fx_aload_n 2 dq_MO_cut_135 rfl rfl ?_
            refine fx_iconst (v := 0) dq_MO_cut_136 (by decide) ?_
            refine fx_puti ok fp_MO_144 hm.1 (by decide) dq_MO_cut_137 (Or.inl (by decide)) ?_
            refine fx_aload_n 2 dq_MO_cut_140 rfl rfl ?_
            refine fx_iconst (v := 0) dq_MO_cut_141 (by decide) ?_
            refine fx_puti ok fp_MO_150 hm.1 (by decide) dq_MO_cut_142 (Or.inl (by decide)) ?_
            exact fx_vreturn rfl dq_MO_cut_145 ⟨rfl, by rw [k_MO_cut, if_neg hc10, if_pos hc39, if_pos hc64, if_pos hc84, if_pos hc124]⟩
          · -- 124: fall
            refine fx_aload_n 2 dq_MO_cut_127 rfl rfl ?_
            refine fx_geti ok fq_MO_150 hm.1 dq_MO_cut_128 (by decide) ?_
            refine fx_if_le (tgt := 135) dq_MO_cut_131 (by decide) (fun hc131 => ?_) (fun hc131 => ?_)
            · -- 131: jump
              refine fx_aload_n 2 dq_MO_cut_135 rfl rfl ?_
              refine fx_iconst (v := 0) dq_MO_cut_136 (by decide) ?_
              refine fx_puti ok fp_MO_144 hm.1 (by decide) dq_MO_cut_137 (Or.inl (by decide)) ?_
              refine fx_aload_n 2 dq_MO_cut_140 rfl rfl ?_
              refine fx_iconst (v := 0) dq_MO_cut_141 (by decide) ?_
              refine fx_puti ok fp_MO_150 hm.1 (by decide) dq_MO_cut_142 (Or.inl (by decide)) ?_
              exact fx_vreturn rfl dq_MO_cut_145 ⟨rfl, by rw [k_MO_cut, if_neg hc10, if_pos hc39, if_pos hc64, if_pos hc84, if_neg hc124, if_pos hc131]⟩
            · -- 131: fall
              exact fx_vreturn rfl dq_MO_cut_134 ⟨rfl, by rw [k_MO_cut, if_neg hc10, if_pos hc39, if_pos hc64, if_pos hc84, if_neg hc124, if_neg hc131]⟩
        · -- 84: fall
          refine fx_aload_n 2 dq_MO_cut_87 rfl rfl ?_
          refine fx_geti ok fq_MO_147 hm.1 dq_MO_cut_88 (by decide) ?_
          refine fx_goto (tgt := 95) dq_MO_cut_91 (by decide) ?_
          refine fx_puti ok fp_MO_147 hm.1 (by decide) dq_MO_cut_95 (Or.inl (by decide)) ?_
          refine fx_aload_n 2 dq_MO_cut_98 rfl rfl ?_
          refine fx_iload 1 dq_MO_cut_99 rfl ?_
          refine fx_aload_n 2 dq_MO_cut_101 rfl rfl ?_
          refine fx_geti ok fq_MO_141 hm.1 dq_MO_cut_102 (by decide) ?_
          refine fx_isub dq_MO_cut_105 ?_
          refine fx_puti ok fp_MO_144 hm.1 (by decide) dq_MO_cut_106 (Or.inl (by decide)) ?_
          refine fx_aload_n 2 dq_MO_cut_109 rfl rfl ?_
          refine fx_iload 0 dq_MO_cut_110 rfl ?_
          refine fx_aload_n 2 dq_MO_cut_112 rfl rfl ?_
          refine fx_geti ok fq_MO_147 hm.1 dq_MO_cut_113 (by decide) ?_
          refine fx_isub dq_MO_cut_116 ?_
          refine fx_puti ok fp_MO_150 hm.1 (by decide) dq_MO_cut_117 (Or.inl (by decide)) ?_
          refine fx_aload_n 2 dq_MO_cut_120 rfl rfl ?_
          refine fx_geti ok fq_MO_144 hm.1 dq_MO_cut_121 (by decide) ?_
          refine fx_if_le (tgt := 135) dq_MO_cut_124 (by decide) (fun hc124 => ?_) (fun hc124 => ?_)
          · -- 124: jump
            refine fx_aload_n 2 dq_MO_cut_135 rfl rfl ?_
            refine fx_iconst (v := 0) dq_MO_cut_136 (by decide) ?_
            refine fx_puti ok fp_MO_144 hm.1 (by decide) dq_MO_cut_137 (Or.inl (by decide)) ?_
            refine fx_aload_n 2 dq_MO_cut_140 rfl rfl ?_
            refine fx_iconst (v := 0) dq_MO_cut_141 (by decide) ?_
            refine fx_puti ok fp_MO_150 hm.1 (by decide) dq_MO_cut_142 (Or.inl (by decide)) ?_
            exact fx_vreturn rfl dq_MO_cut_145 ⟨rfl, by rw [k_MO_cut, if_neg hc10, if_pos hc39, if_pos hc64, if_neg hc84, if_pos hc124]⟩
          · -- 124: fall
            refine fx_aload_n 2 dq_MO_cut_127 rfl rfl ?_
            refine fx_geti ok fq_MO_150 hm.1 dq_MO_cut_128 (by decide) ?_
            refine fx_if_le (tgt := 135) dq_MO_cut_131 (by decide) (fun hc131 => ?_) (fun hc131 => ?_)
            · -- 131: jump
              refine fx_aload_n 2 dq_MO_cut_135 rfl rfl ?_
              refine fx_iconst (v := 0) dq_MO_cut_136 (by decide) ?_
              refine fx_puti ok fp_MO_144 hm.1 (by decide) dq_MO_cut_137 (Or.inl (by decide)) ?_
              refine fx_aload_n 2 dq_MO_cut_140 rfl rfl ?_
              refine fx_iconst (v := 0) dq_MO_cut_141 (by decide) ?_
              refine fx_puti ok fp_MO_150 hm.1 (by decide) dq_MO_cut_142 (Or.inl (by decide)) ?_
              exact fx_vreturn rfl dq_MO_cut_145 ⟨rfl, by rw [k_MO_cut, if_neg hc10, if_pos hc39, if_pos hc64, if_neg hc84, if_neg hc124, if_pos hc131]⟩
            · -- 131: fall
              exact fx_vreturn rfl dq_MO_cut_134 ⟨rfl, by rw [k_MO_cut, if_neg hc10, if_pos hc39, if_pos hc64, if_neg hc84, if_neg hc124, if_neg hc131]⟩
      · -- 64: fall
        refine fx_aload_n 2 dq_MO_cut_67 rfl rfl ?_
        refine fx_geti ok fq_MO_141 hm.1 dq_MO_cut_68 (by decide) ?_
        refine fx_goto (tgt := 75) dq_MO_cut_71 (by decide) ?_
        refine fx_puti ok fp_MO_141 hm.1 (by decide) dq_MO_cut_75 (Or.inl (by decide)) ?_
        refine fx_aload_n 2 dq_MO_cut_78 rfl rfl ?_
        refine fx_aload_n 2 dq_MO_cut_79 rfl rfl ?_
        refine fx_geti ok fq_MO_147 hm.1 dq_MO_cut_80 (by decide) ?_
        refine fx_iload_n 4 dq_MO_cut_83 rfl rfl ?_
        refine fx_icmp_le (tgt := 94) dq_MO_cut_84 (by decide) (fun hc84 => ?_) (fun hc84 => ?_)
        · -- 84: jump
          refine fx_iload_n 4 dq_MO_cut_94 rfl rfl ?_
          refine fx_puti ok fp_MO_147 hm.1 (by decide) dq_MO_cut_95 (Or.inl (by decide)) ?_
          refine fx_aload_n 2 dq_MO_cut_98 rfl rfl ?_
          refine fx_iload 1 dq_MO_cut_99 rfl ?_
          refine fx_aload_n 2 dq_MO_cut_101 rfl rfl ?_
          refine fx_geti ok fq_MO_141 hm.1 dq_MO_cut_102 (by decide) ?_
          refine fx_isub dq_MO_cut_105 ?_
          refine fx_puti ok fp_MO_144 hm.1 (by decide) dq_MO_cut_106 (Or.inl (by decide)) ?_
          refine fx_aload_n 2 dq_MO_cut_109 rfl rfl ?_
          refine fx_iload 0 dq_MO_cut_110 rfl ?_
          refine fx_aload_n 2 dq_MO_cut_112 rfl rfl ?_
          refine fx_geti ok fq_MO_147 hm.1 dq_MO_cut_113 (by decide) ?_
          refine fx_isub dq_MO_cut_116 ?_
          refine fx_puti ok fp_MO_150 hm.1 (by decide) dq_MO_cut_117 (Or.inl (by decide)) ?_
          refine fx_aload_n 2 dq_MO_cut_120 rfl rfl ?_
          refine fx_geti ok fq_MO_144 hm.1 dq_MO_cut_121 (by decide) ?_
          refine fx_if_le (tgt := 135) dq_MO_cut_124 (by decide) (fun hc124 => ?_) (fun hc124 => ?_)
          · -- 124: jump
            refine fx_aload_n 2 dq_MO_cut_135 rfl rfl ?_
            refine fx_iconst (v := 0) dq_MO_cut_136 (by decide) ?_
            refine fx_puti ok fp_MO_144 hm.1 (by decide) dq_MO_cut_137 (Or.inl (by decide)) ?_
            refine fx_aload_n 2 dq_MO_cut_140 rfl rfl ?_
            refine fx_iconst (v := 0) dq_MO_cut_141 (by decide) ?_
            refine fx_puti ok fp_MO_150 hm.1 (by decide) dq_MO_cut_142 (Or.inl (by decide)) ?_
            exact fx_vreturn rfl dq_MO_cut_145 ⟨rfl, by rw [k_MO_cut, if_neg hc10, if_pos hc39, if_neg hc64, if_pos hc84, if_pos hc124]⟩
          · -- 124: fall
            refine fx_aload_n 2 dq_MO_cut_127 rfl rfl ?_
            refine fx_geti ok fq_MO_150 hm.1 dq_MO_cut_128 (by decide) ?_
            refine fx_if_le (tgt := 135) dq_MO_cut_131 (by decide) (fun hc131 => ?_) (fun hc131 => ?_)
            · -- 131: jump
              refine fx_aload_n 2 dq_MO_cut_135 rfl rfl ?_
              refine fx_iconst (v := 0) dq_MO_cut_136 (by decide) ?_
              refine fx_puti ok fp_MO_144 hm.1 (by decide) dq_MO_cut_137 (Or.inl (by decide)) ?_
              refine fx_aload_n 2 dq_MO_cut_140 rfl rfl ?_
              refine fx_iconst (v := 0) dq_MO_cut_141 (by decide) ?_
              refine fx_puti ok fp_MO_150 hm.1 (by decide) dq_MO_cut_142 (Or.inl (by decide)) ?_
              exact fx_vreturn rfl dq_MO_cut_145 ⟨rfl, by rw [k_MO_cut, if_neg hc10, if_pos hc39, if_neg hc64, if_pos hc84, if_neg hc124, if_pos hc131]⟩
            · -- 131: fall
              exact fx_vreturn rfl dq_MO_cut_134 ⟨rfl, by rw [k_MO_cut, if_neg hc10, if_pos hc39, if_neg hc64, if_pos hc84, if_neg hc124, if_neg hc131]⟩
        · -- 84: fall
          refine fx_aload_n 2 dq_MO_cut_87 rfl rfl ?_
          refine fx_geti ok fq_MO_147 hm.1 dq_MO_cut_88 (by decide) ?_
          refine fx_goto (tgt := 95) dq_MO_cut_91 (by decide) ?_
          refine fx_puti ok fp_MO_147 hm.1 (by decide) dq_MO_cut_95 (Or.inl (by decide)) ?_
          refine fx_aload_n 2 dq_MO_cut_98 rfl rfl ?_
          refine fx_iload 1 dq_MO_cut_99 rfl ?_
          refine fx_aload_n 2 dq_MO_cut_101 rfl rfl ?_
          refine fx_geti ok fq_MO_141 hm.1 dq_MO_cut_102 (by decide) ?_
          refine fx_isub dq_MO_cut_105 ?_
          refine fx_puti ok fp_MO_144 hm.1 (by decide) dq_MO_cut_106 (Or.inl (by decide)) ?_
          refine fx_aload_n 2 dq_MO_cut_109 rfl rfl ?_
          refine fx_iload 0 dq_MO_cut_110 rfl ?_
          refine fx_aload_n 2 dq_MO_cut_112 rfl rfl ?_
          refine fx_geti ok fq_MO_147 hm.1 dq_MO_cut_113 (by decide) ?_
          refine fx_isub dq_MO_cut_116 ?_
          refine fx_puti ok fp_MO_150 hm.1 (by decide) dq_MO_cut_117 (Or.inl (by decide)) ?_
          refine fx_aload_n 2 dq_MO_cut_120 rfl rfl ?_
          refine fx_geti ok fq_MO_144 hm.1 dq_MO_cut_121 (by decide) ?_
          refine fx_if_le (tgt := 135) dq_MO_cut_124 (by decide) (fun hc124 => ?_) (fun hc124 => ?_)
          · -- 124: jump
            refine fx_aload_n 2 dq_MO_cut_135 rfl rfl ?_
            refine fx_iconst (v := 0) dq_MO_cut_136 (by decide) ?_
            refine fx_puti ok fp_MO_144 hm.1 (by decide) dq_MO_cut_137 (Or.inl (by decide)) ?_
            refine fx_aload_n 2 dq_MO_cut_140 rfl rfl ?_
            refine fx_iconst (v := 0) dq_MO_cut_141 (by decide) ?_
            refine fx_puti ok fp_MO_150 hm.1 (by decide) dq_MO_cut_142 (Or.inl (by decide)) ?_
            exact fx_vreturn rfl dq_MO_cut_145 ⟨rfl, by rw [k_MO_cut, if_neg hc10, if_pos hc39, if_neg hc64, if_neg hc84, if_pos hc124]⟩
          · -- 124: fall
            refine fx_aload_n 2 dq_MO_cut_127 rfl rfl ?_
            refine fx_geti ok fq_MO_150 hm.1 dq_MO_cut_128 (by decide) ?_
            refine fx_if_le (tgt := 135) dq_MO_cut_131 (by decide) (fun hc131 => ?_) (fun hc131 => ?_)
            · -- 131: jump
              refine fx_aload_n 2 dq_MO_cut_135 rfl rfl ?_
              refine fx_iconst (v := 0) dq_MO_cut_136 (by decide) ?_
              refine fx_puti ok fp_MO_144 hm.1 (by decide) dq_MO_cut_137 (Or.inl (by decide)) ?_
              refine fx_aload_n 2 dq_MO_cut_140 rfl rfl ?_
              refine fx_iconst (v := 0) dq_MO_cut_141 (by decide) ?_
              refine fx_puti ok fp_MO_150 hm.1 (by decide) dq_MO_cut_142 (Or.inl (by decide)) ?_
              exact fx_vreturn rfl dq_MO_cut_145 ⟨rfl, by rw [k_MO_cut, if_neg hc10, if_pos hc39, if_neg hc64, if_neg hc84, if_neg hc124, if_pos hc131]⟩
            · -- 131: fall
              exact fx_vreturn rfl dq_MO_cut_134 ⟨rfl, by rw [k_MO_cut, if_neg hc10, if_pos hc39, if_neg hc64, if_neg hc84, if_neg hc124, if_neg hc131]⟩
    · -- 39: fall
      refine fx_aload_n 1 dq_MO_cut_42 rfl rfl ?_
      refine fx_geti ok fq_MO_147 hm.1 dq_MO_cut_43 (by decide) ?_
      refine fx_aload_n 1 dq_MO_cut_46 rfl rfl ?_
      refine fx_geti ok fq_MO_150 hm.1 dq_MO_cut_47 (by decide) ?_
      refine fx_iadd dq_MO_cut_50 ?_
      refine fx_goto (tgt := 56) dq_MO_cut_51 (by decide) ?_
      refine fx_istore dq_MO_cut_56 (by decide) rfl ?_
      refine fx_aload_n 2 dq_MO_cut_58 rfl rfl ?_
      refine fx_aload_n 2 dq_MO_cut_59 rfl rfl ?_
      refine fx_geti ok fq_MO_141 hm.1 dq_MO_cut_60 (by decide) ?_
      refine fx_iload_n 3 dq_MO_cut_63 rfl rfl ?_
      refine fx_icmp_le (tgt := 74) dq_MO_cut_64 (by decide) (fun hc64 => ?_) (fun hc64 => ?_)
      · -- 64: jump
        refine fx_iload_n 3 dq_MO_cut_74 rfl rfl ?_
        refine fx_puti ok fp_MO_141 hm.1 (by decide) dq_MO_cut_75 (Or.inl (by decide)) ?_
        refine fx_aload_n 2 dq_MO_cut_78 rfl rfl ?_
        refine fx_aload_n 2 dq_MO_cut_79 rfl rfl ?_
        refine fx_geti ok fq_MO_147 hm.1 dq_MO_cut_80 (by decide) ?_
        refine fx_iload_n 4 dq_MO_cut_83 rfl rfl ?_
        refine fx_icmp_le (tgt := 94) dq_MO_cut_84 (by decide) (fun hc84 => ?_) (fun hc84 => ?_)
        · -- 84: jump
          refine fx_iload_n 4 dq_MO_cut_94 rfl rfl ?_
          refine fx_puti ok fp_MO_147 hm.1 (by decide) dq_MO_cut_95 (Or.inl (by decide)) ?_
          refine fx_aload_n 2 dq_MO_cut_98 rfl rfl ?_
          refine fx_iload 1 dq_MO_cut_99 rfl ?_
          refine fx_aload_n 2 dq_MO_cut_101 rfl rfl ?_
          refine fx_geti ok fq_MO_141 hm.1 dq_MO_cut_102 (by decide) ?_
          refine fx_isub dq_MO_cut_105 ?_
          refine fx_puti ok fp_MO_144 hm.1 (by decide) dq_MO_cut_106 (Or.inl (by decide)) ?_
          refine fx_aload_n 2 dq_MO_cut_109 rfl rfl ?_
          refine fx_iload 0 dq_MO_cut_110 rfl ?_
          refine fx_aload_n 2 dq_MO_cut_112 rfl rfl ?_
          refine fx_geti ok fq_MO_147 hm.1 dq_MO_cut_113 (by decide) ?_
          refine fx_isub dq_MO_cut_116 ?_
          refine fx_puti ok fp_MO_150 hm.1 (by decide) dq_MO_cut_117 (Or.inl (by decide)) ?_
          refine fx_aload_n 2 dq_MO_cut_120 rfl rfl ?_
          refine fx_geti ok fq_MO_144 hm.1 dq_MO_cut_121 (by decide) ?_
          refine fx_if_le (tgt := 135) dq_MO_cut_124 (by decide) (fun hc124 => ?_) (fun hc124 => ?_)
          · -- 124: jump
            refine fx_aload_n 2 dq_MO_cut_135 rfl rfl ?_
            refine fx_iconst (v := 0) dq_MO_cut_136 (by decide) ?_
            refine fx_puti ok fp_MO_144 hm.1 (by decide) dq_MO_cut_137 (Or.inl (by decide)) ?_
            refine fx_aload_n 2 dq_MO_cut_140 rfl rfl ?_
            refine fx_iconst (v := 0) dq_MO_cut_141 (by decide) ?_
            refine fx_puti ok fp_MO_150 hm.1 (by decide) dq_MO_cut_142 (Or.inl (by decide)) ?_
            exact fx_vreturn rfl dq_MO_cut_145 ⟨rfl, by rw [k_MO_cut, if_neg hc10, if_neg hc39, if_pos hc64, if_pos hc84, if_pos hc124]⟩
          · -- 124: fall
            refine fx_aload_n 2 dq_MO_cut_127 rfl rfl ?_
            refine fx_geti ok fq_MO_150 hm.1 dq_MO_cut_128 (by decide) ?_
            refine fx_if_le (tgt := 135) dq_MO_cut_131 (by decide) (fun hc131 => ?_) (fun hc131 => ?_)
            · -- 131: jump
              refine fx_aload_n 2 dq_MO_cut_135 rfl rfl ?_
              refine fx_iconst (v := 0) dq_MO_cut_136 (by decide) ?_
              refine fx_puti ok fp_MO_144 hm.1 (by decide) dq_MO_cut_137 (Or.inl (by decide)) ?_
              refine fx_aload_n 2 dq_MO_cut_140 rfl rfl ?_
              refine fx_iconst (v := 0) dq_MO_cut_141 (by decide) ?_
              refine fx_puti ok fp_MO_150 hm.1 (by decide) dq_MO_cut_142 (Or.inl (by decide)) ?_
              exact fx_vreturn rfl dq_MO_cut_145 ⟨rfl, by rw [k_MO_cut, if_neg hc10, if_neg hc39, if_pos hc64, if_pos hc84, if_neg hc124, if_pos hc131]⟩
            · -- 131: fall
              exact fx_vreturn rfl dq_MO_cut_134 ⟨rfl, by rw [k_MO_cut, if_neg hc10, if_neg hc39, if_pos hc64, if_pos hc84, if_neg hc124, if_neg hc131]⟩
        · -- 84: fall
          refine fx_aload_n 2 dq_MO_cut_87 rfl rfl ?_
          refine fx_geti ok fq_MO_147 hm.1 dq_MO_cut_88 (by decide) ?_
          refine fx_goto (tgt := 95) dq_MO_cut_91 (by decide) ?_
          refine fx_puti ok fp_MO_147 hm.1 (by decide) dq_MO_cut_95 (Or.inl (by decide)) ?_
          refine fx_aload_n 2 dq_MO_cut_98 rfl rfl ?_
          refine fx_iload 1 dq_MO_cut_99 rfl ?_
          refine fx_aload_n 2 dq_MO_cut_101 rfl rfl ?_
          refine fx_geti ok fq_MO_141 hm.1 dq_MO_cut_102 (by decide) ?_
          refine fx_isub dq_MO_cut_105 ?_
          refine fx_puti ok fp_MO_144 hm.1 (by decide) dq_MO_cut_106 (Or.inl (by decide)) ?_
          refine fx_aload_n 2 dq_MO_cut_109 rfl rfl ?_
          refine fx_iload 0 dq_MO_cut_110 rfl ?_
          refine fx_aload_n 2 dq_MO_cut_112 rfl rfl ?_
          refine fx_geti ok fq_MO_147 hm.1 dq_MO_cut_113 (by decide) ?_
          refine fx_isub dq_MO_cut_116 ?_
          refine fx_puti ok fp_MO_150 hm.1 (by decide) dq_MO_cut_117 (Or.inl (by decide)) ?_
          refine fx_aload_n 2 dq_MO_cut_120 rfl rfl ?_
          refine fx_geti ok fq_MO_144 hm.1 dq_MO_cut_121 (by decide) ?_
          refine fx_if_le (tgt := 135) dq_MO_cut_124 (by decide) (fun hc124 => ?_) (fun hc124 => ?_)
          · -- 124: jump
            refine fx_aload_n 2 dq_MO_cut_135 rfl rfl ?_
            refine fx_iconst (v := 0) dq_MO_cut_136 (by decide) ?_
            refine fx_puti ok fp_MO_144 hm.1 (by decide) dq_MO_cut_137 (Or.inl (by decide)) ?_
            refine fx_aload_n 2 dq_MO_cut_140 rfl rfl ?_
            refine fx_iconst (v := 0) dq_MO_cut_141 (by decide) ?_
            refine fx_puti ok fp_MO_150 hm.1 (by decide) dq_MO_cut_142 (Or.inl (by decide)) ?_
            exact fx_vreturn rfl dq_MO_cut_145 ⟨rfl, by rw [k_MO_cut, if_neg hc10, if_neg hc39, if_pos hc64, if_neg hc84, if_pos hc124]⟩
          · -- 124: fall
            refine fx_aload_n 2 dq_MO_cut_127 rfl rfl ?_
            refine fx_geti ok fq_MO_150 hm.1 dq_MO_cut_128 (by decide) ?_
            refine fx_if_le (tgt := 135) dq_MO_cut_131 (by decide) (fun hc131 => ?_) (fun hc131 => ?_)
            · -- 131: jump
              refine fx_aload_n 2 dq_MO_cut_135 rfl rfl ?_
              refine fx_iconst (v := 0) dq_MO_cut_136 (by decide) ?_
              refine fx_puti ok fp_MO_144 hm.1 (by decide) dq_MO_cut_137 (Or.inl (by decide)) ?_
              refine fx_aload_n 2 dq_MO_cut_140 rfl rfl ?_
              refine fx_iconst (v := 0) dq_MO_cut_141 (by decide) ?_
              refine fx_puti ok fp_MO_150 hm.1 (by decide) dq_MO_cut_142 (Or.inl (by decide)) ?_
              exact fx_vreturn rfl dq_MO_cut_145 ⟨rfl, by rw [k_MO_cut, if_neg hc10, if_neg hc39, if_pos hc64, if_neg hc84, if_neg hc124, if_pos hc131]⟩
            · -- 131: fall
              exact fx_vreturn rfl dq_MO_cut_134 ⟨rfl, by rw [k_MO_cut, if_neg hc10, if_neg hc39, if_pos hc64, if_neg hc84, if_neg hc124, if_neg hc131]⟩
      · -- 64: fall
        refine fx_aload_n 2 dq_MO_cut_67 rfl rfl ?_
        refine fx_geti ok fq_MO_141 hm.1 dq_MO_cut_68 (by decide) ?_
        refine fx_goto (tgt := 75) dq_MO_cut_71 (by decide) ?_
        refine fx_puti ok fp_MO_141 hm.1 (by decide) dq_MO_cut_75 (Or.inl (by decide)) ?_
        refine fx_aload_n 2 dq_MO_cut_78 rfl rfl ?_
        refine fx_aload_n 2 dq_MO_cut_79 rfl rfl ?_
        refine fx_geti ok fq_MO_147 hm.1 dq_MO_cut_80 (by decide) ?_
        refine fx_iload_n 4 dq_MO_cut_83 rfl rfl ?_
        refine fx_icmp_le (tgt := 94) dq_MO_cut_84 (by decide) (fun hc84 => ?_) (fun hc84 => ?_)
        · -- 84: jump
          refine fx_iload_n 4 dq_MO_cut_94 rfl rfl ?_
          refine fx_puti ok fp_MO_147 hm.1 (by decide) dq_MO_cut_95 (Or.inl (by decide)) ?_
          refine fx_aload_n 2 dq_MO_cut_98 rfl rfl ?_
          refine fx_iload 1 dq_MO_cut_99 rfl ?_
          refine fx_aload_n 2 dq_MO_cut_101 rfl rfl ?_
          refine fx_geti ok fq_MO_141 hm.1 dq_MO_cut_102 (by decide) ?_
          refine fx_isub dq_MO_cut_105 ?_
          refine fx_puti ok fp_MO_144 hm.1 (by decide) dq_MO_cut_106 (Or.inl (by decide)) ?_
          refine fx_aload_n 2 dq_MO_cut_109 rfl rfl ?_
          refine fx_iload 0 dq_MO_cut_110 rfl ?_
          refine fx_aload_n 2 dq_MO_cut_112 rfl rfl ?_
          refine fx_geti ok fq_MO_147 hm.1 dq_MO_cut_113 (by decide) ?_
          refine fx_isub dq_MO_cut_116 ?_
          refine fx_puti ok fp_MO_150 hm.1 (by decide) dq_MO_cut_117 (Or.inl (by decide)) ?_
          refine fx_aload_n 2 dq_MO_cut_120 rfl rfl ?_
          refine fx_geti ok fq_MO_144 hm.1 dq_MO_cut_121 (by decide) ?_
          refine fx_if_le (tgt := 135) dq_MO_cut_124 (by decide) (fun hc124 => ?_) (fun hc124 => ?_)
          · -- 124: jump
            refine fx_aload_n 2 dq_MO_cut_135 rfl rfl ?_
            refine fx_iconst (v := 0) dq_MO_cut_136 (by decide) ?_
            refine fx_puti ok fp_MO_144 hm.1 (by decide) dq_MO_cut_137 (Or.inl (by decide)) ?_
            refine fx_aload_n 2 dq_MO_cut_140 rfl rfl ?_
            refine fx_iconst (v := 0) dq_MO_cut_141 (by decide) ?_
            refine fx_puti ok fp_MO_150 hm.1 (by decide) dq_MO_cut_142 (Or.inl (by decide)) ?_
            exact fx_vreturn rfl dq_MO_cut_145 ⟨rfl, by rw [k_MO_cut, if_neg hc10, if_neg hc39, if_neg hc64, if_pos hc84, if_pos hc124]⟩
          · -- 124: fall
            refine fx_aload_n 2 dq_MO_cut_127 rfl rfl ?_
            refine fx_geti ok fq_MO_150 hm.1 dq_MO_cut_128 (by decide) ?_
            refine fx_if_le (tgt := 135) dq_MO_cut_131 (by decide) (fun hc131 => ?_) (fun hc131 => ?_)
            · -- 131: jump
              refine fx_aload_n 2 dq_MO_cut_135 rfl rfl ?_
              refine fx_iconst (v := 0) dq_MO_cut_136 (by decide) ?_
              refine fx_puti ok fp_MO_144 hm.1 (by decide) dq_MO_cut_137 (Or.inl (by decide)) ?_
              refine fx_aload_n 2 dq_MO_cut_140 rfl rfl ?_
              refine fx_iconst (v := 0) dq_MO_cut_141 (by decide) ?_
              refine fx_puti ok fp_MO_150 hm.1 (by decide) dq_MO_cut_142 (Or.inl (by decide)) ?_
              exact fx_vreturn rfl dq_MO_cut_145 ⟨rfl, by rw [k_MO_cut, if_neg hc10, if_neg hc39, if_neg hc64, if_pos hc84, if_neg hc124, if_pos hc131]⟩
            · -- 131: fall
              exact fx_vreturn rfl dq_MO_cut_134 ⟨rfl, by rw [k_MO_cut, if_neg hc10, if_neg hc39, if_neg hc64, if_pos hc84, if_neg hc124, if_neg hc131]⟩
        · -- 84: fall
          refine fx_aload_n 2 dq_MO_cut_87 rfl rfl ?_
          refine fx_geti ok fq_MO_147 hm.1 dq_MO_cut_88 (by decide) ?_
          refine fx_goto (tgt := 95) dq_MO_cut_91 (by decide) ?_
          refine fx_puti ok fp_MO_147 hm.1 (by decide) dq_MO_cut_95 (Or.inl (by decide)) ?_
          refine fx_aload_n 2 dq_MO_cut_98 rfl rfl ?_
          refine fx_iload 1 dq_MO_cut_99 rfl ?_
          refine fx_aload_n 2 dq_MO_cut_101 rfl rfl ?_
          refine fx_geti ok fq_MO_141 hm.1 dq_MO_cut_102 (by decide) ?_
          refine fx_isub dq_MO_cut_105 ?_
          refine fx_puti ok fp_MO_144 hm.1 (by decide) dq_MO_cut_106 (Or.inl (by decide)) ?_
          refine fx_aload_n 2 dq_MO_cut_109 rfl rfl ?_
          refine fx_iload 0 dq_MO_cut_110 rfl ?_
          refine fx_aload_n 2 dq_MO_cut_112 rfl rfl ?_
          refine fx_geti ok fq_MO_147 hm.1 dq_MO_cut_113 (by decide) ?_
          refine fx_isub dq_MO_cut_116 ?_
          refine fx_puti ok fp_MO_150 hm.1 (by decide) dq_MO_cut_117 (Or.inl (by decide)) ?_
          refine fx_aload_n 2 dq_MO_cut_120 rfl rfl ?_
          refine fx_geti ok fq_MO_144 hm.1 dq_MO_cut_121 (by decide) ?_
          refine fx_if_le (tgt := 135) dq_MO_cut_124 (by decide) (fun hc124 => ?_) (fun hc124 => ?_)
          · -- 124: jump
            refine fx_aload_n 2 dq_MO_cut_135 rfl rfl ?_
            refine fx_iconst (v := 0) dq_MO_cut_136 (by decide) ?_
            refine fx_puti ok fp_MO_144 hm.1 (by decide) dq_MO_cut_137 (Or.inl (by decide)) ?_
            refine fx_aload_n 2 dq_MO_cut_140 rfl rfl ?_
            refine fx_iconst (v := 0) dq_MO_cut_141 (by decide) ?_
            refine fx_puti ok fp_MO_150 hm.1 (by decide) dq_MO_cut_142 (Or.inl (by decide)) ?_
            exact fx_vreturn rfl dq_MO_cut_145 ⟨rfl, by rw [k_MO_cut, if_neg hc10, if_neg hc39, if_neg hc64, if_neg hc84, if_pos hc124]⟩
          · -- 124: fall
            refine fx_aload_n 2 dq_MO_cut_127 rfl rfl ?_
            refine fx_geti ok fq_MO_150 hm.1 dq_MO_cut_128 (by decide) ?_
            refine fx_if_le (tgt := 135) dq_MO_cut_131 (by decide) (fun hc131 => ?_) (fun hc131 => ?_)
            · -- 131: jump
              refine fx_aload_n 2 dq_MO_cut_135 rfl rfl ?_
              refine fx_iconst (v := 0) dq_MO_cut_136 (by decide) ?_
              refine fx_puti ok fp_MO_144 hm.1 (by decide) dq_MO_cut_137 (Or.inl (by decide)) ?_
              refine fx_aload_n 2 dq_MO_cut_140 rfl rfl ?_
              refine fx_iconst (v := 0) dq_MO_cut_141 (by decide) ?_
              refine fx_puti ok fp_MO_150 hm.1 (by decide) dq_MO_cut_142 (Or.inl (by decide)) ?_
              exact fx_vreturn rfl dq_MO_cut_145 ⟨rfl, by rw [k_MO_cut, if_neg hc10, if_neg hc39, if_neg hc64, if_neg hc84, if_neg hc124, if_pos hc131]⟩
            · -- 131: fall
              exact fx_vreturn rfl dq_MO_cut_134 ⟨rfl, by rw [k_MO_cut, if_neg hc10, if_neg hc39, if_neg hc64, if_neg hc84, if_neg hc124, if_neg hc131]⟩
theorem sm_MO_cut (h : fx_H) (q : Nat) (fx fy tx ty : Int32) : fx_sm h (k_MO_cut h q fx fy tx ty) := by
  unfold k_MO_cut
  repeat' split
  all_goals rfl
def k_MO_show (h : fx_H) (q : Nat) (p : Int32) : fx_H := if (fx_i h (q + 7) p.toNatClampNeg) = 0 then fx_wi (fx_wi h q 40 (0 : Int32)) q 41 (0 : Int32) else if (fx_i h (q + 12) p.toNatClampNeg) = 0 then fx_wi (fx_wi h q 40 (0 : Int32)) q 41 (0 : Int32) else k_MO_cut (fx_wi (fx_wi (fx_wi (fx_wi h q 38 ((fx_i h (q + 8) p.toNatClampNeg) + (fx_i h (q + 13) p.toNatClampNeg))) q 39 ((fx_i (fx_wi h q 38 ((fx_i h (q + 8) p.toNatClampNeg) + (fx_i h (q + 13) p.toNatClampNeg))) (q + 9) p.toNatClampNeg) + (fx_i (fx_wi h q 38 ((fx_i h (q + 8) p.toNatClampNeg) + (fx_i h (q + 13) p.toNatClampNeg))) (q + 14) p.toNatClampNeg))) q 40 (fx_i (fx_wi (fx_wi h q 38 ((fx_i h (q + 8) p.toNatClampNeg) + (fx_i h (q + 13) p.toNatClampNeg))) q 39 ((fx_i (fx_wi h q 38 ((fx_i h (q + 8) p.toNatClampNeg) + (fx_i h (q + 13) p.toNatClampNeg))) (q + 9) p.toNatClampNeg) + (fx_i (fx_wi h q 38 ((fx_i h (q + 8) p.toNatClampNeg) + (fx_i h (q + 13) p.toNatClampNeg))) (q + 14) p.toNatClampNeg))) (q + 15) p.toNatClampNeg)) q 41 (fx_i (fx_wi (fx_wi (fx_wi h q 38 ((fx_i h (q + 8) p.toNatClampNeg) + (fx_i h (q + 13) p.toNatClampNeg))) q 39 ((fx_i (fx_wi h q 38 ((fx_i h (q + 8) p.toNatClampNeg) + (fx_i h (q + 13) p.toNatClampNeg))) (q + 9) p.toNatClampNeg) + (fx_i (fx_wi h q 38 ((fx_i h (q + 8) p.toNatClampNeg) + (fx_i h (q + 13) p.toNatClampNeg))) (q + 14) p.toNatClampNeg))) q 40 (fx_i (fx_wi (fx_wi h q 38 ((fx_i h (q + 8) p.toNatClampNeg) + (fx_i h (q + 13) p.toNatClampNeg))) q 39 ((fx_i (fx_wi h q 38 ((fx_i h (q + 8) p.toNatClampNeg) + (fx_i h (q + 13) p.toNatClampNeg))) (q + 9) p.toNatClampNeg) + (fx_i (fx_wi h q 38 ((fx_i h (q + 8) p.toNatClampNeg) + (fx_i h (q + 13) p.toNatClampNeg))) (q + 14) p.toNatClampNeg))) (q + 15) p.toNatClampNeg)) (q + 16) p.toNatClampNeg)) q (0 : Int32) (0 : Int32) (20 : Int32) (10 : Int32)
set_option maxRecDepth 100000 in
set_option maxHeartbeats 600000 in
theorem c_MO_show {g : fx_G} (ok : fx_ok g) (h : fx_H) (q : Nat) (p : Int32) (hm : isM h q) (hp : vp_in p 30) : fx_C g mq_MO_show [.ref q, .int p] h (fx_is none (k_MO_show h q p)) 0 0 := by
  refine fx_body (by decide +kernel) (Nat.le_of_ble_eq_true rfl) ?_
  show fx_X g mq_MO_show 0 [(0, .ref q), (1, .int p)] [] h _ 0 0
  refine fx_aload_n 0 dq_MO_show_0 rfl rfl ?_
  refine fx_getr ok fq_MO_29 hm.1 dq_MO_show_1 (by decide) (mo_there hm).1 ?_
  refine fx_iload_n 1 dq_MO_show_4 rfl rfl ?_
  refine fx_baload ok (mo_there hm).2 hp dq_MO_show_5 ?_
  refine fx_if_eq (tgt := 18) dq_MO_show_6 (by decide) (fun hc6 => ?_) (fun hc6 => ?_)
  · -- 6: jump
    refine fx_aload_n 0 dq_MO_show_18 rfl rfl ?_
    refine fx_iconst (v := 0) dq_MO_show_19 (by decide) ?_
    refine fx_puti ok fp_MO_144 hm.1 (by decide) dq_MO_show_20 (Or.inl (by decide)) ?_
    refine fx_aload_n 0 dq_MO_show_23 rfl rfl ?_
    refine fx_iconst (v := 0) dq_MO_show_24 (by decide) ?_
    refine fx_puti ok fp_MO_150 hm.1 (by decide) dq_MO_show_25 (Or.inl (by decide)) ?_
    exact fx_vreturn rfl dq_MO_show_28 ⟨rfl, by rw [k_MO_show, if_pos hc6]⟩
  · -- 6: fall
    refine fx_aload_n 0 dq_MO_show_9 rfl rfl ?_
    refine fx_getr ok fq_MO_44 hm.1 dq_MO_show_10 (by decide) (mo_visible hm).1 ?_
    refine fx_iload_n 1 dq_MO_show_13 rfl rfl ?_
    refine fx_baload ok (mo_visible hm).2 hp dq_MO_show_14 ?_
    refine fx_if_ne (tgt := 29) dq_MO_show_15 (by decide) (fun hc15 => ?_) (fun hc15 => ?_)
    · -- 15: jump
      refine fx_aload_n 0 dq_MO_show_29 rfl rfl ?_
      refine fx_aload_n 0 dq_MO_show_30 rfl rfl ?_
      refine fx_getr ok fq_MO_32 hm.1 dq_MO_show_31 (by decide) (mo_px hm).1 ?_
      refine fx_iload_n 1 dq_MO_show_34 rfl rfl ?_
      refine fx_iaload ok (mo_px hm).2 hp dq_MO_show_35 ?_
      refine fx_aload_n 0 dq_MO_show_36 rfl rfl ?_
      refine fx_getr ok fq_MO_47 hm.1 dq_MO_show_37 (by decide) (mo_cx hm).1 ?_
      refine fx_iload_n 1 dq_MO_show_40 rfl rfl ?_
      refine fx_iaload ok (mo_cx hm).2 hp dq_MO_show_41 ?_
      refine fx_iadd dq_MO_show_42 ?_
      refine fx_puti ok fp_MO_141 hm.1 (by decide) dq_MO_show_43 (Or.inl (by decide)) ?_
      refine fx_aload_n 0 dq_MO_show_46 rfl rfl ?_
      refine fx_aload_n 0 dq_MO_show_47 rfl rfl ?_
      refine fx_getr ok fq_MO_35 hm.1 dq_MO_show_48 (by decide) (mo_py hm).1 ?_
      refine fx_iload_n 1 dq_MO_show_51 rfl rfl ?_
      refine fx_iaload ok (mo_py hm).2 hp dq_MO_show_52 ?_
      refine fx_aload_n 0 dq_MO_show_53 rfl rfl ?_
      refine fx_getr ok fq_MO_50 hm.1 dq_MO_show_54 (by decide) (mo_cy hm).1 ?_
      refine fx_iload_n 1 dq_MO_show_57 rfl rfl ?_
      refine fx_iaload ok (mo_cy hm).2 hp dq_MO_show_58 ?_
      refine fx_iadd dq_MO_show_59 ?_
      refine fx_puti ok fp_MO_147 hm.1 (by decide) dq_MO_show_60 (Or.inl (by decide)) ?_
      refine fx_aload_n 0 dq_MO_show_63 rfl rfl ?_
      refine fx_aload_n 0 dq_MO_show_64 rfl rfl ?_
      refine fx_getr ok fq_MO_53 hm.1 dq_MO_show_65 (by decide) (mo_cw hm).1 ?_
      refine fx_iload_n 1 dq_MO_show_68 rfl rfl ?_
      refine fx_iaload ok (mo_cw hm).2 hp dq_MO_show_69 ?_
      refine fx_puti ok fp_MO_144 hm.1 (by decide) dq_MO_show_70 (Or.inl (by decide)) ?_
      refine fx_aload_n 0 dq_MO_show_73 rfl rfl ?_
      refine fx_aload_n 0 dq_MO_show_74 rfl rfl ?_
      refine fx_getr ok fq_MO_56 hm.1 dq_MO_show_75 (by decide) (mo_ch hm).1 ?_
      refine fx_iload_n 1 dq_MO_show_78 rfl rfl ?_
      refine fx_iaload ok (mo_ch hm).2 hp dq_MO_show_79 ?_
      refine fx_puti ok fp_MO_150 hm.1 (by decide) dq_MO_show_80 (Or.inl (by decide)) ?_
      refine fx_aload_n 0 dq_MO_show_83 rfl rfl ?_
      refine fx_iconst (v := 0) dq_MO_show_84 (by decide) ?_
      refine fx_iconst (v := 0) dq_MO_show_85 (by decide) ?_
      refine fx_bipush (v := 20) dq_MO_show_86 (by decide) ?_
      refine fx_bipush (v := 10) dq_MO_show_88 (by decide) ?_
      refine fx_Vv4 ok sq_MO_174 hm.1 (c_MO_cut ok (fx_wi (fx_wi (fx_wi (fx_wi h q 38 ((fx_i h (q + 8) p.toNatClampNeg) + (fx_i h (q + 13) p.toNatClampNeg))) q 39 ((fx_i (fx_wi h q 38 ((fx_i h (q + 8) p.toNatClampNeg) + (fx_i h (q + 13) p.toNatClampNeg))) (q + 9) p.toNatClampNeg) + (fx_i (fx_wi h q 38 ((fx_i h (q + 8) p.toNatClampNeg) + (fx_i h (q + 13) p.toNatClampNeg))) (q + 14) p.toNatClampNeg))) q 40 (fx_i (fx_wi (fx_wi h q 38 ((fx_i h (q + 8) p.toNatClampNeg) + (fx_i h (q + 13) p.toNatClampNeg))) q 39 ((fx_i (fx_wi h q 38 ((fx_i h (q + 8) p.toNatClampNeg) + (fx_i h (q + 13) p.toNatClampNeg))) (q + 9) p.toNatClampNeg) + (fx_i (fx_wi h q 38 ((fx_i h (q + 8) p.toNatClampNeg) + (fx_i h (q + 13) p.toNatClampNeg))) (q + 14) p.toNatClampNeg))) (q + 15) p.toNatClampNeg)) q 41 (fx_i (fx_wi (fx_wi (fx_wi h q 38 ((fx_i h (q + 8) p.toNatClampNeg) + (fx_i h (q + 13) p.toNatClampNeg))) q 39 ((fx_i (fx_wi h q 38 ((fx_i h (q + 8) p.toNatClampNeg) + (fx_i h (q + 13) p.toNatClampNeg))) (q + 9) p.toNatClampNeg) + (fx_i (fx_wi h q 38 ((fx_i h (q + 8) p.toNatClampNeg) + (fx_i h (q + 13) p.toNatClampNeg))) (q + 14) p.toNatClampNeg))) q 40 (fx_i (fx_wi (fx_wi h q 38 ((fx_i h (q + 8) p.toNatClampNeg) + (fx_i h (q + 13) p.toNatClampNeg))) q 39 ((fx_i (fx_wi h q 38 ((fx_i h (q + 8) p.toNatClampNeg) + (fx_i h (q + 13) p.toNatClampNeg))) (q + 9) p.toNatClampNeg) + (fx_i (fx_wi h q 38 ((fx_i h (q + 8) p.toNatClampNeg) + (fx_i h (q + 13) p.toNatClampNeg))) (q + 14) p.toNatClampNeg))) (q + 15) p.toNatClampNeg)) (q + 16) p.toNatClampNeg)) q (0 : Int32) (0 : Int32) (20 : Int32) (10 : Int32) (by exact hm)) (by decide) (Nat.le_of_ble_eq_true rfl) dq_MO_show_90 ?_
      have e90 : fx_sm h (k_MO_cut (fx_wi (fx_wi (fx_wi (fx_wi h q 38 ((fx_i h (q + 8) p.toNatClampNeg) + (fx_i h (q + 13) p.toNatClampNeg))) q 39 ((fx_i (fx_wi h q 38 ((fx_i h (q + 8) p.toNatClampNeg) + (fx_i h (q + 13) p.toNatClampNeg))) (q + 9) p.toNatClampNeg) + (fx_i (fx_wi h q 38 ((fx_i h (q + 8) p.toNatClampNeg) + (fx_i h (q + 13) p.toNatClampNeg))) (q + 14) p.toNatClampNeg))) q 40 (fx_i (fx_wi (fx_wi h q 38 ((fx_i h (q + 8) p.toNatClampNeg) + (fx_i h (q + 13) p.toNatClampNeg))) q 39 ((fx_i (fx_wi h q 38 ((fx_i h (q + 8) p.toNatClampNeg) + (fx_i h (q + 13) p.toNatClampNeg))) (q + 9) p.toNatClampNeg) + (fx_i (fx_wi h q 38 ((fx_i h (q + 8) p.toNatClampNeg) + (fx_i h (q + 13) p.toNatClampNeg))) (q + 14) p.toNatClampNeg))) (q + 15) p.toNatClampNeg)) q 41 (fx_i (fx_wi (fx_wi (fx_wi h q 38 ((fx_i h (q + 8) p.toNatClampNeg) + (fx_i h (q + 13) p.toNatClampNeg))) q 39 ((fx_i (fx_wi h q 38 ((fx_i h (q + 8) p.toNatClampNeg) + (fx_i h (q + 13) p.toNatClampNeg))) (q + 9) p.toNatClampNeg) + (fx_i (fx_wi h q 38 ((fx_i h (q + 8) p.toNatClampNeg) + (fx_i h (q + 13) p.toNatClampNeg))) (q + 14) p.toNatClampNeg))) q 40 (fx_i (fx_wi (fx_wi h q 38 ((fx_i h (q + 8) p.toNatClampNeg) + (fx_i h (q + 13) p.toNatClampNeg))) q 39 ((fx_i (fx_wi h q 38 ((fx_i h (q + 8) p.toNatClampNeg) + (fx_i h (q + 13) p.toNatClampNeg))) (q + 9) p.toNatClampNeg) + (fx_i (fx_wi h q 38 ((fx_i h (q + 8) p.toNatClampNeg) + (fx_i h (q + 13) p.toNatClampNeg))) (q + 14) p.toNatClampNeg))) (q + 15) p.toNatClampNeg)) (q + 16) p.toNatClampNeg)) q (0 : Int32) (0 : Int32) (20 : Int32) (10 : Int32)) := fx_sm_t (h' := (fx_wi (fx_wi (fx_wi (fx_wi h q 38 ((fx_i h (q + 8) p.toNatClampNeg) + (fx_i h (q + 13) p.toNatClampNeg))) q 39 ((fx_i (fx_wi h q 38 ((fx_i h (q + 8) p.toNatClampNeg) + (fx_i h (q + 13) p.toNatClampNeg))) (q + 9) p.toNatClampNeg) + (fx_i (fx_wi h q 38 ((fx_i h (q + 8) p.toNatClampNeg) + (fx_i h (q + 13) p.toNatClampNeg))) (q + 14) p.toNatClampNeg))) q 40 (fx_i (fx_wi (fx_wi h q 38 ((fx_i h (q + 8) p.toNatClampNeg) + (fx_i h (q + 13) p.toNatClampNeg))) q 39 ((fx_i (fx_wi h q 38 ((fx_i h (q + 8) p.toNatClampNeg) + (fx_i h (q + 13) p.toNatClampNeg))) (q + 9) p.toNatClampNeg) + (fx_i (fx_wi h q 38 ((fx_i h (q + 8) p.toNatClampNeg) + (fx_i h (q + 13) p.toNatClampNeg))) (q + 14) p.toNatClampNeg))) (q + 15) p.toNatClampNeg)) q 41 (fx_i (fx_wi (fx_wi (fx_wi h q 38 ((fx_i h (q + 8) p.toNatClampNeg) + (fx_i h (q + 13) p.toNatClampNeg))) q 39 ((fx_i (fx_wi h q 38 ((fx_i h (q + 8) p.toNatClampNeg) + (fx_i h (q + 13) p.toNatClampNeg))) (q + 9) p.toNatClampNeg) + (fx_i (fx_wi h q 38 ((fx_i h (q + 8) p.toNatClampNeg) + (fx_i h (q + 13) p.toNatClampNeg))) (q + 14) p.toNatClampNeg))) q 40 (fx_i (fx_wi (fx_wi h q 38 ((fx_i h (q + 8) p.toNatClampNeg) + (fx_i h (q + 13) p.toNatClampNeg))) q 39 ((fx_i (fx_wi h q 38 ((fx_i h (q + 8) p.toNatClampNeg) + (fx_i h (q + 13) p.toNatClampNeg))) (q + 9) p.toNatClampNeg) + (fx_i (fx_wi h q 38 ((fx_i h (q + 8) p.toNatClampNeg) + (fx_i h (q + 13) p.toNatClampNeg))) (q + 14) p.toNatClampNeg))) (q + 15) p.toNatClampNeg)) (q + 16) p.toNatClampNeg))) (rfl : fx_sm h (fx_wi (fx_wi (fx_wi (fx_wi h q 38 ((fx_i h (q + 8) p.toNatClampNeg) + (fx_i h (q + 13) p.toNatClampNeg))) q 39 ((fx_i (fx_wi h q 38 ((fx_i h (q + 8) p.toNatClampNeg) + (fx_i h (q + 13) p.toNatClampNeg))) (q + 9) p.toNatClampNeg) + (fx_i (fx_wi h q 38 ((fx_i h (q + 8) p.toNatClampNeg) + (fx_i h (q + 13) p.toNatClampNeg))) (q + 14) p.toNatClampNeg))) q 40 (fx_i (fx_wi (fx_wi h q 38 ((fx_i h (q + 8) p.toNatClampNeg) + (fx_i h (q + 13) p.toNatClampNeg))) q 39 ((fx_i (fx_wi h q 38 ((fx_i h (q + 8) p.toNatClampNeg) + (fx_i h (q + 13) p.toNatClampNeg))) (q + 9) p.toNatClampNeg) + (fx_i (fx_wi h q 38 ((fx_i h (q + 8) p.toNatClampNeg) + (fx_i h (q + 13) p.toNatClampNeg))) (q + 14) p.toNatClampNeg))) (q + 15) p.toNatClampNeg)) q 41 (fx_i (fx_wi (fx_wi (fx_wi h q 38 ((fx_i h (q + 8) p.toNatClampNeg) + (fx_i h (q + 13) p.toNatClampNeg))) q 39 ((fx_i (fx_wi h q 38 ((fx_i h (q + 8) p.toNatClampNeg) + (fx_i h (q + 13) p.toNatClampNeg))) (q + 9) p.toNatClampNeg) + (fx_i (fx_wi h q 38 ((fx_i h (q + 8) p.toNatClampNeg) + (fx_i h (q + 13) p.toNatClampNeg))) (q + 14) p.toNatClampNeg))) q 40 (fx_i (fx_wi (fx_wi h q 38 ((fx_i h (q + 8) p.toNatClampNeg) + (fx_i h (q + 13) p.toNatClampNeg))) q 39 ((fx_i (fx_wi h q 38 ((fx_i h (q + 8) p.toNatClampNeg) + (fx_i h (q + 13) p.toNatClampNeg))) (q + 9) p.toNatClampNeg) + (fx_i (fx_wi h q 38 ((fx_i h (q + 8) p.toNatClampNeg) + (fx_i h (q + 13) p.toNatClampNeg))) (q + 14) p.toNatClampNeg))) (q + 15) p.toNatClampNeg)) (q + 16) p.toNatClampNeg))) (sm_MO_cut (fx_wi (fx_wi (fx_wi (fx_wi h q 38 ((fx_i h (q + 8) p.toNatClampNeg) + (fx_i h (q + 13) p.toNatClampNeg))) q 39 ((fx_i (fx_wi h q 38 ((fx_i h (q + 8) p.toNatClampNeg) + (fx_i h (q + 13) p.toNatClampNeg))) (q + 9) p.toNatClampNeg) + (fx_i (fx_wi h q 38 ((fx_i h (q + 8) p.toNatClampNeg) + (fx_i h (q + 13) p.toNatClampNeg))) (q + 14) p.toNatClampNeg))) q 40 (fx_i (fx_wi (fx_wi h q 38 ((fx_i h (q + 8) p.toNatClampNeg) + (fx_i h (q + 13) p.toNatClampNeg))) q 39 ((fx_i (fx_wi h q 38 ((fx_i h (q + 8) p.toNatClampNeg) + (fx_i h (q + 13) p.toNatClampNeg))) (q + 9) p.toNatClampNeg) + (fx_i (fx_wi h q 38 ((fx_i h (q + 8) p.toNatClampNeg) + (fx_i h (q + 13) p.toNatClampNeg))) (q + 14) p.toNatClampNeg))) (q + 15) p.toNatClampNeg)) q 41 (fx_i (fx_wi (fx_wi (fx_wi h q 38 ((fx_i h (q + 8) p.toNatClampNeg) + (fx_i h (q + 13) p.toNatClampNeg))) q 39 ((fx_i (fx_wi h q 38 ((fx_i h (q + 8) p.toNatClampNeg) + (fx_i h (q + 13) p.toNatClampNeg))) (q + 9) p.toNatClampNeg) + (fx_i (fx_wi h q 38 ((fx_i h (q + 8) p.toNatClampNeg) + (fx_i h (q + 13) p.toNatClampNeg))) (q + 14) p.toNatClampNeg))) q 40 (fx_i (fx_wi (fx_wi h q 38 ((fx_i h (q + 8) p.toNatClampNeg) + (fx_i h (q + 13) p.toNatClampNeg))) q 39 ((fx_i (fx_wi h q 38 ((fx_i h (q + 8) p.toNatClampNeg) + (fx_i h (q + 13) p.toNatClampNeg))) (q + 9) p.toNatClampNeg) + (fx_i (fx_wi h q 38 ((fx_i h (q + 8) p.toNatClampNeg) + (fx_i h (q + 13) p.toNatClampNeg))) (q + 14) p.toNatClampNeg))) (q + 15) p.toNatClampNeg)) (q + 16) p.toNatClampNeg)) q (0 : Int32) (0 : Int32) (20 : Int32) (10 : Int32))
      exact fx_vreturn rfl dq_MO_show_93 ⟨rfl, by rw [k_MO_show, if_neg hc6, if_neg hc15]⟩
    · -- 15: fall
      refine fx_aload_n 0 dq_MO_show_18 rfl rfl ?_
      refine fx_iconst (v := 0) dq_MO_show_19 (by decide) ?_
      refine fx_puti ok fp_MO_144 hm.1 (by decide) dq_MO_show_20 (Or.inl (by decide)) ?_
      refine fx_aload_n 0 dq_MO_show_23 rfl rfl ?_
      refine fx_iconst (v := 0) dq_MO_show_24 (by decide) ?_
      refine fx_puti ok fp_MO_150 hm.1 (by decide) dq_MO_show_25 (Or.inl (by decide)) ?_
      exact fx_vreturn rfl dq_MO_show_28 ⟨rfl, by rw [k_MO_show, if_neg hc6, if_pos hc15]⟩
theorem sm_MO_show (h : fx_H) (q : Nat) (p : Int32) : fx_sm h (k_MO_show h q p) := by
  unfold k_MO_show
  repeat' split
  all_goals first | rfl | exact fx_sm_t (fx_sm_t (fx_sm_t (fx_sm_t (sm_wi _ _ _ _) (sm_wi _ _ _ _)) (sm_wi _ _ _ _)) (sm_wi _ _ _ _)) (sm_MO_cut _ _ _ _ _ _)
