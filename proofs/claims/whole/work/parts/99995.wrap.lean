/-! ===== the wrappers that catch ===== -/
set_option maxHeartbeats 600000 in
theorem c_LA_surface {g : fx_G} (ok : fx_ok g) (h k : fx_H) (w : Nat) (cl cs rs : Int32) (O : fx_O) (hw : fx_s h w = some (.inl 0)) (z : Nat) (hz : fx_s k z = some (.inr (2, 1))) (hO : OA O) (hC : fx_C g mq_FS_surface [.ref w, .int cl, .int cs, .int rs] h (fx_ou O k) 1 6) : fx_C g mq_LA_surface [.ref w, .int cl, .int cs, .int rs, .ref z] h (fx_is (some (cod O)) (outH z O k)) 1 6 := by
  refine fx_body (by decide +kernel) (Nat.le_of_ble_eq_true rfl) ?_
  show fx_X g mq_LA_surface 0 [(0, .ref w), (1, .int cl), (2, .int cs), (3, .int rs), (4, .ref z)] [] h _ 1 6
  refine fx_aload 4 dq_LA_surface_0 rfl ?_
  refine fx_iconst (v := 0) dq_LA_surface_2 (by decide) ?_
  refine fx_aload_n 0 dq_LA_surface_3 rfl rfl ?_
  refine fx_iload_n 1 dq_LA_surface_4 rfl rfl ?_
  refine fx_iload_n 2 dq_LA_surface_5 rfl rfl ?_
  refine fx_iload_n 3 dq_LA_surface_6 rfl rfl ?_
  rcases hO with ⟨v, rfl⟩ | rfl | rfl
  · refine fx_Vb3 ok (mc := 0) (ms := 0) sq_LA_7 hw hC (by decide) (Nat.le_of_ble_eq_true rfl) dq_LA_surface_7 ?_
    refine fx_i2l dq_LA_surface_10 ?_
    refine fx_lastore ok hz (by unfold vp_in; decide) dq_LA_surface_11 ?_
    refine fx_goto (tgt := 23) dq_LA_surface_12 (by decide) ?_
    refine fx_iconst (v := 0) dq_LA_surface_23 (by decide) ?_
    exact fx_ireturn rfl dq_LA_surface_24 ⟨rfl, rfl⟩
  · refine fx_Vt3 ok (mc := 0) (ms := 0) sq_LA_7 hw hC (by decide) (Nat.le_of_ble_eq_true rfl) dq_LA_surface_7 ?_
    refine fx_T_catch ok (pre' := []) (suf' := [(0, 12, 19, 15)]) (name := "java/lang/IllegalArgumentException") rfl (by decide) (by decide) lk_LA_13 kz_IAE (fun r hr => nomatch hr) (fun q => ?_)
    refine fx_astore dq_LA_surface_15 (by decide) rfl ?_
    refine fx_iconst (v := 1) dq_LA_surface_17 (by decide) ?_
    exact fx_ireturn rfl dq_LA_surface_18 ⟨rfl, rfl⟩
  · refine fx_Vt3 ok (mc := 0) (ms := 0) sq_LA_7 hw hC (by decide) (Nat.le_of_ble_eq_true rfl) dq_LA_surface_7 ?_
    refine fx_T_catch ok (pre' := [(0, 12, 15, 13)]) (suf' := []) (name := "java/lang/IllegalStateException") rfl (by decide) (by decide) lk_LA_15 kz_ISE (fun r hr => by rw [List.mem_singleton.mp hr]; exact Or.inr ⟨by decide, _, lk_LA_13, kt_ISE⟩) (fun q => ?_)
    refine fx_astore dq_LA_surface_19 (by decide) rfl ?_
    refine fx_iconst (v := 2) dq_LA_surface_21 (by decide) ?_
    exact fx_ireturn rfl dq_LA_surface_22 ⟨rfl, rfl⟩
set_option maxHeartbeats 600000 in
theorem c_LA_destroy {g : fx_G} (ok : fx_ok g) (h k : fx_H) (w : Nat) (s : Int32) (O : fx_O) (hw : fx_s h w = some (.inl 0)) (hO : OV O) (h1 : O1 O) (hC : fx_C g mq_FS_destroy [.ref w, .int s] h (fx_ou O k) 1 6) : fx_C g mq_LA_destroy [.ref w, .int s] h (fx_is (some (cod O)) k) 1 6 := by
  refine fx_body (by decide +kernel) (Nat.le_of_ble_eq_true rfl) ?_
  show fx_X g mq_LA_destroy 0 [(0, .ref w), (1, .int s)] [] h _ 1 6
  refine fx_aload_n 0 dq_LA_destroy_0 rfl rfl ?_
  refine fx_iload_n 1 dq_LA_destroy_1 rfl rfl ?_
  rcases hO with rfl | rfl | rfl
  · refine fx_Va1 ok (mc := 0) (ms := 0) sq_LA_17 hw hC (by decide) (Nat.le_of_ble_eq_true rfl) dq_LA_destroy_2 ?_
    refine fx_goto (tgt := 11) dq_LA_destroy_5 (by decide) ?_
    refine fx_iconst (v := 0) dq_LA_destroy_11 (by decide) ?_
    exact fx_ireturn rfl dq_LA_destroy_12 ⟨rfl, rfl⟩
  · refine fx_Vt1 ok (mc := 0) (ms := 0) sq_LA_17 hw hC (by decide) (Nat.le_of_ble_eq_true rfl) dq_LA_destroy_2 ?_
    refine fx_T_catch ok (pre' := []) (suf' := []) (name := "java/lang/IllegalArgumentException") rfl (by decide) (by decide) lk_LA_13 kz_IAE (fun r hr => nomatch hr) (fun q => ?_)
    refine fx_astore_n dq_LA_destroy_8 rfl (by decide) rfl ?_
    refine fx_iconst (v := 1) dq_LA_destroy_9 (by decide) ?_
    exact fx_ireturn rfl dq_LA_destroy_10 ⟨rfl, rfl⟩
  · exact absurd (h1 _ rfl) (by decide)
set_option maxHeartbeats 600000 in
theorem c_LA_place {g : fx_G} (ok : fx_ok g) (h k : fx_H) (w : Nat) (s x y od al vi : Int32) (O : fx_O) (hw : fx_s h w = some (.inl 0)) (hO : OV O) (h1 : O1 O) (hC : fx_C g mq_FS_place [.ref w, .int s, .int x, .int y, .int od, .int al, .int vi] h (fx_ou O k) 1 6) : fx_C g mq_LA_place [.ref w, .int s, .int x, .int y, .int od, .int al, .int vi] h (fx_is (some (cod O)) k) 1 6 := by
  refine fx_body (by decide +kernel) (Nat.le_of_ble_eq_true rfl) ?_
  show fx_X g mq_LA_place 0 [(0, .ref w), (1, .int s), (2, .int x), (3, .int y), (4, .int od), (5, .int al), (6, .int vi)] [] h _ 1 6
  refine fx_aload_n 0 dq_LA_place_0 rfl rfl ?_
  refine fx_iload_n 1 dq_LA_place_1 rfl rfl ?_
  refine fx_iload_n 2 dq_LA_place_2 rfl rfl ?_
  refine fx_iload_n 3 dq_LA_place_3 rfl rfl ?_
  refine fx_iload 4 dq_LA_place_4 rfl ?_
  refine fx_iload 5 dq_LA_place_6 rfl ?_
  refine fx_iload 6 dq_LA_place_8 rfl ?_
  rcases hO with rfl | rfl | rfl
  · refine fx_Va6 ok (mc := 0) (ms := 0) sq_LA_21 hw hC (by decide) (Nat.le_of_ble_eq_true rfl) dq_LA_place_10 ?_
    refine fx_goto (tgt := 20) dq_LA_place_13 (by decide) ?_
    refine fx_iconst (v := 0) dq_LA_place_20 (by decide) ?_
    exact fx_ireturn rfl dq_LA_place_21 ⟨rfl, rfl⟩
  · refine fx_Vt6 ok (mc := 0) (ms := 0) sq_LA_21 hw hC (by decide) (Nat.le_of_ble_eq_true rfl) dq_LA_place_10 ?_
    refine fx_T_catch ok (pre' := []) (suf' := []) (name := "java/lang/IllegalArgumentException") rfl (by decide) (by decide) lk_LA_13 kz_IAE (fun r hr => nomatch hr) (fun q => ?_)
    refine fx_astore dq_LA_place_16 (by decide) rfl ?_
    refine fx_iconst (v := 1) dq_LA_place_18 (by decide) ?_
    exact fx_ireturn rfl dq_LA_place_19 ⟨rfl, rfl⟩
  · exact absurd (h1 _ rfl) (by decide)
set_option maxHeartbeats 600000 in
theorem c_LA_clip {g : fx_G} (ok : fx_ok g) (h k : fx_H) (w : Nat) (s x y cs rs : Int32) (O : fx_O) (hw : fx_s h w = some (.inl 0)) (hO : OV O) (h1 : O1 O) (hC : fx_C g mq_FS_clip [.ref w, .int s, .int x, .int y, .int cs, .int rs] h (fx_ou O k) 1 6) : fx_C g mq_LA_clip [.ref w, .int s, .int x, .int y, .int cs, .int rs] h (fx_is (some (cod O)) k) 1 6 := by
  refine fx_body (by decide +kernel) (Nat.le_of_ble_eq_true rfl) ?_
  show fx_X g mq_LA_clip 0 [(0, .ref w), (1, .int s), (2, .int x), (3, .int y), (4, .int cs), (5, .int rs)] [] h _ 1 6
  refine fx_aload_n 0 dq_LA_clip_0 rfl rfl ?_
  refine fx_iload_n 1 dq_LA_clip_1 rfl rfl ?_
  refine fx_iload_n 2 dq_LA_clip_2 rfl rfl ?_
  refine fx_iload_n 3 dq_LA_clip_3 rfl rfl ?_
  refine fx_iload 4 dq_LA_clip_4 rfl ?_
  refine fx_iload 5 dq_LA_clip_6 rfl ?_
  rcases hO with rfl | rfl | rfl
  · refine fx_Va5 ok (mc := 0) (ms := 0) sq_LA_25 hw hC (by decide) (Nat.le_of_ble_eq_true rfl) dq_LA_clip_8 ?_
    refine fx_goto (tgt := 18) dq_LA_clip_11 (by decide) ?_
    refine fx_iconst (v := 0) dq_LA_clip_18 (by decide) ?_
    exact fx_ireturn rfl dq_LA_clip_19 ⟨rfl, rfl⟩
  · refine fx_Vt5 ok (mc := 0) (ms := 0) sq_LA_25 hw hC (by decide) (Nat.le_of_ble_eq_true rfl) dq_LA_clip_8 ?_
    refine fx_T_catch ok (pre' := []) (suf' := []) (name := "java/lang/IllegalArgumentException") rfl (by decide) (by decide) lk_LA_13 kz_IAE (fun r hr => nomatch hr) (fun q => ?_)
    refine fx_astore dq_LA_clip_14 (by decide) rfl ?_
    refine fx_iconst (v := 1) dq_LA_clip_16 (by decide) ?_
    exact fx_ireturn rfl dq_LA_clip_17 ⟨rfl, rfl⟩
  · exact absurd (h1 _ rfl) (by decide)
set_option maxHeartbeats 600000 in
theorem c_LA_put {g : fx_G} (ok : fx_ok g) (h k : fx_H) (w : Nat) (s x y co : Int32) (O : fx_O) (hw : fx_s h w = some (.inl 0)) (hO : OV O) (hC : fx_C g mq_FS_put [.ref w, .int s, .int x, .int y, .int co] h (fx_ou O k) 1 6) : fx_C g mq_LA_put [.ref w, .int s, .int x, .int y, .int co] h (fx_is (some (cod O)) k) 1 6 := by
  refine fx_body (by decide +kernel) (Nat.le_of_ble_eq_true rfl) ?_
  show fx_X g mq_LA_put 0 [(0, .ref w), (1, .int s), (2, .int x), (3, .int y), (4, .int co)] [] h _ 1 6
  refine fx_aload_n 0 dq_LA_put_0 rfl rfl ?_
  refine fx_iload_n 1 dq_LA_put_1 rfl rfl ?_
  refine fx_iload_n 2 dq_LA_put_2 rfl rfl ?_
  refine fx_iload_n 3 dq_LA_put_3 rfl rfl ?_
  refine fx_iload 4 dq_LA_put_4 rfl ?_
  rcases hO with rfl | rfl | rfl
  · refine fx_Va4 ok (mc := 0) (ms := 0) sq_LA_29 hw hC (by decide) (Nat.le_of_ble_eq_true rfl) dq_LA_put_6 ?_
    refine fx_goto (tgt := 20) dq_LA_put_9 (by decide) ?_
    refine fx_iconst (v := 0) dq_LA_put_20 (by decide) ?_
    exact fx_ireturn rfl dq_LA_put_21 ⟨rfl, rfl⟩
  · refine fx_Vt4 ok (mc := 0) (ms := 0) sq_LA_29 hw hC (by decide) (Nat.le_of_ble_eq_true rfl) dq_LA_put_6 ?_
    refine fx_T_catch ok (pre' := []) (suf' := [(0, 9, 16, 33)]) (name := "java/lang/IllegalArgumentException") rfl (by decide) (by decide) lk_LA_13 kz_IAE (fun r hr => nomatch hr) (fun q => ?_)
    refine fx_astore dq_LA_put_12 (by decide) rfl ?_
    refine fx_iconst (v := 1) dq_LA_put_14 (by decide) ?_
    exact fx_ireturn rfl dq_LA_put_15 ⟨rfl, rfl⟩
  · refine fx_Vt4 ok (mc := 0) (ms := 0) sq_LA_29 hw hC (by decide) (Nat.le_of_ble_eq_true rfl) dq_LA_put_6 ?_
    refine fx_T_catch ok (pre' := [(0, 9, 12, 13)]) (suf' := []) (name := "java/lang/IndexOutOfBoundsException") rfl (by decide) (by decide) lk_LA_33 kz_IOB (fun r hr => by rw [List.mem_singleton.mp hr]; exact Or.inr ⟨by decide, _, lk_LA_13, kt_IOB⟩) (fun q => ?_)
    refine fx_astore dq_LA_put_16 (by decide) rfl ?_
    refine fx_iconst (v := 2) dq_LA_put_18 (by decide) ?_
    exact fx_ireturn rfl dq_LA_put_19 ⟨rfl, rfl⟩
set_option maxHeartbeats 600000 in
theorem c_LA_fill {g : fx_G} (ok : fx_ok g) (h k : fx_H) (w : Nat) (s x y cs rs co : Int32) (O : fx_O) (hw : fx_s h w = some (.inl 0)) (z : Nat) (hz : fx_s k z = some (.inr (2, 1))) (hO : OA O) (h1 : O1 O) (hC : fx_C g mq_FS_fill [.ref w, .int s, .int x, .int y, .int cs, .int rs, .int co] h (fx_ou O k) 1 6) : fx_C g mq_LA_fill [.ref w, .int s, .int x, .int y, .int cs, .int rs, .int co, .ref z] h (fx_is (some (cod O)) (outH z O k)) 1 6 := by
  refine fx_body (by decide +kernel) (Nat.le_of_ble_eq_true rfl) ?_
  show fx_X g mq_LA_fill 0 [(0, .ref w), (1, .int s), (2, .int x), (3, .int y), (4, .int cs), (5, .int rs), (6, .int co), (7, .ref z)] [] h _ 1 6
  refine fx_aload 7 dq_LA_fill_0 rfl ?_
  refine fx_iconst (v := 0) dq_LA_fill_2 (by decide) ?_
  refine fx_aload_n 0 dq_LA_fill_3 rfl rfl ?_
  refine fx_iload_n 1 dq_LA_fill_4 rfl rfl ?_
  refine fx_iload_n 2 dq_LA_fill_5 rfl rfl ?_
  refine fx_iload_n 3 dq_LA_fill_6 rfl rfl ?_
  refine fx_iload 4 dq_LA_fill_7 rfl ?_
  refine fx_iload 5 dq_LA_fill_9 rfl ?_
  refine fx_iload 6 dq_LA_fill_11 rfl ?_
  rcases hO with ⟨v, rfl⟩ | rfl | rfl
  · refine fx_Vb6 ok (mc := 0) (ms := 0) sq_LA_35 hw hC (by decide) (Nat.le_of_ble_eq_true rfl) dq_LA_fill_13 ?_
    refine fx_i2l dq_LA_fill_16 ?_
    refine fx_lastore ok hz (by unfold vp_in; decide) dq_LA_fill_17 ?_
    refine fx_goto (tgt := 25) dq_LA_fill_18 (by decide) ?_
    refine fx_iconst (v := 0) dq_LA_fill_25 (by decide) ?_
    exact fx_ireturn rfl dq_LA_fill_26 ⟨rfl, rfl⟩
  · refine fx_Vt6 ok (mc := 0) (ms := 0) sq_LA_35 hw hC (by decide) (Nat.le_of_ble_eq_true rfl) dq_LA_fill_13 ?_
    refine fx_T_catch ok (pre' := []) (suf' := []) (name := "java/lang/IllegalArgumentException") rfl (by decide) (by decide) lk_LA_13 kz_IAE (fun r hr => nomatch hr) (fun q => ?_)
    refine fx_astore dq_LA_fill_21 (by decide) rfl ?_
    refine fx_iconst (v := 1) dq_LA_fill_23 (by decide) ?_
    exact fx_ireturn rfl dq_LA_fill_24 ⟨rfl, rfl⟩
  · exact absurd (h1 _ rfl) (by decide)
set_option maxHeartbeats 600000 in
theorem c_LA_copy {g : fx_G} (ok : fx_ok g) (h k : fx_H) (w : Nat) (fr to_ x y cs rs tx ty : Int32) (O : fx_O) (hw : fx_s h w = some (.inl 0)) (z : Nat) (hz : fx_s k z = some (.inr (2, 1))) (hO : OA O) (h1 : O1 O) (hC : fx_C g mq_FS_copy [.ref w, .int fr, .int to_, .int x, .int y, .int cs, .int rs, .int tx, .int ty] h (fx_ou O k) 1 6) : fx_C g mq_LA_copy [.ref w, .int fr, .int to_, .int x, .int y, .int cs, .int rs, .int tx, .int ty, .ref z] h (fx_is (some (cod O)) (outH z O k)) 1 6 := by
  refine fx_body (by decide +kernel) (Nat.le_of_ble_eq_true rfl) ?_
  show fx_X g mq_LA_copy 0 [(0, .ref w), (1, .int fr), (2, .int to_), (3, .int x), (4, .int y), (5, .int cs), (6, .int rs), (7, .int tx), (8, .int ty), (9, .ref z)] [] h _ 1 6
  refine fx_aload 9 dq_LA_copy_0 rfl ?_
  refine fx_iconst (v := 0) dq_LA_copy_2 (by decide) ?_
  refine fx_aload_n 0 dq_LA_copy_3 rfl rfl ?_
  refine fx_iload_n 1 dq_LA_copy_4 rfl rfl ?_
  refine fx_iload_n 2 dq_LA_copy_5 rfl rfl ?_
  refine fx_iload_n 3 dq_LA_copy_6 rfl rfl ?_
  refine fx_iload 4 dq_LA_copy_7 rfl ?_
  refine fx_iload 5 dq_LA_copy_9 rfl ?_
  refine fx_iload 6 dq_LA_copy_11 rfl ?_
  refine fx_iload 7 dq_LA_copy_13 rfl ?_
  refine fx_iload 8 dq_LA_copy_15 rfl ?_
  rcases hO with ⟨v, rfl⟩ | rfl | rfl
  · refine fx_Vb8 ok (mc := 0) (ms := 0) sq_LA_39 hw hC (by decide) (Nat.le_of_ble_eq_true rfl) dq_LA_copy_17 ?_
    refine fx_i2l dq_LA_copy_20 ?_
    refine fx_lastore ok hz (by unfold vp_in; decide) dq_LA_copy_21 ?_
    refine fx_goto (tgt := 29) dq_LA_copy_22 (by decide) ?_
    refine fx_iconst (v := 0) dq_LA_copy_29 (by decide) ?_
    exact fx_ireturn rfl dq_LA_copy_30 ⟨rfl, rfl⟩
  · refine fx_Vt8 ok (mc := 0) (ms := 0) sq_LA_39 hw hC (by decide) (Nat.le_of_ble_eq_true rfl) dq_LA_copy_17 ?_
    refine fx_T_catch ok (pre' := []) (suf' := []) (name := "java/lang/IllegalArgumentException") rfl (by decide) (by decide) lk_LA_13 kz_IAE (fun r hr => nomatch hr) (fun q => ?_)
    refine fx_astore dq_LA_copy_25 (by decide) rfl ?_
    refine fx_iconst (v := 1) dq_LA_copy_27 (by decide) ?_
    exact fx_ireturn rfl dq_LA_copy_28 ⟨rfl, rfl⟩
  · exact absurd (h1 _ rfl) (by decide)
set_option maxHeartbeats 600000 in
theorem c_LA_commit {g : fx_G} (ok : fx_ok g) (h k : fx_H) (w : Nat) (cl : Int32) (O : fx_O) (hw : fx_s h w = some (.inl 0)) (z : Nat) (hz : fx_s k z = some (.inr (2, 1))) (hO : OA O) (hC : fx_C g mq_FS_commit [.ref w, .int cl] h (fx_ou O k) 1 6) : fx_C g mq_LA_commit [.ref w, .int cl, .ref z] h (fx_is (some (cod O)) (outH z O k)) 1 6 := by
  refine fx_body (by decide +kernel) (Nat.le_of_ble_eq_true rfl) ?_
  show fx_X g mq_LA_commit 0 [(0, .ref w), (1, .int cl), (2, .ref z)] [] h _ 1 6
  refine fx_aload_n 2 dq_LA_commit_0 rfl rfl ?_
  refine fx_iconst (v := 0) dq_LA_commit_1 (by decide) ?_
  refine fx_aload_n 0 dq_LA_commit_2 rfl rfl ?_
  refine fx_iload_n 1 dq_LA_commit_3 rfl rfl ?_
  rcases hO with ⟨v, rfl⟩ | rfl | rfl
  · refine fx_Vb1 ok (mc := 0) (ms := 0) sq_LA_43 hw hC (by decide) (Nat.le_of_ble_eq_true rfl) dq_LA_commit_4 ?_
    refine fx_i2l dq_LA_commit_7 ?_
    refine fx_lastore ok hz (by unfold vp_in; decide) dq_LA_commit_8 ?_
    refine fx_goto (tgt := 18) dq_LA_commit_9 (by decide) ?_
    refine fx_iconst (v := 0) dq_LA_commit_18 (by decide) ?_
    exact fx_ireturn rfl dq_LA_commit_19 ⟨rfl, rfl⟩
  · refine fx_Vt1 ok (mc := 0) (ms := 0) sq_LA_43 hw hC (by decide) (Nat.le_of_ble_eq_true rfl) dq_LA_commit_4 ?_
    refine fx_T_catch ok (pre' := []) (suf' := [(0, 9, 15, 15)]) (name := "java/lang/IllegalArgumentException") rfl (by decide) (by decide) lk_LA_13 kz_IAE (fun r hr => nomatch hr) (fun q => ?_)
    refine fx_astore_n dq_LA_commit_12 rfl (by decide) rfl ?_
    refine fx_iconst (v := 1) dq_LA_commit_13 (by decide) ?_
    exact fx_ireturn rfl dq_LA_commit_14 ⟨rfl, rfl⟩
  · refine fx_Vt1 ok (mc := 0) (ms := 0) sq_LA_43 hw hC (by decide) (Nat.le_of_ble_eq_true rfl) dq_LA_commit_4 ?_
    refine fx_T_catch ok (pre' := [(0, 9, 12, 13)]) (suf' := []) (name := "java/lang/IllegalStateException") rfl (by decide) (by decide) lk_LA_15 kz_ISE (fun r hr => by rw [List.mem_singleton.mp hr]; exact Or.inr ⟨by decide, _, lk_LA_13, kt_ISE⟩) (fun q => ?_)
    refine fx_astore_n dq_LA_commit_15 rfl (by decide) rfl ?_
    refine fx_iconst (v := 2) dq_LA_commit_16 (by decide) ?_
    exact fx_ireturn rfl dq_LA_commit_17 ⟨rfl, rfl⟩
set_option maxHeartbeats 600000 in
theorem c_LA_draw {g : fx_G} (ok : fx_ok g) (h k : fx_H) (w : Nat) (x : Int32) (O : fx_O) (hw : fx_s h w = some (.inl 0)) (z : Nat) (hz : fx_s k z = some (.inr (2, 1))) (hO : OA O) (h1 : O1 O) (hC : fx_C g mq_FS_draw [.ref w, .int x] h (fx_ou O k) 1 6) : fx_C g mq_LA_draw [.ref w, .int x, .ref z] h (fx_is (some (cod O)) (outH z O k)) 1 6 := by
  refine fx_body (by decide +kernel) (Nat.le_of_ble_eq_true rfl) ?_
  show fx_X g mq_LA_draw 0 [(0, .ref w), (1, .int x), (2, .ref z)] [] h _ 1 6
  refine fx_aload_n 2 dq_LA_draw_0 rfl rfl ?_
  refine fx_iconst (v := 0) dq_LA_draw_1 (by decide) ?_
  refine fx_aload_n 0 dq_LA_draw_2 rfl rfl ?_
  refine fx_iload_n 1 dq_LA_draw_3 rfl rfl ?_
  rcases hO with ⟨v, rfl⟩ | rfl | rfl
  · refine fx_Vb1 ok (mc := 0) (ms := 0) sq_LA_47 hw hC (by decide) (Nat.le_of_ble_eq_true rfl) dq_LA_draw_4 ?_
    refine fx_i2l dq_LA_draw_7 ?_
    refine fx_lastore ok hz (by unfold vp_in; decide) dq_LA_draw_8 ?_
    refine fx_goto (tgt := 15) dq_LA_draw_9 (by decide) ?_
    refine fx_iconst (v := 0) dq_LA_draw_15 (by decide) ?_
    exact fx_ireturn rfl dq_LA_draw_16 ⟨rfl, rfl⟩
  · refine fx_Vt1 ok (mc := 0) (ms := 0) sq_LA_47 hw hC (by decide) (Nat.le_of_ble_eq_true rfl) dq_LA_draw_4 ?_
    refine fx_T_catch ok (pre' := []) (suf' := []) (name := "java/lang/IllegalArgumentException") rfl (by decide) (by decide) lk_LA_13 kz_IAE (fun r hr => nomatch hr) (fun q => ?_)
    refine fx_astore_n dq_LA_draw_12 rfl (by decide) rfl ?_
    refine fx_iconst (v := 1) dq_LA_draw_13 (by decide) ?_
    exact fx_ireturn rfl dq_LA_draw_14 ⟨rfl, rfl⟩
  · exact absurd (h1 _ rfl) (by decide)
