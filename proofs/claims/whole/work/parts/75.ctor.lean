/-! ===== constructors: Planes, Composer, Beam, FrameSwapper ===== -/
theorem n_MA {h : fx_H} {n : Nat} (hn : fx_n h = n) : fx_n (fx_ma h) = n + 3 := congrArg (· + 3) hn
theorem s_MA {h : fx_H} {n a : Nat} (hn : fx_n h = n) (ha : a < n) : fx_s (fx_ma h) a = fx_s h a := by
  simp only [fx_ma, fx_s_nw, fx_s_wr, fx_n_nw, fx_n_wr, hn]
  repeat rw [if_neg (by omega)]
theorem r_MA {h : fx_H} {n a : Nat} (hn : fx_n h = n) (ha : a < n) (j : Nat) : fx_r (fx_ma h) a j = fx_r h a j := by
  simp only [fx_ma, fx_r_nw, fx_r_wr, fx_n_nw, fx_n_wr, hn]
  repeat rw [if_neg (by omega)]
theorem i_MA {h : fx_H} {n a : Nat} (hn : fx_n h = n) (ha : a < n) (j : Nat) : fx_i (fx_ma h) a j = fx_i h a j := by
  simp only [fx_ma, fx_i_nw, fx_i_wr, fx_n_nw, fx_n_wr, hn]
  repeat rw [if_neg (by omega)]
def k_PN_init (h : fx_H) (p : Nat) : fx_H := fx_wr (fx_ma (fx_wr (fx_wr (fx_nw (fx_wr (fx_nw (fx_nw (fx_wr (fx_wi (fx_wi (fx_nw h (.inr (0, 2))) (p + 1) 0 (-1)) (p + 1) 1 (-1)) p 0 (some (p + 1))) (.inr (4, 2))) (.inl 1)) (p + 2) 0 (some (p + 3))) (.inl 1)) (p + 2) 1 (some (p + 4))) p 1 (some (p + 2)))) p 2 (some (p + 5))
set_option maxRecDepth 100000 in
set_option maxHeartbeats 1000000 in
theorem c_PN_init {g : fx_G} (ok : fx_ok g) (h : fx_H) (p : Nat) (hn : fx_n h = p + 1) (hp : fx_s h p = some (.inl 7)) : fx_C g mq_PN_init [.ref p] h (fx_is none (k_PN_init h p)) 7 62 := by
  refine fx_body (by decide +kernel) (Nat.le_of_ble_eq_true rfl) ?_
  show fx_X g mq_PN_init 0 [(0, .ref p)] [] h _ 7 62
  refine fx_aload_n 0 dq_PN_init_0 rfl rfl ?_
  refine fx_objInit ok sq_PN_3 kj_obj.1 kj_obj.2 (by decide) (Nat.le_of_ble_eq_true rfl) dq_PN_init_1 ?_
  refine fx_aload_n 0 dq_PN_init_4 rfl rfl ?_
  refine fx_iconst (v := 2) dq_PN_init_5 (by decide) ?_
  refine fx_newa ok (mc := 6) (ms := 60) (atype := .int) (ak := 0) (N := 2) rfl (by decide) (by decide) (by decide) (by intro C hC; cases hC) ka_int (by decide) (by decide) (by decide) dq_PN_init_6 ?_
  rw [hn]
  have s1_0 : fx_s (fx_nw h (.inr (0, 2))) (p + 0) = some (.inl 7) := (nw_o hn (by omega)).trans hp
  have s1_1 : fx_s (fx_nw h (.inr (0, 2))) (p + 1) = some (.inr (0, 2)) := nw_s h (.inr (0, 2)) hn
  have n1 : fx_n (fx_nw h (.inr (0, 2))) = p + 2 := congrArg (· + 1) hn
  refine fx_dup dq_PN_init_8 rfl ?_
  refine fx_iconst (v := 0) dq_PN_init_9 (by decide) ?_
  refine fx_iconst (v := -1) dq_PN_init_10 (by decide) ?_
  refine fx_iastore ok s1_1 (by unfold vp_in; decide) dq_PN_init_11 ?_
  refine fx_eqh (h' := fx_wi (fx_nw h (.inr (0, 2))) (p + 1) 0 (-1)) rfl ?_
  have s2_0 : fx_s (fx_wi (fx_nw h (.inr (0, 2))) (p + 1) 0 (-1)) (p + 0) = some (.inl 7) := s1_0
  have s2_1 : fx_s (fx_wi (fx_nw h (.inr (0, 2))) (p + 1) 0 (-1)) (p + 1) = some (.inr (0, 2)) := s1_1
  have n2 : fx_n (fx_wi (fx_nw h (.inr (0, 2))) (p + 1) 0 (-1)) = p + 2 := n1
  refine fx_dup dq_PN_init_12 rfl ?_
  refine fx_iconst (v := 1) dq_PN_init_13 (by decide) ?_
  refine fx_iconst (v := -1) dq_PN_init_14 (by decide) ?_
  refine fx_iastore ok s2_1 (by unfold vp_in; decide) dq_PN_init_15 ?_
  refine fx_eqh (h' := fx_wi (fx_wi (fx_nw h (.inr (0, 2))) (p + 1) 0 (-1)) (p + 1) 1 (-1)) rfl ?_
  have s3_0 : fx_s (fx_wi (fx_wi (fx_nw h (.inr (0, 2))) (p + 1) 0 (-1)) (p + 1) 1 (-1)) (p + 0) = some (.inl 7) := s2_0
  have s3_1 : fx_s (fx_wi (fx_wi (fx_nw h (.inr (0, 2))) (p + 1) 0 (-1)) (p + 1) 1 (-1)) (p + 1) = some (.inr (0, 2)) := s2_1
  have n3 : fx_n (fx_wi (fx_wi (fx_nw h (.inr (0, 2))) (p + 1) 0 (-1)) (p + 1) 1 (-1)) = p + 2 := n2
  refine fx_putr ok fp_PN_9 s3_0 (fun _ => rfl) dq_PN_init_16 (by decide) ?_
  have s4_0 : fx_s (fx_wr (fx_wi (fx_wi (fx_nw h (.inr (0, 2))) (p + 1) 0 (-1)) (p + 1) 1 (-1)) p 0 (some (p + 1))) (p + 0) = some (.inl 7) := s3_0
  have s4_1 : fx_s (fx_wr (fx_wi (fx_wi (fx_nw h (.inr (0, 2))) (p + 1) 0 (-1)) (p + 1) 1 (-1)) p 0 (some (p + 1))) (p + 1) = some (.inr (0, 2)) := s3_1
  have n4 : fx_n (fx_wr (fx_wi (fx_wi (fx_nw h (.inr (0, 2))) (p + 1) 0 (-1)) (p + 1) 1 (-1)) p 0 (some (p + 1))) = p + 2 := n3
  refine fx_aload_n 0 dq_PN_init_19 rfl rfl ?_
  refine fx_iconst (v := 2) dq_PN_init_20 (by decide) ?_
  refine fx_anew ok (mc := 5) (ms := 58) (ak := 4) (N := 2) rfl (by decide) lk_PN_15 (fx_ov ok kv_RE) (by decide) (by decide) (by decide) dq_PN_init_21 ?_
  rw [n4]
  have s5_0 : fx_s (fx_nw (fx_wr (fx_wi (fx_wi (fx_nw h (.inr (0, 2))) (p + 1) 0 (-1)) (p + 1) 1 (-1)) p 0 (some (p + 1))) (.inr (4, 2))) (p + 0) = some (.inl 7) := (nw_o n4 (by omega)).trans s4_0
  have s5_1 : fx_s (fx_nw (fx_wr (fx_wi (fx_wi (fx_nw h (.inr (0, 2))) (p + 1) 0 (-1)) (p + 1) 1 (-1)) p 0 (some (p + 1))) (.inr (4, 2))) (p + 1) = some (.inr (0, 2)) := (nw_o n4 (by omega)).trans s4_1
  have s5_2 : fx_s (fx_nw (fx_wr (fx_wi (fx_wi (fx_nw h (.inr (0, 2))) (p + 1) 0 (-1)) (p + 1) 1 (-1)) p 0 (some (p + 1))) (.inr (4, 2))) (p + 2) = some (.inr (4, 2)) := nw_s (fx_wr (fx_wi (fx_wi (fx_nw h (.inr (0, 2))) (p + 1) 0 (-1)) (p + 1) 1 (-1)) p 0 (some (p + 1))) (.inr (4, 2)) n4
  have n5 : fx_n (fx_nw (fx_wr (fx_wi (fx_wi (fx_nw h (.inr (0, 2))) (p + 1) 0 (-1)) (p + 1) 1 (-1)) p 0 (some (p + 1))) (.inr (4, 2))) = p + 3 := congrArg (· + 1) n4
  refine fx_dup dq_PN_init_24 rfl ?_
  refine fx_iconst (v := 0) dq_PN_init_25 (by decide) ?_
  refine fx_new ok (mc := 4) (ms := 54) (ci := 1) (N := 4) rfl lq_RE tq_RE_ok nw_RE lk_PN_15 ko_RE kn_RE dq_PN_init_26 ?_
  rw [n5]
  have s6_0 : fx_s (fx_nw (fx_nw (fx_wr (fx_wi (fx_wi (fx_nw h (.inr (0, 2))) (p + 1) 0 (-1)) (p + 1) 1 (-1)) p 0 (some (p + 1))) (.inr (4, 2))) (.inl 1)) (p + 0) = some (.inl 7) := (nw_o n5 (by omega)).trans s5_0
  have s6_1 : fx_s (fx_nw (fx_nw (fx_wr (fx_wi (fx_wi (fx_nw h (.inr (0, 2))) (p + 1) 0 (-1)) (p + 1) 1 (-1)) p 0 (some (p + 1))) (.inr (4, 2))) (.inl 1)) (p + 1) = some (.inr (0, 2)) := (nw_o n5 (by omega)).trans s5_1
  have s6_2 : fx_s (fx_nw (fx_nw (fx_wr (fx_wi (fx_wi (fx_nw h (.inr (0, 2))) (p + 1) 0 (-1)) (p + 1) 1 (-1)) p 0 (some (p + 1))) (.inr (4, 2))) (.inl 1)) (p + 2) = some (.inr (4, 2)) := (nw_o n5 (by omega)).trans s5_2
  have s6_3 : fx_s (fx_nw (fx_nw (fx_wr (fx_wi (fx_wi (fx_nw h (.inr (0, 2))) (p + 1) 0 (-1)) (p + 1) 1 (-1)) p 0 (some (p + 1))) (.inr (4, 2))) (.inl 1)) (p + 3) = some (.inl 1) := nw_s (fx_nw (fx_wr (fx_wi (fx_wi (fx_nw h (.inr (0, 2))) (p + 1) 0 (-1)) (p + 1) 1 (-1)) p 0 (some (p + 1))) (.inr (4, 2))) (.inl 1) n5
  have n6 : fx_n (fx_nw (fx_nw (fx_wr (fx_wi (fx_wi (fx_nw h (.inr (0, 2))) (p + 1) 0 (-1)) (p + 1) 1 (-1)) p 0 (some (p + 1))) (.inr (4, 2))) (.inl 1)) = p + 4 := congrArg (· + 1) n5
  refine fx_dup dq_PN_init_29 rfl ?_
  refine fx_Na0 ok (mc' := 0) (ms' := 0) (mc := 4) (ms := 54) sq_PN_17 (cr_init ok _ (p + 3) s6_3) (by decide) (Nat.le_of_ble_eq_true rfl) dq_PN_init_30 ?_
  refine fx_aastore ok s6_2 (by decide) rfl s6_3 rfl (by unfold vp_in; decide) dq_PN_init_33 ?_
  refine fx_eqh (h' := fx_wr (fx_nw (fx_nw (fx_wr (fx_wi (fx_wi (fx_nw h (.inr (0, 2))) (p + 1) 0 (-1)) (p + 1) 1 (-1)) p 0 (some (p + 1))) (.inr (4, 2))) (.inl 1)) (p + 2) 0 (some (p + 3))) rfl ?_
  have s7_0 : fx_s (fx_wr (fx_nw (fx_nw (fx_wr (fx_wi (fx_wi (fx_nw h (.inr (0, 2))) (p + 1) 0 (-1)) (p + 1) 1 (-1)) p 0 (some (p + 1))) (.inr (4, 2))) (.inl 1)) (p + 2) 0 (some (p + 3))) (p + 0) = some (.inl 7) := s6_0
  have s7_1 : fx_s (fx_wr (fx_nw (fx_nw (fx_wr (fx_wi (fx_wi (fx_nw h (.inr (0, 2))) (p + 1) 0 (-1)) (p + 1) 1 (-1)) p 0 (some (p + 1))) (.inr (4, 2))) (.inl 1)) (p + 2) 0 (some (p + 3))) (p + 1) = some (.inr (0, 2)) := s6_1
  have s7_2 : fx_s (fx_wr (fx_nw (fx_nw (fx_wr (fx_wi (fx_wi (fx_nw h (.inr (0, 2))) (p + 1) 0 (-1)) (p + 1) 1 (-1)) p 0 (some (p + 1))) (.inr (4, 2))) (.inl 1)) (p + 2) 0 (some (p + 3))) (p + 2) = some (.inr (4, 2)) := s6_2
  have s7_3 : fx_s (fx_wr (fx_nw (fx_nw (fx_wr (fx_wi (fx_wi (fx_nw h (.inr (0, 2))) (p + 1) 0 (-1)) (p + 1) 1 (-1)) p 0 (some (p + 1))) (.inr (4, 2))) (.inl 1)) (p + 2) 0 (some (p + 3))) (p + 3) = some (.inl 1) := s6_3
  have n7 : fx_n (fx_wr (fx_nw (fx_nw (fx_wr (fx_wi (fx_wi (fx_nw h (.inr (0, 2))) (p + 1) 0 (-1)) (p + 1) 1 (-1)) p 0 (some (p + 1))) (.inr (4, 2))) (.inl 1)) (p + 2) 0 (some (p + 3))) = p + 4 := n6
  refine fx_dup dq_PN_init_34 rfl ?_
  refine fx_iconst (v := 1) dq_PN_init_35 (by decide) ?_
  refine fx_new ok (mc := 3) (ms := 50) (ci := 1) (N := 4) rfl lq_RE tq_RE_ok nw_RE lk_PN_15 ko_RE kn_RE dq_PN_init_36 ?_
  rw [n7]
  have s8_0 : fx_s (fx_nw (fx_wr (fx_nw (fx_nw (fx_wr (fx_wi (fx_wi (fx_nw h (.inr (0, 2))) (p + 1) 0 (-1)) (p + 1) 1 (-1)) p 0 (some (p + 1))) (.inr (4, 2))) (.inl 1)) (p + 2) 0 (some (p + 3))) (.inl 1)) (p + 0) = some (.inl 7) := (nw_o n7 (by omega)).trans s7_0
  have s8_1 : fx_s (fx_nw (fx_wr (fx_nw (fx_nw (fx_wr (fx_wi (fx_wi (fx_nw h (.inr (0, 2))) (p + 1) 0 (-1)) (p + 1) 1 (-1)) p 0 (some (p + 1))) (.inr (4, 2))) (.inl 1)) (p + 2) 0 (some (p + 3))) (.inl 1)) (p + 1) = some (.inr (0, 2)) := (nw_o n7 (by omega)).trans s7_1
  have s8_2 : fx_s (fx_nw (fx_wr (fx_nw (fx_nw (fx_wr (fx_wi (fx_wi (fx_nw h (.inr (0, 2))) (p + 1) 0 (-1)) (p + 1) 1 (-1)) p 0 (some (p + 1))) (.inr (4, 2))) (.inl 1)) (p + 2) 0 (some (p + 3))) (.inl 1)) (p + 2) = some (.inr (4, 2)) := (nw_o n7 (by omega)).trans s7_2
  have s8_3 : fx_s (fx_nw (fx_wr (fx_nw (fx_nw (fx_wr (fx_wi (fx_wi (fx_nw h (.inr (0, 2))) (p + 1) 0 (-1)) (p + 1) 1 (-1)) p 0 (some (p + 1))) (.inr (4, 2))) (.inl 1)) (p + 2) 0 (some (p + 3))) (.inl 1)) (p + 3) = some (.inl 1) := (nw_o n7 (by omega)).trans s7_3
  have s8_4 : fx_s (fx_nw (fx_wr (fx_nw (fx_nw (fx_wr (fx_wi (fx_wi (fx_nw h (.inr (0, 2))) (p + 1) 0 (-1)) (p + 1) 1 (-1)) p 0 (some (p + 1))) (.inr (4, 2))) (.inl 1)) (p + 2) 0 (some (p + 3))) (.inl 1)) (p + 4) = some (.inl 1) := nw_s (fx_wr (fx_nw (fx_nw (fx_wr (fx_wi (fx_wi (fx_nw h (.inr (0, 2))) (p + 1) 0 (-1)) (p + 1) 1 (-1)) p 0 (some (p + 1))) (.inr (4, 2))) (.inl 1)) (p + 2) 0 (some (p + 3))) (.inl 1) n7
  have n8 : fx_n (fx_nw (fx_wr (fx_nw (fx_nw (fx_wr (fx_wi (fx_wi (fx_nw h (.inr (0, 2))) (p + 1) 0 (-1)) (p + 1) 1 (-1)) p 0 (some (p + 1))) (.inr (4, 2))) (.inl 1)) (p + 2) 0 (some (p + 3))) (.inl 1)) = p + 5 := congrArg (· + 1) n7
  refine fx_dup dq_PN_init_39 rfl ?_
  refine fx_Na0 ok (mc' := 0) (ms' := 0) (mc := 3) (ms := 50) sq_PN_17 (cr_init ok _ (p + 4) s8_4) (by decide) (Nat.le_of_ble_eq_true rfl) dq_PN_init_40 ?_
  refine fx_aastore ok s8_2 (by decide) rfl s8_4 rfl (by unfold vp_in; decide) dq_PN_init_43 ?_
  refine fx_eqh (h' := fx_wr (fx_nw (fx_wr (fx_nw (fx_nw (fx_wr (fx_wi (fx_wi (fx_nw h (.inr (0, 2))) (p + 1) 0 (-1)) (p + 1) 1 (-1)) p 0 (some (p + 1))) (.inr (4, 2))) (.inl 1)) (p + 2) 0 (some (p + 3))) (.inl 1)) (p + 2) 1 (some (p + 4))) rfl ?_
  have s9_0 : fx_s (fx_wr (fx_nw (fx_wr (fx_nw (fx_nw (fx_wr (fx_wi (fx_wi (fx_nw h (.inr (0, 2))) (p + 1) 0 (-1)) (p + 1) 1 (-1)) p 0 (some (p + 1))) (.inr (4, 2))) (.inl 1)) (p + 2) 0 (some (p + 3))) (.inl 1)) (p + 2) 1 (some (p + 4))) (p + 0) = some (.inl 7) := s8_0
  have s9_1 : fx_s (fx_wr (fx_nw (fx_wr (fx_nw (fx_nw (fx_wr (fx_wi (fx_wi (fx_nw h (.inr (0, 2))) (p + 1) 0 (-1)) (p + 1) 1 (-1)) p 0 (some (p + 1))) (.inr (4, 2))) (.inl 1)) (p + 2) 0 (some (p + 3))) (.inl 1)) (p + 2) 1 (some (p + 4))) (p + 1) = some (.inr (0, 2)) := s8_1
  have s9_2 : fx_s (fx_wr (fx_nw (fx_wr (fx_nw (fx_nw (fx_wr (fx_wi (fx_wi (fx_nw h (.inr (0, 2))) (p + 1) 0 (-1)) (p + 1) 1 (-1)) p 0 (some (p + 1))) (.inr (4, 2))) (.inl 1)) (p + 2) 0 (some (p + 3))) (.inl 1)) (p + 2) 1 (some (p + 4))) (p + 2) = some (.inr (4, 2)) := s8_2
  have s9_3 : fx_s (fx_wr (fx_nw (fx_wr (fx_nw (fx_nw (fx_wr (fx_wi (fx_wi (fx_nw h (.inr (0, 2))) (p + 1) 0 (-1)) (p + 1) 1 (-1)) p 0 (some (p + 1))) (.inr (4, 2))) (.inl 1)) (p + 2) 0 (some (p + 3))) (.inl 1)) (p + 2) 1 (some (p + 4))) (p + 3) = some (.inl 1) := s8_3
  have s9_4 : fx_s (fx_wr (fx_nw (fx_wr (fx_nw (fx_nw (fx_wr (fx_wi (fx_wi (fx_nw h (.inr (0, 2))) (p + 1) 0 (-1)) (p + 1) 1 (-1)) p 0 (some (p + 1))) (.inr (4, 2))) (.inl 1)) (p + 2) 0 (some (p + 3))) (.inl 1)) (p + 2) 1 (some (p + 4))) (p + 4) = some (.inl 1) := s8_4
  have n9 : fx_n (fx_wr (fx_nw (fx_wr (fx_nw (fx_nw (fx_wr (fx_wi (fx_wi (fx_nw h (.inr (0, 2))) (p + 1) 0 (-1)) (p + 1) 1 (-1)) p 0 (some (p + 1))) (.inr (4, 2))) (.inl 1)) (p + 2) 0 (some (p + 3))) (.inl 1)) (p + 2) 1 (some (p + 4))) = p + 5 := n8
  refine fx_putr ok fp_PN_18 s9_0 (fun _ => rfl) dq_PN_init_44 (by decide) ?_
  have s10_0 : fx_s (fx_wr (fx_wr (fx_nw (fx_wr (fx_nw (fx_nw (fx_wr (fx_wi (fx_wi (fx_nw h (.inr (0, 2))) (p + 1) 0 (-1)) (p + 1) 1 (-1)) p 0 (some (p + 1))) (.inr (4, 2))) (.inl 1)) (p + 2) 0 (some (p + 3))) (.inl 1)) (p + 2) 1 (some (p + 4))) p 1 (some (p + 2))) (p + 0) = some (.inl 7) := s9_0
  have s10_1 : fx_s (fx_wr (fx_wr (fx_nw (fx_wr (fx_nw (fx_nw (fx_wr (fx_wi (fx_wi (fx_nw h (.inr (0, 2))) (p + 1) 0 (-1)) (p + 1) 1 (-1)) p 0 (some (p + 1))) (.inr (4, 2))) (.inl 1)) (p + 2) 0 (some (p + 3))) (.inl 1)) (p + 2) 1 (some (p + 4))) p 1 (some (p + 2))) (p + 1) = some (.inr (0, 2)) := s9_1
  have s10_2 : fx_s (fx_wr (fx_wr (fx_nw (fx_wr (fx_nw (fx_nw (fx_wr (fx_wi (fx_wi (fx_nw h (.inr (0, 2))) (p + 1) 0 (-1)) (p + 1) 1 (-1)) p 0 (some (p + 1))) (.inr (4, 2))) (.inl 1)) (p + 2) 0 (some (p + 3))) (.inl 1)) (p + 2) 1 (some (p + 4))) p 1 (some (p + 2))) (p + 2) = some (.inr (4, 2)) := s9_2
  have s10_3 : fx_s (fx_wr (fx_wr (fx_nw (fx_wr (fx_nw (fx_nw (fx_wr (fx_wi (fx_wi (fx_nw h (.inr (0, 2))) (p + 1) 0 (-1)) (p + 1) 1 (-1)) p 0 (some (p + 1))) (.inr (4, 2))) (.inl 1)) (p + 2) 0 (some (p + 3))) (.inl 1)) (p + 2) 1 (some (p + 4))) p 1 (some (p + 2))) (p + 3) = some (.inl 1) := s9_3
  have s10_4 : fx_s (fx_wr (fx_wr (fx_nw (fx_wr (fx_nw (fx_nw (fx_wr (fx_wi (fx_wi (fx_nw h (.inr (0, 2))) (p + 1) 0 (-1)) (p + 1) 1 (-1)) p 0 (some (p + 1))) (.inr (4, 2))) (.inl 1)) (p + 2) 0 (some (p + 3))) (.inl 1)) (p + 2) 1 (some (p + 4))) p 1 (some (p + 2))) (p + 4) = some (.inl 1) := s9_4
  have n10 : fx_n (fx_wr (fx_wr (fx_nw (fx_wr (fx_nw (fx_nw (fx_wr (fx_wi (fx_wi (fx_nw h (.inr (0, 2))) (p + 1) 0 (-1)) (p + 1) 1 (-1)) p 0 (some (p + 1))) (.inr (4, 2))) (.inl 1)) (p + 2) 0 (some (p + 3))) (.inl 1)) (p + 2) 1 (some (p + 4))) p 1 (some (p + 2))) = p + 5 := n9
  refine fx_aload_n 0 dq_PN_init_47 rfl rfl ?_
  refine fx_iconst (v := 2) dq_PN_init_48 (by decide) ?_
  refine fx_bipush (v := 24) dq_PN_init_49 (by decide) ?_
  refine fx_multi ok (mc := 0) (ms := 0) lk_PN_22 kv_I ka_int dq_PN_init_51 ?_
  rw [n10]
  have s11_0 : fx_s (fx_ma (fx_wr (fx_wr (fx_nw (fx_wr (fx_nw (fx_nw (fx_wr (fx_wi (fx_wi (fx_nw h (.inr (0, 2))) (p + 1) 0 (-1)) (p + 1) 1 (-1)) p 0 (some (p + 1))) (.inr (4, 2))) (.inl 1)) (p + 2) 0 (some (p + 3))) (.inl 1)) (p + 2) 1 (some (p + 4))) p 1 (some (p + 2)))) (p + 0) = some (.inl 7) := (s_MA n10 (by omega)).trans s10_0
  have s11_1 : fx_s (fx_ma (fx_wr (fx_wr (fx_nw (fx_wr (fx_nw (fx_nw (fx_wr (fx_wi (fx_wi (fx_nw h (.inr (0, 2))) (p + 1) 0 (-1)) (p + 1) 1 (-1)) p 0 (some (p + 1))) (.inr (4, 2))) (.inl 1)) (p + 2) 0 (some (p + 3))) (.inl 1)) (p + 2) 1 (some (p + 4))) p 1 (some (p + 2)))) (p + 1) = some (.inr (0, 2)) := (s_MA n10 (by omega)).trans s10_1
  have s11_2 : fx_s (fx_ma (fx_wr (fx_wr (fx_nw (fx_wr (fx_nw (fx_nw (fx_wr (fx_wi (fx_wi (fx_nw h (.inr (0, 2))) (p + 1) 0 (-1)) (p + 1) 1 (-1)) p 0 (some (p + 1))) (.inr (4, 2))) (.inl 1)) (p + 2) 0 (some (p + 3))) (.inl 1)) (p + 2) 1 (some (p + 4))) p 1 (some (p + 2)))) (p + 2) = some (.inr (4, 2)) := (s_MA n10 (by omega)).trans s10_2
  have s11_3 : fx_s (fx_ma (fx_wr (fx_wr (fx_nw (fx_wr (fx_nw (fx_nw (fx_wr (fx_wi (fx_wi (fx_nw h (.inr (0, 2))) (p + 1) 0 (-1)) (p + 1) 1 (-1)) p 0 (some (p + 1))) (.inr (4, 2))) (.inl 1)) (p + 2) 0 (some (p + 3))) (.inl 1)) (p + 2) 1 (some (p + 4))) p 1 (some (p + 2)))) (p + 3) = some (.inl 1) := (s_MA n10 (by omega)).trans s10_3
  have s11_4 : fx_s (fx_ma (fx_wr (fx_wr (fx_nw (fx_wr (fx_nw (fx_nw (fx_wr (fx_wi (fx_wi (fx_nw h (.inr (0, 2))) (p + 1) 0 (-1)) (p + 1) 1 (-1)) p 0 (some (p + 1))) (.inr (4, 2))) (.inl 1)) (p + 2) 0 (some (p + 3))) (.inl 1)) (p + 2) 1 (some (p + 4))) p 1 (some (p + 2)))) (p + 4) = some (.inl 1) := (s_MA n10 (by omega)).trans s10_4
  have n11 : fx_n (fx_ma (fx_wr (fx_wr (fx_nw (fx_wr (fx_nw (fx_nw (fx_wr (fx_wi (fx_wi (fx_nw h (.inr (0, 2))) (p + 1) 0 (-1)) (p + 1) 1 (-1)) p 0 (some (p + 1))) (.inr (4, 2))) (.inl 1)) (p + 2) 0 (some (p + 3))) (.inl 1)) (p + 2) 1 (some (p + 4))) p 1 (some (p + 2)))) = p + 8 := n_MA n10
  refine fx_putr ok fp_PN_24 s11_0 (fun _ => rfl) dq_PN_init_55 (by decide) ?_
  have s12_0 : fx_s (fx_wr (fx_ma (fx_wr (fx_wr (fx_nw (fx_wr (fx_nw (fx_nw (fx_wr (fx_wi (fx_wi (fx_nw h (.inr (0, 2))) (p + 1) 0 (-1)) (p + 1) 1 (-1)) p 0 (some (p + 1))) (.inr (4, 2))) (.inl 1)) (p + 2) 0 (some (p + 3))) (.inl 1)) (p + 2) 1 (some (p + 4))) p 1 (some (p + 2)))) p 2 (some (p + 5))) (p + 0) = some (.inl 7) := s11_0
  have s12_1 : fx_s (fx_wr (fx_ma (fx_wr (fx_wr (fx_nw (fx_wr (fx_nw (fx_nw (fx_wr (fx_wi (fx_wi (fx_nw h (.inr (0, 2))) (p + 1) 0 (-1)) (p + 1) 1 (-1)) p 0 (some (p + 1))) (.inr (4, 2))) (.inl 1)) (p + 2) 0 (some (p + 3))) (.inl 1)) (p + 2) 1 (some (p + 4))) p 1 (some (p + 2)))) p 2 (some (p + 5))) (p + 1) = some (.inr (0, 2)) := s11_1
  have s12_2 : fx_s (fx_wr (fx_ma (fx_wr (fx_wr (fx_nw (fx_wr (fx_nw (fx_nw (fx_wr (fx_wi (fx_wi (fx_nw h (.inr (0, 2))) (p + 1) 0 (-1)) (p + 1) 1 (-1)) p 0 (some (p + 1))) (.inr (4, 2))) (.inl 1)) (p + 2) 0 (some (p + 3))) (.inl 1)) (p + 2) 1 (some (p + 4))) p 1 (some (p + 2)))) p 2 (some (p + 5))) (p + 2) = some (.inr (4, 2)) := s11_2
  have s12_3 : fx_s (fx_wr (fx_ma (fx_wr (fx_wr (fx_nw (fx_wr (fx_nw (fx_nw (fx_wr (fx_wi (fx_wi (fx_nw h (.inr (0, 2))) (p + 1) 0 (-1)) (p + 1) 1 (-1)) p 0 (some (p + 1))) (.inr (4, 2))) (.inl 1)) (p + 2) 0 (some (p + 3))) (.inl 1)) (p + 2) 1 (some (p + 4))) p 1 (some (p + 2)))) p 2 (some (p + 5))) (p + 3) = some (.inl 1) := s11_3
  have s12_4 : fx_s (fx_wr (fx_ma (fx_wr (fx_wr (fx_nw (fx_wr (fx_nw (fx_nw (fx_wr (fx_wi (fx_wi (fx_nw h (.inr (0, 2))) (p + 1) 0 (-1)) (p + 1) 1 (-1)) p 0 (some (p + 1))) (.inr (4, 2))) (.inl 1)) (p + 2) 0 (some (p + 3))) (.inl 1)) (p + 2) 1 (some (p + 4))) p 1 (some (p + 2)))) p 2 (some (p + 5))) (p + 4) = some (.inl 1) := s11_4
  have n12 : fx_n (fx_wr (fx_ma (fx_wr (fx_wr (fx_nw (fx_wr (fx_nw (fx_nw (fx_wr (fx_wi (fx_wi (fx_nw h (.inr (0, 2))) (p + 1) 0 (-1)) (p + 1) 1 (-1)) p 0 (some (p + 1))) (.inr (4, 2))) (.inl 1)) (p + 2) 0 (some (p + 3))) (.inl 1)) (p + 2) 1 (some (p + 4))) p 1 (some (p + 2)))) p 2 (some (p + 5))) = p + 8 := n11
  exact fx_vreturn rfl dq_PN_init_58 ⟨rfl, rfl⟩
theorem n_PN_init {h : fx_H} {p : Nat} (hn : fx_n h = p + 1) : fx_n (k_PN_init h p) = p + 8 := by
  have n0 : fx_n (fx_nw h (.inr (0, 2))) = p + 2 := congrArg (· + 1) hn
  have n1 : fx_n (fx_wi (fx_nw h (.inr (0, 2))) (p + 1) 0 (-1)) = p + 2 := n0
  have n2 : fx_n (fx_wi (fx_wi (fx_nw h (.inr (0, 2))) (p + 1) 0 (-1)) (p + 1) 1 (-1)) = p + 2 := n1
  have n3 : fx_n (fx_wr (fx_wi (fx_wi (fx_nw h (.inr (0, 2))) (p + 1) 0 (-1)) (p + 1) 1 (-1)) p 0 (some (p + 1))) = p + 2 := n2
  have n4 : fx_n (fx_nw (fx_wr (fx_wi (fx_wi (fx_nw h (.inr (0, 2))) (p + 1) 0 (-1)) (p + 1) 1 (-1)) p 0 (some (p + 1))) (.inr (4, 2))) = p + 3 := congrArg (· + 1) n3
  have n5 : fx_n (fx_nw (fx_nw (fx_wr (fx_wi (fx_wi (fx_nw h (.inr (0, 2))) (p + 1) 0 (-1)) (p + 1) 1 (-1)) p 0 (some (p + 1))) (.inr (4, 2))) (.inl 1)) = p + 4 := congrArg (· + 1) n4
  have n6 : fx_n (fx_wr (fx_nw (fx_nw (fx_wr (fx_wi (fx_wi (fx_nw h (.inr (0, 2))) (p + 1) 0 (-1)) (p + 1) 1 (-1)) p 0 (some (p + 1))) (.inr (4, 2))) (.inl 1)) (p + 2) 0 (some (p + 3))) = p + 4 := n5
  have n7 : fx_n (fx_nw (fx_wr (fx_nw (fx_nw (fx_wr (fx_wi (fx_wi (fx_nw h (.inr (0, 2))) (p + 1) 0 (-1)) (p + 1) 1 (-1)) p 0 (some (p + 1))) (.inr (4, 2))) (.inl 1)) (p + 2) 0 (some (p + 3))) (.inl 1)) = p + 5 := congrArg (· + 1) n6
  have n8 : fx_n (fx_wr (fx_nw (fx_wr (fx_nw (fx_nw (fx_wr (fx_wi (fx_wi (fx_nw h (.inr (0, 2))) (p + 1) 0 (-1)) (p + 1) 1 (-1)) p 0 (some (p + 1))) (.inr (4, 2))) (.inl 1)) (p + 2) 0 (some (p + 3))) (.inl 1)) (p + 2) 1 (some (p + 4))) = p + 5 := n7
  have n9 : fx_n (fx_wr (fx_wr (fx_nw (fx_wr (fx_nw (fx_nw (fx_wr (fx_wi (fx_wi (fx_nw h (.inr (0, 2))) (p + 1) 0 (-1)) (p + 1) 1 (-1)) p 0 (some (p + 1))) (.inr (4, 2))) (.inl 1)) (p + 2) 0 (some (p + 3))) (.inl 1)) (p + 2) 1 (some (p + 4))) p 1 (some (p + 2))) = p + 5 := n8
  have n10 : fx_n (fx_ma (fx_wr (fx_wr (fx_nw (fx_wr (fx_nw (fx_nw (fx_wr (fx_wi (fx_wi (fx_nw h (.inr (0, 2))) (p + 1) 0 (-1)) (p + 1) 1 (-1)) p 0 (some (p + 1))) (.inr (4, 2))) (.inl 1)) (p + 2) 0 (some (p + 3))) (.inl 1)) (p + 2) 1 (some (p + 4))) p 1 (some (p + 2)))) = p + 8 := n_MA n9
  have n11 : fx_n (fx_wr (fx_ma (fx_wr (fx_wr (fx_nw (fx_wr (fx_nw (fx_nw (fx_wr (fx_wi (fx_wi (fx_nw h (.inr (0, 2))) (p + 1) 0 (-1)) (p + 1) 1 (-1)) p 0 (some (p + 1))) (.inr (4, 2))) (.inl 1)) (p + 2) 0 (some (p + 3))) (.inl 1)) (p + 2) 1 (some (p + 4))) p 1 (some (p + 2)))) p 2 (some (p + 5))) = p + 8 := n10
  exact n11
theorem s_PN_init {h : fx_H} {p a : Nat} (hn : fx_n h = p + 1) (ha : a < p + 1) : fx_s (k_PN_init h p) a = fx_s h a := by
  have s0 : fx_s (fx_nw h (.inr (0, 2))) a = fx_s h a := by rw [fx_s_nw, if_neg (by rw [hn]; omega)]
  have n0 : fx_n (fx_nw h (.inr (0, 2))) = p + 2 := congrArg (· + 1) hn
  have s1 : fx_s (fx_wi (fx_nw h (.inr (0, 2))) (p + 1) 0 (-1)) a = fx_s h a := s0
  have n1 : fx_n (fx_wi (fx_nw h (.inr (0, 2))) (p + 1) 0 (-1)) = p + 2 := n0
  have s2 : fx_s (fx_wi (fx_wi (fx_nw h (.inr (0, 2))) (p + 1) 0 (-1)) (p + 1) 1 (-1)) a = fx_s h a := s1
  have n2 : fx_n (fx_wi (fx_wi (fx_nw h (.inr (0, 2))) (p + 1) 0 (-1)) (p + 1) 1 (-1)) = p + 2 := n1
  have s3 : fx_s (fx_wr (fx_wi (fx_wi (fx_nw h (.inr (0, 2))) (p + 1) 0 (-1)) (p + 1) 1 (-1)) p 0 (some (p + 1))) a = fx_s h a := s2
  have n3 : fx_n (fx_wr (fx_wi (fx_wi (fx_nw h (.inr (0, 2))) (p + 1) 0 (-1)) (p + 1) 1 (-1)) p 0 (some (p + 1))) = p + 2 := n2
  have s4 : fx_s (fx_nw (fx_wr (fx_wi (fx_wi (fx_nw h (.inr (0, 2))) (p + 1) 0 (-1)) (p + 1) 1 (-1)) p 0 (some (p + 1))) (.inr (4, 2))) a = fx_s h a := by rw [fx_s_nw, if_neg (by rw [n3]; omega)]; exact s3
  have n4 : fx_n (fx_nw (fx_wr (fx_wi (fx_wi (fx_nw h (.inr (0, 2))) (p + 1) 0 (-1)) (p + 1) 1 (-1)) p 0 (some (p + 1))) (.inr (4, 2))) = p + 3 := congrArg (· + 1) n3
  have s5 : fx_s (fx_nw (fx_nw (fx_wr (fx_wi (fx_wi (fx_nw h (.inr (0, 2))) (p + 1) 0 (-1)) (p + 1) 1 (-1)) p 0 (some (p + 1))) (.inr (4, 2))) (.inl 1)) a = fx_s h a := by rw [fx_s_nw, if_neg (by rw [n4]; omega)]; exact s4
  have n5 : fx_n (fx_nw (fx_nw (fx_wr (fx_wi (fx_wi (fx_nw h (.inr (0, 2))) (p + 1) 0 (-1)) (p + 1) 1 (-1)) p 0 (some (p + 1))) (.inr (4, 2))) (.inl 1)) = p + 4 := congrArg (· + 1) n4
  have s6 : fx_s (fx_wr (fx_nw (fx_nw (fx_wr (fx_wi (fx_wi (fx_nw h (.inr (0, 2))) (p + 1) 0 (-1)) (p + 1) 1 (-1)) p 0 (some (p + 1))) (.inr (4, 2))) (.inl 1)) (p + 2) 0 (some (p + 3))) a = fx_s h a := s5
  have n6 : fx_n (fx_wr (fx_nw (fx_nw (fx_wr (fx_wi (fx_wi (fx_nw h (.inr (0, 2))) (p + 1) 0 (-1)) (p + 1) 1 (-1)) p 0 (some (p + 1))) (.inr (4, 2))) (.inl 1)) (p + 2) 0 (some (p + 3))) = p + 4 := n5
  have s7 : fx_s (fx_nw (fx_wr (fx_nw (fx_nw (fx_wr (fx_wi (fx_wi (fx_nw h (.inr (0, 2))) (p + 1) 0 (-1)) (p + 1) 1 (-1)) p 0 (some (p + 1))) (.inr (4, 2))) (.inl 1)) (p + 2) 0 (some (p + 3))) (.inl 1)) a = fx_s h a := by rw [fx_s_nw, if_neg (by rw [n6]; omega)]; exact s6
  have n7 : fx_n (fx_nw (fx_wr (fx_nw (fx_nw (fx_wr (fx_wi (fx_wi (fx_nw h (.inr (0, 2))) (p + 1) 0 (-1)) (p + 1) 1 (-1)) p 0 (some (p + 1))) (.inr (4, 2))) (.inl 1)) (p + 2) 0 (some (p + 3))) (.inl 1)) = p + 5 := congrArg (· + 1) n6
  have s8 : fx_s (fx_wr (fx_nw (fx_wr (fx_nw (fx_nw (fx_wr (fx_wi (fx_wi (fx_nw h (.inr (0, 2))) (p + 1) 0 (-1)) (p + 1) 1 (-1)) p 0 (some (p + 1))) (.inr (4, 2))) (.inl 1)) (p + 2) 0 (some (p + 3))) (.inl 1)) (p + 2) 1 (some (p + 4))) a = fx_s h a := s7
  have n8 : fx_n (fx_wr (fx_nw (fx_wr (fx_nw (fx_nw (fx_wr (fx_wi (fx_wi (fx_nw h (.inr (0, 2))) (p + 1) 0 (-1)) (p + 1) 1 (-1)) p 0 (some (p + 1))) (.inr (4, 2))) (.inl 1)) (p + 2) 0 (some (p + 3))) (.inl 1)) (p + 2) 1 (some (p + 4))) = p + 5 := n7
  have s9 : fx_s (fx_wr (fx_wr (fx_nw (fx_wr (fx_nw (fx_nw (fx_wr (fx_wi (fx_wi (fx_nw h (.inr (0, 2))) (p + 1) 0 (-1)) (p + 1) 1 (-1)) p 0 (some (p + 1))) (.inr (4, 2))) (.inl 1)) (p + 2) 0 (some (p + 3))) (.inl 1)) (p + 2) 1 (some (p + 4))) p 1 (some (p + 2))) a = fx_s h a := s8
  have n9 : fx_n (fx_wr (fx_wr (fx_nw (fx_wr (fx_nw (fx_nw (fx_wr (fx_wi (fx_wi (fx_nw h (.inr (0, 2))) (p + 1) 0 (-1)) (p + 1) 1 (-1)) p 0 (some (p + 1))) (.inr (4, 2))) (.inl 1)) (p + 2) 0 (some (p + 3))) (.inl 1)) (p + 2) 1 (some (p + 4))) p 1 (some (p + 2))) = p + 5 := n8
  have s10 : fx_s (fx_ma (fx_wr (fx_wr (fx_nw (fx_wr (fx_nw (fx_nw (fx_wr (fx_wi (fx_wi (fx_nw h (.inr (0, 2))) (p + 1) 0 (-1)) (p + 1) 1 (-1)) p 0 (some (p + 1))) (.inr (4, 2))) (.inl 1)) (p + 2) 0 (some (p + 3))) (.inl 1)) (p + 2) 1 (some (p + 4))) p 1 (some (p + 2)))) a = fx_s h a := (s_MA n9 (by omega)).trans s9
  have n10 : fx_n (fx_ma (fx_wr (fx_wr (fx_nw (fx_wr (fx_nw (fx_nw (fx_wr (fx_wi (fx_wi (fx_nw h (.inr (0, 2))) (p + 1) 0 (-1)) (p + 1) 1 (-1)) p 0 (some (p + 1))) (.inr (4, 2))) (.inl 1)) (p + 2) 0 (some (p + 3))) (.inl 1)) (p + 2) 1 (some (p + 4))) p 1 (some (p + 2)))) = p + 8 := n_MA n9
  have s11 : fx_s (fx_wr (fx_ma (fx_wr (fx_wr (fx_nw (fx_wr (fx_nw (fx_nw (fx_wr (fx_wi (fx_wi (fx_nw h (.inr (0, 2))) (p + 1) 0 (-1)) (p + 1) 1 (-1)) p 0 (some (p + 1))) (.inr (4, 2))) (.inl 1)) (p + 2) 0 (some (p + 3))) (.inl 1)) (p + 2) 1 (some (p + 4))) p 1 (some (p + 2)))) p 2 (some (p + 5))) a = fx_s h a := s10
  have n11 : fx_n (fx_wr (fx_ma (fx_wr (fx_wr (fx_nw (fx_wr (fx_nw (fx_nw (fx_wr (fx_wi (fx_wi (fx_nw h (.inr (0, 2))) (p + 1) 0 (-1)) (p + 1) 1 (-1)) p 0 (some (p + 1))) (.inr (4, 2))) (.inl 1)) (p + 2) 0 (some (p + 3))) (.inl 1)) (p + 2) 1 (some (p + 4))) p 1 (some (p + 2)))) p 2 (some (p + 5))) = p + 8 := n10
  exact s11
theorem r_PN_init {h : fx_H} {p a : Nat} (hn : fx_n h = p + 1) (ha : a < p) (j : Nat) : fx_r (k_PN_init h p) a j = fx_r h a j := by
  have r0 : fx_r (fx_nw h (.inr (0, 2))) a j = fx_r h a j := by rw [fx_r_nw, if_neg (by rw [hn]; omega)]
  have n0 : fx_n (fx_nw h (.inr (0, 2))) = p + 2 := congrArg (· + 1) hn
  have r1 : fx_r (fx_wi (fx_nw h (.inr (0, 2))) (p + 1) 0 (-1)) a j = fx_r h a j := r0
  have n1 : fx_n (fx_wi (fx_nw h (.inr (0, 2))) (p + 1) 0 (-1)) = p + 2 := n0
  have r2 : fx_r (fx_wi (fx_wi (fx_nw h (.inr (0, 2))) (p + 1) 0 (-1)) (p + 1) 1 (-1)) a j = fx_r h a j := r1
  have n2 : fx_n (fx_wi (fx_wi (fx_nw h (.inr (0, 2))) (p + 1) 0 (-1)) (p + 1) 1 (-1)) = p + 2 := n1
  have r3 : fx_r (fx_wr (fx_wi (fx_wi (fx_nw h (.inr (0, 2))) (p + 1) 0 (-1)) (p + 1) 1 (-1)) p 0 (some (p + 1))) a j = fx_r h a j := by rw [fx_r_wr, if_neg (by omega)]; exact r2
  have n3 : fx_n (fx_wr (fx_wi (fx_wi (fx_nw h (.inr (0, 2))) (p + 1) 0 (-1)) (p + 1) 1 (-1)) p 0 (some (p + 1))) = p + 2 := n2
  have r4 : fx_r (fx_nw (fx_wr (fx_wi (fx_wi (fx_nw h (.inr (0, 2))) (p + 1) 0 (-1)) (p + 1) 1 (-1)) p 0 (some (p + 1))) (.inr (4, 2))) a j = fx_r h a j := by rw [fx_r_nw, if_neg (by rw [n3]; omega)]; exact r3
  have n4 : fx_n (fx_nw (fx_wr (fx_wi (fx_wi (fx_nw h (.inr (0, 2))) (p + 1) 0 (-1)) (p + 1) 1 (-1)) p 0 (some (p + 1))) (.inr (4, 2))) = p + 3 := congrArg (· + 1) n3
  have r5 : fx_r (fx_nw (fx_nw (fx_wr (fx_wi (fx_wi (fx_nw h (.inr (0, 2))) (p + 1) 0 (-1)) (p + 1) 1 (-1)) p 0 (some (p + 1))) (.inr (4, 2))) (.inl 1)) a j = fx_r h a j := by rw [fx_r_nw, if_neg (by rw [n4]; omega)]; exact r4
  have n5 : fx_n (fx_nw (fx_nw (fx_wr (fx_wi (fx_wi (fx_nw h (.inr (0, 2))) (p + 1) 0 (-1)) (p + 1) 1 (-1)) p 0 (some (p + 1))) (.inr (4, 2))) (.inl 1)) = p + 4 := congrArg (· + 1) n4
  have r6 : fx_r (fx_wr (fx_nw (fx_nw (fx_wr (fx_wi (fx_wi (fx_nw h (.inr (0, 2))) (p + 1) 0 (-1)) (p + 1) 1 (-1)) p 0 (some (p + 1))) (.inr (4, 2))) (.inl 1)) (p + 2) 0 (some (p + 3))) a j = fx_r h a j := by rw [fx_r_wr, if_neg (by omega)]; exact r5
  have n6 : fx_n (fx_wr (fx_nw (fx_nw (fx_wr (fx_wi (fx_wi (fx_nw h (.inr (0, 2))) (p + 1) 0 (-1)) (p + 1) 1 (-1)) p 0 (some (p + 1))) (.inr (4, 2))) (.inl 1)) (p + 2) 0 (some (p + 3))) = p + 4 := n5
  have r7 : fx_r (fx_nw (fx_wr (fx_nw (fx_nw (fx_wr (fx_wi (fx_wi (fx_nw h (.inr (0, 2))) (p + 1) 0 (-1)) (p + 1) 1 (-1)) p 0 (some (p + 1))) (.inr (4, 2))) (.inl 1)) (p + 2) 0 (some (p + 3))) (.inl 1)) a j = fx_r h a j := by rw [fx_r_nw, if_neg (by rw [n6]; omega)]; exact r6
  have n7 : fx_n (fx_nw (fx_wr (fx_nw (fx_nw (fx_wr (fx_wi (fx_wi (fx_nw h (.inr (0, 2))) (p + 1) 0 (-1)) (p + 1) 1 (-1)) p 0 (some (p + 1))) (.inr (4, 2))) (.inl 1)) (p + 2) 0 (some (p + 3))) (.inl 1)) = p + 5 := congrArg (· + 1) n6
  have r8 : fx_r (fx_wr (fx_nw (fx_wr (fx_nw (fx_nw (fx_wr (fx_wi (fx_wi (fx_nw h (.inr (0, 2))) (p + 1) 0 (-1)) (p + 1) 1 (-1)) p 0 (some (p + 1))) (.inr (4, 2))) (.inl 1)) (p + 2) 0 (some (p + 3))) (.inl 1)) (p + 2) 1 (some (p + 4))) a j = fx_r h a j := by rw [fx_r_wr, if_neg (by omega)]; exact r7
  have n8 : fx_n (fx_wr (fx_nw (fx_wr (fx_nw (fx_nw (fx_wr (fx_wi (fx_wi (fx_nw h (.inr (0, 2))) (p + 1) 0 (-1)) (p + 1) 1 (-1)) p 0 (some (p + 1))) (.inr (4, 2))) (.inl 1)) (p + 2) 0 (some (p + 3))) (.inl 1)) (p + 2) 1 (some (p + 4))) = p + 5 := n7
  have r9 : fx_r (fx_wr (fx_wr (fx_nw (fx_wr (fx_nw (fx_nw (fx_wr (fx_wi (fx_wi (fx_nw h (.inr (0, 2))) (p + 1) 0 (-1)) (p + 1) 1 (-1)) p 0 (some (p + 1))) (.inr (4, 2))) (.inl 1)) (p + 2) 0 (some (p + 3))) (.inl 1)) (p + 2) 1 (some (p + 4))) p 1 (some (p + 2))) a j = fx_r h a j := by rw [fx_r_wr, if_neg (by omega)]; exact r8
  have n9 : fx_n (fx_wr (fx_wr (fx_nw (fx_wr (fx_nw (fx_nw (fx_wr (fx_wi (fx_wi (fx_nw h (.inr (0, 2))) (p + 1) 0 (-1)) (p + 1) 1 (-1)) p 0 (some (p + 1))) (.inr (4, 2))) (.inl 1)) (p + 2) 0 (some (p + 3))) (.inl 1)) (p + 2) 1 (some (p + 4))) p 1 (some (p + 2))) = p + 5 := n8
  have r10 : fx_r (fx_ma (fx_wr (fx_wr (fx_nw (fx_wr (fx_nw (fx_nw (fx_wr (fx_wi (fx_wi (fx_nw h (.inr (0, 2))) (p + 1) 0 (-1)) (p + 1) 1 (-1)) p 0 (some (p + 1))) (.inr (4, 2))) (.inl 1)) (p + 2) 0 (some (p + 3))) (.inl 1)) (p + 2) 1 (some (p + 4))) p 1 (some (p + 2)))) a j = fx_r h a j := (r_MA n9 (by omega) j).trans r9
  have n10 : fx_n (fx_ma (fx_wr (fx_wr (fx_nw (fx_wr (fx_nw (fx_nw (fx_wr (fx_wi (fx_wi (fx_nw h (.inr (0, 2))) (p + 1) 0 (-1)) (p + 1) 1 (-1)) p 0 (some (p + 1))) (.inr (4, 2))) (.inl 1)) (p + 2) 0 (some (p + 3))) (.inl 1)) (p + 2) 1 (some (p + 4))) p 1 (some (p + 2)))) = p + 8 := n_MA n9
  have r11 : fx_r (fx_wr (fx_ma (fx_wr (fx_wr (fx_nw (fx_wr (fx_nw (fx_nw (fx_wr (fx_wi (fx_wi (fx_nw h (.inr (0, 2))) (p + 1) 0 (-1)) (p + 1) 1 (-1)) p 0 (some (p + 1))) (.inr (4, 2))) (.inl 1)) (p + 2) 0 (some (p + 3))) (.inl 1)) (p + 2) 1 (some (p + 4))) p 1 (some (p + 2)))) p 2 (some (p + 5))) a j = fx_r h a j := by rw [fx_r_wr, if_neg (by omega)]; exact r10
  have n11 : fx_n (fx_wr (fx_ma (fx_wr (fx_wr (fx_nw (fx_wr (fx_nw (fx_nw (fx_wr (fx_wi (fx_wi (fx_nw h (.inr (0, 2))) (p + 1) 0 (-1)) (p + 1) 1 (-1)) p 0 (some (p + 1))) (.inr (4, 2))) (.inl 1)) (p + 2) 0 (some (p + 3))) (.inl 1)) (p + 2) 1 (some (p + 4))) p 1 (some (p + 2)))) p 2 (some (p + 5))) = p + 8 := n10
  exact r11
theorem i_PN_init {h : fx_H} {p a : Nat} (hn : fx_n h = p + 1) (ha : a < p) (j : Nat) : fx_i (k_PN_init h p) a j = fx_i h a j := by
  have i0 : fx_i (fx_nw h (.inr (0, 2))) a j = fx_i h a j := by rw [fx_i_nw, if_neg (by rw [hn]; omega)]
  have n0 : fx_n (fx_nw h (.inr (0, 2))) = p + 2 := congrArg (· + 1) hn
  have i1 : fx_i (fx_wi (fx_nw h (.inr (0, 2))) (p + 1) 0 (-1)) a j = fx_i h a j := by rw [fx_i_wi, if_neg (by omega)]; exact i0
  have n1 : fx_n (fx_wi (fx_nw h (.inr (0, 2))) (p + 1) 0 (-1)) = p + 2 := n0
  have i2 : fx_i (fx_wi (fx_wi (fx_nw h (.inr (0, 2))) (p + 1) 0 (-1)) (p + 1) 1 (-1)) a j = fx_i h a j := by rw [fx_i_wi, if_neg (by omega)]; exact i1
  have n2 : fx_n (fx_wi (fx_wi (fx_nw h (.inr (0, 2))) (p + 1) 0 (-1)) (p + 1) 1 (-1)) = p + 2 := n1
  have i3 : fx_i (fx_wr (fx_wi (fx_wi (fx_nw h (.inr (0, 2))) (p + 1) 0 (-1)) (p + 1) 1 (-1)) p 0 (some (p + 1))) a j = fx_i h a j := i2
  have n3 : fx_n (fx_wr (fx_wi (fx_wi (fx_nw h (.inr (0, 2))) (p + 1) 0 (-1)) (p + 1) 1 (-1)) p 0 (some (p + 1))) = p + 2 := n2
  have i4 : fx_i (fx_nw (fx_wr (fx_wi (fx_wi (fx_nw h (.inr (0, 2))) (p + 1) 0 (-1)) (p + 1) 1 (-1)) p 0 (some (p + 1))) (.inr (4, 2))) a j = fx_i h a j := by rw [fx_i_nw, if_neg (by rw [n3]; omega)]; exact i3
  have n4 : fx_n (fx_nw (fx_wr (fx_wi (fx_wi (fx_nw h (.inr (0, 2))) (p + 1) 0 (-1)) (p + 1) 1 (-1)) p 0 (some (p + 1))) (.inr (4, 2))) = p + 3 := congrArg (· + 1) n3
  have i5 : fx_i (fx_nw (fx_nw (fx_wr (fx_wi (fx_wi (fx_nw h (.inr (0, 2))) (p + 1) 0 (-1)) (p + 1) 1 (-1)) p 0 (some (p + 1))) (.inr (4, 2))) (.inl 1)) a j = fx_i h a j := by rw [fx_i_nw, if_neg (by rw [n4]; omega)]; exact i4
  have n5 : fx_n (fx_nw (fx_nw (fx_wr (fx_wi (fx_wi (fx_nw h (.inr (0, 2))) (p + 1) 0 (-1)) (p + 1) 1 (-1)) p 0 (some (p + 1))) (.inr (4, 2))) (.inl 1)) = p + 4 := congrArg (· + 1) n4
  have i6 : fx_i (fx_wr (fx_nw (fx_nw (fx_wr (fx_wi (fx_wi (fx_nw h (.inr (0, 2))) (p + 1) 0 (-1)) (p + 1) 1 (-1)) p 0 (some (p + 1))) (.inr (4, 2))) (.inl 1)) (p + 2) 0 (some (p + 3))) a j = fx_i h a j := i5
  have n6 : fx_n (fx_wr (fx_nw (fx_nw (fx_wr (fx_wi (fx_wi (fx_nw h (.inr (0, 2))) (p + 1) 0 (-1)) (p + 1) 1 (-1)) p 0 (some (p + 1))) (.inr (4, 2))) (.inl 1)) (p + 2) 0 (some (p + 3))) = p + 4 := n5
  have i7 : fx_i (fx_nw (fx_wr (fx_nw (fx_nw (fx_wr (fx_wi (fx_wi (fx_nw h (.inr (0, 2))) (p + 1) 0 (-1)) (p + 1) 1 (-1)) p 0 (some (p + 1))) (.inr (4, 2))) (.inl 1)) (p + 2) 0 (some (p + 3))) (.inl 1)) a j = fx_i h a j := by rw [fx_i_nw, if_neg (by rw [n6]; omega)]; exact i6
  have n7 : fx_n (fx_nw (fx_wr (fx_nw (fx_nw (fx_wr (fx_wi (fx_wi (fx_nw h (.inr (0, 2))) (p + 1) 0 (-1)) (p + 1) 1 (-1)) p 0 (some (p + 1))) (.inr (4, 2))) (.inl 1)) (p + 2) 0 (some (p + 3))) (.inl 1)) = p + 5 := congrArg (· + 1) n6
  have i8 : fx_i (fx_wr (fx_nw (fx_wr (fx_nw (fx_nw (fx_wr (fx_wi (fx_wi (fx_nw h (.inr (0, 2))) (p + 1) 0 (-1)) (p + 1) 1 (-1)) p 0 (some (p + 1))) (.inr (4, 2))) (.inl 1)) (p + 2) 0 (some (p + 3))) (.inl 1)) (p + 2) 1 (some (p + 4))) a j = fx_i h a j := i7
  have n8 : fx_n (fx_wr (fx_nw (fx_wr (fx_nw (fx_nw (fx_wr (fx_wi (fx_wi (fx_nw h (.inr (0, 2))) (p + 1) 0 (-1)) (p + 1) 1 (-1)) p 0 (some (p + 1))) (.inr (4, 2))) (.inl 1)) (p + 2) 0 (some (p + 3))) (.inl 1)) (p + 2) 1 (some (p + 4))) = p + 5 := n7
  have i9 : fx_i (fx_wr (fx_wr (fx_nw (fx_wr (fx_nw (fx_nw (fx_wr (fx_wi (fx_wi (fx_nw h (.inr (0, 2))) (p + 1) 0 (-1)) (p + 1) 1 (-1)) p 0 (some (p + 1))) (.inr (4, 2))) (.inl 1)) (p + 2) 0 (some (p + 3))) (.inl 1)) (p + 2) 1 (some (p + 4))) p 1 (some (p + 2))) a j = fx_i h a j := i8
  have n9 : fx_n (fx_wr (fx_wr (fx_nw (fx_wr (fx_nw (fx_nw (fx_wr (fx_wi (fx_wi (fx_nw h (.inr (0, 2))) (p + 1) 0 (-1)) (p + 1) 1 (-1)) p 0 (some (p + 1))) (.inr (4, 2))) (.inl 1)) (p + 2) 0 (some (p + 3))) (.inl 1)) (p + 2) 1 (some (p + 4))) p 1 (some (p + 2))) = p + 5 := n8
  have i10 : fx_i (fx_ma (fx_wr (fx_wr (fx_nw (fx_wr (fx_nw (fx_nw (fx_wr (fx_wi (fx_wi (fx_nw h (.inr (0, 2))) (p + 1) 0 (-1)) (p + 1) 1 (-1)) p 0 (some (p + 1))) (.inr (4, 2))) (.inl 1)) (p + 2) 0 (some (p + 3))) (.inl 1)) (p + 2) 1 (some (p + 4))) p 1 (some (p + 2)))) a j = fx_i h a j := (i_MA n9 (by omega) j).trans i9
  have n10 : fx_n (fx_ma (fx_wr (fx_wr (fx_nw (fx_wr (fx_nw (fx_nw (fx_wr (fx_wi (fx_wi (fx_nw h (.inr (0, 2))) (p + 1) 0 (-1)) (p + 1) 1 (-1)) p 0 (some (p + 1))) (.inr (4, 2))) (.inl 1)) (p + 2) 0 (some (p + 3))) (.inl 1)) (p + 2) 1 (some (p + 4))) p 1 (some (p + 2)))) = p + 8 := n_MA n9
  have i11 : fx_i (fx_wr (fx_ma (fx_wr (fx_wr (fx_nw (fx_wr (fx_nw (fx_nw (fx_wr (fx_wi (fx_wi (fx_nw h (.inr (0, 2))) (p + 1) 0 (-1)) (p + 1) 1 (-1)) p 0 (some (p + 1))) (.inr (4, 2))) (.inl 1)) (p + 2) 0 (some (p + 3))) (.inl 1)) (p + 2) 1 (some (p + 4))) p 1 (some (p + 2)))) p 2 (some (p + 5))) a j = fx_i h a j := i10
  have n11 : fx_n (fx_wr (fx_ma (fx_wr (fx_wr (fx_nw (fx_wr (fx_nw (fx_nw (fx_wr (fx_wi (fx_wi (fx_nw h (.inr (0, 2))) (p + 1) 0 (-1)) (p + 1) 1 (-1)) p 0 (some (p + 1))) (.inr (4, 2))) (.inl 1)) (p + 2) 0 (some (p + 3))) (.inl 1)) (p + 2) 1 (some (p + 4))) p 1 (some (p + 2)))) p 2 (some (p + 5))) = p + 8 := n10
  exact i11
def k_BE_init (h : fx_H) (p : Nat) : fx_H := fx_wr (fx_nw (fx_wr (fx_nw (fx_wr (k_PN_init (fx_nw h (.inl 7)) (p + 1)) p 0 (some (p + 1))) (.inr (0, 200))) p 1 (some (p + 9))) (.inr (0, 200))) p 2 (some (p + 10))
set_option maxRecDepth 100000 in
set_option maxHeartbeats 1000000 in
theorem c_BE_init {g : fx_G} (ok : fx_ok g) (h : fx_H) (p : Nat) (hn : fx_n h = p + 1) (hp : fx_s h p = some (.inl 9)) : fx_C g mq_BE_init [.ref p] h (fx_is none (k_BE_init h p)) 10 465 := by
  refine fx_body (by decide +kernel) (Nat.le_of_ble_eq_true rfl) ?_
  show fx_X g mq_BE_init 0 [(0, .ref p)] [] h _ 10 465
  refine fx_aload_n 0 dq_BE_init_0 rfl rfl ?_
  refine fx_objInit ok sq_BE_3 kj_obj.1 kj_obj.2 (by decide) (Nat.le_of_ble_eq_true rfl) dq_BE_init_1 ?_
  refine fx_aload_n 0 dq_BE_init_4 rfl rfl ?_
  refine fx_new ok (mc := 9) (ms := 462) (ci := 7) (N := 3) rfl lq_PN tq_PN_ok nw_PN lk_BE_9 ko_PN kn_PN dq_BE_init_5 ?_
  rw [hn]
  have s1_0 : fx_s (fx_nw h (.inl 7)) (p + 0) = some (.inl 9) := (nw_o hn (by omega)).trans hp
  have s1_1 : fx_s (fx_nw h (.inl 7)) (p + 1) = some (.inl 7) := nw_s h (.inl 7) hn
  have n1 : fx_n (fx_nw h (.inl 7)) = p + 2 := congrArg (· + 1) hn
  refine fx_dup dq_BE_init_8 rfl ?_
  refine fx_Na0 ok (mc' := 7) (ms' := 62) (mc := 2) (ms := 400) sq_BE_11 (c_PN_init ok _ (p + 1) n1 s1_1) (by decide) (Nat.le_of_ble_eq_true rfl) dq_BE_init_9 ?_
  have s2_0 : fx_s (k_PN_init (fx_nw h (.inl 7)) (p + 1)) (p + 0) = some (.inl 9) := (s_PN_init n1 (by omega)).trans s1_0
  have s2_1 : fx_s (k_PN_init (fx_nw h (.inl 7)) (p + 1)) (p + 1) = some (.inl 7) := (s_PN_init n1 (by omega)).trans s1_1
  have n2 : fx_n (k_PN_init (fx_nw h (.inl 7)) (p + 1)) = p + 9 := n_PN_init n1
  refine fx_putr ok fp_BE_12 s2_0 (fun _ => rfl) dq_BE_init_12 (by decide) ?_
  have s3_0 : fx_s (fx_wr (k_PN_init (fx_nw h (.inl 7)) (p + 1)) p 0 (some (p + 1))) (p + 0) = some (.inl 9) := s2_0
  have s3_1 : fx_s (fx_wr (k_PN_init (fx_nw h (.inl 7)) (p + 1)) p 0 (some (p + 1))) (p + 1) = some (.inl 7) := s2_1
  have n3 : fx_n (fx_wr (k_PN_init (fx_nw h (.inl 7)) (p + 1)) p 0 (some (p + 1))) = p + 9 := n2
  refine fx_aload_n 0 dq_BE_init_15 rfl rfl ?_
  refine fx_sipush (v := 200) dq_BE_init_16 (by decide) ?_
  refine fx_newa ok (mc := 1) (ms := 200) (atype := .int) (ak := 0) (N := 200) rfl (by decide) (by decide) (by decide) (by intro C hC; cases hC) ka_int (by decide) (by decide) (by decide) dq_BE_init_19 ?_
  rw [n3]
  have s4_0 : fx_s (fx_nw (fx_wr (k_PN_init (fx_nw h (.inl 7)) (p + 1)) p 0 (some (p + 1))) (.inr (0, 200))) (p + 0) = some (.inl 9) := (nw_o n3 (by omega)).trans s3_0
  have s4_1 : fx_s (fx_nw (fx_wr (k_PN_init (fx_nw h (.inl 7)) (p + 1)) p 0 (some (p + 1))) (.inr (0, 200))) (p + 1) = some (.inl 7) := (nw_o n3 (by omega)).trans s3_1
  have s4_9 : fx_s (fx_nw (fx_wr (k_PN_init (fx_nw h (.inl 7)) (p + 1)) p 0 (some (p + 1))) (.inr (0, 200))) (p + 9) = some (.inr (0, 200)) := nw_s (fx_wr (k_PN_init (fx_nw h (.inl 7)) (p + 1)) p 0 (some (p + 1))) (.inr (0, 200)) n3
  have n4 : fx_n (fx_nw (fx_wr (k_PN_init (fx_nw h (.inl 7)) (p + 1)) p 0 (some (p + 1))) (.inr (0, 200))) = p + 10 := congrArg (· + 1) n3
  refine fx_putr ok fp_BE_18 s4_0 (fun _ => rfl) dq_BE_init_21 (by decide) ?_
  have s5_0 : fx_s (fx_wr (fx_nw (fx_wr (k_PN_init (fx_nw h (.inl 7)) (p + 1)) p 0 (some (p + 1))) (.inr (0, 200))) p 1 (some (p + 9))) (p + 0) = some (.inl 9) := s4_0
  have s5_1 : fx_s (fx_wr (fx_nw (fx_wr (k_PN_init (fx_nw h (.inl 7)) (p + 1)) p 0 (some (p + 1))) (.inr (0, 200))) p 1 (some (p + 9))) (p + 1) = some (.inl 7) := s4_1
  have s5_9 : fx_s (fx_wr (fx_nw (fx_wr (k_PN_init (fx_nw h (.inl 7)) (p + 1)) p 0 (some (p + 1))) (.inr (0, 200))) p 1 (some (p + 9))) (p + 9) = some (.inr (0, 200)) := s4_9
  have n5 : fx_n (fx_wr (fx_nw (fx_wr (k_PN_init (fx_nw h (.inl 7)) (p + 1)) p 0 (some (p + 1))) (.inr (0, 200))) p 1 (some (p + 9))) = p + 10 := n4
  refine fx_aload_n 0 dq_BE_init_24 rfl rfl ?_
  refine fx_sipush (v := 200) dq_BE_init_25 (by decide) ?_
  refine fx_newa ok (mc := 0) (ms := 0) (atype := .int) (ak := 0) (N := 200) rfl (by decide) (by decide) (by decide) (by intro C hC; cases hC) ka_int (by decide) (by decide) (by decide) dq_BE_init_28 ?_
  rw [n5]
  have s6_0 : fx_s (fx_nw (fx_wr (fx_nw (fx_wr (k_PN_init (fx_nw h (.inl 7)) (p + 1)) p 0 (some (p + 1))) (.inr (0, 200))) p 1 (some (p + 9))) (.inr (0, 200))) (p + 0) = some (.inl 9) := (nw_o n5 (by omega)).trans s5_0
  have s6_1 : fx_s (fx_nw (fx_wr (fx_nw (fx_wr (k_PN_init (fx_nw h (.inl 7)) (p + 1)) p 0 (some (p + 1))) (.inr (0, 200))) p 1 (some (p + 9))) (.inr (0, 200))) (p + 1) = some (.inl 7) := (nw_o n5 (by omega)).trans s5_1
  have s6_9 : fx_s (fx_nw (fx_wr (fx_nw (fx_wr (k_PN_init (fx_nw h (.inl 7)) (p + 1)) p 0 (some (p + 1))) (.inr (0, 200))) p 1 (some (p + 9))) (.inr (0, 200))) (p + 9) = some (.inr (0, 200)) := (nw_o n5 (by omega)).trans s5_9
  have s6_10 : fx_s (fx_nw (fx_wr (fx_nw (fx_wr (k_PN_init (fx_nw h (.inl 7)) (p + 1)) p 0 (some (p + 1))) (.inr (0, 200))) p 1 (some (p + 9))) (.inr (0, 200))) (p + 10) = some (.inr (0, 200)) := nw_s (fx_wr (fx_nw (fx_wr (k_PN_init (fx_nw h (.inl 7)) (p + 1)) p 0 (some (p + 1))) (.inr (0, 200))) p 1 (some (p + 9))) (.inr (0, 200)) n5
  have n6 : fx_n (fx_nw (fx_wr (fx_nw (fx_wr (k_PN_init (fx_nw h (.inl 7)) (p + 1)) p 0 (some (p + 1))) (.inr (0, 200))) p 1 (some (p + 9))) (.inr (0, 200))) = p + 11 := congrArg (· + 1) n5
  refine fx_putr ok fp_BE_22 s6_0 (fun _ => rfl) dq_BE_init_30 (by decide) ?_
  have s7_0 : fx_s (fx_wr (fx_nw (fx_wr (fx_nw (fx_wr (k_PN_init (fx_nw h (.inl 7)) (p + 1)) p 0 (some (p + 1))) (.inr (0, 200))) p 1 (some (p + 9))) (.inr (0, 200))) p 2 (some (p + 10))) (p + 0) = some (.inl 9) := s6_0
  have s7_1 : fx_s (fx_wr (fx_nw (fx_wr (fx_nw (fx_wr (k_PN_init (fx_nw h (.inl 7)) (p + 1)) p 0 (some (p + 1))) (.inr (0, 200))) p 1 (some (p + 9))) (.inr (0, 200))) p 2 (some (p + 10))) (p + 1) = some (.inl 7) := s6_1
  have s7_9 : fx_s (fx_wr (fx_nw (fx_wr (fx_nw (fx_wr (k_PN_init (fx_nw h (.inl 7)) (p + 1)) p 0 (some (p + 1))) (.inr (0, 200))) p 1 (some (p + 9))) (.inr (0, 200))) p 2 (some (p + 10))) (p + 9) = some (.inr (0, 200)) := s6_9
  have s7_10 : fx_s (fx_wr (fx_nw (fx_wr (fx_nw (fx_wr (k_PN_init (fx_nw h (.inl 7)) (p + 1)) p 0 (some (p + 1))) (.inr (0, 200))) p 1 (some (p + 9))) (.inr (0, 200))) p 2 (some (p + 10))) (p + 10) = some (.inr (0, 200)) := s6_10
  have n7 : fx_n (fx_wr (fx_nw (fx_wr (fx_nw (fx_wr (k_PN_init (fx_nw h (.inl 7)) (p + 1)) p 0 (some (p + 1))) (.inr (0, 200))) p 1 (some (p + 9))) (.inr (0, 200))) p 2 (some (p + 10))) = p + 11 := n6
  exact fx_vreturn rfl dq_BE_init_33 ⟨rfl, rfl⟩
theorem n_BE_init {h : fx_H} {p : Nat} (hn : fx_n h = p + 1) : fx_n (k_BE_init h p) = p + 11 := by
  have n0 : fx_n (fx_nw h (.inl 7)) = p + 2 := congrArg (· + 1) hn
  have n1 : fx_n (k_PN_init (fx_nw h (.inl 7)) (p + 1)) = p + 9 := n_PN_init n0
  have n2 : fx_n (fx_wr (k_PN_init (fx_nw h (.inl 7)) (p + 1)) p 0 (some (p + 1))) = p + 9 := n1
  have n3 : fx_n (fx_nw (fx_wr (k_PN_init (fx_nw h (.inl 7)) (p + 1)) p 0 (some (p + 1))) (.inr (0, 200))) = p + 10 := congrArg (· + 1) n2
  have n4 : fx_n (fx_wr (fx_nw (fx_wr (k_PN_init (fx_nw h (.inl 7)) (p + 1)) p 0 (some (p + 1))) (.inr (0, 200))) p 1 (some (p + 9))) = p + 10 := n3
  have n5 : fx_n (fx_nw (fx_wr (fx_nw (fx_wr (k_PN_init (fx_nw h (.inl 7)) (p + 1)) p 0 (some (p + 1))) (.inr (0, 200))) p 1 (some (p + 9))) (.inr (0, 200))) = p + 11 := congrArg (· + 1) n4
  have n6 : fx_n (fx_wr (fx_nw (fx_wr (fx_nw (fx_wr (k_PN_init (fx_nw h (.inl 7)) (p + 1)) p 0 (some (p + 1))) (.inr (0, 200))) p 1 (some (p + 9))) (.inr (0, 200))) p 2 (some (p + 10))) = p + 11 := n5
  exact n6
theorem s_BE_init {h : fx_H} {p a : Nat} (hn : fx_n h = p + 1) (ha : a < p + 1) : fx_s (k_BE_init h p) a = fx_s h a := by
  have s0 : fx_s (fx_nw h (.inl 7)) a = fx_s h a := by rw [fx_s_nw, if_neg (by rw [hn]; omega)]
  have n0 : fx_n (fx_nw h (.inl 7)) = p + 2 := congrArg (· + 1) hn
  have s1 : fx_s (k_PN_init (fx_nw h (.inl 7)) (p + 1)) a = fx_s h a := (s_PN_init n0 (by omega)).trans s0
  have n1 : fx_n (k_PN_init (fx_nw h (.inl 7)) (p + 1)) = p + 9 := n_PN_init n0
  have s2 : fx_s (fx_wr (k_PN_init (fx_nw h (.inl 7)) (p + 1)) p 0 (some (p + 1))) a = fx_s h a := s1
  have n2 : fx_n (fx_wr (k_PN_init (fx_nw h (.inl 7)) (p + 1)) p 0 (some (p + 1))) = p + 9 := n1
  have s3 : fx_s (fx_nw (fx_wr (k_PN_init (fx_nw h (.inl 7)) (p + 1)) p 0 (some (p + 1))) (.inr (0, 200))) a = fx_s h a := by rw [fx_s_nw, if_neg (by rw [n2]; omega)]; exact s2
  have n3 : fx_n (fx_nw (fx_wr (k_PN_init (fx_nw h (.inl 7)) (p + 1)) p 0 (some (p + 1))) (.inr (0, 200))) = p + 10 := congrArg (· + 1) n2
  have s4 : fx_s (fx_wr (fx_nw (fx_wr (k_PN_init (fx_nw h (.inl 7)) (p + 1)) p 0 (some (p + 1))) (.inr (0, 200))) p 1 (some (p + 9))) a = fx_s h a := s3
  have n4 : fx_n (fx_wr (fx_nw (fx_wr (k_PN_init (fx_nw h (.inl 7)) (p + 1)) p 0 (some (p + 1))) (.inr (0, 200))) p 1 (some (p + 9))) = p + 10 := n3
  have s5 : fx_s (fx_nw (fx_wr (fx_nw (fx_wr (k_PN_init (fx_nw h (.inl 7)) (p + 1)) p 0 (some (p + 1))) (.inr (0, 200))) p 1 (some (p + 9))) (.inr (0, 200))) a = fx_s h a := by rw [fx_s_nw, if_neg (by rw [n4]; omega)]; exact s4
  have n5 : fx_n (fx_nw (fx_wr (fx_nw (fx_wr (k_PN_init (fx_nw h (.inl 7)) (p + 1)) p 0 (some (p + 1))) (.inr (0, 200))) p 1 (some (p + 9))) (.inr (0, 200))) = p + 11 := congrArg (· + 1) n4
  have s6 : fx_s (fx_wr (fx_nw (fx_wr (fx_nw (fx_wr (k_PN_init (fx_nw h (.inl 7)) (p + 1)) p 0 (some (p + 1))) (.inr (0, 200))) p 1 (some (p + 9))) (.inr (0, 200))) p 2 (some (p + 10))) a = fx_s h a := s5
  have n6 : fx_n (fx_wr (fx_nw (fx_wr (fx_nw (fx_wr (k_PN_init (fx_nw h (.inl 7)) (p + 1)) p 0 (some (p + 1))) (.inr (0, 200))) p 1 (some (p + 9))) (.inr (0, 200))) p 2 (some (p + 10))) = p + 11 := n5
  exact s6
theorem r_BE_init {h : fx_H} {p a : Nat} (hn : fx_n h = p + 1) (ha : a < p) (j : Nat) : fx_r (k_BE_init h p) a j = fx_r h a j := by
  have r0 : fx_r (fx_nw h (.inl 7)) a j = fx_r h a j := by rw [fx_r_nw, if_neg (by rw [hn]; omega)]
  have n0 : fx_n (fx_nw h (.inl 7)) = p + 2 := congrArg (· + 1) hn
  have r1 : fx_r (k_PN_init (fx_nw h (.inl 7)) (p + 1)) a j = fx_r h a j := (r_PN_init n0 (by omega) j).trans r0
  have n1 : fx_n (k_PN_init (fx_nw h (.inl 7)) (p + 1)) = p + 9 := n_PN_init n0
  have r2 : fx_r (fx_wr (k_PN_init (fx_nw h (.inl 7)) (p + 1)) p 0 (some (p + 1))) a j = fx_r h a j := by rw [fx_r_wr, if_neg (by omega)]; exact r1
  have n2 : fx_n (fx_wr (k_PN_init (fx_nw h (.inl 7)) (p + 1)) p 0 (some (p + 1))) = p + 9 := n1
  have r3 : fx_r (fx_nw (fx_wr (k_PN_init (fx_nw h (.inl 7)) (p + 1)) p 0 (some (p + 1))) (.inr (0, 200))) a j = fx_r h a j := by rw [fx_r_nw, if_neg (by rw [n2]; omega)]; exact r2
  have n3 : fx_n (fx_nw (fx_wr (k_PN_init (fx_nw h (.inl 7)) (p + 1)) p 0 (some (p + 1))) (.inr (0, 200))) = p + 10 := congrArg (· + 1) n2
  have r4 : fx_r (fx_wr (fx_nw (fx_wr (k_PN_init (fx_nw h (.inl 7)) (p + 1)) p 0 (some (p + 1))) (.inr (0, 200))) p 1 (some (p + 9))) a j = fx_r h a j := by rw [fx_r_wr, if_neg (by omega)]; exact r3
  have n4 : fx_n (fx_wr (fx_nw (fx_wr (k_PN_init (fx_nw h (.inl 7)) (p + 1)) p 0 (some (p + 1))) (.inr (0, 200))) p 1 (some (p + 9))) = p + 10 := n3
  have r5 : fx_r (fx_nw (fx_wr (fx_nw (fx_wr (k_PN_init (fx_nw h (.inl 7)) (p + 1)) p 0 (some (p + 1))) (.inr (0, 200))) p 1 (some (p + 9))) (.inr (0, 200))) a j = fx_r h a j := by rw [fx_r_nw, if_neg (by rw [n4]; omega)]; exact r4
  have n5 : fx_n (fx_nw (fx_wr (fx_nw (fx_wr (k_PN_init (fx_nw h (.inl 7)) (p + 1)) p 0 (some (p + 1))) (.inr (0, 200))) p 1 (some (p + 9))) (.inr (0, 200))) = p + 11 := congrArg (· + 1) n4
  have r6 : fx_r (fx_wr (fx_nw (fx_wr (fx_nw (fx_wr (k_PN_init (fx_nw h (.inl 7)) (p + 1)) p 0 (some (p + 1))) (.inr (0, 200))) p 1 (some (p + 9))) (.inr (0, 200))) p 2 (some (p + 10))) a j = fx_r h a j := by rw [fx_r_wr, if_neg (by omega)]; exact r5
  have n6 : fx_n (fx_wr (fx_nw (fx_wr (fx_nw (fx_wr (k_PN_init (fx_nw h (.inl 7)) (p + 1)) p 0 (some (p + 1))) (.inr (0, 200))) p 1 (some (p + 9))) (.inr (0, 200))) p 2 (some (p + 10))) = p + 11 := n5
  exact r6
theorem i_BE_init {h : fx_H} {p a : Nat} (hn : fx_n h = p + 1) (ha : a < p) (j : Nat) : fx_i (k_BE_init h p) a j = fx_i h a j := by
  have i0 : fx_i (fx_nw h (.inl 7)) a j = fx_i h a j := by rw [fx_i_nw, if_neg (by rw [hn]; omega)]
  have n0 : fx_n (fx_nw h (.inl 7)) = p + 2 := congrArg (· + 1) hn
  have i1 : fx_i (k_PN_init (fx_nw h (.inl 7)) (p + 1)) a j = fx_i h a j := (i_PN_init n0 (by omega) j).trans i0
  have n1 : fx_n (k_PN_init (fx_nw h (.inl 7)) (p + 1)) = p + 9 := n_PN_init n0
  have i2 : fx_i (fx_wr (k_PN_init (fx_nw h (.inl 7)) (p + 1)) p 0 (some (p + 1))) a j = fx_i h a j := i1
  have n2 : fx_n (fx_wr (k_PN_init (fx_nw h (.inl 7)) (p + 1)) p 0 (some (p + 1))) = p + 9 := n1
  have i3 : fx_i (fx_nw (fx_wr (k_PN_init (fx_nw h (.inl 7)) (p + 1)) p 0 (some (p + 1))) (.inr (0, 200))) a j = fx_i h a j := by rw [fx_i_nw, if_neg (by rw [n2]; omega)]; exact i2
  have n3 : fx_n (fx_nw (fx_wr (k_PN_init (fx_nw h (.inl 7)) (p + 1)) p 0 (some (p + 1))) (.inr (0, 200))) = p + 10 := congrArg (· + 1) n2
  have i4 : fx_i (fx_wr (fx_nw (fx_wr (k_PN_init (fx_nw h (.inl 7)) (p + 1)) p 0 (some (p + 1))) (.inr (0, 200))) p 1 (some (p + 9))) a j = fx_i h a j := i3
  have n4 : fx_n (fx_wr (fx_nw (fx_wr (k_PN_init (fx_nw h (.inl 7)) (p + 1)) p 0 (some (p + 1))) (.inr (0, 200))) p 1 (some (p + 9))) = p + 10 := n3
  have i5 : fx_i (fx_nw (fx_wr (fx_nw (fx_wr (k_PN_init (fx_nw h (.inl 7)) (p + 1)) p 0 (some (p + 1))) (.inr (0, 200))) p 1 (some (p + 9))) (.inr (0, 200))) a j = fx_i h a j := by rw [fx_i_nw, if_neg (by rw [n4]; omega)]; exact i4
  have n5 : fx_n (fx_nw (fx_wr (fx_nw (fx_wr (k_PN_init (fx_nw h (.inl 7)) (p + 1)) p 0 (some (p + 1))) (.inr (0, 200))) p 1 (some (p + 9))) (.inr (0, 200))) = p + 11 := congrArg (· + 1) n4
  have i6 : fx_i (fx_wr (fx_nw (fx_wr (fx_nw (fx_wr (k_PN_init (fx_nw h (.inl 7)) (p + 1)) p 0 (some (p + 1))) (.inr (0, 200))) p 1 (some (p + 9))) (.inr (0, 200))) p 2 (some (p + 10))) a j = fx_i h a j := i5
  have n6 : fx_n (fx_wr (fx_nw (fx_wr (fx_nw (fx_wr (k_PN_init (fx_nw h (.inl 7)) (p + 1)) p 0 (some (p + 1))) (.inr (0, 200))) p 1 (some (p + 9))) (.inr (0, 200))) p 2 (some (p + 10))) = p + 11 := n5
  exact i6
