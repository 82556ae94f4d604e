/-! ===== constructors: Memory, Desk ===== -/
theorem ii_MI_init {p : Nat} {K : fx_H} (hn : fx_n K = p + 2) {a : Nat} (j : Nat) (ha : a < p) : ∀ n, fx_i (it (b_MI_init p) K n) a j = fx_i K a j
  | 0 => by rw [it_0]
  | n + 1 => by
    have h1 := (it_MI_init hn n).1
    have h2 : fx_n (fx_nw (it (b_MI_init p) K n) (.inl 1)) = p + 2 + 1 * n + 1 := congrArg (· + 1) h1
    rw [it_s, b_MI_init, fx_i_wr, fx_i_nw, if_neg (by omega)]
    exact ii_MI_init hn j ha n
theorem i_MI_init {h : fx_H} {p a : Nat} (hn : fx_n h = p + 1) (ha : a < p) (j : Nat) : fx_i (k_MI_init h p) a j = fx_i h a j := by
  have i0 : fx_i (fx_nw h (.inr (4, 7))) a j = fx_i h a j := by rw [fx_i_nw, if_neg (by rw [hn]; omega)]
  have n0 : fx_n (fx_nw h (.inr (4, 7))) = p + 2 := congrArg (· + 1) hn
  have i1 : fx_i (fx_wr (fx_nw h (.inr (4, 7))) p 0 (some (p + 1))) a j = fx_i h a j := i0
  have n1 : fx_n (fx_wr (fx_nw h (.inr (4, 7))) p 0 (some (p + 1))) = p + 2 := n0
  unfold k_MI_init
  exact (ii_MI_init (k0n_MI_init hn) j ha 7).trans i1
theorem ii_PL_init {p : Nat} {K : fx_H} (hn : fx_n K = p + 3) {a : Nat} (j : Nat) (ha : a < p) : ∀ n, fx_i (it (b_PL_init p) K n) a j = fx_i K a j
  | 0 => by rw [it_0]
  | n + 1 => by
    have h1 := (it_PL_init hn n).1
    have h2 : fx_n (fx_nw (it (b_PL_init p) K n) (.inl 2)) = p + 3 + 4 * n + 1 := congrArg (· + 1) h1
    rw [it_s, b_PL_init, fx_i_wr, i_PI_init h2 (by omega), fx_i_nw, if_neg (by omega)]
    exact ii_PL_init hn j ha n
theorem i_PL_init {h : fx_H} {p a : Nat} (hn : fx_n h = p + 1) (ha : a < p) (j : Nat) : fx_i (k_PL_init h p) a j = fx_i h a j := by
  have i0 : fx_i (fx_nw h (.inr (3, 10))) a j = fx_i h a j := by rw [fx_i_nw, if_neg (by rw [hn]; omega)]
  have n0 : fx_n (fx_nw h (.inr (3, 10))) = p + 2 := congrArg (· + 1) hn
  have i1 : fx_i (fx_wr (fx_nw h (.inr (3, 10))) p 0 (some (p + 1))) a j = fx_i h a j := i0
  have n1 : fx_n (fx_wr (fx_nw h (.inr (3, 10))) p 0 (some (p + 1))) = p + 2 := n0
  have i2 : fx_i (fx_nw (fx_wr (fx_nw h (.inr (3, 10))) p 0 (some (p + 1))) (.inr (0, 10))) a j = fx_i h a j := by rw [fx_i_nw, if_neg (by rw [n1]; omega)]; exact i1
  have n2 : fx_n (fx_nw (fx_wr (fx_nw h (.inr (3, 10))) p 0 (some (p + 1))) (.inr (0, 10))) = p + 3 := congrArg (· + 1) n1
  have i3 : fx_i (fx_wr (fx_nw (fx_wr (fx_nw h (.inr (3, 10))) p 0 (some (p + 1))) (.inr (0, 10))) p 1 (some (p + 2))) a j = fx_i h a j := i2
  have n3 : fx_n (fx_wr (fx_nw (fx_wr (fx_nw h (.inr (3, 10))) p 0 (some (p + 1))) (.inr (0, 10))) p 1 (some (p + 2))) = p + 3 := n2
  unfold k_PL_init
  exact (ii_PL_init (k0n_PL_init hn) j ha 10).trans i3
def k_ME_init (h : fx_H) (p : Nat) : fx_H := fx_wr (k_MI_init (fx_nw (fx_wr (fx_nw h (.inr (0, 200))) p 0 (some (p + 1))) (.inl 5)) (p + 2)) p 1 (some (p + 2))
set_option maxRecDepth 100000 in
set_option maxHeartbeats 1000000 in
theorem c_ME_init {g : fx_G} (ok : fx_ok g) (h : fx_H) (p : Nat) (hn : fx_n h = p + 1) (hp : fx_s h p = some (.inl 6)) : fx_C g mq_ME_init [.ref p] h (fx_is none (k_ME_init h p)) 10 237 := by
  refine fx_body (by decide +kernel) (Nat.le_of_ble_eq_true rfl) ?_
  show fx_X g mq_ME_init 0 [(0, .ref p)] [] h _ 10 237
  refine fx_aload_n 0 dq_ME_init_0 rfl rfl ?_
  refine fx_objInit ok sq_ME_3 kj_obj.1 kj_obj.2 (by decide) (Nat.le_of_ble_eq_true rfl) dq_ME_init_1 ?_
  refine fx_aload_n 0 dq_ME_init_4 rfl rfl ?_
  refine fx_sipush (v := 200) dq_ME_init_5 (by decide) ?_
  refine fx_newa ok (mc := 9) (ms := 37) (atype := .int) (ak := 0) (N := 200) rfl (by decide) (by decide) (by decide) (by intro C hC; cases hC) ka_int (by decide) (by decide) (by decide) dq_ME_init_8 ?_
  rw [hn]
  have s1_0 : fx_s (fx_nw h (.inr (0, 200))) (p + 0) = some (.inl 6) := (nw_o hn (by omega)).trans hp
  have s1_1 : fx_s (fx_nw h (.inr (0, 200))) (p + 1) = some (.inr (0, 200)) := nw_s h (.inr (0, 200)) hn
  have n1 : fx_n (fx_nw h (.inr (0, 200))) = p + 2 := congrArg (· + 1) hn
  refine fx_putr ok fp_ME_9 s1_0 (fun _ => rfl) dq_ME_init_10 (by decide) ?_
  have s2_0 : fx_s (fx_wr (fx_nw h (.inr (0, 200))) p 0 (some (p + 1))) (p + 0) = some (.inl 6) := s1_0
  have s2_1 : fx_s (fx_wr (fx_nw h (.inr (0, 200))) p 0 (some (p + 1))) (p + 1) = some (.inr (0, 200)) := s1_1
  have n2 : fx_n (fx_wr (fx_nw h (.inr (0, 200))) p 0 (some (p + 1))) = p + 2 := n1
  refine fx_aload_n 0 dq_ME_init_13 rfl rfl ?_
  refine fx_new ok (mc := 8) (ms := 35) (ci := 5) (N := 2) rfl lq_MI tq_MI_ok nw_MI lk_ME_15 ko_MI kn_MI dq_ME_init_14 ?_
  rw [n2]
  have s3_0 : fx_s (fx_nw (fx_wr (fx_nw h (.inr (0, 200))) p 0 (some (p + 1))) (.inl 5)) (p + 0) = some (.inl 6) := (nw_o n2 (by omega)).trans s2_0
  have s3_1 : fx_s (fx_nw (fx_wr (fx_nw h (.inr (0, 200))) p 0 (some (p + 1))) (.inl 5)) (p + 1) = some (.inr (0, 200)) := (nw_o n2 (by omega)).trans s2_1
  have s3_2 : fx_s (fx_nw (fx_wr (fx_nw h (.inr (0, 200))) p 0 (some (p + 1))) (.inl 5)) (p + 2) = some (.inl 5) := nw_s (fx_wr (fx_nw h (.inr (0, 200))) p 0 (some (p + 1))) (.inl 5) n2
  have n3 : fx_n (fx_nw (fx_wr (fx_nw h (.inr (0, 200))) p 0 (some (p + 1))) (.inl 5)) = p + 3 := congrArg (· + 1) n2
  refine fx_dup dq_ME_init_17 rfl ?_
  refine fx_Ia0 ok (mc' := 8) (ms' := 35) (mc := 0) (ms := 0) sq_ME_17 (c_MI_init ok _ (p + 2) n3 s3_2) (by decide) (Nat.le_of_ble_eq_true rfl) dq_ME_init_18 ?_
  have s4_0 : fx_s (k_MI_init (fx_nw (fx_wr (fx_nw h (.inr (0, 200))) p 0 (some (p + 1))) (.inl 5)) (p + 2)) (p + 0) = some (.inl 6) := (s_MI_init n3 (by omega)).trans s3_0
  have s4_1 : fx_s (k_MI_init (fx_nw (fx_wr (fx_nw h (.inr (0, 200))) p 0 (some (p + 1))) (.inl 5)) (p + 2)) (p + 1) = some (.inr (0, 200)) := (s_MI_init n3 (by omega)).trans s3_1
  have s4_2 : fx_s (k_MI_init (fx_nw (fx_wr (fx_nw h (.inr (0, 200))) p 0 (some (p + 1))) (.inl 5)) (p + 2)) (p + 2) = some (.inl 5) := (s_MI_init n3 (by omega)).trans s3_2
  have n4 : fx_n (k_MI_init (fx_nw (fx_wr (fx_nw h (.inr (0, 200))) p 0 (some (p + 1))) (.inl 5)) (p + 2)) = p + 11 := n_MI_init n3
  refine fx_putr ok fp_ME_18 s4_0 (fun _ => rfl) dq_ME_init_21 (by decide) ?_
  have s5_0 : fx_s (fx_wr (k_MI_init (fx_nw (fx_wr (fx_nw h (.inr (0, 200))) p 0 (some (p + 1))) (.inl 5)) (p + 2)) p 1 (some (p + 2))) (p + 0) = some (.inl 6) := s4_0
  have s5_1 : fx_s (fx_wr (k_MI_init (fx_nw (fx_wr (fx_nw h (.inr (0, 200))) p 0 (some (p + 1))) (.inl 5)) (p + 2)) p 1 (some (p + 2))) (p + 1) = some (.inr (0, 200)) := s4_1
  have s5_2 : fx_s (fx_wr (k_MI_init (fx_nw (fx_wr (fx_nw h (.inr (0, 200))) p 0 (some (p + 1))) (.inl 5)) (p + 2)) p 1 (some (p + 2))) (p + 2) = some (.inl 5) := s4_2
  have n5 : fx_n (fx_wr (k_MI_init (fx_nw (fx_wr (fx_nw h (.inr (0, 200))) p 0 (some (p + 1))) (.inl 5)) (p + 2)) p 1 (some (p + 2))) = p + 11 := n4
  exact fx_vreturn rfl dq_ME_init_24 ⟨rfl, rfl⟩
theorem n_ME_init {h : fx_H} {p : Nat} (hn : fx_n h = p + 1) : fx_n (k_ME_init h p) = p + 11 := by
  have n0 : fx_n (fx_nw h (.inr (0, 200))) = p + 2 := congrArg (· + 1) hn
  have n1 : fx_n (fx_wr (fx_nw h (.inr (0, 200))) p 0 (some (p + 1))) = p + 2 := n0
  have n2 : fx_n (fx_nw (fx_wr (fx_nw h (.inr (0, 200))) p 0 (some (p + 1))) (.inl 5)) = p + 3 := congrArg (· + 1) n1
  have n3 : fx_n (k_MI_init (fx_nw (fx_wr (fx_nw h (.inr (0, 200))) p 0 (some (p + 1))) (.inl 5)) (p + 2)) = p + 11 := n_MI_init n2
  have n4 : fx_n (fx_wr (k_MI_init (fx_nw (fx_wr (fx_nw h (.inr (0, 200))) p 0 (some (p + 1))) (.inl 5)) (p + 2)) p 1 (some (p + 2))) = p + 11 := n3
  exact n4
theorem s_ME_init {h : fx_H} {p a : Nat} (hn : fx_n h = p + 1) (ha : a < p + 1) : fx_s (k_ME_init h p) a = fx_s h a := by
  have s0 : fx_s (fx_nw h (.inr (0, 200))) a = fx_s h a := by rw [fx_s_nw, if_neg (by rw [hn]; omega)]
  have n0 : fx_n (fx_nw h (.inr (0, 200))) = p + 2 := congrArg (· + 1) hn
  have s1 : fx_s (fx_wr (fx_nw h (.inr (0, 200))) p 0 (some (p + 1))) a = fx_s h a := s0
  have n1 : fx_n (fx_wr (fx_nw h (.inr (0, 200))) p 0 (some (p + 1))) = p + 2 := n0
  have s2 : fx_s (fx_nw (fx_wr (fx_nw h (.inr (0, 200))) p 0 (some (p + 1))) (.inl 5)) a = fx_s h a := by rw [fx_s_nw, if_neg (by rw [n1]; omega)]; exact s1
  have n2 : fx_n (fx_nw (fx_wr (fx_nw h (.inr (0, 200))) p 0 (some (p + 1))) (.inl 5)) = p + 3 := congrArg (· + 1) n1
  have s3 : fx_s (k_MI_init (fx_nw (fx_wr (fx_nw h (.inr (0, 200))) p 0 (some (p + 1))) (.inl 5)) (p + 2)) a = fx_s h a := (s_MI_init n2 (by omega)).trans s2
  have n3 : fx_n (k_MI_init (fx_nw (fx_wr (fx_nw h (.inr (0, 200))) p 0 (some (p + 1))) (.inl 5)) (p + 2)) = p + 11 := n_MI_init n2
  have s4 : fx_s (fx_wr (k_MI_init (fx_nw (fx_wr (fx_nw h (.inr (0, 200))) p 0 (some (p + 1))) (.inl 5)) (p + 2)) p 1 (some (p + 2))) a = fx_s h a := s3
  have n4 : fx_n (fx_wr (k_MI_init (fx_nw (fx_wr (fx_nw h (.inr (0, 200))) p 0 (some (p + 1))) (.inl 5)) (p + 2)) p 1 (some (p + 2))) = p + 11 := n3
  exact s4
theorem r_ME_init {h : fx_H} {p a : Nat} (hn : fx_n h = p + 1) (ha : a < p) (j : Nat) : fx_r (k_ME_init h p) a j = fx_r h a j := by
  have r0 : fx_r (fx_nw h (.inr (0, 200))) a j = fx_r h a j := by rw [fx_r_nw, if_neg (by rw [hn]; omega)]
  have n0 : fx_n (fx_nw h (.inr (0, 200))) = p + 2 := congrArg (· + 1) hn
  have r1 : fx_r (fx_wr (fx_nw h (.inr (0, 200))) p 0 (some (p + 1))) a j = fx_r h a j := by rw [fx_r_wr, if_neg (by omega)]; exact r0
  have n1 : fx_n (fx_wr (fx_nw h (.inr (0, 200))) p 0 (some (p + 1))) = p + 2 := n0
  have r2 : fx_r (fx_nw (fx_wr (fx_nw h (.inr (0, 200))) p 0 (some (p + 1))) (.inl 5)) a j = fx_r h a j := by rw [fx_r_nw, if_neg (by rw [n1]; omega)]; exact r1
  have n2 : fx_n (fx_nw (fx_wr (fx_nw h (.inr (0, 200))) p 0 (some (p + 1))) (.inl 5)) = p + 3 := congrArg (· + 1) n1
  have r3 : fx_r (k_MI_init (fx_nw (fx_wr (fx_nw h (.inr (0, 200))) p 0 (some (p + 1))) (.inl 5)) (p + 2)) a j = fx_r h a j := (r_MI_init n2 (by omega) j).trans r2
  have n3 : fx_n (k_MI_init (fx_nw (fx_wr (fx_nw h (.inr (0, 200))) p 0 (some (p + 1))) (.inl 5)) (p + 2)) = p + 11 := n_MI_init n2
  have r4 : fx_r (fx_wr (k_MI_init (fx_nw (fx_wr (fx_nw h (.inr (0, 200))) p 0 (some (p + 1))) (.inl 5)) (p + 2)) p 1 (some (p + 2))) a j = fx_r h a j := by rw [fx_r_wr, if_neg (by omega)]; exact r3
  have n4 : fx_n (fx_wr (k_MI_init (fx_nw (fx_wr (fx_nw h (.inr (0, 200))) p 0 (some (p + 1))) (.inl 5)) (p + 2)) p 1 (some (p + 2))) = p + 11 := n3
  exact r4
theorem i_ME_init {h : fx_H} {p a : Nat} (hn : fx_n h = p + 1) (ha : a < p) (j : Nat) : fx_i (k_ME_init h p) a j = fx_i h a j := by
  have i0 : fx_i (fx_nw h (.inr (0, 200))) a j = fx_i h a j := by rw [fx_i_nw, if_neg (by rw [hn]; omega)]
  have n0 : fx_n (fx_nw h (.inr (0, 200))) = p + 2 := congrArg (· + 1) hn
  have i1 : fx_i (fx_wr (fx_nw h (.inr (0, 200))) p 0 (some (p + 1))) a j = fx_i h a j := i0
  have n1 : fx_n (fx_wr (fx_nw h (.inr (0, 200))) p 0 (some (p + 1))) = p + 2 := n0
  have i2 : fx_i (fx_nw (fx_wr (fx_nw h (.inr (0, 200))) p 0 (some (p + 1))) (.inl 5)) a j = fx_i h a j := by rw [fx_i_nw, if_neg (by rw [n1]; omega)]; exact i1
  have n2 : fx_n (fx_nw (fx_wr (fx_nw h (.inr (0, 200))) p 0 (some (p + 1))) (.inl 5)) = p + 3 := congrArg (· + 1) n1
  have i3 : fx_i (k_MI_init (fx_nw (fx_wr (fx_nw h (.inr (0, 200))) p 0 (some (p + 1))) (.inl 5)) (p + 2)) a j = fx_i h a j := (i_MI_init n2 (by omega) j).trans i2
  have n3 : fx_n (k_MI_init (fx_nw (fx_wr (fx_nw h (.inr (0, 200))) p 0 (some (p + 1))) (.inl 5)) (p + 2)) = p + 11 := n_MI_init n2
  have i4 : fx_i (fx_wr (k_MI_init (fx_nw (fx_wr (fx_nw h (.inr (0, 200))) p 0 (some (p + 1))) (.inl 5)) (p + 2)) p 1 (some (p + 2))) a j = fx_i h a j := i3
  have n4 : fx_n (fx_wr (k_MI_init (fx_nw (fx_wr (fx_nw h (.inr (0, 200))) p 0 (some (p + 1))) (.inl 5)) (p + 2)) p 1 (some (p + 2))) = p + 11 := n3
  exact i4
def b_DE_init (p i : Nat) (k : fx_H) : fx_H := fx_wi (fx_wr (k_PI_init (fx_nw k (.inl 2)) (p + 48 + 4 * i)) (p + 1) i (some (p + 48 + 4 * i))) (p + 45) i (-1)
def P_DE_init (p : Nat) (K : fx_H) (i : Nat) (k : fx_H) : Prop := fx_n k = p + 48 + 4 * i ∧ (∀ a, a < p + 48 → fx_s k a = fx_s K a) ∧ ∀ a j, a < p + 48 → a ≠ p + 1 → fx_r k a j = fx_r K a j
theorem lp_DE_init {p i : Nat} {K k : fx_H} (hk : P_DE_init p K i k) : P_DE_init p K (i + 1) (b_DE_init p i k) := by
  have h1 := hk.1
  have h2 : fx_n (fx_nw k (.inl 2)) = p + 48 + 4 * i + 1 := congrArg (· + 1) h1
  refine ⟨?_, fun a ha => ?_, fun a j ha hb => ?_⟩
  · have h3 := n_PI_init h2
    show fx_n (k_PI_init (fx_nw k (.inl 2)) (p + 48 + 4 * i)) = _
    omega
  · show fx_s (k_PI_init (fx_nw k (.inl 2)) (p + 48 + 4 * i)) a = _
    rw [s_PI_init h2 (by omega), nw_o h1 (by omega)]
    exact hk.2.1 a ha
  · show fx_r (fx_wr (k_PI_init (fx_nw k (.inl 2)) (p + 48 + 4 * i)) (p + 1) i (some (p + 48 + 4 * i))) a j = _
    rw [fx_r_wr, if_neg (by omega), r_PI_init h2 (by omega), fx_r_nw, if_neg (by omega)]
    exact hk.2.2 a j ha hb
theorem it_DE_init {p : Nat} {K : fx_H} (hn : fx_n K = p + 48) (n : Nat) : P_DE_init p K n (it (b_DE_init p) K n) := it_inv (P_DE_init p K) (b_DE_init p) K ⟨hn, fun _ _ => rfl, fun _ _ _ _ => rfl⟩ n (fun _ _ _ hk => lp_DE_init hk) n (Nat.le_refl _)
def k_DE_init (h : fx_H) (p : Nat) : fx_H := it (b_DE_init p) (fx_wi (fx_wr (fx_nw (fx_wr (fx_nw (fx_wr (fx_nw (fx_wr (k_PL_init (fx_nw (fx_wr (fx_nw h (.inr (3, 10))) p 0 (some (p + 1))) (.inl 3)) (p + 2)) p 1 (some (p + 2))) (.inr (0, 10))) p 2 (some (p + 45))) (.inr (1, 10))) p 3 (some (p + 46))) (.inr (1, 4))) p 4 (some (p + 47))) p 6 300) 10
set_option maxRecDepth 100000 in
set_option maxHeartbeats 1000000 in
theorem c_DE_init {g : fx_G} (ok : fx_ok g) (h : fx_H) (p : Nat) (hn : fx_n h = p + 1) (hp : fx_s h p = some (.inl 4)) : fx_C g mq_DE_init [.ref p] h (fx_is none (k_DE_init h p)) 87 2357 := by
  refine fx_body (by decide +kernel) (Nat.le_of_ble_eq_true rfl) ?_
  show fx_X g mq_DE_init 0 [(0, .ref p)] [] h _ 87 2357
  refine fx_aload_n 0 dq_DE_init_0 rfl rfl ?_
  refine fx_objInit ok sq_DE_3 kj_obj.1 kj_obj.2 (by decide) (Nat.le_of_ble_eq_true rfl) dq_DE_init_1 ?_
  refine fx_aload_n 0 dq_DE_init_4 rfl rfl ?_
  refine fx_bipush (v := 10) dq_DE_init_5 (by decide) ?_
  refine fx_anew ok (mc := 86) (ms := 2347) (ak := 3) (N := 10) rfl (by decide) lk_DE_9 (fx_ov ok kv_PI) (by decide) (by decide) (by decide) dq_DE_init_7 ?_
  rw [hn]
  have s1_0 : fx_s (fx_nw h (.inr (3, 10))) (p + 0) = some (.inl 4) := (nw_o hn (by omega)).trans hp
  have s1_1 : fx_s (fx_nw h (.inr (3, 10))) (p + 1) = some (.inr (3, 10)) := nw_s h (.inr (3, 10)) hn
  have n1 : fx_n (fx_nw h (.inr (3, 10))) = p + 2 := congrArg (· + 1) hn
  refine fx_putr ok fp_DE_11 s1_0 (fun _ => rfl) dq_DE_init_10 (by decide) ?_
  have r2_0 : fx_r (fx_wr (fx_nw h (.inr (3, 10))) p 0 (some (p + 1))) p 0 = some (p + 1) := by rw [fx_r_wr, if_pos ⟨rfl, rfl⟩]
  have s2_0 : fx_s (fx_wr (fx_nw h (.inr (3, 10))) p 0 (some (p + 1))) (p + 0) = some (.inl 4) := s1_0
  have s2_1 : fx_s (fx_wr (fx_nw h (.inr (3, 10))) p 0 (some (p + 1))) (p + 1) = some (.inr (3, 10)) := s1_1
  have n2 : fx_n (fx_wr (fx_nw h (.inr (3, 10))) p 0 (some (p + 1))) = p + 2 := n1
  refine fx_aload_n 0 dq_DE_init_13 rfl rfl ?_
  refine fx_new ok (mc := 85) (ms := 2344) (ci := 3) (N := 3) rfl lq_PL tq_PL_ok nw_PL lk_DE_17 ko_PL kn_PL dq_DE_init_14 ?_
  rw [n2]
  have r3_0 : fx_r (fx_nw (fx_wr (fx_nw h (.inr (3, 10))) p 0 (some (p + 1))) (.inl 3)) p 0 = some (p + 1) := by rw [fx_r_nw, if_neg (by rw [n2]; omega)]; exact r2_0
  have s3_0 : fx_s (fx_nw (fx_wr (fx_nw h (.inr (3, 10))) p 0 (some (p + 1))) (.inl 3)) (p + 0) = some (.inl 4) := (nw_o n2 (by omega)).trans s2_0
  have s3_1 : fx_s (fx_nw (fx_wr (fx_nw h (.inr (3, 10))) p 0 (some (p + 1))) (.inl 3)) (p + 1) = some (.inr (3, 10)) := (nw_o n2 (by omega)).trans s2_1
  have s3_2 : fx_s (fx_nw (fx_wr (fx_nw h (.inr (3, 10))) p 0 (some (p + 1))) (.inl 3)) (p + 2) = some (.inl 3) := nw_s (fx_wr (fx_nw h (.inr (3, 10))) p 0 (some (p + 1))) (.inl 3) n2
  have n3 : fx_n (fx_nw (fx_wr (fx_nw h (.inr (3, 10))) p 0 (some (p + 1))) (.inl 3)) = p + 3 := congrArg (· + 1) n2
  refine fx_dup dq_DE_init_17 rfl ?_
  refine fx_Ia0 ok (mc' := 42) (ms' := 1170) (mc := 43) (ms := 1174) sq_DE_19 (c_PL_init ok _ (p + 2) n3 s3_2) (by decide) (Nat.le_of_ble_eq_true rfl) dq_DE_init_18 ?_
  have r4_0 : fx_r (k_PL_init (fx_nw (fx_wr (fx_nw h (.inr (3, 10))) p 0 (some (p + 1))) (.inl 3)) (p + 2)) p 0 = some (p + 1) := (r_PL_init n3 (by omega) _).trans r3_0
  have s4_0 : fx_s (k_PL_init (fx_nw (fx_wr (fx_nw h (.inr (3, 10))) p 0 (some (p + 1))) (.inl 3)) (p + 2)) (p + 0) = some (.inl 4) := (s_PL_init n3 (by omega)).trans s3_0
  have s4_1 : fx_s (k_PL_init (fx_nw (fx_wr (fx_nw h (.inr (3, 10))) p 0 (some (p + 1))) (.inl 3)) (p + 2)) (p + 1) = some (.inr (3, 10)) := (s_PL_init n3 (by omega)).trans s3_1
  have s4_2 : fx_s (k_PL_init (fx_nw (fx_wr (fx_nw h (.inr (3, 10))) p 0 (some (p + 1))) (.inl 3)) (p + 2)) (p + 2) = some (.inl 3) := (s_PL_init n3 (by omega)).trans s3_2
  have n4 : fx_n (k_PL_init (fx_nw (fx_wr (fx_nw h (.inr (3, 10))) p 0 (some (p + 1))) (.inl 3)) (p + 2)) = p + 45 := n_PL_init n3
  refine fx_putr ok fp_DE_20 s4_0 (fun _ => rfl) dq_DE_init_21 (by decide) ?_
  have r5_0 : fx_r (fx_wr (k_PL_init (fx_nw (fx_wr (fx_nw h (.inr (3, 10))) p 0 (some (p + 1))) (.inl 3)) (p + 2)) p 1 (some (p + 2))) p 0 = some (p + 1) := by rw [fx_r_wr, if_neg (by omega)]; exact r4_0
  have s5_0 : fx_s (fx_wr (k_PL_init (fx_nw (fx_wr (fx_nw h (.inr (3, 10))) p 0 (some (p + 1))) (.inl 3)) (p + 2)) p 1 (some (p + 2))) (p + 0) = some (.inl 4) := s4_0
  have s5_1 : fx_s (fx_wr (k_PL_init (fx_nw (fx_wr (fx_nw h (.inr (3, 10))) p 0 (some (p + 1))) (.inl 3)) (p + 2)) p 1 (some (p + 2))) (p + 1) = some (.inr (3, 10)) := s4_1
  have s5_2 : fx_s (fx_wr (k_PL_init (fx_nw (fx_wr (fx_nw h (.inr (3, 10))) p 0 (some (p + 1))) (.inl 3)) (p + 2)) p 1 (some (p + 2))) (p + 2) = some (.inl 3) := s4_2
  have n5 : fx_n (fx_wr (k_PL_init (fx_nw (fx_wr (fx_nw h (.inr (3, 10))) p 0 (some (p + 1))) (.inl 3)) (p + 2)) p 1 (some (p + 2))) = p + 45 := n4
  refine fx_aload_n 0 dq_DE_init_24 rfl rfl ?_
  refine fx_bipush (v := 10) dq_DE_init_25 (by decide) ?_
  refine fx_newa ok (mc := 42) (ms := 1164) (atype := .int) (ak := 0) (N := 10) rfl (by decide) (by decide) (by decide) (by intro C hC; cases hC) ka_int (by decide) (by decide) (by decide) dq_DE_init_27 ?_
  rw [n5]
  have r6_0 : fx_r (fx_nw (fx_wr (k_PL_init (fx_nw (fx_wr (fx_nw h (.inr (3, 10))) p 0 (some (p + 1))) (.inl 3)) (p + 2)) p 1 (some (p + 2))) (.inr (0, 10))) p 0 = some (p + 1) := by rw [fx_r_nw, if_neg (by rw [n5]; omega)]; exact r5_0
  have s6_0 : fx_s (fx_nw (fx_wr (k_PL_init (fx_nw (fx_wr (fx_nw h (.inr (3, 10))) p 0 (some (p + 1))) (.inl 3)) (p + 2)) p 1 (some (p + 2))) (.inr (0, 10))) (p + 0) = some (.inl 4) := (nw_o n5 (by omega)).trans s5_0
  have s6_1 : fx_s (fx_nw (fx_wr (k_PL_init (fx_nw (fx_wr (fx_nw h (.inr (3, 10))) p 0 (some (p + 1))) (.inl 3)) (p + 2)) p 1 (some (p + 2))) (.inr (0, 10))) (p + 1) = some (.inr (3, 10)) := (nw_o n5 (by omega)).trans s5_1
  have s6_2 : fx_s (fx_nw (fx_wr (k_PL_init (fx_nw (fx_wr (fx_nw h (.inr (3, 10))) p 0 (some (p + 1))) (.inl 3)) (p + 2)) p 1 (some (p + 2))) (.inr (0, 10))) (p + 2) = some (.inl 3) := (nw_o n5 (by omega)).trans s5_2
  have s6_45 : fx_s (fx_nw (fx_wr (k_PL_init (fx_nw (fx_wr (fx_nw h (.inr (3, 10))) p 0 (some (p + 1))) (.inl 3)) (p + 2)) p 1 (some (p + 2))) (.inr (0, 10))) (p + 45) = some (.inr (0, 10)) := nw_s (fx_wr (k_PL_init (fx_nw (fx_wr (fx_nw h (.inr (3, 10))) p 0 (some (p + 1))) (.inl 3)) (p + 2)) p 1 (some (p + 2))) (.inr (0, 10)) n5
  have n6 : fx_n (fx_nw (fx_wr (k_PL_init (fx_nw (fx_wr (fx_nw h (.inr (3, 10))) p 0 (some (p + 1))) (.inl 3)) (p + 2)) p 1 (some (p + 2))) (.inr (0, 10))) = p + 46 := congrArg (· + 1) n5
  refine fx_putr ok fp_DE_24 s6_0 (fun _ => rfl) dq_DE_init_29 (by decide) ?_
  have r7_0 : fx_r (fx_wr (fx_nw (fx_wr (k_PL_init (fx_nw (fx_wr (fx_nw h (.inr (3, 10))) p 0 (some (p + 1))) (.inl 3)) (p + 2)) p 1 (some (p + 2))) (.inr (0, 10))) p 2 (some (p + 45))) p 0 = some (p + 1) := by rw [fx_r_wr, if_neg (by omega)]; exact r6_0
  have r7_2 : fx_r (fx_wr (fx_nw (fx_wr (k_PL_init (fx_nw (fx_wr (fx_nw h (.inr (3, 10))) p 0 (some (p + 1))) (.inl 3)) (p + 2)) p 1 (some (p + 2))) (.inr (0, 10))) p 2 (some (p + 45))) p 2 = some (p + 45) := by rw [fx_r_wr, if_pos ⟨rfl, rfl⟩]
  have s7_0 : fx_s (fx_wr (fx_nw (fx_wr (k_PL_init (fx_nw (fx_wr (fx_nw h (.inr (3, 10))) p 0 (some (p + 1))) (.inl 3)) (p + 2)) p 1 (some (p + 2))) (.inr (0, 10))) p 2 (some (p + 45))) (p + 0) = some (.inl 4) := s6_0
  have s7_1 : fx_s (fx_wr (fx_nw (fx_wr (k_PL_init (fx_nw (fx_wr (fx_nw h (.inr (3, 10))) p 0 (some (p + 1))) (.inl 3)) (p + 2)) p 1 (some (p + 2))) (.inr (0, 10))) p 2 (some (p + 45))) (p + 1) = some (.inr (3, 10)) := s6_1
  have s7_2 : fx_s (fx_wr (fx_nw (fx_wr (k_PL_init (fx_nw (fx_wr (fx_nw h (.inr (3, 10))) p 0 (some (p + 1))) (.inl 3)) (p + 2)) p 1 (some (p + 2))) (.inr (0, 10))) p 2 (some (p + 45))) (p + 2) = some (.inl 3) := s6_2
  have s7_45 : fx_s (fx_wr (fx_nw (fx_wr (k_PL_init (fx_nw (fx_wr (fx_nw h (.inr (3, 10))) p 0 (some (p + 1))) (.inl 3)) (p + 2)) p 1 (some (p + 2))) (.inr (0, 10))) p 2 (some (p + 45))) (p + 45) = some (.inr (0, 10)) := s6_45
  have n7 : fx_n (fx_wr (fx_nw (fx_wr (k_PL_init (fx_nw (fx_wr (fx_nw h (.inr (3, 10))) p 0 (some (p + 1))) (.inl 3)) (p + 2)) p 1 (some (p + 2))) (.inr (0, 10))) p 2 (some (p + 45))) = p + 46 := n6
  refine fx_aload_n 0 dq_DE_init_32 rfl rfl ?_
  refine fx_bipush (v := 10) dq_DE_init_33 (by decide) ?_
  refine fx_newa ok (mc := 41) (ms := 1154) (atype := .boolean) (ak := 1) (N := 10) rfl (by decide) (by decide) (by decide) (by intro C hC; cases hC) ka_boolean (by decide) (by decide) (by decide) dq_DE_init_35 ?_
  rw [n7]
  have r8_0 : fx_r (fx_nw (fx_wr (fx_nw (fx_wr (k_PL_init (fx_nw (fx_wr (fx_nw h (.inr (3, 10))) p 0 (some (p + 1))) (.inl 3)) (p + 2)) p 1 (some (p + 2))) (.inr (0, 10))) p 2 (some (p + 45))) (.inr (1, 10))) p 0 = some (p + 1) := by rw [fx_r_nw, if_neg (by rw [n7]; omega)]; exact r7_0
  have r8_2 : fx_r (fx_nw (fx_wr (fx_nw (fx_wr (k_PL_init (fx_nw (fx_wr (fx_nw h (.inr (3, 10))) p 0 (some (p + 1))) (.inl 3)) (p + 2)) p 1 (some (p + 2))) (.inr (0, 10))) p 2 (some (p + 45))) (.inr (1, 10))) p 2 = some (p + 45) := by rw [fx_r_nw, if_neg (by rw [n7]; omega)]; exact r7_2
  have s8_0 : fx_s (fx_nw (fx_wr (fx_nw (fx_wr (k_PL_init (fx_nw (fx_wr (fx_nw h (.inr (3, 10))) p 0 (some (p + 1))) (.inl 3)) (p + 2)) p 1 (some (p + 2))) (.inr (0, 10))) p 2 (some (p + 45))) (.inr (1, 10))) (p + 0) = some (.inl 4) := (nw_o n7 (by omega)).trans s7_0
  have s8_1 : fx_s (fx_nw (fx_wr (fx_nw (fx_wr (k_PL_init (fx_nw (fx_wr (fx_nw h (.inr (3, 10))) p 0 (some (p + 1))) (.inl 3)) (p + 2)) p 1 (some (p + 2))) (.inr (0, 10))) p 2 (some (p + 45))) (.inr (1, 10))) (p + 1) = some (.inr (3, 10)) := (nw_o n7 (by omega)).trans s7_1
  have s8_2 : fx_s (fx_nw (fx_wr (fx_nw (fx_wr (k_PL_init (fx_nw (fx_wr (fx_nw h (.inr (3, 10))) p 0 (some (p + 1))) (.inl 3)) (p + 2)) p 1 (some (p + 2))) (.inr (0, 10))) p 2 (some (p + 45))) (.inr (1, 10))) (p + 2) = some (.inl 3) := (nw_o n7 (by omega)).trans s7_2
  have s8_45 : fx_s (fx_nw (fx_wr (fx_nw (fx_wr (k_PL_init (fx_nw (fx_wr (fx_nw h (.inr (3, 10))) p 0 (some (p + 1))) (.inl 3)) (p + 2)) p 1 (some (p + 2))) (.inr (0, 10))) p 2 (some (p + 45))) (.inr (1, 10))) (p + 45) = some (.inr (0, 10)) := (nw_o n7 (by omega)).trans s7_45
  have s8_46 : fx_s (fx_nw (fx_wr (fx_nw (fx_wr (k_PL_init (fx_nw (fx_wr (fx_nw h (.inr (3, 10))) p 0 (some (p + 1))) (.inl 3)) (p + 2)) p 1 (some (p + 2))) (.inr (0, 10))) p 2 (some (p + 45))) (.inr (1, 10))) (p + 46) = some (.inr (1, 10)) := nw_s (fx_wr (fx_nw (fx_wr (k_PL_init (fx_nw (fx_wr (fx_nw h (.inr (3, 10))) p 0 (some (p + 1))) (.inl 3)) (p + 2)) p 1 (some (p + 2))) (.inr (0, 10))) p 2 (some (p + 45))) (.inr (1, 10)) n7
  have n8 : fx_n (fx_nw (fx_wr (fx_nw (fx_wr (k_PL_init (fx_nw (fx_wr (fx_nw h (.inr (3, 10))) p 0 (some (p + 1))) (.inl 3)) (p + 2)) p 1 (some (p + 2))) (.inr (0, 10))) p 2 (some (p + 45))) (.inr (1, 10))) = p + 47 := congrArg (· + 1) n7
  refine fx_putr ok fp_DE_28 s8_0 (fun _ => rfl) dq_DE_init_37 (by decide) ?_
  have r9_0 : fx_r (fx_wr (fx_nw (fx_wr (fx_nw (fx_wr (k_PL_init (fx_nw (fx_wr (fx_nw h (.inr (3, 10))) p 0 (some (p + 1))) (.inl 3)) (p + 2)) p 1 (some (p + 2))) (.inr (0, 10))) p 2 (some (p + 45))) (.inr (1, 10))) p 3 (some (p + 46))) p 0 = some (p + 1) := by rw [fx_r_wr, if_neg (by omega)]; exact r8_0
  have r9_2 : fx_r (fx_wr (fx_nw (fx_wr (fx_nw (fx_wr (k_PL_init (fx_nw (fx_wr (fx_nw h (.inr (3, 10))) p 0 (some (p + 1))) (.inl 3)) (p + 2)) p 1 (some (p + 2))) (.inr (0, 10))) p 2 (some (p + 45))) (.inr (1, 10))) p 3 (some (p + 46))) p 2 = some (p + 45) := by rw [fx_r_wr, if_neg (by omega)]; exact r8_2
  have s9_0 : fx_s (fx_wr (fx_nw (fx_wr (fx_nw (fx_wr (k_PL_init (fx_nw (fx_wr (fx_nw h (.inr (3, 10))) p 0 (some (p + 1))) (.inl 3)) (p + 2)) p 1 (some (p + 2))) (.inr (0, 10))) p 2 (some (p + 45))) (.inr (1, 10))) p 3 (some (p + 46))) (p + 0) = some (.inl 4) := s8_0
  have s9_1 : fx_s (fx_wr (fx_nw (fx_wr (fx_nw (fx_wr (k_PL_init (fx_nw (fx_wr (fx_nw h (.inr (3, 10))) p 0 (some (p + 1))) (.inl 3)) (p + 2)) p 1 (some (p + 2))) (.inr (0, 10))) p 2 (some (p + 45))) (.inr (1, 10))) p 3 (some (p + 46))) (p + 1) = some (.inr (3, 10)) := s8_1
  have s9_2 : fx_s (fx_wr (fx_nw (fx_wr (fx_nw (fx_wr (k_PL_init (fx_nw (fx_wr (fx_nw h (.inr (3, 10))) p 0 (some (p + 1))) (.inl 3)) (p + 2)) p 1 (some (p + 2))) (.inr (0, 10))) p 2 (some (p + 45))) (.inr (1, 10))) p 3 (some (p + 46))) (p + 2) = some (.inl 3) := s8_2
  have s9_45 : fx_s (fx_wr (fx_nw (fx_wr (fx_nw (fx_wr (k_PL_init (fx_nw (fx_wr (fx_nw h (.inr (3, 10))) p 0 (some (p + 1))) (.inl 3)) (p + 2)) p 1 (some (p + 2))) (.inr (0, 10))) p 2 (some (p + 45))) (.inr (1, 10))) p 3 (some (p + 46))) (p + 45) = some (.inr (0, 10)) := s8_45
  have s9_46 : fx_s (fx_wr (fx_nw (fx_wr (fx_nw (fx_wr (k_PL_init (fx_nw (fx_wr (fx_nw h (.inr (3, 10))) p 0 (some (p + 1))) (.inl 3)) (p + 2)) p 1 (some (p + 2))) (.inr (0, 10))) p 2 (some (p + 45))) (.inr (1, 10))) p 3 (some (p + 46))) (p + 46) = some (.inr (1, 10)) := s8_46
  have n9 : fx_n (fx_wr (fx_nw (fx_wr (fx_nw (fx_wr (k_PL_init (fx_nw (fx_wr (fx_nw h (.inr (3, 10))) p 0 (some (p + 1))) (.inl 3)) (p + 2)) p 1 (some (p + 2))) (.inr (0, 10))) p 2 (some (p + 45))) (.inr (1, 10))) p 3 (some (p + 46))) = p + 47 := n8
  refine fx_aload_n 0 dq_DE_init_40 rfl rfl ?_
  refine fx_iconst (v := 4) dq_DE_init_41 (by decide) ?_
  refine fx_newa ok (mc := 40) (ms := 1150) (atype := .boolean) (ak := 1) (N := 4) rfl (by decide) (by decide) (by decide) (by intro C hC; cases hC) ka_boolean (by decide) (by decide) (by decide) dq_DE_init_42 ?_
  rw [n9]
  have r10_0 : fx_r (fx_nw (fx_wr (fx_nw (fx_wr (fx_nw (fx_wr (k_PL_init (fx_nw (fx_wr (fx_nw h (.inr (3, 10))) p 0 (some (p + 1))) (.inl 3)) (p + 2)) p 1 (some (p + 2))) (.inr (0, 10))) p 2 (some (p + 45))) (.inr (1, 10))) p 3 (some (p + 46))) (.inr (1, 4))) p 0 = some (p + 1) := by rw [fx_r_nw, if_neg (by rw [n9]; omega)]; exact r9_0
  have r10_2 : fx_r (fx_nw (fx_wr (fx_nw (fx_wr (fx_nw (fx_wr (k_PL_init (fx_nw (fx_wr (fx_nw h (.inr (3, 10))) p 0 (some (p + 1))) (.inl 3)) (p + 2)) p 1 (some (p + 2))) (.inr (0, 10))) p 2 (some (p + 45))) (.inr (1, 10))) p 3 (some (p + 46))) (.inr (1, 4))) p 2 = some (p + 45) := by rw [fx_r_nw, if_neg (by rw [n9]; omega)]; exact r9_2
  have s10_0 : fx_s (fx_nw (fx_wr (fx_nw (fx_wr (fx_nw (fx_wr (k_PL_init (fx_nw (fx_wr (fx_nw h (.inr (3, 10))) p 0 (some (p + 1))) (.inl 3)) (p + 2)) p 1 (some (p + 2))) (.inr (0, 10))) p 2 (some (p + 45))) (.inr (1, 10))) p 3 (some (p + 46))) (.inr (1, 4))) (p + 0) = some (.inl 4) := (nw_o n9 (by omega)).trans s9_0
  have s10_1 : fx_s (fx_nw (fx_wr (fx_nw (fx_wr (fx_nw (fx_wr (k_PL_init (fx_nw (fx_wr (fx_nw h (.inr (3, 10))) p 0 (some (p + 1))) (.inl 3)) (p + 2)) p 1 (some (p + 2))) (.inr (0, 10))) p 2 (some (p + 45))) (.inr (1, 10))) p 3 (some (p + 46))) (.inr (1, 4))) (p + 1) = some (.inr (3, 10)) := (nw_o n9 (by omega)).trans s9_1
  have s10_2 : fx_s (fx_nw (fx_wr (fx_nw (fx_wr (fx_nw (fx_wr (k_PL_init (fx_nw (fx_wr (fx_nw h (.inr (3, 10))) p 0 (some (p + 1))) (.inl 3)) (p + 2)) p 1 (some (p + 2))) (.inr (0, 10))) p 2 (some (p + 45))) (.inr (1, 10))) p 3 (some (p + 46))) (.inr (1, 4))) (p + 2) = some (.inl 3) := (nw_o n9 (by omega)).trans s9_2
  have s10_45 : fx_s (fx_nw (fx_wr (fx_nw (fx_wr (fx_nw (fx_wr (k_PL_init (fx_nw (fx_wr (fx_nw h (.inr (3, 10))) p 0 (some (p + 1))) (.inl 3)) (p + 2)) p 1 (some (p + 2))) (.inr (0, 10))) p 2 (some (p + 45))) (.inr (1, 10))) p 3 (some (p + 46))) (.inr (1, 4))) (p + 45) = some (.inr (0, 10)) := (nw_o n9 (by omega)).trans s9_45
  have s10_46 : fx_s (fx_nw (fx_wr (fx_nw (fx_wr (fx_nw (fx_wr (k_PL_init (fx_nw (fx_wr (fx_nw h (.inr (3, 10))) p 0 (some (p + 1))) (.inl 3)) (p + 2)) p 1 (some (p + 2))) (.inr (0, 10))) p 2 (some (p + 45))) (.inr (1, 10))) p 3 (some (p + 46))) (.inr (1, 4))) (p + 46) = some (.inr (1, 10)) := (nw_o n9 (by omega)).trans s9_46
  have s10_47 : fx_s (fx_nw (fx_wr (fx_nw (fx_wr (fx_nw (fx_wr (k_PL_init (fx_nw (fx_wr (fx_nw h (.inr (3, 10))) p 0 (some (p + 1))) (.inl 3)) (p + 2)) p 1 (some (p + 2))) (.inr (0, 10))) p 2 (some (p + 45))) (.inr (1, 10))) p 3 (some (p + 46))) (.inr (1, 4))) (p + 47) = some (.inr (1, 4)) := nw_s (fx_wr (fx_nw (fx_wr (fx_nw (fx_wr (k_PL_init (fx_nw (fx_wr (fx_nw h (.inr (3, 10))) p 0 (some (p + 1))) (.inl 3)) (p + 2)) p 1 (some (p + 2))) (.inr (0, 10))) p 2 (some (p + 45))) (.inr (1, 10))) p 3 (some (p + 46))) (.inr (1, 4)) n9
  have n10 : fx_n (fx_nw (fx_wr (fx_nw (fx_wr (fx_nw (fx_wr (k_PL_init (fx_nw (fx_wr (fx_nw h (.inr (3, 10))) p 0 (some (p + 1))) (.inl 3)) (p + 2)) p 1 (some (p + 2))) (.inr (0, 10))) p 2 (some (p + 45))) (.inr (1, 10))) p 3 (some (p + 46))) (.inr (1, 4))) = p + 48 := congrArg (· + 1) n9
  refine fx_putr ok fp_DE_32 s10_0 (fun _ => rfl) dq_DE_init_44 (by decide) ?_
  have r11_0 : fx_r (fx_wr (fx_nw (fx_wr (fx_nw (fx_wr (fx_nw (fx_wr (k_PL_init (fx_nw (fx_wr (fx_nw h (.inr (3, 10))) p 0 (some (p + 1))) (.inl 3)) (p + 2)) p 1 (some (p + 2))) (.inr (0, 10))) p 2 (some (p + 45))) (.inr (1, 10))) p 3 (some (p + 46))) (.inr (1, 4))) p 4 (some (p + 47))) p 0 = some (p + 1) := by rw [fx_r_wr, if_neg (by omega)]; exact r10_0
  have r11_2 : fx_r (fx_wr (fx_nw (fx_wr (fx_nw (fx_wr (fx_nw (fx_wr (k_PL_init (fx_nw (fx_wr (fx_nw h (.inr (3, 10))) p 0 (some (p + 1))) (.inl 3)) (p + 2)) p 1 (some (p + 2))) (.inr (0, 10))) p 2 (some (p + 45))) (.inr (1, 10))) p 3 (some (p + 46))) (.inr (1, 4))) p 4 (some (p + 47))) p 2 = some (p + 45) := by rw [fx_r_wr, if_neg (by omega)]; exact r10_2
  have s11_0 : fx_s (fx_wr (fx_nw (fx_wr (fx_nw (fx_wr (fx_nw (fx_wr (k_PL_init (fx_nw (fx_wr (fx_nw h (.inr (3, 10))) p 0 (some (p + 1))) (.inl 3)) (p + 2)) p 1 (some (p + 2))) (.inr (0, 10))) p 2 (some (p + 45))) (.inr (1, 10))) p 3 (some (p + 46))) (.inr (1, 4))) p 4 (some (p + 47))) (p + 0) = some (.inl 4) := s10_0
  have s11_1 : fx_s (fx_wr (fx_nw (fx_wr (fx_nw (fx_wr (fx_nw (fx_wr (k_PL_init (fx_nw (fx_wr (fx_nw h (.inr (3, 10))) p 0 (some (p + 1))) (.inl 3)) (p + 2)) p 1 (some (p + 2))) (.inr (0, 10))) p 2 (some (p + 45))) (.inr (1, 10))) p 3 (some (p + 46))) (.inr (1, 4))) p 4 (some (p + 47))) (p + 1) = some (.inr (3, 10)) := s10_1
  have s11_2 : fx_s (fx_wr (fx_nw (fx_wr (fx_nw (fx_wr (fx_nw (fx_wr (k_PL_init (fx_nw (fx_wr (fx_nw h (.inr (3, 10))) p 0 (some (p + 1))) (.inl 3)) (p + 2)) p 1 (some (p + 2))) (.inr (0, 10))) p 2 (some (p + 45))) (.inr (1, 10))) p 3 (some (p + 46))) (.inr (1, 4))) p 4 (some (p + 47))) (p + 2) = some (.inl 3) := s10_2
  have s11_45 : fx_s (fx_wr (fx_nw (fx_wr (fx_nw (fx_wr (fx_nw (fx_wr (k_PL_init (fx_nw (fx_wr (fx_nw h (.inr (3, 10))) p 0 (some (p + 1))) (.inl 3)) (p + 2)) p 1 (some (p + 2))) (.inr (0, 10))) p 2 (some (p + 45))) (.inr (1, 10))) p 3 (some (p + 46))) (.inr (1, 4))) p 4 (some (p + 47))) (p + 45) = some (.inr (0, 10)) := s10_45
  have s11_46 : fx_s (fx_wr (fx_nw (fx_wr (fx_nw (fx_wr (fx_nw (fx_wr (k_PL_init (fx_nw (fx_wr (fx_nw h (.inr (3, 10))) p 0 (some (p + 1))) (.inl 3)) (p + 2)) p 1 (some (p + 2))) (.inr (0, 10))) p 2 (some (p + 45))) (.inr (1, 10))) p 3 (some (p + 46))) (.inr (1, 4))) p 4 (some (p + 47))) (p + 46) = some (.inr (1, 10)) := s10_46
  have s11_47 : fx_s (fx_wr (fx_nw (fx_wr (fx_nw (fx_wr (fx_nw (fx_wr (k_PL_init (fx_nw (fx_wr (fx_nw h (.inr (3, 10))) p 0 (some (p + 1))) (.inl 3)) (p + 2)) p 1 (some (p + 2))) (.inr (0, 10))) p 2 (some (p + 45))) (.inr (1, 10))) p 3 (some (p + 46))) (.inr (1, 4))) p 4 (some (p + 47))) (p + 47) = some (.inr (1, 4)) := s10_47
  have n11 : fx_n (fx_wr (fx_nw (fx_wr (fx_nw (fx_wr (fx_nw (fx_wr (k_PL_init (fx_nw (fx_wr (fx_nw h (.inr (3, 10))) p 0 (some (p + 1))) (.inl 3)) (p + 2)) p 1 (some (p + 2))) (.inr (0, 10))) p 2 (some (p + 45))) (.inr (1, 10))) p 3 (some (p + 46))) (.inr (1, 4))) p 4 (some (p + 47))) = p + 48 := n10
  refine fx_aload_n 0 dq_DE_init_47 rfl rfl ?_
  refine fx_sipush (v := 300) dq_DE_init_48 (by decide) ?_
  refine fx_puti ok fp_DE_35 s11_0 (by decide) dq_DE_init_51 (Or.inl (by decide)) ?_
  have r12_0 : fx_r (fx_wi (fx_wr (fx_nw (fx_wr (fx_nw (fx_wr (fx_nw (fx_wr (k_PL_init (fx_nw (fx_wr (fx_nw h (.inr (3, 10))) p 0 (some (p + 1))) (.inl 3)) (p + 2)) p 1 (some (p + 2))) (.inr (0, 10))) p 2 (some (p + 45))) (.inr (1, 10))) p 3 (some (p + 46))) (.inr (1, 4))) p 4 (some (p + 47))) p 6 300) p 0 = some (p + 1) := r11_0
  have r12_2 : fx_r (fx_wi (fx_wr (fx_nw (fx_wr (fx_nw (fx_wr (fx_nw (fx_wr (k_PL_init (fx_nw (fx_wr (fx_nw h (.inr (3, 10))) p 0 (some (p + 1))) (.inl 3)) (p + 2)) p 1 (some (p + 2))) (.inr (0, 10))) p 2 (some (p + 45))) (.inr (1, 10))) p 3 (some (p + 46))) (.inr (1, 4))) p 4 (some (p + 47))) p 6 300) p 2 = some (p + 45) := r11_2
  have s12_0 : fx_s (fx_wi (fx_wr (fx_nw (fx_wr (fx_nw (fx_wr (fx_nw (fx_wr (k_PL_init (fx_nw (fx_wr (fx_nw h (.inr (3, 10))) p 0 (some (p + 1))) (.inl 3)) (p + 2)) p 1 (some (p + 2))) (.inr (0, 10))) p 2 (some (p + 45))) (.inr (1, 10))) p 3 (some (p + 46))) (.inr (1, 4))) p 4 (some (p + 47))) p 6 300) (p + 0) = some (.inl 4) := s11_0
  have s12_1 : fx_s (fx_wi (fx_wr (fx_nw (fx_wr (fx_nw (fx_wr (fx_nw (fx_wr (k_PL_init (fx_nw (fx_wr (fx_nw h (.inr (3, 10))) p 0 (some (p + 1))) (.inl 3)) (p + 2)) p 1 (some (p + 2))) (.inr (0, 10))) p 2 (some (p + 45))) (.inr (1, 10))) p 3 (some (p + 46))) (.inr (1, 4))) p 4 (some (p + 47))) p 6 300) (p + 1) = some (.inr (3, 10)) := s11_1
  have s12_2 : fx_s (fx_wi (fx_wr (fx_nw (fx_wr (fx_nw (fx_wr (fx_nw (fx_wr (k_PL_init (fx_nw (fx_wr (fx_nw h (.inr (3, 10))) p 0 (some (p + 1))) (.inl 3)) (p + 2)) p 1 (some (p + 2))) (.inr (0, 10))) p 2 (some (p + 45))) (.inr (1, 10))) p 3 (some (p + 46))) (.inr (1, 4))) p 4 (some (p + 47))) p 6 300) (p + 2) = some (.inl 3) := s11_2
  have s12_45 : fx_s (fx_wi (fx_wr (fx_nw (fx_wr (fx_nw (fx_wr (fx_nw (fx_wr (k_PL_init (fx_nw (fx_wr (fx_nw h (.inr (3, 10))) p 0 (some (p + 1))) (.inl 3)) (p + 2)) p 1 (some (p + 2))) (.inr (0, 10))) p 2 (some (p + 45))) (.inr (1, 10))) p 3 (some (p + 46))) (.inr (1, 4))) p 4 (some (p + 47))) p 6 300) (p + 45) = some (.inr (0, 10)) := s11_45
  have s12_46 : fx_s (fx_wi (fx_wr (fx_nw (fx_wr (fx_nw (fx_wr (fx_nw (fx_wr (k_PL_init (fx_nw (fx_wr (fx_nw h (.inr (3, 10))) p 0 (some (p + 1))) (.inl 3)) (p + 2)) p 1 (some (p + 2))) (.inr (0, 10))) p 2 (some (p + 45))) (.inr (1, 10))) p 3 (some (p + 46))) (.inr (1, 4))) p 4 (some (p + 47))) p 6 300) (p + 46) = some (.inr (1, 10)) := s11_46
  have s12_47 : fx_s (fx_wi (fx_wr (fx_nw (fx_wr (fx_nw (fx_wr (fx_nw (fx_wr (k_PL_init (fx_nw (fx_wr (fx_nw h (.inr (3, 10))) p 0 (some (p + 1))) (.inl 3)) (p + 2)) p 1 (some (p + 2))) (.inr (0, 10))) p 2 (some (p + 45))) (.inr (1, 10))) p 3 (some (p + 46))) (.inr (1, 4))) p 4 (some (p + 47))) p 6 300) (p + 47) = some (.inr (1, 4)) := s11_47
  have n12 : fx_n (fx_wi (fx_wr (fx_nw (fx_wr (fx_nw (fx_wr (fx_nw (fx_wr (k_PL_init (fx_nw (fx_wr (fx_nw h (.inr (3, 10))) p 0 (some (p + 1))) (.inl 3)) (p + 2)) p 1 (some (p + 2))) (.inr (0, 10))) p 2 (some (p + 45))) (.inr (1, 10))) p 3 (some (p + 46))) (.inr (1, 4))) p 4 (some (p + 47))) p 6 300) = p + 48 := n11
  refine fx_iconst (v := 0) dq_DE_init_54 (by decide) ?_
  refine fx_istore_n dq_DE_init_55 rfl (by decide) rfl ?_
  have hr0 : fx_r (fx_wi (fx_wr (fx_nw (fx_wr (fx_nw (fx_wr (fx_nw (fx_wr (k_PL_init (fx_nw (fx_wr (fx_nw h (.inr (3, 10))) p 0 (some (p + 1))) (.inl 3)) (p + 2)) p 1 (some (p + 2))) (.inr (0, 10))) p 2 (some (p + 45))) (.inr (1, 10))) p 3 (some (p + 46))) (.inr (1, 4))) p 4 (some (p + 47))) p 6 300) p 0 = some (p + 1) := r12_0
  refine fx_forb (mc := 0) (ms := 0) (fun i => [(1, .int (nI i)), (0, .ref p)]) (b_DE_init p) (fx_wi (fx_wr (fx_nw (fx_wr (fx_nw (fx_wr (fx_nw (fx_wr (k_PL_init (fx_nw (fx_wr (fx_nw h (.inr (3, 10))) p 0 (some (p + 1))) (.inl 3)) (p + 2)) p 1 (some (p + 2))) (.inr (0, 10))) p 2 (some (p + 45))) (.inr (1, 10))) p 3 (some (p + 46))) (.inr (1, 4))) p 4 (some (p + 47))) p 6 300) 10 4 115 (fun i hi hK => ?_) ?_
  · have hP := it_DE_init (K := fx_wi (fx_wr (fx_nw (fx_wr (fx_nw (fx_wr (fx_nw (fx_wr (k_PL_init (fx_nw (fx_wr (fx_nw h (.inr (3, 10))) p 0 (some (p + 1))) (.inl 3)) (p + 2)) p 1 (some (p + 2))) (.inr (0, 10))) p 2 (some (p + 45))) (.inr (1, 10))) p 3 (some (p + 46))) (.inr (1, 4))) p 4 (some (p + 47))) p 6 300) n12 i
    have hs := (hP.2.1 (p + 0) (by omega)).trans s12_0
    have ha := (hP.2.1 (p + 1) (by omega)).trans s12_1
    have hx := (hP.2.1 (p + 45) (by omega)).trans s12_45
    have hy : fx_r (it (b_DE_init p) (fx_wi (fx_wr (fx_nw (fx_wr (fx_nw (fx_wr (fx_nw (fx_wr (k_PL_init (fx_nw (fx_wr (fx_nw h (.inr (3, 10))) p 0 (some (p + 1))) (.inl 3)) (p + 2)) p 1 (some (p + 2))) (.inr (0, 10))) p 2 (some (p + 45))) (.inr (1, 10))) p 3 (some (p + 46))) (.inr (1, 4))) p 4 (some (p + 47))) p 6 300) i) p 2 = some (p + 45) := (hP.2.2 p 2 (by omega) (by omega)).trans r12_2
    have hr : fx_r (it (b_DE_init p) (fx_wi (fx_wr (fx_nw (fx_wr (fx_nw (fx_wr (fx_nw (fx_wr (k_PL_init (fx_nw (fx_wr (fx_nw h (.inr (3, 10))) p 0 (some (p + 1))) (.inl 3)) (p + 2)) p 1 (some (p + 2))) (.inr (0, 10))) p 2 (some (p + 45))) (.inr (1, 10))) p 3 (some (p + 46))) (.inr (1, 4))) p 4 (some (p + 47))) p 6 300) i) p 0 = some (p + 1) := (hP.2.2 p 0 (by omega) (by omega)).trans hr0
    have hn1 := hP.1
    clear hP hr0
    generalize it (b_DE_init p) (fx_wi (fx_wr (fx_nw (fx_wr (fx_nw (fx_wr (fx_nw (fx_wr (k_PL_init (fx_nw (fx_wr (fx_nw h (.inr (3, 10))) p 0 (some (p + 1))) (.inl 3)) (p + 2)) p 1 (some (p + 2))) (.inr (0, 10))) p 2 (some (p + 45))) (.inr (1, 10))) p 3 (some (p + 46))) (.inr (1, 4))) p 4 (some (p + 47))) p 6 300) i = k at hs ha hr hn1 hK hx hy ⊢
    refine fx_iload_n 0 dq_DE_init_56 rfl rfl ?_
    refine fx_bipush (v := 10) dq_DE_init_57 (by decide) ?_
    refine fx_icmp_ge (tgt := 88) dq_DE_init_59 (by decide) (fun hc => absurd hc (nI_ge (b := 10) hi (by decide))) (fun _ => ?_)
    refine fx_aload_n 1 dq_DE_init_62 rfl rfl ?_
    refine fx_getr ok fq_DE_11 hs dq_DE_init_63 (by decide) hr ?_
    refine fx_iload_n 0 dq_DE_init_66 rfl rfl ?_
    refine fx_new ok (mc := (0 + (10 - (i + 1)) * 4) + 3) (ms := (0 + (10 - (i + 1)) * 115) + 104) (ci := 2) (N := 11) rfl lq_PI tq_PI_ok nw_PI lk_DE_9 ko_PI kn_PI dq_DE_init_67 ?_
    rw [hn1]
    refine fx_dup dq_DE_init_70 rfl ?_
    refine fx_bud (mc' := 3 + (0 + (10 - (i + 1)) * 4)) (ms' := 104 + (0 + (10 - (i + 1)) * 115)) (Nat.add_comm _ _) (Nat.add_comm _ _) ?_
    have hq : fx_s (fx_nw k (.inl 2)) (p + 48 + 4 * i) = some (.inl 2) := nw_s k (.inl 2) hn1
    have h2 : fx_n (fx_nw k (.inl 2)) = p + 48 + 4 * i + 1 := congrArg (· + 1) hn1
    refine fx_Na0 ok (mc' := 3) (ms' := 104) (mc := (0 + (10 - (i + 1)) * 4)) (ms := (0 + (10 - (i + 1)) * 115)) sq_DE_39 (c_PI_init ok _ (p + 48 + 4 * i) h2 hq) (by decide) (Nat.le_of_ble_eq_true rfl) dq_DE_init_71 ?_
    have ha2 := (s_PI_init h2 (show p + 1 < p + 48 + 4 * i + 1 by omega)).trans ((nw_o (x := .inl 2) hn1 (by omega)).trans ha)
    have hq2 := (s_PI_init h2 (show p + 48 + 4 * i < p + 48 + 4 * i + 1 by omega)).trans hq
    have hs2 := (s_PI_init h2 (show p + 0 < p + 48 + 4 * i + 1 by omega)).trans ((nw_o (x := .inl 2) hn1 (by omega)).trans hs)
    have hx2 := (s_PI_init h2 (show p + 45 < p + 48 + 4 * i + 1 by omega)).trans ((nw_o (x := .inl 2) hn1 (by omega)).trans hx)
    have hy2 : fx_r (fx_wr (k_PI_init (fx_nw k (.inl 2)) (p + 48 + 4 * i)) (p + 1) i (some (p + 48 + 4 * i))) p 2 = some (p + 45) := by rw [fx_r_wr, if_neg (by omega), r_PI_init h2 (by omega), fx_r_nw, if_neg (by omega)]; exact hy
    refine fx_aastore ok ha2 (by decide) rfl hq2 rfl (vp_in_nI hi (by decide)) dq_DE_init_74 ?_
    refine fx_eqh (h' := fx_wr (k_PI_init (fx_nw k (.inl 2)) (p + 48 + 4 * i)) (p + 1) i (some (p + 48 + 4 * i))) (by rw [nI_clamp (by omega)]) ?_
    refine fx_aload_n 1 dq_DE_init_75 rfl rfl ?_
    refine fx_getr ok fq_DE_24 hs2 dq_DE_init_76 (by decide) hy2 ?_
    refine fx_iload_n 0 dq_DE_init_79 rfl rfl ?_
    refine fx_iconst (v := -1) dq_DE_init_80 (by decide) ?_
    refine fx_isN ok hx2 ⟨hi, by decide⟩ dq_DE_init_81 ?_
    refine fx_iinc 0 dq_DE_init_82 rfl (jz_i i) (by decide) rfl ?_
    refine fx_goto (tgt := 56) dq_DE_init_85 (by decide) ?_
    exact hK
  · refine fx_iload_n 0 dq_DE_init_56 rfl rfl ?_
    refine fx_bipush (v := 10) dq_DE_init_57 (by decide) ?_
    refine fx_icmp_ge (tgt := 88) dq_DE_init_59 (by decide) (fun _ => ?_) (fun hc => absurd (by decide) hc)
    exact fx_vreturn rfl dq_DE_init_88 ⟨rfl, rfl⟩
theorem k0n_DE_init {h : fx_H} {p : Nat} (hn : fx_n h = p + 1) : fx_n (fx_wi (fx_wr (fx_nw (fx_wr (fx_nw (fx_wr (fx_nw (fx_wr (k_PL_init (fx_nw (fx_wr (fx_nw h (.inr (3, 10))) p 0 (some (p + 1))) (.inl 3)) (p + 2)) p 1 (some (p + 2))) (.inr (0, 10))) p 2 (some (p + 45))) (.inr (1, 10))) p 3 (some (p + 46))) (.inr (1, 4))) p 4 (some (p + 47))) p 6 300) = p + 48 := by
  have n0 : fx_n (fx_nw h (.inr (3, 10))) = p + 2 := congrArg (· + 1) hn
  have n1 : fx_n (fx_wr (fx_nw h (.inr (3, 10))) p 0 (some (p + 1))) = p + 2 := n0
  have n2 : fx_n (fx_nw (fx_wr (fx_nw h (.inr (3, 10))) p 0 (some (p + 1))) (.inl 3)) = p + 3 := congrArg (· + 1) n1
  have n3 : fx_n (k_PL_init (fx_nw (fx_wr (fx_nw h (.inr (3, 10))) p 0 (some (p + 1))) (.inl 3)) (p + 2)) = p + 45 := n_PL_init n2
  have n4 : fx_n (fx_wr (k_PL_init (fx_nw (fx_wr (fx_nw h (.inr (3, 10))) p 0 (some (p + 1))) (.inl 3)) (p + 2)) p 1 (some (p + 2))) = p + 45 := n3
  have n5 : fx_n (fx_nw (fx_wr (k_PL_init (fx_nw (fx_wr (fx_nw h (.inr (3, 10))) p 0 (some (p + 1))) (.inl 3)) (p + 2)) p 1 (some (p + 2))) (.inr (0, 10))) = p + 46 := congrArg (· + 1) n4
  have n6 : fx_n (fx_wr (fx_nw (fx_wr (k_PL_init (fx_nw (fx_wr (fx_nw h (.inr (3, 10))) p 0 (some (p + 1))) (.inl 3)) (p + 2)) p 1 (some (p + 2))) (.inr (0, 10))) p 2 (some (p + 45))) = p + 46 := n5
  have n7 : fx_n (fx_nw (fx_wr (fx_nw (fx_wr (k_PL_init (fx_nw (fx_wr (fx_nw h (.inr (3, 10))) p 0 (some (p + 1))) (.inl 3)) (p + 2)) p 1 (some (p + 2))) (.inr (0, 10))) p 2 (some (p + 45))) (.inr (1, 10))) = p + 47 := congrArg (· + 1) n6
  have n8 : fx_n (fx_wr (fx_nw (fx_wr (fx_nw (fx_wr (k_PL_init (fx_nw (fx_wr (fx_nw h (.inr (3, 10))) p 0 (some (p + 1))) (.inl 3)) (p + 2)) p 1 (some (p + 2))) (.inr (0, 10))) p 2 (some (p + 45))) (.inr (1, 10))) p 3 (some (p + 46))) = p + 47 := n7
  have n9 : fx_n (fx_nw (fx_wr (fx_nw (fx_wr (fx_nw (fx_wr (k_PL_init (fx_nw (fx_wr (fx_nw h (.inr (3, 10))) p 0 (some (p + 1))) (.inl 3)) (p + 2)) p 1 (some (p + 2))) (.inr (0, 10))) p 2 (some (p + 45))) (.inr (1, 10))) p 3 (some (p + 46))) (.inr (1, 4))) = p + 48 := congrArg (· + 1) n8
  have n10 : fx_n (fx_wr (fx_nw (fx_wr (fx_nw (fx_wr (fx_nw (fx_wr (k_PL_init (fx_nw (fx_wr (fx_nw h (.inr (3, 10))) p 0 (some (p + 1))) (.inl 3)) (p + 2)) p 1 (some (p + 2))) (.inr (0, 10))) p 2 (some (p + 45))) (.inr (1, 10))) p 3 (some (p + 46))) (.inr (1, 4))) p 4 (some (p + 47))) = p + 48 := n9
  have n11 : fx_n (fx_wi (fx_wr (fx_nw (fx_wr (fx_nw (fx_wr (fx_nw (fx_wr (k_PL_init (fx_nw (fx_wr (fx_nw h (.inr (3, 10))) p 0 (some (p + 1))) (.inl 3)) (p + 2)) p 1 (some (p + 2))) (.inr (0, 10))) p 2 (some (p + 45))) (.inr (1, 10))) p 3 (some (p + 46))) (.inr (1, 4))) p 4 (some (p + 47))) p 6 300) = p + 48 := n10
  exact n11
theorem n_DE_init {h : fx_H} {p : Nat} (hn : fx_n h = p + 1) : fx_n (k_DE_init h p) = p + 88 := by
  have h1 := (it_DE_init (k0n_DE_init hn) 10).1
  unfold k_DE_init
  omega
theorem s_DE_init {h : fx_H} {p a : Nat} (hn : fx_n h = p + 1) (ha : a < p + 1) : fx_s (k_DE_init h p) a = fx_s h a := by
  have s0 : fx_s (fx_nw h (.inr (3, 10))) a = fx_s h a := by rw [fx_s_nw, if_neg (by rw [hn]; omega)]
  have n0 : fx_n (fx_nw h (.inr (3, 10))) = p + 2 := congrArg (· + 1) hn
  have s1 : fx_s (fx_wr (fx_nw h (.inr (3, 10))) p 0 (some (p + 1))) a = fx_s h a := s0
  have n1 : fx_n (fx_wr (fx_nw h (.inr (3, 10))) p 0 (some (p + 1))) = p + 2 := n0
  have s2 : fx_s (fx_nw (fx_wr (fx_nw h (.inr (3, 10))) p 0 (some (p + 1))) (.inl 3)) a = fx_s h a := by rw [fx_s_nw, if_neg (by rw [n1]; omega)]; exact s1
  have n2 : fx_n (fx_nw (fx_wr (fx_nw h (.inr (3, 10))) p 0 (some (p + 1))) (.inl 3)) = p + 3 := congrArg (· + 1) n1
  have s3 : fx_s (k_PL_init (fx_nw (fx_wr (fx_nw h (.inr (3, 10))) p 0 (some (p + 1))) (.inl 3)) (p + 2)) a = fx_s h a := (s_PL_init n2 (by omega)).trans s2
  have n3 : fx_n (k_PL_init (fx_nw (fx_wr (fx_nw h (.inr (3, 10))) p 0 (some (p + 1))) (.inl 3)) (p + 2)) = p + 45 := n_PL_init n2
  have s4 : fx_s (fx_wr (k_PL_init (fx_nw (fx_wr (fx_nw h (.inr (3, 10))) p 0 (some (p + 1))) (.inl 3)) (p + 2)) p 1 (some (p + 2))) a = fx_s h a := s3
  have n4 : fx_n (fx_wr (k_PL_init (fx_nw (fx_wr (fx_nw h (.inr (3, 10))) p 0 (some (p + 1))) (.inl 3)) (p + 2)) p 1 (some (p + 2))) = p + 45 := n3
  have s5 : fx_s (fx_nw (fx_wr (k_PL_init (fx_nw (fx_wr (fx_nw h (.inr (3, 10))) p 0 (some (p + 1))) (.inl 3)) (p + 2)) p 1 (some (p + 2))) (.inr (0, 10))) a = fx_s h a := by rw [fx_s_nw, if_neg (by rw [n4]; omega)]; exact s4
  have n5 : fx_n (fx_nw (fx_wr (k_PL_init (fx_nw (fx_wr (fx_nw h (.inr (3, 10))) p 0 (some (p + 1))) (.inl 3)) (p + 2)) p 1 (some (p + 2))) (.inr (0, 10))) = p + 46 := congrArg (· + 1) n4
  have s6 : fx_s (fx_wr (fx_nw (fx_wr (k_PL_init (fx_nw (fx_wr (fx_nw h (.inr (3, 10))) p 0 (some (p + 1))) (.inl 3)) (p + 2)) p 1 (some (p + 2))) (.inr (0, 10))) p 2 (some (p + 45))) a = fx_s h a := s5
  have n6 : fx_n (fx_wr (fx_nw (fx_wr (k_PL_init (fx_nw (fx_wr (fx_nw h (.inr (3, 10))) p 0 (some (p + 1))) (.inl 3)) (p + 2)) p 1 (some (p + 2))) (.inr (0, 10))) p 2 (some (p + 45))) = p + 46 := n5
  have s7 : fx_s (fx_nw (fx_wr (fx_nw (fx_wr (k_PL_init (fx_nw (fx_wr (fx_nw h (.inr (3, 10))) p 0 (some (p + 1))) (.inl 3)) (p + 2)) p 1 (some (p + 2))) (.inr (0, 10))) p 2 (some (p + 45))) (.inr (1, 10))) a = fx_s h a := by rw [fx_s_nw, if_neg (by rw [n6]; omega)]; exact s6
  have n7 : fx_n (fx_nw (fx_wr (fx_nw (fx_wr (k_PL_init (fx_nw (fx_wr (fx_nw h (.inr (3, 10))) p 0 (some (p + 1))) (.inl 3)) (p + 2)) p 1 (some (p + 2))) (.inr (0, 10))) p 2 (some (p + 45))) (.inr (1, 10))) = p + 47 := congrArg (· + 1) n6
  have s8 : fx_s (fx_wr (fx_nw (fx_wr (fx_nw (fx_wr (k_PL_init (fx_nw (fx_wr (fx_nw h (.inr (3, 10))) p 0 (some (p + 1))) (.inl 3)) (p + 2)) p 1 (some (p + 2))) (.inr (0, 10))) p 2 (some (p + 45))) (.inr (1, 10))) p 3 (some (p + 46))) a = fx_s h a := s7
  have n8 : fx_n (fx_wr (fx_nw (fx_wr (fx_nw (fx_wr (k_PL_init (fx_nw (fx_wr (fx_nw h (.inr (3, 10))) p 0 (some (p + 1))) (.inl 3)) (p + 2)) p 1 (some (p + 2))) (.inr (0, 10))) p 2 (some (p + 45))) (.inr (1, 10))) p 3 (some (p + 46))) = p + 47 := n7
  have s9 : fx_s (fx_nw (fx_wr (fx_nw (fx_wr (fx_nw (fx_wr (k_PL_init (fx_nw (fx_wr (fx_nw h (.inr (3, 10))) p 0 (some (p + 1))) (.inl 3)) (p + 2)) p 1 (some (p + 2))) (.inr (0, 10))) p 2 (some (p + 45))) (.inr (1, 10))) p 3 (some (p + 46))) (.inr (1, 4))) a = fx_s h a := by rw [fx_s_nw, if_neg (by rw [n8]; omega)]; exact s8
  have n9 : fx_n (fx_nw (fx_wr (fx_nw (fx_wr (fx_nw (fx_wr (k_PL_init (fx_nw (fx_wr (fx_nw h (.inr (3, 10))) p 0 (some (p + 1))) (.inl 3)) (p + 2)) p 1 (some (p + 2))) (.inr (0, 10))) p 2 (some (p + 45))) (.inr (1, 10))) p 3 (some (p + 46))) (.inr (1, 4))) = p + 48 := congrArg (· + 1) n8
  have s10 : fx_s (fx_wr (fx_nw (fx_wr (fx_nw (fx_wr (fx_nw (fx_wr (k_PL_init (fx_nw (fx_wr (fx_nw h (.inr (3, 10))) p 0 (some (p + 1))) (.inl 3)) (p + 2)) p 1 (some (p + 2))) (.inr (0, 10))) p 2 (some (p + 45))) (.inr (1, 10))) p 3 (some (p + 46))) (.inr (1, 4))) p 4 (some (p + 47))) a = fx_s h a := s9
  have n10 : fx_n (fx_wr (fx_nw (fx_wr (fx_nw (fx_wr (fx_nw (fx_wr (k_PL_init (fx_nw (fx_wr (fx_nw h (.inr (3, 10))) p 0 (some (p + 1))) (.inl 3)) (p + 2)) p 1 (some (p + 2))) (.inr (0, 10))) p 2 (some (p + 45))) (.inr (1, 10))) p 3 (some (p + 46))) (.inr (1, 4))) p 4 (some (p + 47))) = p + 48 := n9
  have s11 : fx_s (fx_wi (fx_wr (fx_nw (fx_wr (fx_nw (fx_wr (fx_nw (fx_wr (k_PL_init (fx_nw (fx_wr (fx_nw h (.inr (3, 10))) p 0 (some (p + 1))) (.inl 3)) (p + 2)) p 1 (some (p + 2))) (.inr (0, 10))) p 2 (some (p + 45))) (.inr (1, 10))) p 3 (some (p + 46))) (.inr (1, 4))) p 4 (some (p + 47))) p 6 300) a = fx_s h a := s10
  have n11 : fx_n (fx_wi (fx_wr (fx_nw (fx_wr (fx_nw (fx_wr (fx_nw (fx_wr (k_PL_init (fx_nw (fx_wr (fx_nw h (.inr (3, 10))) p 0 (some (p + 1))) (.inl 3)) (p + 2)) p 1 (some (p + 2))) (.inr (0, 10))) p 2 (some (p + 45))) (.inr (1, 10))) p 3 (some (p + 46))) (.inr (1, 4))) p 4 (some (p + 47))) p 6 300) = p + 48 := n10
  have h1 := (it_DE_init (k0n_DE_init hn) 10).2.1 a (by omega)
  unfold k_DE_init
  exact h1.trans s11
theorem r_DE_init {h : fx_H} {p a : Nat} (hn : fx_n h = p + 1) (ha : a < p) (j : Nat) : fx_r (k_DE_init h p) a j = fx_r h a j := by
  have r0 : fx_r (fx_nw h (.inr (3, 10))) a j = fx_r h a j := by rw [fx_r_nw, if_neg (by rw [hn]; omega)]
  have n0 : fx_n (fx_nw h (.inr (3, 10))) = p + 2 := congrArg (· + 1) hn
  have r1 : fx_r (fx_wr (fx_nw h (.inr (3, 10))) p 0 (some (p + 1))) a j = fx_r h a j := by rw [fx_r_wr, if_neg (by omega)]; exact r0
  have n1 : fx_n (fx_wr (fx_nw h (.inr (3, 10))) p 0 (some (p + 1))) = p + 2 := n0
  have r2 : fx_r (fx_nw (fx_wr (fx_nw h (.inr (3, 10))) p 0 (some (p + 1))) (.inl 3)) a j = fx_r h a j := by rw [fx_r_nw, if_neg (by rw [n1]; omega)]; exact r1
  have n2 : fx_n (fx_nw (fx_wr (fx_nw h (.inr (3, 10))) p 0 (some (p + 1))) (.inl 3)) = p + 3 := congrArg (· + 1) n1
  have r3 : fx_r (k_PL_init (fx_nw (fx_wr (fx_nw h (.inr (3, 10))) p 0 (some (p + 1))) (.inl 3)) (p + 2)) a j = fx_r h a j := (r_PL_init n2 (by omega) j).trans r2
  have n3 : fx_n (k_PL_init (fx_nw (fx_wr (fx_nw h (.inr (3, 10))) p 0 (some (p + 1))) (.inl 3)) (p + 2)) = p + 45 := n_PL_init n2
  have r4 : fx_r (fx_wr (k_PL_init (fx_nw (fx_wr (fx_nw h (.inr (3, 10))) p 0 (some (p + 1))) (.inl 3)) (p + 2)) p 1 (some (p + 2))) a j = fx_r h a j := by rw [fx_r_wr, if_neg (by omega)]; exact r3
  have n4 : fx_n (fx_wr (k_PL_init (fx_nw (fx_wr (fx_nw h (.inr (3, 10))) p 0 (some (p + 1))) (.inl 3)) (p + 2)) p 1 (some (p + 2))) = p + 45 := n3
  have r5 : fx_r (fx_nw (fx_wr (k_PL_init (fx_nw (fx_wr (fx_nw h (.inr (3, 10))) p 0 (some (p + 1))) (.inl 3)) (p + 2)) p 1 (some (p + 2))) (.inr (0, 10))) a j = fx_r h a j := by rw [fx_r_nw, if_neg (by rw [n4]; omega)]; exact r4
  have n5 : fx_n (fx_nw (fx_wr (k_PL_init (fx_nw (fx_wr (fx_nw h (.inr (3, 10))) p 0 (some (p + 1))) (.inl 3)) (p + 2)) p 1 (some (p + 2))) (.inr (0, 10))) = p + 46 := congrArg (· + 1) n4
  have r6 : fx_r (fx_wr (fx_nw (fx_wr (k_PL_init (fx_nw (fx_wr (fx_nw h (.inr (3, 10))) p 0 (some (p + 1))) (.inl 3)) (p + 2)) p 1 (some (p + 2))) (.inr (0, 10))) p 2 (some (p + 45))) a j = fx_r h a j := by rw [fx_r_wr, if_neg (by omega)]; exact r5
  have n6 : fx_n (fx_wr (fx_nw (fx_wr (k_PL_init (fx_nw (fx_wr (fx_nw h (.inr (3, 10))) p 0 (some (p + 1))) (.inl 3)) (p + 2)) p 1 (some (p + 2))) (.inr (0, 10))) p 2 (some (p + 45))) = p + 46 := n5
  have r7 : fx_r (fx_nw (fx_wr (fx_nw (fx_wr (k_PL_init (fx_nw (fx_wr (fx_nw h (.inr (3, 10))) p 0 (some (p + 1))) (.inl 3)) (p + 2)) p 1 (some (p + 2))) (.inr (0, 10))) p 2 (some (p + 45))) (.inr (1, 10))) a j = fx_r h a j := by rw [fx_r_nw, if_neg (by rw [n6]; omega)]; exact r6
  have n7 : fx_n (fx_nw (fx_wr (fx_nw (fx_wr (k_PL_init (fx_nw (fx_wr (fx_nw h (.inr (3, 10))) p 0 (some (p + 1))) (.inl 3)) (p + 2)) p 1 (some (p + 2))) (.inr (0, 10))) p 2 (some (p + 45))) (.inr (1, 10))) = p + 47 := congrArg (· + 1) n6
  have r8 : fx_r (fx_wr (fx_nw (fx_wr (fx_nw (fx_wr (k_PL_init (fx_nw (fx_wr (fx_nw h (.inr (3, 10))) p 0 (some (p + 1))) (.inl 3)) (p + 2)) p 1 (some (p + 2))) (.inr (0, 10))) p 2 (some (p + 45))) (.inr (1, 10))) p 3 (some (p + 46))) a j = fx_r h a j := by rw [fx_r_wr, if_neg (by omega)]; exact r7
  have n8 : fx_n (fx_wr (fx_nw (fx_wr (fx_nw (fx_wr (k_PL_init (fx_nw (fx_wr (fx_nw h (.inr (3, 10))) p 0 (some (p + 1))) (.inl 3)) (p + 2)) p 1 (some (p + 2))) (.inr (0, 10))) p 2 (some (p + 45))) (.inr (1, 10))) p 3 (some (p + 46))) = p + 47 := n7
  have r9 : fx_r (fx_nw (fx_wr (fx_nw (fx_wr (fx_nw (fx_wr (k_PL_init (fx_nw (fx_wr (fx_nw h (.inr (3, 10))) p 0 (some (p + 1))) (.inl 3)) (p + 2)) p 1 (some (p + 2))) (.inr (0, 10))) p 2 (some (p + 45))) (.inr (1, 10))) p 3 (some (p + 46))) (.inr (1, 4))) a j = fx_r h a j := by rw [fx_r_nw, if_neg (by rw [n8]; omega)]; exact r8
  have n9 : fx_n (fx_nw (fx_wr (fx_nw (fx_wr (fx_nw (fx_wr (k_PL_init (fx_nw (fx_wr (fx_nw h (.inr (3, 10))) p 0 (some (p + 1))) (.inl 3)) (p + 2)) p 1 (some (p + 2))) (.inr (0, 10))) p 2 (some (p + 45))) (.inr (1, 10))) p 3 (some (p + 46))) (.inr (1, 4))) = p + 48 := congrArg (· + 1) n8
  have r10 : fx_r (fx_wr (fx_nw (fx_wr (fx_nw (fx_wr (fx_nw (fx_wr (k_PL_init (fx_nw (fx_wr (fx_nw h (.inr (3, 10))) p 0 (some (p + 1))) (.inl 3)) (p + 2)) p 1 (some (p + 2))) (.inr (0, 10))) p 2 (some (p + 45))) (.inr (1, 10))) p 3 (some (p + 46))) (.inr (1, 4))) p 4 (some (p + 47))) a j = fx_r h a j := by rw [fx_r_wr, if_neg (by omega)]; exact r9
  have n10 : fx_n (fx_wr (fx_nw (fx_wr (fx_nw (fx_wr (fx_nw (fx_wr (k_PL_init (fx_nw (fx_wr (fx_nw h (.inr (3, 10))) p 0 (some (p + 1))) (.inl 3)) (p + 2)) p 1 (some (p + 2))) (.inr (0, 10))) p 2 (some (p + 45))) (.inr (1, 10))) p 3 (some (p + 46))) (.inr (1, 4))) p 4 (some (p + 47))) = p + 48 := n9
  have r11 : fx_r (fx_wi (fx_wr (fx_nw (fx_wr (fx_nw (fx_wr (fx_nw (fx_wr (k_PL_init (fx_nw (fx_wr (fx_nw h (.inr (3, 10))) p 0 (some (p + 1))) (.inl 3)) (p + 2)) p 1 (some (p + 2))) (.inr (0, 10))) p 2 (some (p + 45))) (.inr (1, 10))) p 3 (some (p + 46))) (.inr (1, 4))) p 4 (some (p + 47))) p 6 300) a j = fx_r h a j := r10
  have n11 : fx_n (fx_wi (fx_wr (fx_nw (fx_wr (fx_nw (fx_wr (fx_nw (fx_wr (k_PL_init (fx_nw (fx_wr (fx_nw h (.inr (3, 10))) p 0 (some (p + 1))) (.inl 3)) (p + 2)) p 1 (some (p + 2))) (.inr (0, 10))) p 2 (some (p + 45))) (.inr (1, 10))) p 3 (some (p + 46))) (.inr (1, 4))) p 4 (some (p + 47))) p 6 300) = p + 48 := n10
  have h1 := (it_DE_init (k0n_DE_init hn) 10).2.2 a j (by omega) (by omega)
  unfold k_DE_init
  exact h1.trans r11
theorem ii_DE_init {p : Nat} {K : fx_H} (hn : fx_n K = p + 48) {a : Nat} (j : Nat) (ha : a < p) : ∀ n, fx_i (it (b_DE_init p) K n) a j = fx_i K a j
  | 0 => by rw [it_0]
  | n + 1 => by
    have h1 := (it_DE_init hn n).1
    have h2 : fx_n (fx_nw (it (b_DE_init p) K n) (.inl 2)) = p + 48 + 4 * n + 1 := congrArg (· + 1) h1
    rw [it_s, b_DE_init, fx_i_wi, if_neg (by omega), fx_i_wr, i_PI_init h2 (by omega), fx_i_nw, if_neg (by omega)]
    exact ii_DE_init hn j ha n
theorem i_DE_init {h : fx_H} {p a : Nat} (hn : fx_n h = p + 1) (ha : a < p) (j : Nat) : fx_i (k_DE_init h p) a j = fx_i h a j := by
  have i0 : fx_i (fx_nw h (.inr (3, 10))) a j = fx_i h a j := by rw [fx_i_nw, if_neg (by rw [hn]; omega)]
  have n0 : fx_n (fx_nw h (.inr (3, 10))) = p + 2 := congrArg (· + 1) hn
  have i1 : fx_i (fx_wr (fx_nw h (.inr (3, 10))) p 0 (some (p + 1))) a j = fx_i h a j := i0
  have n1 : fx_n (fx_wr (fx_nw h (.inr (3, 10))) p 0 (some (p + 1))) = p + 2 := n0
  have i2 : fx_i (fx_nw (fx_wr (fx_nw h (.inr (3, 10))) p 0 (some (p + 1))) (.inl 3)) a j = fx_i h a j := by rw [fx_i_nw, if_neg (by rw [n1]; omega)]; exact i1
  have n2 : fx_n (fx_nw (fx_wr (fx_nw h (.inr (3, 10))) p 0 (some (p + 1))) (.inl 3)) = p + 3 := congrArg (· + 1) n1
  have i3 : fx_i (k_PL_init (fx_nw (fx_wr (fx_nw h (.inr (3, 10))) p 0 (some (p + 1))) (.inl 3)) (p + 2)) a j = fx_i h a j := (i_PL_init n2 (by omega) j).trans i2
  have n3 : fx_n (k_PL_init (fx_nw (fx_wr (fx_nw h (.inr (3, 10))) p 0 (some (p + 1))) (.inl 3)) (p + 2)) = p + 45 := n_PL_init n2
  have i4 : fx_i (fx_wr (k_PL_init (fx_nw (fx_wr (fx_nw h (.inr (3, 10))) p 0 (some (p + 1))) (.inl 3)) (p + 2)) p 1 (some (p + 2))) a j = fx_i h a j := i3
  have n4 : fx_n (fx_wr (k_PL_init (fx_nw (fx_wr (fx_nw h (.inr (3, 10))) p 0 (some (p + 1))) (.inl 3)) (p + 2)) p 1 (some (p + 2))) = p + 45 := n3
  have i5 : fx_i (fx_nw (fx_wr (k_PL_init (fx_nw (fx_wr (fx_nw h (.inr (3, 10))) p 0 (some (p + 1))) (.inl 3)) (p + 2)) p 1 (some (p + 2))) (.inr (0, 10))) a j = fx_i h a j := by rw [fx_i_nw, if_neg (by rw [n4]; omega)]; exact i4
  have n5 : fx_n (fx_nw (fx_wr (k_PL_init (fx_nw (fx_wr (fx_nw h (.inr (3, 10))) p 0 (some (p + 1))) (.inl 3)) (p + 2)) p 1 (some (p + 2))) (.inr (0, 10))) = p + 46 := congrArg (· + 1) n4
  have i6 : fx_i (fx_wr (fx_nw (fx_wr (k_PL_init (fx_nw (fx_wr (fx_nw h (.inr (3, 10))) p 0 (some (p + 1))) (.inl 3)) (p + 2)) p 1 (some (p + 2))) (.inr (0, 10))) p 2 (some (p + 45))) a j = fx_i h a j := i5
  have n6 : fx_n (fx_wr (fx_nw (fx_wr (k_PL_init (fx_nw (fx_wr (fx_nw h (.inr (3, 10))) p 0 (some (p + 1))) (.inl 3)) (p + 2)) p 1 (some (p + 2))) (.inr (0, 10))) p 2 (some (p + 45))) = p + 46 := n5
  have i7 : fx_i (fx_nw (fx_wr (fx_nw (fx_wr (k_PL_init (fx_nw (fx_wr (fx_nw h (.inr (3, 10))) p 0 (some (p + 1))) (.inl 3)) (p + 2)) p 1 (some (p + 2))) (.inr (0, 10))) p 2 (some (p + 45))) (.inr (1, 10))) a j = fx_i h a j := by rw [fx_i_nw, if_neg (by rw [n6]; omega)]; exact i6
  have n7 : fx_n (fx_nw (fx_wr (fx_nw (fx_wr (k_PL_init (fx_nw (fx_wr (fx_nw h (.inr (3, 10))) p 0 (some (p + 1))) (.inl 3)) (p + 2)) p 1 (some (p + 2))) (.inr (0, 10))) p 2 (some (p + 45))) (.inr (1, 10))) = p + 47 := congrArg (· + 1) n6
  have i8 : fx_i (fx_wr (fx_nw (fx_wr (fx_nw (fx_wr (k_PL_init (fx_nw (fx_wr (fx_nw h (.inr (3, 10))) p 0 (some (p + 1))) (.inl 3)) (p + 2)) p 1 (some (p + 2))) (.inr (0, 10))) p 2 (some (p + 45))) (.inr (1, 10))) p 3 (some (p + 46))) a j = fx_i h a j := i7
  have n8 : fx_n (fx_wr (fx_nw (fx_wr (fx_nw (fx_wr (k_PL_init (fx_nw (fx_wr (fx_nw h (.inr (3, 10))) p 0 (some (p + 1))) (.inl 3)) (p + 2)) p 1 (some (p + 2))) (.inr (0, 10))) p 2 (some (p + 45))) (.inr (1, 10))) p 3 (some (p + 46))) = p + 47 := n7
  have i9 : fx_i (fx_nw (fx_wr (fx_nw (fx_wr (fx_nw (fx_wr (k_PL_init (fx_nw (fx_wr (fx_nw h (.inr (3, 10))) p 0 (some (p + 1))) (.inl 3)) (p + 2)) p 1 (some (p + 2))) (.inr (0, 10))) p 2 (some (p + 45))) (.inr (1, 10))) p 3 (some (p + 46))) (.inr (1, 4))) a j = fx_i h a j := by rw [fx_i_nw, if_neg (by rw [n8]; omega)]; exact i8
  have n9 : fx_n (fx_nw (fx_wr (fx_nw (fx_wr (fx_nw (fx_wr (k_PL_init (fx_nw (fx_wr (fx_nw h (.inr (3, 10))) p 0 (some (p + 1))) (.inl 3)) (p + 2)) p 1 (some (p + 2))) (.inr (0, 10))) p 2 (some (p + 45))) (.inr (1, 10))) p 3 (some (p + 46))) (.inr (1, 4))) = p + 48 := congrArg (· + 1) n8
  have i10 : fx_i (fx_wr (fx_nw (fx_wr (fx_nw (fx_wr (fx_nw (fx_wr (k_PL_init (fx_nw (fx_wr (fx_nw h (.inr (3, 10))) p 0 (some (p + 1))) (.inl 3)) (p + 2)) p 1 (some (p + 2))) (.inr (0, 10))) p 2 (some (p + 45))) (.inr (1, 10))) p 3 (some (p + 46))) (.inr (1, 4))) p 4 (some (p + 47))) a j = fx_i h a j := i9
  have n10 : fx_n (fx_wr (fx_nw (fx_wr (fx_nw (fx_wr (fx_nw (fx_wr (k_PL_init (fx_nw (fx_wr (fx_nw h (.inr (3, 10))) p 0 (some (p + 1))) (.inl 3)) (p + 2)) p 1 (some (p + 2))) (.inr (0, 10))) p 2 (some (p + 45))) (.inr (1, 10))) p 3 (some (p + 46))) (.inr (1, 4))) p 4 (some (p + 47))) = p + 48 := n9
  have i11 : fx_i (fx_wi (fx_wr (fx_nw (fx_wr (fx_nw (fx_wr (fx_nw (fx_wr (k_PL_init (fx_nw (fx_wr (fx_nw h (.inr (3, 10))) p 0 (some (p + 1))) (.inl 3)) (p + 2)) p 1 (some (p + 2))) (.inr (0, 10))) p 2 (some (p + 45))) (.inr (1, 10))) p 3 (some (p + 46))) (.inr (1, 4))) p 4 (some (p + 47))) p 6 300) a j = fx_i h a j := by rw [fx_i_wi, if_neg (by omega)]; exact i10
  have n11 : fx_n (fx_wi (fx_wr (fx_nw (fx_wr (fx_nw (fx_wr (fx_nw (fx_wr (k_PL_init (fx_nw (fx_wr (fx_nw h (.inr (3, 10))) p 0 (some (p + 1))) (.inl 3)) (p + 2)) p 1 (some (p + 2))) (.inr (0, 10))) p 2 (some (p + 45))) (.inr (1, 10))) p 3 (some (p + 46))) (.inr (1, 4))) p 4 (some (p + 47))) p 6 300) = p + 48 := n10
  unfold k_DE_init
  exact (ii_DE_init (k0n_DE_init hn) j ha 10).trans i11
