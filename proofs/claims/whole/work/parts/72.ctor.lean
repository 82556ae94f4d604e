/-! ===== constructors with loops ===== -/
def b_MI_init (p i : Nat) (k : fx_H) : fx_H := fx_wr (fx_nw k (.inl 1)) (p + 1) i (some (p + 2 + 1 * i))
def P_MI_init (p : Nat) (K : fx_H) (i : Nat) (k : fx_H) : Prop := fx_n k = p + 2 + 1 * i ∧ (∀ a, a < p + 2 → fx_s k a = fx_s K a) ∧ ∀ a j, a < p + 2 → a ≠ p + 1 → fx_r k a j = fx_r K a j
theorem lp_MI_init {p i : Nat} {K k : fx_H} (hk : P_MI_init p K i k) : P_MI_init p K (i + 1) (b_MI_init p i k) := by
  have h1 := hk.1
  refine ⟨?_, fun a ha => ?_, fun a j ha hb => ?_⟩
  · show fx_n k + 1 = p + 2 + 1 * (i + 1)
    omega
  · show fx_s (fx_nw k (.inl 1)) a = _
    rw [nw_o h1 (by omega)]
    exact hk.2.1 a ha
  · show fx_r (fx_wr (fx_nw k (.inl 1)) (p + 1) i (some (p + 2 + 1 * i))) a j = _
    rw [fx_r_wr, if_neg (by omega), fx_r_nw, if_neg (by omega)]
    exact hk.2.2 a j ha hb
theorem it_MI_init {p : Nat} {K : fx_H} (hn : fx_n K = p + 2) (n : Nat) : P_MI_init p K n (it (b_MI_init p) K n) := it_inv (P_MI_init p K) (b_MI_init p) K ⟨hn, fun _ _ => rfl, fun _ _ _ _ => rfl⟩ n (fun _ _ _ hk => lp_MI_init hk) n (Nat.le_refl _)
def k_MI_init (h : fx_H) (p : Nat) : fx_H := it (b_MI_init p) (fx_wr (fx_nw h (.inr (4, 7))) p 0 (some (p + 1))) 7
set_option maxRecDepth 100000 in
set_option maxHeartbeats 1000000 in
theorem c_MI_init {g : fx_G} (ok : fx_ok g) (h : fx_H) (p : Nat) (hn : fx_n h = p + 1) (hp : fx_s h p = some (.inl 5)) : fx_C g mq_MI_init [.ref p] h (fx_is none (k_MI_init h p)) 8 35 := by
  refine fx_body (by decide +kernel) (Nat.le_of_ble_eq_true rfl) ?_
  show fx_X g mq_MI_init 0 [(0, .ref p)] [] h _ 8 35
  refine fx_aload_n 0 dq_MI_init_0 rfl rfl ?_
  refine fx_objInit ok sq_MI_3 kj_obj.1 kj_obj.2 (by decide) (Nat.le_of_ble_eq_true rfl) dq_MI_init_1 ?_
  refine fx_aload_n 0 dq_MI_init_4 rfl rfl ?_
  refine fx_bipush (v := 7) dq_MI_init_5 (by decide) ?_
  refine fx_anew ok (mc := 7) (ms := 28) (ak := 4) (N := 7) rfl (by decide) lk_MI_9 (fx_ov ok kv_RE) (by decide) (by decide) (by decide) dq_MI_init_7 ?_
  rw [hn]
  have s1_0 : fx_s (fx_nw h (.inr (4, 7))) (p + 0) = some (.inl 5) := (nw_o hn (by omega)).trans hp
  have s1_1 : fx_s (fx_nw h (.inr (4, 7))) (p + 1) = some (.inr (4, 7)) := nw_s h (.inr (4, 7)) hn
  have n1 : fx_n (fx_nw h (.inr (4, 7))) = p + 2 := congrArg (· + 1) hn
  refine fx_putr ok fp_MI_11 s1_0 (fun _ => rfl) dq_MI_init_10 (by decide) ?_
  have s2_0 : fx_s (fx_wr (fx_nw h (.inr (4, 7))) p 0 (some (p + 1))) (p + 0) = some (.inl 5) := s1_0
  have s2_1 : fx_s (fx_wr (fx_nw h (.inr (4, 7))) p 0 (some (p + 1))) (p + 1) = some (.inr (4, 7)) := s1_1
  have n2 : fx_n (fx_wr (fx_nw h (.inr (4, 7))) p 0 (some (p + 1))) = p + 2 := n1
  refine fx_iconst (v := 0) dq_MI_init_13 (by decide) ?_
  refine fx_istore_n dq_MI_init_14 rfl (by decide) rfl ?_
  have hr0 : fx_r (fx_wr (fx_nw h (.inr (4, 7))) p 0 (some (p + 1))) p 0 = some (p + 1) := by
    simp [fx_r_wr, fx_r_nw, fx_r_wi, fx_n_nw, fx_n_wr, fx_n_wi, hn] <;> omega
  refine fx_forb (mc := 0) (ms := 0) (fun i => [(1, .int (nI i)), (0, .ref p)]) (b_MI_init p) (fx_wr (fx_nw h (.inr (4, 7))) p 0 (some (p + 1))) 7 1 4 (fun i hi hK => ?_) ?_
  · have hP := it_MI_init (K := fx_wr (fx_nw h (.inr (4, 7))) p 0 (some (p + 1))) n2 i
    have hs := (hP.2.1 (p + 0) (by omega)).trans s2_0
    have ha := (hP.2.1 (p + 1) (by omega)).trans s2_1
    have hr : fx_r (it (b_MI_init p) (fx_wr (fx_nw h (.inr (4, 7))) p 0 (some (p + 1))) i) p 0 = some (p + 1) := (hP.2.2 p 0 (by omega) (by omega)).trans hr0
    have hn1 := hP.1
    clear hP hr0
    generalize it (b_MI_init p) (fx_wr (fx_nw h (.inr (4, 7))) p 0 (some (p + 1))) i = k at hs ha hr hn1 hK ⊢
    refine fx_iload_n 0 dq_MI_init_15 rfl rfl ?_
    refine fx_bipush (v := 6) dq_MI_init_16 (by decide) ?_
    refine fx_icmp_gt (tgt := 40) dq_MI_init_18 (by decide) (fun hc => absurd hc (jz_gt (N := 6) hi (by decide))) (fun _ => ?_)
    refine fx_aload_n 1 dq_MI_init_21 rfl rfl ?_
    refine fx_getr ok fq_MI_11 hs dq_MI_init_22 (by decide) hr ?_
    refine fx_iload_n 0 dq_MI_init_25 rfl rfl ?_
    refine fx_new ok (mc := (0 + (7 - (i + 1)) * 1) + 0) (ms := (0 + (7 - (i + 1)) * 4) + 0) (ci := 1) (N := 4) rfl lq_RE tq_RE_ok nw_RE lk_MI_9 ko_RE kn_RE dq_MI_init_26 ?_
    rw [hn1]
    refine fx_dup dq_MI_init_29 rfl ?_
    refine fx_bud (mc' := 0 + (0 + (7 - (i + 1)) * 1)) (ms' := 0 + (0 + (7 - (i + 1)) * 4)) (Nat.add_comm _ _) (Nat.add_comm _ _) ?_
    have hq : fx_s (fx_nw k (.inl 1)) (p + 2 + 1 * i) = some (.inl 1) := nw_s k (.inl 1) hn1
    have h2 : fx_n (fx_nw k (.inl 1)) = p + 2 + 1 * i + 1 := congrArg (· + 1) hn1
    refine fx_Na0 ok (mc' := 0) (ms' := 0) (mc := (0 + (7 - (i + 1)) * 1)) (ms := (0 + (7 - (i + 1)) * 4)) sq_MI_17 (cr_init ok _ (p + 2 + 1 * i) hq) (by decide) (Nat.le_of_ble_eq_true rfl) dq_MI_init_30 ?_
    have ha2 := (nw_o (x := .inl 1) hn1 (show p + 1 < p + 2 + 1 * i by omega)).trans ha
    have hq2 := hq
    refine fx_aastore ok ha2 (by decide) rfl hq2 rfl (vp_in_nI hi (by decide)) dq_MI_init_33 ?_
    refine fx_eqh (h' := fx_wr (fx_nw k (.inl 1)) (p + 1) i (some (p + 2 + 1 * i))) (by rw [nI_clamp (by omega)]) ?_
    refine fx_iinc 0 dq_MI_init_34 rfl (jz_i i) (by decide) rfl ?_
    refine fx_goto (tgt := 15) dq_MI_init_37 (by decide) ?_
    exact hK
  · refine fx_iload_n 0 dq_MI_init_15 rfl rfl ?_
    refine fx_bipush (v := 6) dq_MI_init_16 (by decide) ?_
    refine fx_icmp_gt (tgt := 40) dq_MI_init_18 (by decide) (fun _ => ?_) (fun hc => absurd (by decide) hc)
    exact fx_vreturn rfl dq_MI_init_40 ⟨rfl, rfl⟩
theorem k0n_MI_init {h : fx_H} {p : Nat} (hn : fx_n h = p + 1) : fx_n (fx_wr (fx_nw h (.inr (4, 7))) p 0 (some (p + 1))) = p + 2 := by
  simp only [fx_n_nw, fx_n_wr, fx_n_wi, hn]
theorem n_MI_init {h : fx_H} {p : Nat} (hn : fx_n h = p + 1) : fx_n (k_MI_init h p) = p + 9 := by
  have h1 := (it_MI_init (k0n_MI_init hn) 7).1
  unfold k_MI_init
  omega
theorem s_MI_init {h : fx_H} {p a : Nat} (hn : fx_n h = p + 1) (ha : a < p + 1) : fx_s (k_MI_init h p) a = fx_s h a := by
  have h1 := (it_MI_init (k0n_MI_init hn) 7).2.1 a (by omega)
  unfold k_MI_init
  rw [h1]
  simp only [fx_s_nw, fx_s_wr, fx_s_wi, fx_n_nw, fx_n_wr, fx_n_wi, hn]
  repeat rw [if_neg (by omega)]
theorem r_MI_init {h : fx_H} {p a : Nat} (hn : fx_n h = p + 1) (ha : a < p) (j : Nat) : fx_r (k_MI_init h p) a j = fx_r h a j := by
  have h1 := (it_MI_init (k0n_MI_init hn) 7).2.2 a j (by omega) (by omega)
  unfold k_MI_init
  rw [h1]
  simp only [fx_r_nw, fx_r_wr, fx_r_wi, fx_n_nw, fx_n_wr, fx_n_wi, hn]
  repeat rw [if_neg (by omega)]
def b_PL_init (p i : Nat) (k : fx_H) : fx_H := fx_wr (k_PI_init (fx_nw k (.inl 2)) (p + 3 + 4 * i)) (p + 1) i (some (p + 3 + 4 * i))
def P_PL_init (p : Nat) (K : fx_H) (i : Nat) (k : fx_H) : Prop := fx_n k = p + 3 + 4 * i ∧ (∀ a, a < p + 3 → fx_s k a = fx_s K a) ∧ ∀ a j, a < p + 3 → a ≠ p + 1 → fx_r k a j = fx_r K a j
theorem lp_PL_init {p i : Nat} {K k : fx_H} (hk : P_PL_init p K i k) : P_PL_init p K (i + 1) (b_PL_init p i k) := by
  have h1 := hk.1
  have h2 : fx_n (fx_nw k (.inl 2)) = p + 3 + 4 * i + 1 := congrArg (· + 1) h1
  refine ⟨?_, fun a ha => ?_, fun a j ha hb => ?_⟩
  · have h3 := n_PI_init h2
    show fx_n (k_PI_init (fx_nw k (.inl 2)) (p + 3 + 4 * i)) = _
    omega
  · show fx_s (k_PI_init (fx_nw k (.inl 2)) (p + 3 + 4 * i)) a = _
    rw [s_PI_init h2 (by omega), nw_o h1 (by omega)]
    exact hk.2.1 a ha
  · show fx_r (fx_wr (k_PI_init (fx_nw k (.inl 2)) (p + 3 + 4 * i)) (p + 1) i (some (p + 3 + 4 * i))) a j = _
    rw [fx_r_wr, if_neg (by omega), r_PI_init h2 (by omega), fx_r_nw, if_neg (by omega)]
    exact hk.2.2 a j ha hb
theorem it_PL_init {p : Nat} {K : fx_H} (hn : fx_n K = p + 3) (n : Nat) : P_PL_init p K n (it (b_PL_init p) K n) := it_inv (P_PL_init p K) (b_PL_init p) K ⟨hn, fun _ _ => rfl, fun _ _ _ _ => rfl⟩ n (fun _ _ _ hk => lp_PL_init hk) n (Nat.le_refl _)
def k_PL_init (h : fx_H) (p : Nat) : fx_H := it (b_PL_init p) (fx_wr (fx_nw (fx_wr (fx_nw h (.inr (3, 10))) p 0 (some (p + 1))) (.inr (0, 10))) p 1 (some (p + 2))) 10
set_option maxRecDepth 100000 in
set_option maxHeartbeats 1000000 in
theorem c_PL_init {g : fx_G} (ok : fx_ok g) (h : fx_H) (p : Nat) (hn : fx_n h = p + 1) (hp : fx_s h p = some (.inl 3)) : fx_C g mq_PL_init [.ref p] h (fx_is none (k_PL_init h p)) 42 1170 := by
  refine fx_body (by decide +kernel) (Nat.le_of_ble_eq_true rfl) ?_
  show fx_X g mq_PL_init 0 [(0, .ref p)] [] h _ 42 1170
  refine fx_aload_n 0 dq_PL_init_0 rfl rfl ?_
  refine fx_objInit ok sq_PL_3 kj_obj.1 kj_obj.2 (by decide) (Nat.le_of_ble_eq_true rfl) dq_PL_init_1 ?_
  refine fx_aload_n 0 dq_PL_init_4 rfl rfl ?_
  refine fx_bipush (v := 10) dq_PL_init_5 (by decide) ?_
  refine fx_anew ok (mc := 41) (ms := 1160) (ak := 3) (N := 10) rfl (by decide) lk_PL_9 (fx_ov ok kv_PI) (by decide) (by decide) (by decide) dq_PL_init_7 ?_
  rw [hn]
  have s1_0 : fx_s (fx_nw h (.inr (3, 10))) (p + 0) = some (.inl 3) := (nw_o hn (by omega)).trans hp
  have s1_1 : fx_s (fx_nw h (.inr (3, 10))) (p + 1) = some (.inr (3, 10)) := nw_s h (.inr (3, 10)) hn
  have n1 : fx_n (fx_nw h (.inr (3, 10))) = p + 2 := congrArg (· + 1) hn
  refine fx_putr ok fp_PL_11 s1_0 (fun _ => rfl) dq_PL_init_10 (by decide) ?_
  have s2_0 : fx_s (fx_wr (fx_nw h (.inr (3, 10))) p 0 (some (p + 1))) (p + 0) = some (.inl 3) := s1_0
  have s2_1 : fx_s (fx_wr (fx_nw h (.inr (3, 10))) p 0 (some (p + 1))) (p + 1) = some (.inr (3, 10)) := s1_1
  have n2 : fx_n (fx_wr (fx_nw h (.inr (3, 10))) p 0 (some (p + 1))) = p + 2 := n1
  refine fx_aload_n 0 dq_PL_init_13 rfl rfl ?_
  refine fx_bipush (v := 10) dq_PL_init_14 (by decide) ?_
  refine fx_newa ok (mc := 40) (ms := 1150) (atype := .int) (ak := 0) (N := 10) rfl (by decide) (by decide) (by decide) (by intro C hC; cases hC) ka_int (by decide) (by decide) (by decide) dq_PL_init_16 ?_
  rw [n2]
  have s3_0 : fx_s (fx_nw (fx_wr (fx_nw h (.inr (3, 10))) p 0 (some (p + 1))) (.inr (0, 10))) (p + 0) = some (.inl 3) := (nw_o n2 (by omega)).trans s2_0
  have s3_1 : fx_s (fx_nw (fx_wr (fx_nw h (.inr (3, 10))) p 0 (some (p + 1))) (.inr (0, 10))) (p + 1) = some (.inr (3, 10)) := (nw_o n2 (by omega)).trans s2_1
  have s3_2 : fx_s (fx_nw (fx_wr (fx_nw h (.inr (3, 10))) p 0 (some (p + 1))) (.inr (0, 10))) (p + 2) = some (.inr (0, 10)) := nw_s (fx_wr (fx_nw h (.inr (3, 10))) p 0 (some (p + 1))) (.inr (0, 10)) n2
  have n3 : fx_n (fx_nw (fx_wr (fx_nw h (.inr (3, 10))) p 0 (some (p + 1))) (.inr (0, 10))) = p + 3 := congrArg (· + 1) n2
  refine fx_putr ok fp_PL_17 s3_0 (fun _ => rfl) dq_PL_init_18 (by decide) ?_
  have s4_0 : fx_s (fx_wr (fx_nw (fx_wr (fx_nw h (.inr (3, 10))) p 0 (some (p + 1))) (.inr (0, 10))) p 1 (some (p + 2))) (p + 0) = some (.inl 3) := s3_0
  have s4_1 : fx_s (fx_wr (fx_nw (fx_wr (fx_nw h (.inr (3, 10))) p 0 (some (p + 1))) (.inr (0, 10))) p 1 (some (p + 2))) (p + 1) = some (.inr (3, 10)) := s3_1
  have s4_2 : fx_s (fx_wr (fx_nw (fx_wr (fx_nw h (.inr (3, 10))) p 0 (some (p + 1))) (.inr (0, 10))) p 1 (some (p + 2))) (p + 2) = some (.inr (0, 10)) := s3_2
  have n4 : fx_n (fx_wr (fx_nw (fx_wr (fx_nw h (.inr (3, 10))) p 0 (some (p + 1))) (.inr (0, 10))) p 1 (some (p + 2))) = p + 3 := n3
  refine fx_iconst (v := 0) dq_PL_init_21 (by decide) ?_
  refine fx_istore_n dq_PL_init_22 rfl (by decide) rfl ?_
  have hr0 : fx_r (fx_wr (fx_nw (fx_wr (fx_nw h (.inr (3, 10))) p 0 (some (p + 1))) (.inr (0, 10))) p 1 (some (p + 2))) p 0 = some (p + 1) := by
    simp [fx_r_wr, fx_r_nw, fx_r_wi, fx_n_nw, fx_n_wr, fx_n_wi, hn] <;> omega
  refine fx_forb (mc := 0) (ms := 0) (fun i => [(1, .int (nI i)), (0, .ref p)]) (b_PL_init p) (fx_wr (fx_nw (fx_wr (fx_nw h (.inr (3, 10))) p 0 (some (p + 1))) (.inr (0, 10))) p 1 (some (p + 2))) 10 4 115 (fun i hi hK => ?_) ?_
  · have hP := it_PL_init (K := fx_wr (fx_nw (fx_wr (fx_nw h (.inr (3, 10))) p 0 (some (p + 1))) (.inr (0, 10))) p 1 (some (p + 2))) n4 i
    have hs := (hP.2.1 (p + 0) (by omega)).trans s4_0
    have ha := (hP.2.1 (p + 1) (by omega)).trans s4_1
    have hr : fx_r (it (b_PL_init p) (fx_wr (fx_nw (fx_wr (fx_nw h (.inr (3, 10))) p 0 (some (p + 1))) (.inr (0, 10))) p 1 (some (p + 2))) i) p 0 = some (p + 1) := (hP.2.2 p 0 (by omega) (by omega)).trans hr0
    have hn1 := hP.1
    clear hP hr0
    generalize it (b_PL_init p) (fx_wr (fx_nw (fx_wr (fx_nw h (.inr (3, 10))) p 0 (some (p + 1))) (.inr (0, 10))) p 1 (some (p + 2))) i = k at hs ha hr hn1 hK ⊢
    refine fx_iload_n 0 dq_PL_init_23 rfl rfl ?_
    refine fx_bipush (v := 10) dq_PL_init_24 (by decide) ?_
    refine fx_icmp_ge (tgt := 48) dq_PL_init_26 (by decide) (fun hc => absurd hc (nI_ge (b := 10) hi (by decide))) (fun _ => ?_)
    refine fx_aload_n 1 dq_PL_init_29 rfl rfl ?_
    refine fx_getr ok fq_PL_11 hs dq_PL_init_30 (by decide) hr ?_
    refine fx_iload_n 0 dq_PL_init_33 rfl rfl ?_
    refine fx_new ok (mc := (0 + (10 - (i + 1)) * 4) + 3) (ms := (0 + (10 - (i + 1)) * 115) + 104) (ci := 2) (N := 11) rfl lq_PI tq_PI_ok nw_PI lk_PL_9 ko_PI kn_PI dq_PL_init_34 ?_
    rw [hn1]
    refine fx_dup dq_PL_init_37 rfl ?_
    refine fx_bud (mc' := 3 + (0 + (10 - (i + 1)) * 4)) (ms' := 104 + (0 + (10 - (i + 1)) * 115)) (Nat.add_comm _ _) (Nat.add_comm _ _) ?_
    have hq : fx_s (fx_nw k (.inl 2)) (p + 3 + 4 * i) = some (.inl 2) := nw_s k (.inl 2) hn1
    have h2 : fx_n (fx_nw k (.inl 2)) = p + 3 + 4 * i + 1 := congrArg (· + 1) hn1
    refine fx_Na0 ok (mc' := 3) (ms' := 104) (mc := (0 + (10 - (i + 1)) * 4)) (ms := (0 + (10 - (i + 1)) * 115)) sq_PL_21 (c_PI_init ok _ (p + 3 + 4 * i) h2 hq) (by decide) (Nat.le_of_ble_eq_true rfl) dq_PL_init_38 ?_
    have ha2 := (s_PI_init h2 (show p + 1 < p + 3 + 4 * i + 1 by omega)).trans ((nw_o (x := .inl 2) hn1 (by omega)).trans ha)
    have hq2 := (s_PI_init h2 (show p + 3 + 4 * i < p + 3 + 4 * i + 1 by omega)).trans hq
    refine fx_aastore ok ha2 (by decide) rfl hq2 rfl (vp_in_nI hi (by decide)) dq_PL_init_41 ?_
    refine fx_eqh (h' := fx_wr (k_PI_init (fx_nw k (.inl 2)) (p + 3 + 4 * i)) (p + 1) i (some (p + 3 + 4 * i))) (by rw [nI_clamp (by omega)]) ?_
    refine fx_iinc 0 dq_PL_init_42 rfl (jz_i i) (by decide) rfl ?_
    refine fx_goto (tgt := 23) dq_PL_init_45 (by decide) ?_
    exact hK
  · refine fx_iload_n 0 dq_PL_init_23 rfl rfl ?_
    refine fx_bipush (v := 10) dq_PL_init_24 (by decide) ?_
    refine fx_icmp_ge (tgt := 48) dq_PL_init_26 (by decide) (fun _ => ?_) (fun hc => absurd (by decide) hc)
    exact fx_vreturn rfl dq_PL_init_48 ⟨rfl, rfl⟩
theorem k0n_PL_init {h : fx_H} {p : Nat} (hn : fx_n h = p + 1) : fx_n (fx_wr (fx_nw (fx_wr (fx_nw h (.inr (3, 10))) p 0 (some (p + 1))) (.inr (0, 10))) p 1 (some (p + 2))) = p + 3 := by
  simp only [fx_n_nw, fx_n_wr, fx_n_wi, hn]
theorem n_PL_init {h : fx_H} {p : Nat} (hn : fx_n h = p + 1) : fx_n (k_PL_init h p) = p + 43 := by
  have h1 := (it_PL_init (k0n_PL_init hn) 10).1
  unfold k_PL_init
  omega
theorem s_PL_init {h : fx_H} {p a : Nat} (hn : fx_n h = p + 1) (ha : a < p + 1) : fx_s (k_PL_init h p) a = fx_s h a := by
  have h1 := (it_PL_init (k0n_PL_init hn) 10).2.1 a (by omega)
  unfold k_PL_init
  rw [h1]
  simp only [fx_s_nw, fx_s_wr, fx_s_wi, fx_n_nw, fx_n_wr, fx_n_wi, hn]
  repeat rw [if_neg (by omega)]
theorem r_PL_init {h : fx_H} {p a : Nat} (hn : fx_n h = p + 1) (ha : a < p) (j : Nat) : fx_r (k_PL_init h p) a j = fx_r h a j := by
  have h1 := (it_PL_init (k0n_PL_init hn) 10).2.2 a j (by omega) (by omega)
  unfold k_PL_init
  rw [h1]
  simp only [fx_r_nw, fx_r_wr, fx_r_wi, fx_n_nw, fx_n_wr, fx_n_wi, hn]
  repeat rw [if_neg (by omega)]
