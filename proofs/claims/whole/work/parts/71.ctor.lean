/-! ===== constructors ===== -/
section FXK
variable {g : fx_G} {M M' : fx_M} {pc : Nat} {lv : List (Nat × Value)} {st : List Value} {h : fx_H} {Q : fx_O → fx_H → Prop} {mc ms : Nat}
theorem fx_ov (ok : fx_ok g) {ty : FieldType} (hw : Cond.arrayOver ty ∈ fx_tb) : ∀ (args : Array Value) (s : State), (fx_s0 g).WarmedH s.vm → (Cond.arrayOver ty).before args s = true := by
  intro args s hW
  have h0 : (Cond.arrayOver ty).before args (fx_s0 g) = true := ok.2.1 _ hw
  have h1 : (Cond.arrayOver ty).before args ((fx_s0 g).setVm s.vm) = (Cond.arrayOver ty).before args (fx_s0 g) := by
    simp only [Cond.before, Cond.holds, Cond.value, State.vm_setVm, hW.alike.findClass]
    congr 1
    congr 1
    funext comp
    rw [hW.alike.findIdx?_eq _ (fun k => rfl)]
    congr 1
    funext c
    exact hW.alike.class_map _ (fun k r _ _ => rfl) c
  exact h1.trans h0
theorem kv_PI : Cond.arrayOver (.object "FrameSwapper$Picture") ∈ fx_tb := fx_m1 36 (by decide +kernel)
theorem kv_RE : Cond.arrayOver (.object "FrameSwapper$Rectangle") ∈ fx_tb := fx_m1 203 (by decide +kernel)
theorem kv_I : Cond.arrayOver (.array .int) ∈ fx_tb := fx_m1 206 (by decide +kernel)
theorem fx_bud {mc' ms' : Nat} (e1 : mc = mc') (e2 : ms = ms') (K : fx_X g M pc lv st h Q mc' ms') : fx_X g M pc lv st h Q mc ms := by rw [e1, e2]; exact K
theorem nw_s (h : fx_H) (x : Nat ⊕ (Nat × Nat)) {a : Nat} (ha : fx_n h = a) : fx_s (fx_nw h x) a = some x := by rw [fx_s_nw, if_pos ha.symm]
theorem nw_o {h : fx_H} {x : Nat ⊕ (Nat × Nat)} {a n : Nat} (hn : fx_n h = n) (ha : a < n) : fx_s (fx_nw h x) a = fx_s h a := by rw [fx_s_nw, if_neg (by omega)]
theorem fx_forb (lv : Nat → List (Nat × Value)) (f : Nat → fx_H → fx_H) (h : fx_H) (N ca sa : Nat)
    (body : ∀ i, i < N → fx_X g M pc (lv (i + 1)) st (f i (it f h i)) Q (mc + (N - (i + 1)) * ca) (ms + (N - (i + 1)) * sa) → fx_X g M pc (lv i) st (it f h i) Q (mc + (N - (i + 1)) * ca + ca) (ms + (N - (i + 1)) * sa + sa)) (exit : fx_X g M pc (lv N) st (it f h N) Q mc ms) : fx_X g M pc (lv 0) st h Q (mc + N * ca) (ms + N * sa) := by
  have h9 := fx_up (σ := Unit) (fun i _ => fx_X g M pc (lv i) st (it f h i) Q (mc + (N - i) * ca) (ms + (N - i) * sa)) (fun _ _ => True) N (fun i _ hi _ hk => by
    have e : N - i = (N - (i + 1)) + 1 := by omega
    have h8 := body i hi (by rw [← it_s f h i]; exact hk () trivial)
    rw [e, Nat.succ_mul, Nat.succ_mul, ← Nat.add_assoc, ← Nat.add_assoc]
    exact h8) (fun _ _ => by rw [Nat.sub_self, Nat.zero_mul, Nat.zero_mul]; exact exit) 0 () (Nat.zero_le _) trivial
  rw [it_0] at h9
  exact h9
end FXK
def k_PI_init (h : fx_H) (p : Nat) : fx_H := fx_wr (fx_nw (fx_wr (fx_nw (fx_wr (fx_nw h (.inr (0, 96))) p 8 (some (p + 1))) (.inl 1)) p 9 (some (p + 2))) (.inl 1)) p 10 (some (p + 3))
set_option maxRecDepth 100000 in
set_option maxHeartbeats 1000000 in
theorem c_PI_init {g : fx_G} (ok : fx_ok g) (h : fx_H) (p : Nat) (hn : fx_n h = p + 1) (hp : fx_s h p = some (.inl 2)) : fx_C g mq_PI_init [.ref p] h (fx_is none (k_PI_init h p)) 3 104 := by
  refine fx_body (by decide +kernel) (Nat.le_of_ble_eq_true rfl) ?_
  show fx_X g mq_PI_init 0 [(0, .ref p)] [] h _ 3 104
  refine fx_aload_n 0 dq_PI_init_0 rfl rfl ?_
  refine fx_objInit ok sq_PI_3 kj_obj.1 kj_obj.2 (by decide) (Nat.le_of_ble_eq_true rfl) dq_PI_init_1 ?_
  refine fx_aload_n 0 dq_PI_init_4 rfl rfl ?_
  refine fx_bipush (v := 96) dq_PI_init_5 (by decide) ?_
  refine fx_newa ok (mc := 2) (ms := 8) (atype := .int) (ak := 0) (N := 96) rfl (by decide) (by decide) (by decide) (by intro C hC; cases hC) ka_int (by decide) (by decide) (by decide) dq_PI_init_7 ?_
  rw [hn]
  have s1_0 : fx_s (fx_nw h (.inr (0, 96))) (p + 0) = some (.inl 2) := (nw_o hn (by omega)).trans hp
  have s1_1 : fx_s (fx_nw h (.inr (0, 96))) (p + 1) = some (.inr (0, 96)) := nw_s h (.inr (0, 96)) hn
  have n1 : fx_n (fx_nw h (.inr (0, 96))) = p + 2 := congrArg (· + 1) hn
  refine fx_putr ok fp_PI_9 s1_0 (fun _ => rfl) dq_PI_init_9 (by decide) ?_
  have s2_0 : fx_s (fx_wr (fx_nw h (.inr (0, 96))) p 8 (some (p + 1))) (p + 0) = some (.inl 2) := s1_0
  have s2_1 : fx_s (fx_wr (fx_nw h (.inr (0, 96))) p 8 (some (p + 1))) (p + 1) = some (.inr (0, 96)) := s1_1
  have n2 : fx_n (fx_wr (fx_nw h (.inr (0, 96))) p 8 (some (p + 1))) = p + 2 := n1
  refine fx_aload_n 0 dq_PI_init_12 rfl rfl ?_
  refine fx_new ok (mc := 1) (ms := 4) (ci := 1) (N := 4) rfl lq_RE tq_RE_ok nw_RE lk_PI_15 ko_RE kn_RE dq_PI_init_13 ?_
  rw [n2]
  have s3_0 : fx_s (fx_nw (fx_wr (fx_nw h (.inr (0, 96))) p 8 (some (p + 1))) (.inl 1)) (p + 0) = some (.inl 2) := (nw_o n2 (by omega)).trans s2_0
  have s3_1 : fx_s (fx_nw (fx_wr (fx_nw h (.inr (0, 96))) p 8 (some (p + 1))) (.inl 1)) (p + 1) = some (.inr (0, 96)) := (nw_o n2 (by omega)).trans s2_1
  have s3_2 : fx_s (fx_nw (fx_wr (fx_nw h (.inr (0, 96))) p 8 (some (p + 1))) (.inl 1)) (p + 2) = some (.inl 1) := nw_s (fx_wr (fx_nw h (.inr (0, 96))) p 8 (some (p + 1))) (.inl 1) n2
  have n3 : fx_n (fx_nw (fx_wr (fx_nw h (.inr (0, 96))) p 8 (some (p + 1))) (.inl 1)) = p + 3 := congrArg (· + 1) n2
  refine fx_dup dq_PI_init_16 rfl ?_
  refine fx_Na0 ok (mc' := 0) (ms' := 0) (mc := 1) (ms := 4) sq_PI_17 (cr_init ok _ (p + 2) s3_2) (by decide) (Nat.le_of_ble_eq_true rfl) dq_PI_init_17 ?_
  refine fx_putr ok fp_PI_18 s3_0 (fun _ => rfl) dq_PI_init_20 (by decide) ?_
  have s4_0 : fx_s (fx_wr (fx_nw (fx_wr (fx_nw h (.inr (0, 96))) p 8 (some (p + 1))) (.inl 1)) p 9 (some (p + 2))) (p + 0) = some (.inl 2) := s3_0
  have s4_1 : fx_s (fx_wr (fx_nw (fx_wr (fx_nw h (.inr (0, 96))) p 8 (some (p + 1))) (.inl 1)) p 9 (some (p + 2))) (p + 1) = some (.inr (0, 96)) := s3_1
  have s4_2 : fx_s (fx_wr (fx_nw (fx_wr (fx_nw h (.inr (0, 96))) p 8 (some (p + 1))) (.inl 1)) p 9 (some (p + 2))) (p + 2) = some (.inl 1) := s3_2
  have n4 : fx_n (fx_wr (fx_nw (fx_wr (fx_nw h (.inr (0, 96))) p 8 (some (p + 1))) (.inl 1)) p 9 (some (p + 2))) = p + 3 := n3
  refine fx_aload_n 0 dq_PI_init_23 rfl rfl ?_
  refine fx_new ok (mc := 0) (ms := 0) (ci := 1) (N := 4) rfl lq_RE tq_RE_ok nw_RE lk_PI_15 ko_RE kn_RE dq_PI_init_24 ?_
  rw [n4]
  have s5_0 : fx_s (fx_nw (fx_wr (fx_nw (fx_wr (fx_nw h (.inr (0, 96))) p 8 (some (p + 1))) (.inl 1)) p 9 (some (p + 2))) (.inl 1)) (p + 0) = some (.inl 2) := (nw_o n4 (by omega)).trans s4_0
  have s5_1 : fx_s (fx_nw (fx_wr (fx_nw (fx_wr (fx_nw h (.inr (0, 96))) p 8 (some (p + 1))) (.inl 1)) p 9 (some (p + 2))) (.inl 1)) (p + 1) = some (.inr (0, 96)) := (nw_o n4 (by omega)).trans s4_1
  have s5_2 : fx_s (fx_nw (fx_wr (fx_nw (fx_wr (fx_nw h (.inr (0, 96))) p 8 (some (p + 1))) (.inl 1)) p 9 (some (p + 2))) (.inl 1)) (p + 2) = some (.inl 1) := (nw_o n4 (by omega)).trans s4_2
  have s5_3 : fx_s (fx_nw (fx_wr (fx_nw (fx_wr (fx_nw h (.inr (0, 96))) p 8 (some (p + 1))) (.inl 1)) p 9 (some (p + 2))) (.inl 1)) (p + 3) = some (.inl 1) := nw_s (fx_wr (fx_nw (fx_wr (fx_nw h (.inr (0, 96))) p 8 (some (p + 1))) (.inl 1)) p 9 (some (p + 2))) (.inl 1) n4
  have n5 : fx_n (fx_nw (fx_wr (fx_nw (fx_wr (fx_nw h (.inr (0, 96))) p 8 (some (p + 1))) (.inl 1)) p 9 (some (p + 2))) (.inl 1)) = p + 4 := congrArg (· + 1) n4
  refine fx_dup dq_PI_init_27 rfl ?_
  refine fx_Na0 ok (mc' := 0) (ms' := 0) (mc := 0) (ms := 0) sq_PI_17 (cr_init ok _ (p + 3) s5_3) (by decide) (Nat.le_of_ble_eq_true rfl) dq_PI_init_28 ?_
  refine fx_putr ok fp_PI_22 s5_0 (fun _ => rfl) dq_PI_init_31 (by decide) ?_
  have s6_0 : fx_s (fx_wr (fx_nw (fx_wr (fx_nw (fx_wr (fx_nw h (.inr (0, 96))) p 8 (some (p + 1))) (.inl 1)) p 9 (some (p + 2))) (.inl 1)) p 10 (some (p + 3))) (p + 0) = some (.inl 2) := s5_0
  have s6_1 : fx_s (fx_wr (fx_nw (fx_wr (fx_nw (fx_wr (fx_nw h (.inr (0, 96))) p 8 (some (p + 1))) (.inl 1)) p 9 (some (p + 2))) (.inl 1)) p 10 (some (p + 3))) (p + 1) = some (.inr (0, 96)) := s5_1
  have s6_2 : fx_s (fx_wr (fx_nw (fx_wr (fx_nw (fx_wr (fx_nw h (.inr (0, 96))) p 8 (some (p + 1))) (.inl 1)) p 9 (some (p + 2))) (.inl 1)) p 10 (some (p + 3))) (p + 2) = some (.inl 1) := s5_2
  have s6_3 : fx_s (fx_wr (fx_nw (fx_wr (fx_nw (fx_wr (fx_nw h (.inr (0, 96))) p 8 (some (p + 1))) (.inl 1)) p 9 (some (p + 2))) (.inl 1)) p 10 (some (p + 3))) (p + 3) = some (.inl 1) := s5_3
  have n6 : fx_n (fx_wr (fx_nw (fx_wr (fx_nw (fx_wr (fx_nw h (.inr (0, 96))) p 8 (some (p + 1))) (.inl 1)) p 9 (some (p + 2))) (.inl 1)) p 10 (some (p + 3))) = p + 4 := n5
  exact fx_vreturn rfl dq_PI_init_34 ⟨rfl, rfl⟩
theorem n_PI_init {h : fx_H} {p : Nat} (hn : fx_n h = p + 1) : fx_n (k_PI_init h p) = p + 4 := by
  simp only [k_PI_init, fx_n_nw, fx_n_wr, fx_n_wi, hn]
theorem s_PI_init {h : fx_H} {p a : Nat} (hn : fx_n h = p + 1) (ha : a < p + 1) : fx_s (k_PI_init h p) a = fx_s h a := by
  simp only [k_PI_init, fx_s_nw, fx_s_wr, fx_s_wi, fx_n_nw, fx_n_wr, fx_n_wi, hn]
  repeat rw [if_neg (by omega)]
theorem r_PI_init {h : fx_H} {p a : Nat} (hn : fx_n h = p + 1) (ha : a < p) (j : Nat) : fx_r (k_PI_init h p) a j = fx_r h a j := by
  simp only [k_PI_init, fx_r_nw, fx_r_wr, fx_r_wi, fx_n_nw, fx_n_wr, fx_n_wi, hn]
  repeat rw [if_neg (by omega)]
theorem i_PI_init {h : fx_H} {p a : Nat} (hn : fx_n h = p + 1) (ha : a < p) (j : Nat) : fx_i (k_PI_init h p) a j = fx_i h a j := by
  simp only [k_PI_init, fx_i_nw, fx_i_wr, fx_i_wi, fx_n_nw, fx_n_wr, fx_n_wi, hn]
  repeat rw [if_neg (by omega)]
theorem is_PI_init {h : fx_H} {p : Nat} (hn : fx_n h = p + 1) (hp : fx_s h p = some (.inl 2)) : isP (k_PI_init h p) p := by
  refine ⟨(s_PI_init hn (by omega)).trans hp, ?_, ?_, ?_, ?_, ?_, ?_⟩ <;> simp [k_PI_init, fx_s_nw, fx_s_wr, fx_r_nw, fx_r_wr, fx_n_nw, fx_n_wr, hn] <;> (try omega)
theorem z_PI_init {h : fx_H} {p a : Nat} (hn : fx_n h = p + 1) (ha : p + 1 ≤ a ∧ a < p + 4) (j : Nat) : fx_i (k_PI_init h p) a j = 0 := by
  have h3 : a = p + 1 ∨ a = p + 2 ∨ a = p + 3 := by omega
  rcases h3 with rfl | rfl | rfl <;> simp [k_PI_init, fx_i_nw, fx_i_wr, fx_n_nw, fx_n_wr, hn]
