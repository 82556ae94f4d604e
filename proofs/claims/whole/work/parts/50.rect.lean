/-! ===== Rectangle ===== -/
/-- the rectangle at a becomes (x, y, c, r) -/
def rset (h : fx_H) (a : Nat) (x y c r : Int32) : fx_H := fx_wi (fx_wi (fx_wi (fx_wi h a 0 x) a 1 y) a 2 c) a 3 r
set_option maxRecDepth 100000 in
set_option maxHeartbeats 4000000 in
theorem cr_init {g : fx_G} (ok : fx_ok g) (h : fx_H) (a : Nat) (ha : fx_s h a = some (.inl 1)) : fx_C g mq_RE_init [.ref a] h (fx_is none (h)) 0 0 := by
  refine fx_body (by decide +kernel) (Nat.le_of_ble_eq_true rfl) ?_
  show fx_X g mq_RE_init 0 [(0, .ref a)] [] h _ 0 0
  refine fx_aload_n 0 dq_RE_init_0 rfl rfl ?_
  refine fx_objInit ok sq_RE_1 kj_obj.1 kj_obj.2 (by decide) (Nat.le_of_ble_eq_true rfl) dq_RE_init_1 ?_
  exact fx_vreturn rfl dq_RE_init_4 ⟨rfl, rfl⟩

set_option maxRecDepth 100000 in
set_option maxHeartbeats 4000000 in
theorem cr_set {g : fx_G} (ok : fx_ok g) (h : fx_H) (a : Nat) (ha : fx_s h a = some (.inl 1)) (x y c r : Int32) : fx_C g mq_RE_set [.ref a, .int x, .int y, .int c, .int r] h (fx_is none (rset h a x y c r)) 0 0 := by
  refine fx_body (by decide +kernel) (Nat.le_of_ble_eq_true rfl) ?_
  show fx_X g mq_RE_set 0 [(0, .ref a), (1, .int x), (2, .int y), (3, .int c), (4, .int r)] [] h _ 0 0
  refine fx_aload_n 0 dq_RE_set_0 rfl rfl ?_
  refine fx_iload_n 1 dq_RE_set_1 rfl rfl ?_
  refine fx_puti ok fp_RE_7 ha (by decide) dq_RE_set_2 (Or.inl (by decide)) ?_
  refine fx_aload_n 0 dq_RE_set_5 rfl rfl ?_
  refine fx_iload_n 2 dq_RE_set_6 rfl rfl ?_
  refine fx_puti ok fp_RE_13 ha (by decide) dq_RE_set_7 (Or.inl (by decide)) ?_
  refine fx_aload_n 0 dq_RE_set_10 rfl rfl ?_
  refine fx_iload_n 3 dq_RE_set_11 rfl rfl ?_
  refine fx_puti ok fp_RE_16 ha (by decide) dq_RE_set_12 (Or.inl (by decide)) ?_
  refine fx_aload_n 0 dq_RE_set_15 rfl rfl ?_
  refine fx_iload 4 dq_RE_set_16 rfl ?_
  refine fx_puti ok fp_RE_19 ha (by decide) dq_RE_set_18 (Or.inl (by decide)) ?_
  exact fx_vreturn rfl dq_RE_set_21 ⟨rfl, rfl⟩

set_option maxRecDepth 100000 in
set_option maxHeartbeats 4000000 in
theorem cr_become {g : fx_G} (ok : fx_ok g) (h : fx_H) (a b : Nat) (ha : fx_s h a = some (.inl 1)) (hb : fx_s h b = some (.inl 1)) : fx_C g mq_RE_become [.ref a, .ref b] h (fx_is none (rset h a (fx_i h b 0) (fx_i h b 1) (fx_i h b 2) (fx_i h b 3))) 0 0 := by
  refine fx_body (by decide +kernel) (Nat.le_of_ble_eq_true rfl) ?_
  show fx_X g mq_RE_become 0 [(0, .ref a), (1, .ref b)] [] h _ 0 0
  refine fx_aload_n 0 dq_RE_become_0 rfl rfl ?_
  refine fx_aload_n 1 dq_RE_become_1 rfl rfl ?_
  refine fx_geti ok fq_RE_7 hb dq_RE_become_2 (by decide) ?_
  refine fx_aload_n 1 dq_RE_become_5 rfl rfl ?_
  refine fx_geti ok fq_RE_13 hb dq_RE_become_6 (by decide) ?_
  refine fx_aload_n 1 dq_RE_become_9 rfl rfl ?_
  refine fx_geti ok fq_RE_16 hb dq_RE_become_10 (by decide) ?_
  refine fx_aload_n 1 dq_RE_become_13 rfl rfl ?_
  refine fx_geti ok fq_RE_19 hb dq_RE_become_14 (by decide) ?_
  refine fx_Vv4 ok sq_RE_22 ha (cr_set ok _ _ ha _ _ _ _) (by decide) (Nat.le_of_ble_eq_true rfl) dq_RE_become_17 ?_
  exact fx_vreturn rfl dq_RE_become_20 ⟨rfl, rfl⟩

def rshift (h : fx_H) (a : Nat) (u v : Int32) : fx_H := fx_wi (fx_wi h a 0 (fx_i h a 0 + u)) a 1 (fx_i h a 1 + v)
set_option maxRecDepth 100000 in
set_option maxHeartbeats 4000000 in
theorem cr_shift {g : fx_G} (ok : fx_ok g) (h : fx_H) (a : Nat) (ha : fx_s h a = some (.inl 1)) (u v : Int32) : fx_C g mq_RE_shift [.ref a, .int u, .int v] h (fx_is none (rshift h a u v)) 0 0 := by
  refine fx_body (by decide +kernel) (Nat.le_of_ble_eq_true rfl) ?_
  show fx_X g mq_RE_shift 0 [(0, .ref a), (1, .int u), (2, .int v)] [] h _ 0 0
  refine fx_aload_n 0 dq_RE_shift_0 rfl rfl ?_
  refine fx_dup dq_RE_shift_1 rfl ?_
  refine fx_geti ok fq_RE_7 ha dq_RE_shift_2 (by decide) ?_
  refine fx_iload_n 1 dq_RE_shift_5 rfl rfl ?_
  refine fx_iadd dq_RE_shift_6 ?_
  refine fx_puti ok fp_RE_7 ha (by decide) dq_RE_shift_7 (Or.inl (by decide)) ?_
  refine fx_aload_n 0 dq_RE_shift_10 rfl rfl ?_
  refine fx_dup dq_RE_shift_11 rfl ?_
  refine fx_geti ok fq_RE_13 ha dq_RE_shift_12 (by decide) ?_
  refine fx_iload_n 2 dq_RE_shift_15 rfl rfl ?_
  refine fx_iadd dq_RE_shift_16 ?_
  refine fx_puti ok fp_RE_13 ha (by decide) dq_RE_shift_17 (Or.inl (by decide)) ?_
  exact fx_vreturn rfl dq_RE_shift_20 ⟨rfl, by simp [fx_i_wi, rshift]⟩

def rcut (h : fx_H) (a : Nat) (w t : Int32) : fx_H := rset h a (jmax (fx_i h a 0) 0) (jmax (fx_i h a 1) 0) (jmax (jmin (fx_i h a 0 + fx_i h a 2) w - jmax (fx_i h a 0) 0) 0) (jmax (jmin (fx_i h a 1 + fx_i h a 3) t - jmax (fx_i h a 1) 0) 0)
set_option maxRecDepth 100000 in
set_option maxHeartbeats 4000000 in
theorem cr_cut {g : fx_G} (ok : fx_ok g) (h : fx_H) (a : Nat) (ha : fx_s h a = some (.inl 1)) (w t : Int32) : fx_C g mq_RE_cut [.ref a, .int w, .int t] h (fx_is none (rcut h a w t)) 0 0 := by
  refine fx_body (by decide +kernel) (Nat.le_of_ble_eq_true rfl) ?_
  show fx_X g mq_RE_cut 0 [(0, .ref a), (1, .int w), (2, .int t)] [] h _ 0 0
  refine fx_aload_n 0 dq_RE_cut_0 rfl rfl ?_
  refine fx_geti ok fq_RE_7 ha dq_RE_cut_1 (by decide) ?_
  refine fx_aload_n 0 dq_RE_cut_4 rfl rfl ?_
  refine fx_geti ok fq_RE_16 ha dq_RE_cut_5 (by decide) ?_
  refine fx_iadd dq_RE_cut_8 ?_
  refine fx_iload_n 1 dq_RE_cut_9 rfl rfl ?_
  refine fx_jmin ok sq_RE_26 kj_min.1 kj_min.2.1 kj_min.2.2 (by decide) (Nat.le_of_ble_eq_true rfl) dq_RE_cut_10 ?_
  refine fx_istore_n dq_RE_cut_13 rfl (by decide) rfl ?_
  refine fx_aload_n 1 dq_RE_cut_14 rfl rfl ?_
  refine fx_geti ok fq_RE_13 ha dq_RE_cut_15 (by decide) ?_
  refine fx_aload_n 1 dq_RE_cut_18 rfl rfl ?_
  refine fx_geti ok fq_RE_19 ha dq_RE_cut_19 (by decide) ?_
  refine fx_iadd dq_RE_cut_22 ?_
  refine fx_iload_n 3 dq_RE_cut_23 rfl rfl ?_
  refine fx_jmin ok sq_RE_26 kj_min.1 kj_min.2.1 kj_min.2.2 (by decide) (Nat.le_of_ble_eq_true rfl) dq_RE_cut_24 ?_
  refine fx_istore dq_RE_cut_27 (by decide) rfl ?_
  refine fx_aload_n 2 dq_RE_cut_29 rfl rfl ?_
  refine fx_aload_n 2 dq_RE_cut_30 rfl rfl ?_
  refine fx_geti ok fq_RE_7 ha dq_RE_cut_31 (by decide) ?_
  refine fx_iconst (v := 0) dq_RE_cut_34 (by decide) ?_
  refine fx_jmax ok sq_RE_32 kj_max.1 kj_max.2.1 kj_max.2.2 (by decide) (Nat.le_of_ble_eq_true rfl) dq_RE_cut_35 ?_
  refine fx_puti ok fp_RE_7 ha (by decide) dq_RE_cut_38 (Or.inl (by decide)) ?_
  refine fx_aload_n 2 dq_RE_cut_41 rfl rfl ?_
  refine fx_aload_n 2 dq_RE_cut_42 rfl rfl ?_
  refine fx_geti ok fq_RE_13 ha dq_RE_cut_43 (by decide) ?_
  refine fx_iconst (v := 0) dq_RE_cut_46 (by decide) ?_
  refine fx_jmax ok sq_RE_32 kj_max.1 kj_max.2.1 kj_max.2.2 (by decide) (Nat.le_of_ble_eq_true rfl) dq_RE_cut_47 ?_
  refine fx_puti ok fp_RE_13 ha (by decide) dq_RE_cut_50 (Or.inl (by decide)) ?_
  refine fx_aload_n 2 dq_RE_cut_53 rfl rfl ?_
  refine fx_iload_n 1 dq_RE_cut_54 rfl rfl ?_
  refine fx_aload_n 2 dq_RE_cut_55 rfl rfl ?_
  refine fx_geti ok fq_RE_7 ha dq_RE_cut_56 (by decide) ?_
  refine fx_isub dq_RE_cut_59 ?_
  refine fx_iconst (v := 0) dq_RE_cut_60 (by decide) ?_
  refine fx_jmax ok sq_RE_32 kj_max.1 kj_max.2.1 kj_max.2.2 (by decide) (Nat.le_of_ble_eq_true rfl) dq_RE_cut_61 ?_
  refine fx_puti ok fp_RE_16 ha (by decide) dq_RE_cut_64 (Or.inl (by decide)) ?_
  refine fx_aload_n 2 dq_RE_cut_67 rfl rfl ?_
  refine fx_iload 0 dq_RE_cut_68 rfl ?_
  refine fx_aload_n 2 dq_RE_cut_70 rfl rfl ?_
  refine fx_geti ok fq_RE_13 ha dq_RE_cut_71 (by decide) ?_
  refine fx_isub dq_RE_cut_74 ?_
  refine fx_iconst (v := 0) dq_RE_cut_75 (by decide) ?_
  refine fx_jmax ok sq_RE_32 kj_max.1 kj_max.2.1 kj_max.2.2 (by decide) (Nat.le_of_ble_eq_true rfl) dq_RE_cut_76 ?_
  refine fx_puti ok fp_RE_19 ha (by decide) dq_RE_cut_79 (Or.inl (by decide)) ?_
  exact fx_vreturn rfl dq_RE_cut_82 ⟨rfl, by simp [fx_i_wi, rcut, rset]⟩

def rE (h : fx_H) (a : Nat) : Int32 := if fx_i h a 2 = 0 ∨ fx_i h a 3 = 0 then 1 else 0
set_option maxRecDepth 100000 in
set_option maxHeartbeats 4000000 in
theorem cr_isEmpty {g : fx_G} (ok : fx_ok g) (h : fx_H) (a : Nat) (ha : fx_s h a = some (.inl 1)) : fx_C g mq_RE_isEmpty [.ref a] h (fx_is (some (rE h a)) (h)) 0 0 := by
  refine fx_body (by decide +kernel) (Nat.le_of_ble_eq_true rfl) ?_
  show fx_X g mq_RE_isEmpty 0 [(0, .ref a)] [] h _ 0 0
  refine fx_aload_n 0 dq_RE_isEmpty_0 rfl rfl ?_
  refine fx_geti ok fq_RE_16 ha dq_RE_isEmpty_1 (by decide) ?_
  refine fx_if_eq (tgt := 14) dq_RE_isEmpty_4 (by decide) (fun hc4 => ?_) (fun hc4 => ?_)
  · -- 4: jump
    refine fx_iconst (v := 1) dq_RE_isEmpty_14 (by decide) ?_
    refine fx_goto (tgt := 19) dq_RE_isEmpty_15 (by decide) ?_
    exact fx_zreturn rfl (by decide) dq_RE_isEmpty_19 ⟨by simp [rE, hc4], rfl⟩
  · -- 4: fall
    refine fx_aload_n 0 dq_RE_isEmpty_7 rfl rfl ?_
    refine fx_geti ok fq_RE_19 ha dq_RE_isEmpty_8 (by decide) ?_
    refine fx_if_ne (tgt := 18) dq_RE_isEmpty_11 (by decide) (fun hc11 => ?_) (fun hc11 => ?_)
    · -- 11: jump
      refine fx_iconst (v := 0) dq_RE_isEmpty_18 (by decide) ?_
      exact fx_zreturn rfl (by decide) dq_RE_isEmpty_19 ⟨by simp [rE, hc4, hc11], rfl⟩
    · -- 11: fall
      refine fx_iconst (v := 1) dq_RE_isEmpty_14 (by decide) ?_
      refine fx_goto (tgt := 19) dq_RE_isEmpty_15 (by decide) ?_
      exact fx_zreturn rfl (by decide) dq_RE_isEmpty_19 ⟨by simp [rE, hc4, hc11], rfl⟩

set_option maxRecDepth 100000 in
set_option maxHeartbeats 4000000 in
theorem cr_pixels {g : fx_G} (ok : fx_ok g) (h : fx_H) (a : Nat) (ha : fx_s h a = some (.inl 1)) : fx_C g mq_RE_pixels [.ref a] h (fx_is (some (fx_i h a 2 * fx_i h a 3)) (h)) 0 0 := by
  refine fx_body (by decide +kernel) (Nat.le_of_ble_eq_true rfl) ?_
  show fx_X g mq_RE_pixels 0 [(0, .ref a)] [] h _ 0 0
  refine fx_aload_n 0 dq_RE_pixels_0 rfl rfl ?_
  refine fx_geti ok fq_RE_16 ha dq_RE_pixels_1 (by decide) ?_
  refine fx_aload_n 0 dq_RE_pixels_4 rfl rfl ?_
  refine fx_geti ok fq_RE_19 ha dq_RE_pixels_5 (by decide) ?_
  refine fx_imul dq_RE_pixels_8 ?_
  exact fx_ireturn rfl dq_RE_pixels_9 ⟨rfl, rfl⟩

def rHas (h : fx_H) (a : Nat) (p q : Int32) : Int32 := if ¬ p < fx_i h a 0 ∧ ¬ fx_i h a 0 + fx_i h a 2 ≤ p ∧ ¬ q < fx_i h a 1 ∧ ¬ fx_i h a 1 + fx_i h a 3 ≤ q then 1 else 0
set_option maxRecDepth 100000 in
set_option maxHeartbeats 4000000 in
theorem cr_has {g : fx_G} (ok : fx_ok g) (h : fx_H) (a : Nat) (ha : fx_s h a = some (.inl 1)) (p q : Int32) : fx_C g mq_RE_has [.ref a, .int p, .int q] h (fx_is (some (rHas h a p q)) (h)) 0 0 := by
  refine fx_body (by decide +kernel) (Nat.le_of_ble_eq_true rfl) ?_
  show fx_X g mq_RE_has 0 [(0, .ref a), (1, .int p), (2, .int q)] [] h _ 0 0
  refine fx_iload_n 1 dq_RE_has_0 rfl rfl ?_
  refine fx_aload_n 0 dq_RE_has_1 rfl rfl ?_
  refine fx_geti ok fq_RE_7 ha dq_RE_has_2 (by decide) ?_
  refine fx_icmp_lt (tgt := 46) dq_RE_has_5 (by decide) (fun hc5 => ?_) (fun hc5 => ?_)
  · -- 5: jump
    refine fx_iconst (v := 0) dq_RE_has_46 (by decide) ?_
    exact fx_zreturn rfl (by decide) dq_RE_has_47 ⟨by simp [rHas, hc5], rfl⟩
  · -- 5: fall
    refine fx_iload_n 1 dq_RE_has_8 rfl rfl ?_
    refine fx_aload_n 0 dq_RE_has_9 rfl rfl ?_
    refine fx_geti ok fq_RE_7 ha dq_RE_has_10 (by decide) ?_
    refine fx_aload_n 0 dq_RE_has_13 rfl rfl ?_
    refine fx_geti ok fq_RE_16 ha dq_RE_has_14 (by decide) ?_
    refine fx_iadd dq_RE_has_17 ?_
    refine fx_icmp_ge (tgt := 46) dq_RE_has_18 (by decide) (fun hc18 => ?_) (fun hc18 => ?_)
    · -- 18: jump
      refine fx_iconst (v := 0) dq_RE_has_46 (by decide) ?_
      exact fx_zreturn rfl (by decide) dq_RE_has_47 ⟨by simp [rHas, hc5, hc18], rfl⟩
    · -- 18: fall
      refine fx_iload_n 2 dq_RE_has_21 rfl rfl ?_
      refine fx_aload_n 0 dq_RE_has_22 rfl rfl ?_
      refine fx_geti ok fq_RE_13 ha dq_RE_has_23 (by decide) ?_
      refine fx_icmp_lt (tgt := 46) dq_RE_has_26 (by decide) (fun hc26 => ?_) (fun hc26 => ?_)
      · -- 26: jump
        refine fx_iconst (v := 0) dq_RE_has_46 (by decide) ?_
        exact fx_zreturn rfl (by decide) dq_RE_has_47 ⟨by simp [rHas, hc5, hc18, hc26], rfl⟩
      · -- 26: fall
        refine fx_iload_n 2 dq_RE_has_29 rfl rfl ?_
        refine fx_aload_n 0 dq_RE_has_30 rfl rfl ?_
        refine fx_geti ok fq_RE_13 ha dq_RE_has_31 (by decide) ?_
        refine fx_aload_n 0 dq_RE_has_34 rfl rfl ?_
        refine fx_geti ok fq_RE_19 ha dq_RE_has_35 (by decide) ?_
        refine fx_iadd dq_RE_has_38 ?_
        refine fx_icmp_ge (tgt := 46) dq_RE_has_39 (by decide) (fun hc39 => ?_) (fun hc39 => ?_)
        · -- 39: jump
          refine fx_iconst (v := 0) dq_RE_has_46 (by decide) ?_
          exact fx_zreturn rfl (by decide) dq_RE_has_47 ⟨by simp [rHas, hc5, hc18, hc26, hc39], rfl⟩
        · -- 39: fall
          refine fx_iconst (v := 1) dq_RE_has_42 (by decide) ?_
          refine fx_goto (tgt := 47) dq_RE_has_43 (by decide) ?_
          exact fx_zreturn rfl (by decide) dq_RE_has_47 ⟨by simp [rHas, hc5, hc18, hc26, hc39], rfl⟩

def rMeets (h : fx_H) (a b : Nat) : Int32 := if ¬ jmin (fx_i h a 0 + fx_i h a 2) (fx_i h b 0 + fx_i h b 2) ≤ jmax (fx_i h a 0) (fx_i h b 0) ∧ ¬ jmin (fx_i h a 1 + fx_i h a 3) (fx_i h b 1 + fx_i h b 3) ≤ jmax (fx_i h a 1) (fx_i h b 1) then 1 else 0
set_option maxRecDepth 100000 in
set_option maxHeartbeats 4000000 in
theorem cr_meets {g : fx_G} (ok : fx_ok g) (h : fx_H) (a b : Nat) (ha : fx_s h a = some (.inl 1)) (hb : fx_s h b = some (.inl 1)) : fx_C g mq_RE_meets [.ref a, .ref b] h (fx_is (some (rMeets h a b)) (h)) 0 0 := by
  refine fx_body (by decide +kernel) (Nat.le_of_ble_eq_true rfl) ?_
  show fx_X g mq_RE_meets 0 [(0, .ref a), (1, .ref b)] [] h _ 0 0
  refine fx_aload_n 0 dq_RE_meets_0 rfl rfl ?_
  refine fx_geti ok fq_RE_7 ha dq_RE_meets_1 (by decide) ?_
  refine fx_aload_n 1 dq_RE_meets_4 rfl rfl ?_
  refine fx_geti ok fq_RE_7 hb dq_RE_meets_5 (by decide) ?_
  refine fx_jmax ok sq_RE_32 kj_max.1 kj_max.2.1 kj_max.2.2 (by decide) (Nat.le_of_ble_eq_true rfl) dq_RE_meets_8 ?_
  refine fx_aload_n 0 dq_RE_meets_11 rfl rfl ?_
  refine fx_geti ok fq_RE_7 ha dq_RE_meets_12 (by decide) ?_
  refine fx_aload_n 0 dq_RE_meets_15 rfl rfl ?_
  refine fx_geti ok fq_RE_16 ha dq_RE_meets_16 (by decide) ?_
  refine fx_iadd dq_RE_meets_19 ?_
  refine fx_aload_n 1 dq_RE_meets_20 rfl rfl ?_
  refine fx_geti ok fq_RE_7 hb dq_RE_meets_21 (by decide) ?_
  refine fx_aload_n 1 dq_RE_meets_24 rfl rfl ?_
  refine fx_geti ok fq_RE_16 hb dq_RE_meets_25 (by decide) ?_
  refine fx_iadd dq_RE_meets_28 ?_
  refine fx_jmin ok sq_RE_26 kj_min.1 kj_min.2.1 kj_min.2.2 (by decide) (Nat.le_of_ble_eq_true rfl) dq_RE_meets_29 ?_
  refine fx_icmp_ge (tgt := 74) dq_RE_meets_32 (by decide) (fun hc32 => ?_) (fun hc32 => ?_)
  · -- 32: jump
    refine fx_iconst (v := 0) dq_RE_meets_74 (by decide) ?_
    exact fx_zreturn rfl (by decide) dq_RE_meets_75 ⟨by simp [rMeets, hc32], rfl⟩
  · -- 32: fall
    refine fx_aload_n 0 dq_RE_meets_35 rfl rfl ?_
    refine fx_geti ok fq_RE_13 ha dq_RE_meets_36 (by decide) ?_
    refine fx_aload_n 1 dq_RE_meets_39 rfl rfl ?_
    refine fx_geti ok fq_RE_13 hb dq_RE_meets_40 (by decide) ?_
    refine fx_jmax ok sq_RE_32 kj_max.1 kj_max.2.1 kj_max.2.2 (by decide) (Nat.le_of_ble_eq_true rfl) dq_RE_meets_43 ?_
    refine fx_aload_n 0 dq_RE_meets_46 rfl rfl ?_
    refine fx_geti ok fq_RE_13 ha dq_RE_meets_47 (by decide) ?_
    refine fx_aload_n 0 dq_RE_meets_50 rfl rfl ?_
    refine fx_geti ok fq_RE_19 ha dq_RE_meets_51 (by decide) ?_
    refine fx_iadd dq_RE_meets_54 ?_
    refine fx_aload_n 1 dq_RE_meets_55 rfl rfl ?_
    refine fx_geti ok fq_RE_13 hb dq_RE_meets_56 (by decide) ?_
    refine fx_aload_n 1 dq_RE_meets_59 rfl rfl ?_
    refine fx_geti ok fq_RE_19 hb dq_RE_meets_60 (by decide) ?_
    refine fx_iadd dq_RE_meets_63 ?_
    refine fx_jmin ok sq_RE_26 kj_min.1 kj_min.2.1 kj_min.2.2 (by decide) (Nat.le_of_ble_eq_true rfl) dq_RE_meets_64 ?_
    refine fx_icmp_ge (tgt := 74) dq_RE_meets_67 (by decide) (fun hc67 => ?_) (fun hc67 => ?_)
    · -- 67: jump
      refine fx_iconst (v := 0) dq_RE_meets_74 (by decide) ?_
      exact fx_zreturn rfl (by decide) dq_RE_meets_75 ⟨by simp [rMeets, hc32, hc67], rfl⟩
    · -- 67: fall
      refine fx_iconst (v := 1) dq_RE_meets_70 (by decide) ?_
      refine fx_goto (tgt := 75) dq_RE_meets_71 (by decide) ?_
      exact fx_zreturn rfl (by decide) dq_RE_meets_75 ⟨by simp [rMeets, hc32, hc67], rfl⟩

def rIn (h : fx_H) (a b : Nat) : Int32 := if ¬ fx_i h b 0 < fx_i h a 0 ∧ ¬ fx_i h a 0 + fx_i h a 2 < fx_i h b 0 + fx_i h b 2 ∧ ¬ fx_i h b 1 < fx_i h a 1 ∧ ¬ fx_i h a 1 + fx_i h a 3 < fx_i h b 1 + fx_i h b 3 then 1 else 0
set_option maxRecDepth 100000 in
set_option maxHeartbeats 4000000 in
theorem cr_contains {g : fx_G} (ok : fx_ok g) (h : fx_H) (a b : Nat) (ha : fx_s h a = some (.inl 1)) (hb : fx_s h b = some (.inl 1)) : fx_C g mq_RE_contains [.ref a, .ref b] h (fx_is (some (rIn h a b)) (h)) 0 0 := by
  refine fx_body (by decide +kernel) (Nat.le_of_ble_eq_true rfl) ?_
  show fx_X g mq_RE_contains 0 [(0, .ref a), (1, .ref b)] [] h _ 0 0
  refine fx_aload_n 1 dq_RE_contains_0 rfl rfl ?_
  refine fx_geti ok fq_RE_7 hb dq_RE_contains_1 (by decide) ?_
  refine fx_aload_n 0 dq_RE_contains_4 rfl rfl ?_
  refine fx_geti ok fq_RE_7 ha dq_RE_contains_5 (by decide) ?_
  refine fx_icmp_lt (tgt := 68) dq_RE_contains_8 (by decide) (fun hc8 => ?_) (fun hc8 => ?_)
  · -- 8: jump
    refine fx_iconst (v := 0) dq_RE_contains_68 (by decide) ?_
    exact fx_zreturn rfl (by decide) dq_RE_contains_69 ⟨by simp [rIn, hc8], rfl⟩
  · -- 8: fall
    refine fx_aload_n 1 dq_RE_contains_11 rfl rfl ?_
    refine fx_geti ok fq_RE_7 hb dq_RE_contains_12 (by decide) ?_
    refine fx_aload_n 1 dq_RE_contains_15 rfl rfl ?_
    refine fx_geti ok fq_RE_16 hb dq_RE_contains_16 (by decide) ?_
    refine fx_iadd dq_RE_contains_19 ?_
    refine fx_aload_n 0 dq_RE_contains_20 rfl rfl ?_
    refine fx_geti ok fq_RE_7 ha dq_RE_contains_21 (by decide) ?_
    refine fx_aload_n 0 dq_RE_contains_24 rfl rfl ?_
    refine fx_geti ok fq_RE_16 ha dq_RE_contains_25 (by decide) ?_
    refine fx_iadd dq_RE_contains_28 ?_
    refine fx_icmp_gt (tgt := 68) dq_RE_contains_29 (by decide) (fun hc29 => ?_) (fun hc29 => ?_)
    · -- 29: jump
      refine fx_iconst (v := 0) dq_RE_contains_68 (by decide) ?_
      exact fx_zreturn rfl (by decide) dq_RE_contains_69 ⟨by simp [rIn, hc8, hc29], rfl⟩
    · -- 29: fall
      refine fx_aload_n 1 dq_RE_contains_32 rfl rfl ?_
      refine fx_geti ok fq_RE_13 hb dq_RE_contains_33 (by decide) ?_
      refine fx_aload_n 0 dq_RE_contains_36 rfl rfl ?_
      refine fx_geti ok fq_RE_13 ha dq_RE_contains_37 (by decide) ?_
      refine fx_icmp_lt (tgt := 68) dq_RE_contains_40 (by decide) (fun hc40 => ?_) (fun hc40 => ?_)
      · -- 40: jump
        refine fx_iconst (v := 0) dq_RE_contains_68 (by decide) ?_
        exact fx_zreturn rfl (by decide) dq_RE_contains_69 ⟨by simp [rIn, hc8, hc29, hc40], rfl⟩
      · -- 40: fall
        refine fx_aload_n 1 dq_RE_contains_43 rfl rfl ?_
        refine fx_geti ok fq_RE_13 hb dq_RE_contains_44 (by decide) ?_
        refine fx_aload_n 1 dq_RE_contains_47 rfl rfl ?_
        refine fx_geti ok fq_RE_19 hb dq_RE_contains_48 (by decide) ?_
        refine fx_iadd dq_RE_contains_51 ?_
        refine fx_aload_n 0 dq_RE_contains_52 rfl rfl ?_
        refine fx_geti ok fq_RE_13 ha dq_RE_contains_53 (by decide) ?_
        refine fx_aload_n 0 dq_RE_contains_56 rfl rfl ?_
        refine fx_geti ok fq_RE_19 ha dq_RE_contains_57 (by decide) ?_
        refine fx_iadd dq_RE_contains_60 ?_
        refine fx_icmp_gt (tgt := 68) dq_RE_contains_61 (by decide) (fun hc61 => ?_) (fun hc61 => ?_)
        · -- 61: jump
          refine fx_iconst (v := 0) dq_RE_contains_68 (by decide) ?_
          exact fx_zreturn rfl (by decide) dq_RE_contains_69 ⟨by simp [rIn, hc8, hc29, hc40, hc61], rfl⟩
        · -- 61: fall
          refine fx_iconst (v := 1) dq_RE_contains_64 (by decide) ?_
          refine fx_goto (tgt := 69) dq_RE_contains_65 (by decide) ?_
          exact fx_zreturn rfl (by decide) dq_RE_contains_69 ⟨by simp [rIn, hc8, hc29, hc40, hc61], rfl⟩

def rWaste (h : fx_H) (a b : Nat) : Int32 := (jmax (fx_i h a 0 + fx_i h a 2) (fx_i h b 0 + fx_i h b 2) - jmin (fx_i h a 0) (fx_i h b 0)) * (jmax (fx_i h a 1 + fx_i h a 3) (fx_i h b 1 + fx_i h b 3) - jmin (fx_i h a 1) (fx_i h b 1)) - fx_i h a 2 * fx_i h a 3 - fx_i h b 2 * fx_i h b 3
set_option maxRecDepth 100000 in
set_option maxHeartbeats 4000000 in
theorem cr_wasteWith {g : fx_G} (ok : fx_ok g) (h : fx_H) (a b : Nat) (ha : fx_s h a = some (.inl 1)) (hb : fx_s h b = some (.inl 1)) : fx_C g mq_RE_wasteWith [.ref a, .ref b] h (fx_is (some (rWaste h a b)) (h)) 0 0 := by
  refine fx_body (by decide +kernel) (Nat.le_of_ble_eq_true rfl) ?_
  show fx_X g mq_RE_wasteWith 0 [(0, .ref a), (1, .ref b)] [] h _ 0 0
  refine fx_aload_n 0 dq_RE_wasteWith_0 rfl rfl ?_
  refine fx_geti ok fq_RE_7 ha dq_RE_wasteWith_1 (by decide) ?_
  refine fx_aload_n 0 dq_RE_wasteWith_4 rfl rfl ?_
  refine fx_geti ok fq_RE_16 ha dq_RE_wasteWith_5 (by decide) ?_
  refine fx_iadd dq_RE_wasteWith_8 ?_
  refine fx_aload_n 1 dq_RE_wasteWith_9 rfl rfl ?_
  refine fx_geti ok fq_RE_7 hb dq_RE_wasteWith_10 (by decide) ?_
  refine fx_aload_n 1 dq_RE_wasteWith_13 rfl rfl ?_
  refine fx_geti ok fq_RE_16 hb dq_RE_wasteWith_14 (by decide) ?_
  refine fx_iadd dq_RE_wasteWith_17 ?_
  refine fx_jmax ok sq_RE_32 kj_max.1 kj_max.2.1 kj_max.2.2 (by decide) (Nat.le_of_ble_eq_true rfl) dq_RE_wasteWith_18 ?_
  refine fx_aload_n 0 dq_RE_wasteWith_21 rfl rfl ?_
  refine fx_geti ok fq_RE_7 ha dq_RE_wasteWith_22 (by decide) ?_
  refine fx_aload_n 1 dq_RE_wasteWith_25 rfl rfl ?_
  refine fx_geti ok fq_RE_7 hb dq_RE_wasteWith_26 (by decide) ?_
  refine fx_jmin ok sq_RE_26 kj_min.1 kj_min.2.1 kj_min.2.2 (by decide) (Nat.le_of_ble_eq_true rfl) dq_RE_wasteWith_29 ?_
  refine fx_isub dq_RE_wasteWith_32 ?_
  refine fx_istore_n dq_RE_wasteWith_33 rfl (by decide) rfl ?_
  refine fx_aload_n 1 dq_RE_wasteWith_34 rfl rfl ?_
  refine fx_geti ok fq_RE_13 ha dq_RE_wasteWith_35 (by decide) ?_
  refine fx_aload_n 1 dq_RE_wasteWith_38 rfl rfl ?_
  refine fx_geti ok fq_RE_19 ha dq_RE_wasteWith_39 (by decide) ?_
  refine fx_iadd dq_RE_wasteWith_42 ?_
  refine fx_aload_n 2 dq_RE_wasteWith_43 rfl rfl ?_
  refine fx_geti ok fq_RE_13 hb dq_RE_wasteWith_44 (by decide) ?_
  refine fx_aload_n 2 dq_RE_wasteWith_47 rfl rfl ?_
  refine fx_geti ok fq_RE_19 hb dq_RE_wasteWith_48 (by decide) ?_
  refine fx_iadd dq_RE_wasteWith_51 ?_
  refine fx_jmax ok sq_RE_32 kj_max.1 kj_max.2.1 kj_max.2.2 (by decide) (Nat.le_of_ble_eq_true rfl) dq_RE_wasteWith_52 ?_
  refine fx_aload_n 1 dq_RE_wasteWith_55 rfl rfl ?_
  refine fx_geti ok fq_RE_13 ha dq_RE_wasteWith_56 (by decide) ?_
  refine fx_aload_n 2 dq_RE_wasteWith_59 rfl rfl ?_
  refine fx_geti ok fq_RE_13 hb dq_RE_wasteWith_60 (by decide) ?_
  refine fx_jmin ok sq_RE_26 kj_min.1 kj_min.2.1 kj_min.2.2 (by decide) (Nat.le_of_ble_eq_true rfl) dq_RE_wasteWith_63 ?_
  refine fx_isub dq_RE_wasteWith_66 ?_
  refine fx_istore_n dq_RE_wasteWith_67 rfl (by decide) rfl ?_
  refine fx_iload_n 1 dq_RE_wasteWith_68 rfl rfl ?_
  refine fx_iload_n 0 dq_RE_wasteWith_69 rfl rfl ?_
  refine fx_imul dq_RE_wasteWith_70 ?_
  refine fx_aload_n 2 dq_RE_wasteWith_71 rfl rfl ?_
  refine fx_geti ok fq_RE_16 ha dq_RE_wasteWith_72 (by decide) ?_
  refine fx_aload_n 2 dq_RE_wasteWith_75 rfl rfl ?_
  refine fx_geti ok fq_RE_19 ha dq_RE_wasteWith_76 (by decide) ?_
  refine fx_imul dq_RE_wasteWith_79 ?_
  refine fx_isub dq_RE_wasteWith_80 ?_
  refine fx_aload_n 3 dq_RE_wasteWith_81 rfl rfl ?_
  refine fx_geti ok fq_RE_16 hb dq_RE_wasteWith_82 (by decide) ?_
  refine fx_aload_n 3 dq_RE_wasteWith_85 rfl rfl ?_
  refine fx_geti ok fq_RE_19 hb dq_RE_wasteWith_86 (by decide) ?_
  refine fx_imul dq_RE_wasteWith_89 ?_
  refine fx_isub dq_RE_wasteWith_90 ?_
  exact fx_ireturn rfl dq_RE_wasteWith_91 ⟨rfl, rfl⟩

def rGrow (h : fx_H) (a b : Nat) : fx_H := rset h a (jmin (fx_i h a 0) (fx_i h b 0)) (jmin (fx_i h a 1) (fx_i h b 1)) (jmax (fx_i h a 0 + fx_i h a 2) (fx_i h b 0 + fx_i h b 2) - jmin (fx_i h a 0) (fx_i h b 0)) (jmax (fx_i h a 1 + fx_i h a 3) (fx_i h b 1 + fx_i h b 3) - jmin (fx_i h a 1) (fx_i h b 1))
set_option maxRecDepth 100000 in
set_option maxHeartbeats 4000000 in
theorem cr_growOver {g : fx_G} (ok : fx_ok g) (h : fx_H) (a b : Nat) (ha : fx_s h a = some (.inl 1)) (hb : fx_s h b = some (.inl 1)) (hab : a ≠ b) : fx_C g mq_RE_growOver [.ref a, .ref b] h (fx_is none (rGrow h a b)) 0 0 := by
  refine fx_body (by decide +kernel) (Nat.le_of_ble_eq_true rfl) ?_
  show fx_X g mq_RE_growOver 0 [(0, .ref a), (1, .ref b)] [] h _ 0 0
  refine fx_aload_n 0 dq_RE_growOver_0 rfl rfl ?_
  refine fx_geti ok fq_RE_7 ha dq_RE_growOver_1 (by decide) ?_
  refine fx_aload_n 0 dq_RE_growOver_4 rfl rfl ?_
  refine fx_geti ok fq_RE_16 ha dq_RE_growOver_5 (by decide) ?_
  refine fx_iadd dq_RE_growOver_8 ?_
  refine fx_aload_n 1 dq_RE_growOver_9 rfl rfl ?_
  refine fx_geti ok fq_RE_7 hb dq_RE_growOver_10 (by decide) ?_
  refine fx_aload_n 1 dq_RE_growOver_13 rfl rfl ?_
  refine fx_geti ok fq_RE_16 hb dq_RE_growOver_14 (by decide) ?_
  refine fx_iadd dq_RE_growOver_17 ?_
  refine fx_jmax ok sq_RE_32 kj_max.1 kj_max.2.1 kj_max.2.2 (by decide) (Nat.le_of_ble_eq_true rfl) dq_RE_growOver_18 ?_
  refine fx_istore_n dq_RE_growOver_21 rfl (by decide) rfl ?_
  refine fx_aload_n 1 dq_RE_growOver_22 rfl rfl ?_
  refine fx_geti ok fq_RE_13 ha dq_RE_growOver_23 (by decide) ?_
  refine fx_aload_n 1 dq_RE_growOver_26 rfl rfl ?_
  refine fx_geti ok fq_RE_19 ha dq_RE_growOver_27 (by decide) ?_
  refine fx_iadd dq_RE_growOver_30 ?_
  refine fx_aload_n 2 dq_RE_growOver_31 rfl rfl ?_
  refine fx_geti ok fq_RE_13 hb dq_RE_growOver_32 (by decide) ?_
  refine fx_aload_n 2 dq_RE_growOver_35 rfl rfl ?_
  refine fx_geti ok fq_RE_19 hb dq_RE_growOver_36 (by decide) ?_
  refine fx_iadd dq_RE_growOver_39 ?_
  refine fx_jmax ok sq_RE_32 kj_max.1 kj_max.2.1 kj_max.2.2 (by decide) (Nat.le_of_ble_eq_true rfl) dq_RE_growOver_40 ?_
  refine fx_istore_n dq_RE_growOver_43 rfl (by decide) rfl ?_
  refine fx_aload_n 2 dq_RE_growOver_44 rfl rfl ?_
  refine fx_aload_n 2 dq_RE_growOver_45 rfl rfl ?_
  refine fx_geti ok fq_RE_7 ha dq_RE_growOver_46 (by decide) ?_
  refine fx_aload_n 3 dq_RE_growOver_49 rfl rfl ?_
  refine fx_geti ok fq_RE_7 hb dq_RE_growOver_50 (by decide) ?_
  refine fx_jmin ok sq_RE_26 kj_min.1 kj_min.2.1 kj_min.2.2 (by decide) (Nat.le_of_ble_eq_true rfl) dq_RE_growOver_53 ?_
  refine fx_puti ok fp_RE_7 ha (by decide) dq_RE_growOver_56 (Or.inl (by decide)) ?_
  refine fx_aload_n 2 dq_RE_growOver_59 rfl rfl ?_
  refine fx_aload_n 2 dq_RE_growOver_60 rfl rfl ?_
  refine fx_geti ok fq_RE_13 ha dq_RE_growOver_61 (by decide) ?_
  refine fx_aload_n 3 dq_RE_growOver_64 rfl rfl ?_
  refine fx_geti ok fq_RE_13 hb dq_RE_growOver_65 (by decide) ?_
  refine fx_jmin ok sq_RE_26 kj_min.1 kj_min.2.1 kj_min.2.2 (by decide) (Nat.le_of_ble_eq_true rfl) dq_RE_growOver_68 ?_
  refine fx_puti ok fp_RE_13 ha (by decide) dq_RE_growOver_71 (Or.inl (by decide)) ?_
  refine fx_aload_n 2 dq_RE_growOver_74 rfl rfl ?_
  refine fx_iload_n 1 dq_RE_growOver_75 rfl rfl ?_
  refine fx_aload_n 2 dq_RE_growOver_76 rfl rfl ?_
  refine fx_geti ok fq_RE_7 ha dq_RE_growOver_77 (by decide) ?_
  refine fx_isub dq_RE_growOver_80 ?_
  refine fx_puti ok fp_RE_16 ha (by decide) dq_RE_growOver_81 (Or.inl (by decide)) ?_
  refine fx_aload_n 2 dq_RE_growOver_84 rfl rfl ?_
  refine fx_iload_n 0 dq_RE_growOver_85 rfl rfl ?_
  refine fx_aload_n 2 dq_RE_growOver_86 rfl rfl ?_
  refine fx_geti ok fq_RE_13 ha dq_RE_growOver_87 (by decide) ?_
  refine fx_isub dq_RE_growOver_90 ?_
  refine fx_puti ok fp_RE_19 ha (by decide) dq_RE_growOver_91 (Or.inl (by decide)) ?_
  exact fx_vreturn rfl dq_RE_growOver_94 ⟨rfl, by simp [fx_i_wi, rGrow, rset, hab, Ne.symm hab]⟩

