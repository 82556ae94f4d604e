/-! ===== Planes; a pile's color ===== -/
def cStep (h : fx_H) (p : Nat) (x y : Int32) (l : Nat) (c : Int32) : Int32 := if rHas h (p + 3 + 4 * pU h p l + 3) x y = 0 then c else jM (pColor h (p + 3 + 4 * pU h p l) x y) c (fx_i h (p + 3 + 4 * pU h p l) 6)
def v_PL_colorAt (h : fx_H) (p : Nat) (x y : Int32) : Int32 := (itg (cStep h p x y) 0 (pH h p))
set_option maxRecDepth 100000 in
set_option maxHeartbeats 600000 in
theorem c_PL_colorAt {g : fx_G} (ok : fx_ok g) (h : fx_H) (p : Nat) (x y : Int32) (hp : isL h p) (hk : pOk h p) (hs : ∀ s, s < 10 → sOk h (p + 3 + 4 * s)) : fx_C g mq_PL_colorAt [.ref p, .int x, .int y] h (fx_is (some (v_PL_colorAt h p x y)) h) 0 0 := by
  refine fx_body (by decide +kernel) (Nat.le_of_ble_eq_true rfl) ?_
  show fx_X g mq_PL_colorAt 0 [(0, .ref p), (1, .int x), (2, .int y)] [] h _ 0 0
  refine fx_iconst (v := 0) dq_PL_colorAt_0 (by decide) ?_
  refine fx_istore_n dq_PL_colorAt_1 rfl (by decide) rfl ?_
  refine fx_iconst (v := 0) dq_PL_colorAt_2 (by decide) ?_
  refine fx_istore dq_PL_colorAt_3 (by decide) rfl ?_
  refine fx_forv (fun i => [(4, .int (nI i)), (3, .int (itg (cStep h p x y) 0 i)), (0, .ref p), (1, .int x), (2, .int y)]) h (pH h p) (fun i hi hK5 => ?_) ?_
  · skip
    refine fx_iload 0 dq_PL_colorAt_5 rfl ?_
    refine fx_aload_n 2 dq_PL_colorAt_7 rfl rfl ?_
    refine fx_geti ok fq_PL_22 hp.1 dq_PL_colorAt_8 (by decide) ?_
    refine fx_icmp_ge (tgt := 64) dq_PL_colorAt_11 (by decide) (fun hc11 => absurd hc11 (pH_ge hk hi)) (fun hc11 => ?_)
    refine fx_aload_n 2 dq_PL_colorAt_14 rfl rfl ?_
    refine fx_getr ok fq_PL_11 hp.1 dq_PL_colorAt_15 (by decide) hp.2.1 ?_
    refine fx_aload_n 2 dq_PL_colorAt_18 rfl rfl ?_
    refine fx_getr ok fq_PL_17 hp.1 dq_PL_colorAt_19 (by decide) hp.2.2.2.1 ?_
    refine fx_iload 0 dq_PL_colorAt_22 rfl ?_
    refine fx_iaN ok hp.2.2.2.2.1 ⟨(Nat.lt_of_lt_of_le hi hk.1), by decide⟩ dq_PL_colorAt_24 ?_
    refine fx_aaload ok hp.2.2.1 (by decide) rfl rfl (pU_in hk (Nat.lt_of_lt_of_le hi hk.1)) (hp.2.2.2.2.2 (pU h p i) (hk.2.2 i (Nat.lt_of_lt_of_le hi hk.1)).1).1 dq_PL_colorAt_25 ?_
    refine fx_astore dq_PL_colorAt_26 (by decide) rfl ?_
    refine fx_aload 0 dq_PL_colorAt_28 rfl ?_
    refine fx_getr ok fq_PL_40 (hp.2.2.2.2.2 (pU h p i) (hk.2.2 i (Nat.lt_of_lt_of_le hi hk.1)).1).2.1 dq_PL_colorAt_30 (by decide) (hp.2.2.2.2.2 (pU h p i) (hk.2.2 i (Nat.lt_of_lt_of_le hi hk.1)).1).2.2.2.2.2.2.1 ?_
    refine fx_iload_n 4 dq_PL_colorAt_33 rfl rfl ?_
    refine fx_iload_n 5 dq_PL_colorAt_34 rfl rfl ?_
    refine fx_Vi2 ok sq_PL_44 (hp.2.2.2.2.2 (pU h p i) (hk.2.2 i (Nat.lt_of_lt_of_le hi hk.1)).1).2.2.2.2.2.2.2 (cr_has ok _ _ (by exact (hp.2.2.2.2.2 (pU h p i) (hk.2.2 i (Nat.lt_of_lt_of_le hi hk.1)).1).2.2.2.2.2.2.2) _ _) (by decide) (Nat.le_of_ble_eq_true rfl) dq_PL_colorAt_35 ?_
    refine fx_if_eq (tgt := 58) dq_PL_colorAt_38 (by decide) (fun hc38 => ?_) (fun hc38 => ?_)
    · -- 38: jump
      refine fx_iinc 1 dq_PL_colorAt_58 rfl (jz_i _) (by decide) rfl ?_
      refine fx_goto (tgt := 5) dq_PL_colorAt_61 (by decide) ?_
      refine fx_sub [0, 2, 3, 4, 5] rfl ?_
      rw [itg_s, cStep, if_pos hc38] at hK5
      exact hK5
    · -- 38: fall
      refine fx_aload 0 dq_PL_colorAt_41 rfl ?_
      refine fx_iload_n 4 dq_PL_colorAt_43 rfl rfl ?_
      refine fx_iload_n 5 dq_PL_colorAt_44 rfl rfl ?_
      refine fx_Vi2 ok sq_PL_50 (hp.2.2.2.2.2 (pU h p i) (hk.2.2 i (Nat.lt_of_lt_of_le hi hk.1)).1).2.1 (cp_colorAt ok _ _ (by exact (hp.2.2.2.2.2 (pU h p i) (hk.2.2 i (Nat.lt_of_lt_of_le hi hk.1)).1).2) _ _ ((hs _ (hk.2.2 i (Nat.lt_of_lt_of_le hi hk.1)).1).2 _ _ hc38)) (by decide) (Nat.le_of_ble_eq_true rfl) dq_PL_colorAt_45 ?_
      refine fx_iload_n 2 dq_PL_colorAt_48 rfl rfl ?_
      refine fx_aload 0 dq_PL_colorAt_49 rfl ?_
      refine fx_geti ok fq_PL_54 (hp.2.2.2.2.2 (pU h p i) (hk.2.2 i (Nat.lt_of_lt_of_le hi hk.1)).1).2.1 dq_PL_colorAt_51 (by decide) ?_
      refine fx_Mi3 ok sq_PL_57 (cq_mix ok _ _ _ _) (by decide) (Nat.le_of_ble_eq_true rfl) dq_PL_colorAt_54 ?_
      refine fx_istore_n dq_PL_colorAt_57 rfl (by decide) rfl ?_
      refine fx_iinc 2 dq_PL_colorAt_58 rfl (jz_i _) (by decide) rfl ?_
      refine fx_goto (tgt := 5) dq_PL_colorAt_61 (by decide) ?_
      refine fx_sub [0, 1, 3, 4, 5] rfl ?_
      rw [itg_s, cStep, if_neg hc38] at hK5
      exact hK5
  · skip
    refine fx_iload 0 dq_PL_colorAt_5 rfl ?_
    refine fx_aload_n 2 dq_PL_colorAt_7 rfl rfl ?_
    refine fx_geti ok fq_PL_22 hp.1 dq_PL_colorAt_8 (by decide) ?_
    refine fx_icmp_ge (tgt := 64) dq_PL_colorAt_11 (by decide) (fun hc11 => ?_) (fun hc11 => absurd (pH_le hk) hc11)
    refine fx_iload_n 1 dq_PL_colorAt_64 rfl rfl ?_
    exact fx_ireturn rfl dq_PL_colorAt_65 ⟨rfl, rfl⟩
/-- two planes at n: numbers, what is shown of them, colors -/
def isN (h : fx_H) (n : Nat) : Prop := fx_s h n = some (.inl 7) ∧ fx_r h n 0 = some (n + 1) ∧ fx_s h (n + 1) = some (.inr (0, 2)) ∧ fx_r h n 1 = some (n + 2) ∧ fx_s h (n + 2) = some (.inr (4, 2)) ∧ fx_r h n 2 = some (n + 5) ∧ fx_s h (n + 5) = some (.inr (5, 2)) ∧ ∀ i, i < 2 → fx_r h (n + 2) i = some (n + 3 + i) ∧ fx_s h (n + 3 + i) = some (.inl 1) ∧ fx_r h (n + 5) i = some (n + 6 + i) ∧ fx_s h (n + 6 + i) = some (.inr (0, 24))
theorem isN_sm {h h' : fx_H} {n : Nat} (e : fx_sm h h') (hn : isN h n) : isN h' n := by
  obtain ⟨h1, h2, h3, h4, h5, h6, h7, h8⟩ := hn
  exact ⟨(fx_sm_s e _).trans h1, (fx_sm_r e _ _).trans h2, (fx_sm_s e _).trans h3, (fx_sm_r e _ _).trans h4, (fx_sm_s e _).trans h5, (fx_sm_r e _ _).trans h6, (fx_sm_s e _).trans h7, fun s hs => ⟨(fx_sm_r e _ _).trans (h8 s hs).1, (fx_sm_s e _).trans (h8 s hs).2.1, (fx_sm_r e _ _).trans (h8 s hs).2.2.1, (fx_sm_s e _).trans (h8 s hs).2.2.2⟩⟩
def v_PN_has (h : fx_H) (n : Nat) (s : Int32) : Int32 := if (fx_i h (n + 1) (0 : Int32).toNatClampNeg) = s then (1 : Int32) else if (fx_i h (n + 1) (1 : Int32).toNatClampNeg) = s then (1 : Int32) else (0 : Int32)
set_option maxRecDepth 100000 in
set_option maxHeartbeats 600000 in
theorem c_PN_has {g : fx_G} (ok : fx_ok g) (h : fx_H) (n : Nat) (s : Int32) (hn : isN h n) : fx_C g mq_PN_has [.ref n, .int s] h (fx_is (some (v_PN_has h n s)) h) 0 0 := by
  refine fx_body (by decide +kernel) (Nat.le_of_ble_eq_true rfl) ?_
  show fx_X g mq_PN_has 0 [(0, .ref n), (1, .int s)] [] h _ 0 0
  refine fx_aload_n 0 dq_PN_has_0 rfl rfl ?_
  refine fx_getr ok fq_PN_9 hn.1 dq_PN_has_1 (by decide) hn.2.1 ?_
  refine fx_iconst (v := 0) dq_PN_has_4 (by decide) ?_
  refine fx_iaload ok hn.2.2.1 (by unfold vp_in; decide) dq_PN_has_5 ?_
  refine fx_iload_n 1 dq_PN_has_6 rfl rfl ?_
  refine fx_icmp_eq (tgt := 20) dq_PN_has_7 (by decide) (fun hc7 => ?_) (fun hc7 => ?_)
  · -- 7: jump
    refine fx_iconst (v := 1) dq_PN_has_20 (by decide) ?_
    refine fx_goto (tgt := 25) dq_PN_has_21 (by decide) ?_
    exact fx_zreturn rfl (by decide) dq_PN_has_25 ⟨by rw [v_PN_has, if_pos hc7], rfl⟩
  · -- 7: fall
    refine fx_aload_n 0 dq_PN_has_10 rfl rfl ?_
    refine fx_getr ok fq_PN_9 hn.1 dq_PN_has_11 (by decide) hn.2.1 ?_
    refine fx_iconst (v := 1) dq_PN_has_14 (by decide) ?_
    refine fx_iaload ok hn.2.2.1 (by unfold vp_in; decide) dq_PN_has_15 ?_
    refine fx_iload_n 1 dq_PN_has_16 rfl rfl ?_
    refine fx_icmp_ne (tgt := 24) dq_PN_has_17 (by decide) (fun hc17 => ?_) (fun hc17 => ?_)
    · -- 17: jump
      refine fx_iconst (v := 0) dq_PN_has_24 (by decide) ?_
      exact fx_zreturn rfl (by decide) dq_PN_has_25 ⟨by rw [v_PN_has, if_neg hc7, if_neg hc17], rfl⟩
    · -- 17: fall
      refine fx_iconst (v := 1) dq_PN_has_20 (by decide) ?_
      refine fx_goto (tgt := 25) dq_PN_has_21 (by decide) ?_
      exact fx_zreturn rfl (by decide) dq_PN_has_25 ⟨by rw [v_PN_has, if_neg hc7, if_pos hc17], rfl⟩
def b_PN_become (n m : Nat) (i : Nat) (k : fx_H) : fx_H := fx_cp (rset (fx_wi k (n + 1) i (fx_i k (m + 1) i)) (n + 3 + i) (fx_i (fx_wi k (n + 1) i (fx_i k (m + 1) i)) (m + 3 + i) 0) (fx_i (fx_wi k (n + 1) i (fx_i k (m + 1) i)) (m + 3 + i) 1) (fx_i (fx_wi k (n + 1) i (fx_i k (m + 1) i)) (m + 3 + i) 2) (fx_i (fx_wi k (n + 1) i (fx_i k (m + 1) i)) (m + 3 + i) 3)) (m + 6 + i) (n + 6 + i) (0 : Int32).toNatClampNeg (0 : Int32).toNatClampNeg (24 : Int32).toNatClampNeg
def k_PN_become (h : fx_H) (n m : Nat) : fx_H := (it (b_PN_become n m) h 2)
set_option maxRecDepth 100000 in
set_option maxHeartbeats 600000 in
theorem c_PN_become {g : fx_G} (ok : fx_ok g) (h : fx_H) (n m : Nat) (hn : isN h n) (hm : isN h m) : fx_C g mq_PN_become [.ref n, .ref m] h (fx_is none (k_PN_become h n m)) 0 0 := by
  refine fx_body (by decide +kernel) (Nat.le_of_ble_eq_true rfl) ?_
  show fx_X g mq_PN_become 0 [(0, .ref n), (1, .ref m)] [] h _ 0 0
  refine fx_iconst (v := 0) dq_PN_become_0 (by decide) ?_
  refine fx_istore_n dq_PN_become_1 rfl (by decide) rfl ?_
  refine fx_for (fun i => [(2, .int (nI i)), (0, .ref n), (1, .ref m)]) (b_PN_become n m) h 2 (fun i hi hK2 => ?_) ?_
  · have e2b : fx_sm h (it (b_PN_become n m) h i) := fx_sm_t (h' := h) (rfl : fx_sm h h) (fx_sm_it (by intro _ _; unfold b_PN_become; rfl) h i)
    generalize it (b_PN_become n m) h i = k at e2b hK2  ⊢
    refine fx_iload_n 0 dq_PN_become_2 rfl rfl ?_
    refine fx_iconst (v := 2) dq_PN_become_3 (by decide) ?_
    refine fx_icmp_ge (tgt := 59) dq_PN_become_4 (by decide) (fun hc4 => absurd hc4 (nI_ge (b := 2) hi (by decide))) (fun hc4 => ?_)
    refine fx_aload_n 1 dq_PN_become_7 rfl rfl ?_
    refine fx_getr ok fq_PN_9 ((fx_sm_s e2b _).trans hn.1) dq_PN_become_8 (by decide) ((fx_sm_r e2b _ _).trans hn.2.1) ?_
    refine fx_iload_n 0 dq_PN_become_11 rfl rfl ?_
    refine fx_aload_n 2 dq_PN_become_12 rfl rfl ?_
    refine fx_getr ok fq_PN_9 ((fx_sm_s e2b _).trans hm.1) dq_PN_become_13 (by decide) ((fx_sm_r e2b _ _).trans hm.2.1) ?_
    refine fx_iload_n 0 dq_PN_become_16 rfl rfl ?_
    refine fx_iaN ok ((fx_sm_s e2b _).trans hm.2.2.1) ⟨hi, by decide⟩ dq_PN_become_17 ?_
    refine fx_isN ok ((fx_sm_s e2b _).trans hn.2.2.1) ⟨hi, by decide⟩ dq_PN_become_18 ?_
    have e18w : fx_sm h (fx_wi k (n + 1) i (fx_i k (m + 1) i)) := fx_sm_t (h' := k) e2b rfl
    refine fx_aload_n 1 dq_PN_become_19 rfl rfl ?_
    refine fx_getr ok fq_PN_18 ((fx_sm_s e18w _).trans hn.1) dq_PN_become_20 (by decide) ((fx_sm_r e18w _ _).trans hn.2.2.2.1) ?_
    refine fx_iload_n 0 dq_PN_become_23 rfl rfl ?_
    refine fx_aaN ok ((fx_sm_s e18w _).trans hn.2.2.2.2.1) (by decide) rfl rfl ⟨hi, by decide⟩ ((fx_sm_r e18w _ _).trans (hn.2.2.2.2.2.2.2 i hi).1) dq_PN_become_24 ?_
    refine fx_aload_n 2 dq_PN_become_25 rfl rfl ?_
    refine fx_getr ok fq_PN_18 ((fx_sm_s e18w _).trans hm.1) dq_PN_become_26 (by decide) ((fx_sm_r e18w _ _).trans hm.2.2.2.1) ?_
    refine fx_iload_n 0 dq_PN_become_29 rfl rfl ?_
    refine fx_aaN ok ((fx_sm_s e18w _).trans hm.2.2.2.2.1) (by decide) rfl rfl ⟨hi, by decide⟩ ((fx_sm_r e18w _ _).trans (hm.2.2.2.2.2.2.2 i hi).1) dq_PN_become_30 ?_
    refine fx_Vv1 ok sq_PN_27 ((fx_sm_s e18w _).trans (hn.2.2.2.2.2.2.2 i hi).2.1) (cr_become ok _ _ _ (by exact (fx_sm_s e18w _).trans (hn.2.2.2.2.2.2.2 i hi).2.1) (by exact (fx_sm_s e18w _).trans (hm.2.2.2.2.2.2.2 i hi).2.1)) (by decide) (Nat.le_of_ble_eq_true rfl) dq_PN_become_31 ?_
    refine fx_aload_n 2 dq_PN_become_34 rfl rfl ?_
    refine fx_getr ok fq_PN_24 ((fx_sm_s e18w _).trans hm.1) dq_PN_become_35 (by decide) ((fx_sm_r e18w _ _).trans hm.2.2.2.2.2.1) ?_
    refine fx_iload_n 0 dq_PN_become_38 rfl rfl ?_
    refine fx_aaN ok ((fx_sm_s e18w _).trans hm.2.2.2.2.2.2.1) (by decide) rfl rfl ⟨hi, by decide⟩ ((fx_sm_r e18w _ _).trans (hm.2.2.2.2.2.2.2 i hi).2.2.1) dq_PN_become_39 ?_
    refine fx_iconst (v := 0) dq_PN_become_40 (by decide) ?_
    refine fx_aload_n 1 dq_PN_become_41 rfl rfl ?_
    refine fx_getr ok fq_PN_24 ((fx_sm_s e18w _).trans hn.1) dq_PN_become_42 (by decide) ((fx_sm_r e18w _ _).trans hn.2.2.2.2.2.1) ?_
    refine fx_iload_n 0 dq_PN_become_45 rfl rfl ?_
    refine fx_aaN ok ((fx_sm_s e18w _).trans hn.2.2.2.2.2.2.1) (by decide) rfl rfl ⟨hi, by decide⟩ ((fx_sm_r e18w _ _).trans (hn.2.2.2.2.2.2.2 i hi).2.2.1) dq_PN_become_46 ?_
    refine fx_iconst (v := 0) dq_PN_become_47 (by decide) ?_
    refine fx_bipush (v := 24) dq_PN_become_48 (by decide) ?_
    refine fx_copy ok sq_PN_31 kj_cp.1 kj_cp.2.1 kj_cp.2.2 ((fx_sm_s e18w _).trans (hm.2.2.2.2.2.2.2 i hi).2.2.2) ((fx_sm_s e18w _).trans (hn.2.2.2.2.2.2.2 i hi).2.2.2) (by decide) (by decide) (by decide) (by decide) (by decide) (by decide) (Nat.le_of_ble_eq_true rfl) dq_PN_become_50 ?_
    have e50w : fx_sm h (fx_cp (rset (fx_wi k (n + 1) i (fx_i k (m + 1) i)) (n + 3 + i) (fx_i (fx_wi k (n + 1) i (fx_i k (m + 1) i)) (m + 3 + i) 0) (fx_i (fx_wi k (n + 1) i (fx_i k (m + 1) i)) (m + 3 + i) 1) (fx_i (fx_wi k (n + 1) i (fx_i k (m + 1) i)) (m + 3 + i) 2) (fx_i (fx_wi k (n + 1) i (fx_i k (m + 1) i)) (m + 3 + i) 3)) (m + 6 + i) (n + 6 + i) (0 : Int32).toNatClampNeg (0 : Int32).toNatClampNeg (24 : Int32).toNatClampNeg) := fx_sm_t (h' := (rset (fx_wi k (n + 1) i (fx_i k (m + 1) i)) (n + 3 + i) (fx_i (fx_wi k (n + 1) i (fx_i k (m + 1) i)) (m + 3 + i) 0) (fx_i (fx_wi k (n + 1) i (fx_i k (m + 1) i)) (m + 3 + i) 1) (fx_i (fx_wi k (n + 1) i (fx_i k (m + 1) i)) (m + 3 + i) 2) (fx_i (fx_wi k (n + 1) i (fx_i k (m + 1) i)) (m + 3 + i) 3))) e18w rfl
    refine fx_iinc 0 dq_PN_become_53 rfl (jz_i i) (by decide) rfl ?_
    refine fx_goto (tgt := 2) dq_PN_become_56 (by decide) ?_
    refine fx_sub [0, 1, 2] rfl ?_
    exact hK2
  · have e2x : fx_sm h (it (b_PN_become n m) h 2) := fx_sm_t (h' := h) (rfl : fx_sm h h) (fx_sm_it (by intro _ _; unfold b_PN_become; rfl) h 2)
    refine fx_iload_n 0 dq_PN_become_2 rfl rfl ?_
    refine fx_iconst (v := 2) dq_PN_become_3 (by decide) ?_
    refine fx_icmp_ge (tgt := 59) dq_PN_become_4 (by decide) (fun hc4 => ?_) (fun hc4 => absurd (by decide) hc4)
    exact fx_vreturn rfl dq_PN_become_59 ⟨rfl, rfl⟩
theorem sm_PN_become (h : fx_H) (n m : Nat) : fx_sm h (k_PN_become h n m) := by
  unfold k_PN_become
  exact fx_sm_it (by intro _ _; unfold b_PN_become; rfl) h 2
def v_PN_isFit (h : fx_H) (n p l : Nat) : Int32 := if (fx_i h (p + 3 + 4 * pU h p l) 6) = (16 : Int32) then if (rE h (p + 3 + 4 * pU h p l + 3)) = 0 then if (fx_i h (p + 3 + 4 * pU h p l + 3) 2 * fx_i h (p + 3 + 4 * pU h p l + 3) 3) ≤ (24 : Int32) then srch (fun i => decide (¬ rMeets h (p + 3 + 4 * pU h p l + 3) (p + 3 + 4 * pU h p i + 3) = 0)) (fun i => 0) (1) (l + 1) (pH h p - (l + 1)) else (0 : Int32) else (0 : Int32) else (0 : Int32)
set_option maxRecDepth 100000 in
set_option maxHeartbeats 600000 in
theorem c_PN_isFit {g : fx_G} (ok : fx_ok g) (h : fx_H) (n p l : Nat) (hn : isN h n) (hp : isL h p) (hk : pOk h p) (hl : l < pH h p) : fx_C g mq_PN_isFit [.ref n, .ref p, .int (nI l)] h (fx_is (some (v_PN_isFit h n p l)) h) 0 0 := by
  refine fx_body (by decide +kernel) (Nat.le_of_ble_eq_true rfl) ?_
  show fx_X g mq_PN_isFit 0 [(0, .ref n), (1, .ref p), (2, .int (nI l))] [] h _ 0 0
  refine fx_aload_n 1 dq_PN_isFit_0 rfl rfl ?_
  refine fx_getr ok fq_PN_56 hp.1 dq_PN_isFit_1 (by decide) hp.2.1 ?_
  refine fx_aload_n 1 dq_PN_isFit_4 rfl rfl ?_
  refine fx_getr ok fq_PN_53 hp.1 dq_PN_isFit_5 (by decide) hp.2.2.2.1 ?_
  refine fx_iload_n 2 dq_PN_isFit_8 rfl rfl ?_
  refine fx_iaN ok hp.2.2.2.2.1 ⟨(Nat.lt_of_lt_of_le hl hk.1), by decide⟩ dq_PN_isFit_9 ?_
  refine fx_aaload ok hp.2.2.1 (by decide) rfl rfl (pU_in hk (Nat.lt_of_lt_of_le hl hk.1)) (hp.2.2.2.2.2 (pU h p l) (hk.2.2 l (Nat.lt_of_lt_of_le hl hk.1)).1).1 dq_PN_isFit_10 ?_
  refine fx_astore_n dq_PN_isFit_11 rfl (by decide) rfl ?_
  refine fx_aload_n 0 dq_PN_isFit_12 rfl rfl ?_
  refine fx_geti ok fq_PN_64 (hp.2.2.2.2.2 (pU h p l) (hk.2.2 l (Nat.lt_of_lt_of_le hl hk.1)).1).2.1 dq_PN_isFit_13 (by decide) ?_
  refine fx_bipush (v := 16) dq_PN_isFit_16 (by decide) ?_
  refine fx_icmp_ne (tgt := 43) dq_PN_isFit_18 (by decide) (fun hc18 => ?_) (fun hc18 => ?_)
  · -- 18: jump
    refine fx_iconst (v := 0) dq_PN_isFit_43 (by decide) ?_
    exact fx_zreturn rfl (by decide) dq_PN_isFit_44 ⟨by rw [v_PN_isFit, if_neg hc18], rfl⟩
  · -- 18: fall
    refine fx_aload_n 0 dq_PN_isFit_21 rfl rfl ?_
    refine fx_getr ok fq_PN_69 (hp.2.2.2.2.2 (pU h p l) (hk.2.2 l (Nat.lt_of_lt_of_le hl hk.1)).1).2.1 dq_PN_isFit_22 (by decide) (hp.2.2.2.2.2 (pU h p l) (hk.2.2 l (Nat.lt_of_lt_of_le hl hk.1)).1).2.2.2.2.2.2.1 ?_
    refine fx_Vi0 ok sq_PN_72 (hp.2.2.2.2.2 (pU h p l) (hk.2.2 l (Nat.lt_of_lt_of_le hl hk.1)).1).2.2.2.2.2.2.2 (cr_isEmpty ok _ _ (by exact (hp.2.2.2.2.2 (pU h p l) (hk.2.2 l (Nat.lt_of_lt_of_le hl hk.1)).1).2.2.2.2.2.2.2)) (by decide) (Nat.le_of_ble_eq_true rfl) dq_PN_isFit_25 ?_
    refine fx_if_ne (tgt := 43) dq_PN_isFit_28 (by decide) (fun hc28 => ?_) (fun hc28 => ?_)
    · -- 28: jump
      refine fx_iconst (v := 0) dq_PN_isFit_43 (by decide) ?_
      exact fx_zreturn rfl (by decide) dq_PN_isFit_44 ⟨by rw [v_PN_isFit, if_pos hc18, if_neg hc28], rfl⟩
    · -- 28: fall
      refine fx_aload_n 0 dq_PN_isFit_31 rfl rfl ?_
      refine fx_getr ok fq_PN_69 (hp.2.2.2.2.2 (pU h p l) (hk.2.2 l (Nat.lt_of_lt_of_le hl hk.1)).1).2.1 dq_PN_isFit_32 (by decide) (hp.2.2.2.2.2 (pU h p l) (hk.2.2 l (Nat.lt_of_lt_of_le hl hk.1)).1).2.2.2.2.2.2.1 ?_
      refine fx_Vi0 ok sq_PN_76 (hp.2.2.2.2.2 (pU h p l) (hk.2.2 l (Nat.lt_of_lt_of_le hl hk.1)).1).2.2.2.2.2.2.2 (cr_pixels ok _ _ (by exact (hp.2.2.2.2.2 (pU h p l) (hk.2.2 l (Nat.lt_of_lt_of_le hl hk.1)).1).2.2.2.2.2.2.2)) (by decide) (Nat.le_of_ble_eq_true rfl) dq_PN_isFit_35 ?_
      refine fx_bipush (v := 24) dq_PN_isFit_38 (by decide) ?_
      refine fx_icmp_le (tgt := 45) dq_PN_isFit_40 (by decide) (fun hc40 => ?_) (fun hc40 => ?_)
      · -- 40: jump
        refine fx_iload_n 3 dq_PN_isFit_45 rfl rfl ?_
        refine fx_iconst (v := 1) dq_PN_isFit_46 (by decide) ?_
        refine fx_iadd dq_PN_isFit_47 ?_
        refine fx_istore dq_PN_isFit_48 (by decide) rfl ?_
        refine fx_eqv (v' := nI (l + 1)) (nI_succ l).symm ?_
        have hv50 : v_PN_isFit h n p l = srch (fun i => decide (¬ rMeets h (p + 3 + 4 * pU h p l + 3) (p + 3 + 4 * pU h p i + 3) = 0)) (fun i => 0) (1) (l + 1) (pH h p - (l + 1)) := by rw [v_PN_isFit, if_pos hc18, if_pos hc28, if_pos hc40]
        have key : ∀ nn i, i + nn = pH h p → v_PN_isFit h n p l = srch (fun i => decide (¬ rMeets h (p + 3 + 4 * pU h p l + 3) (p + 3 + 4 * pU h p i + 3) = 0)) (fun i => 0) (1) i nn → fx_X g mq_PN_isFit 50 [(4, .int (nI i)), (3, .ref (p + 3 + 4 * pU h p l)), (0, .ref n), (1, .ref p), (2, .int (nI l))] [] h (fx_is (some (v_PN_isFit h n p l)) h) 0 0 := by
          intro nn
          induction nn with
          | zero =>
            intro i hin hq
            have hiN : i = pH h p := by omega
            refine fx_iload 0 dq_PN_isFit_50 rfl ?_
            refine fx_aload_n 3 dq_PN_isFit_52 rfl rfl ?_
            refine fx_geti ok fq_PN_43 hp.1 dq_PN_isFit_53 (by decide) ?_
            refine fx_icmp_ge (tgt := 92) dq_PN_isFit_56 (by decide) (fun hc56 => ?_) (fun hc56 => absurd (by rw [hiN]; exact pH_le hk) hc56)
            refine fx_iconst (v := 1) dq_PN_isFit_92 (by decide) ?_
            exact fx_zreturn rfl (by decide) dq_PN_isFit_93 ⟨by rw [hq]; rfl, rfl⟩
          | succ nn ih =>
            intro i hin hq
            have hi : i < pH h p := by omega
            refine fx_iload 0 dq_PN_isFit_50 rfl ?_
            refine fx_aload_n 3 dq_PN_isFit_52 rfl rfl ?_
            refine fx_geti ok fq_PN_43 hp.1 dq_PN_isFit_53 (by decide) ?_
            refine fx_icmp_ge (tgt := 92) dq_PN_isFit_56 (by decide) (fun hc56 => absurd hc56 (pH_ge hk hi)) (fun hc56 => ?_)
            refine fx_aload_n 1 dq_PN_isFit_59 rfl rfl ?_
            refine fx_getr ok fq_PN_69 (hp.2.2.2.2.2 (pU h p l) (hk.2.2 l (Nat.lt_of_lt_of_le hl hk.1)).1).2.1 dq_PN_isFit_60 (by decide) (hp.2.2.2.2.2 (pU h p l) (hk.2.2 l (Nat.lt_of_lt_of_le hl hk.1)).1).2.2.2.2.2.2.1 ?_
            refine fx_aload_n 3 dq_PN_isFit_63 rfl rfl ?_
            refine fx_getr ok fq_PN_56 hp.1 dq_PN_isFit_64 (by decide) hp.2.1 ?_
            refine fx_aload_n 3 dq_PN_isFit_67 rfl rfl ?_
            refine fx_getr ok fq_PN_53 hp.1 dq_PN_isFit_68 (by decide) hp.2.2.2.1 ?_
            refine fx_iload 0 dq_PN_isFit_71 rfl ?_
            refine fx_iaN ok hp.2.2.2.2.1 ⟨(Nat.lt_of_lt_of_le hi hk.1), by decide⟩ dq_PN_isFit_73 ?_
            refine fx_aaload ok hp.2.2.1 (by decide) rfl rfl (pU_in hk (Nat.lt_of_lt_of_le hi hk.1)) (hp.2.2.2.2.2 (pU h p i) (hk.2.2 i (Nat.lt_of_lt_of_le hi hk.1)).1).1 dq_PN_isFit_74 ?_
            refine fx_getr ok fq_PN_69 (hp.2.2.2.2.2 (pU h p i) (hk.2.2 i (Nat.lt_of_lt_of_le hi hk.1)).1).2.1 dq_PN_isFit_75 (by decide) (hp.2.2.2.2.2 (pU h p i) (hk.2.2 i (Nat.lt_of_lt_of_le hi hk.1)).1).2.2.2.2.2.2.1 ?_
            refine fx_Vi1 ok sq_PN_80 (hp.2.2.2.2.2 (pU h p l) (hk.2.2 l (Nat.lt_of_lt_of_le hl hk.1)).1).2.2.2.2.2.2.2 (cr_meets ok _ _ _ (by exact (hp.2.2.2.2.2 (pU h p l) (hk.2.2 l (Nat.lt_of_lt_of_le hl hk.1)).1).2.2.2.2.2.2.2) (by exact (hp.2.2.2.2.2 (pU h p i) (hk.2.2 i (Nat.lt_of_lt_of_le hi hk.1)).1).2.2.2.2.2.2.2)) (by decide) (Nat.le_of_ble_eq_true rfl) dq_PN_isFit_78 ?_
            refine fx_if_eq (tgt := 86) dq_PN_isFit_81 (by decide) (fun hc81 => ?_) (fun hc81 => ?_)
            · -- 81: jump
              refine fx_iinc 0 dq_PN_isFit_86 rfl (jz_i i) (by decide) rfl ?_
              refine fx_goto (tgt := 50) dq_PN_isFit_89 (by decide) ?_
              refine fx_sub [0, 1, 2, 3, 4] rfl ?_
              exact ih (i + 1) (by omega) (hq.trans (srch_no _ _ _ _ _ (by simp [hc81])))
            · -- 81: fall
              refine fx_iconst (v := 0) dq_PN_isFit_84 (by decide) ?_
              exact fx_zreturn rfl (by decide) dq_PN_isFit_85 ⟨by rw [hq, srch_yes _ _ _ _ _ (by simp [hc81])], rfl⟩
        exact key (pH h p - (l + 1)) (l + 1) (by omega) hv50
      · -- 40: fall
        refine fx_iconst (v := 0) dq_PN_isFit_43 (by decide) ?_
        exact fx_zreturn rfl (by decide) dq_PN_isFit_44 ⟨by rw [v_PN_isFit, if_pos hc18, if_pos hc28, if_neg hc40], rfl⟩
