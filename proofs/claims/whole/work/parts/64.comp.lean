/-! ===== Composer ===== -/
/-- the composer at c, its front memory at f, its back memory at b -/
def isC (h : fx_H) (c f b : Nat) : Prop := fx_s h c = some (.inl 8) ∧ fx_r h c 0 = some (c + 1) ∧ isL h (c + 1) ∧ fx_r h c 1 = some (c + 44) ∧ isN h (c + 44) ∧ fx_r h c 2 = some (c + 52) ∧ fx_s h (c + 52) = some (.inr (1, 10)) ∧ fx_r h c 3 = some (c + 53) ∧ fx_s h (c + 53) = some (.inr (4, 10)) ∧ fx_r h c 4 = some f ∧ isE h f ∧ fx_r h c 5 = some b ∧ isE h b ∧ (∀ s, s < 10 → fx_r h (c + 53) s = some (c + 76 + s) ∧ fx_s h (c + 76 + s) = some (.inl 1)) ∧ ((f = c + 54 ∧ b = c + 65) ∨ (f = c + 65 ∧ b = c + 54))
theorem isC_sm {h h' : fx_H} {c f b : Nat} (e : fx_sm h h') (hp : isC h c f b) : isC h' c f b := by
  obtain ⟨h1, h2, h3, h4, h5, h6, h7, h8, h9, h10, h11, h12, h13, h14, h15⟩ := hp
  exact ⟨(fx_sm_s e _).trans h1, (fx_sm_r e _ _).trans h2, isL_sm e h3, (fx_sm_r e _ _).trans h4, isN_sm e h5, (fx_sm_r e _ _).trans h6, (fx_sm_s e _).trans h7, (fx_sm_r e _ _).trans h8, (fx_sm_s e _).trans h9, (fx_sm_r e _ _).trans h10, isE_sm e h11, (fx_sm_r e _ _).trans h12, isE_sm e h13, fun s hs => ⟨(fx_sm_r e _ _).trans (h14 s hs).1, (fx_sm_s e _).trans (h14 s hs).2⟩, h15⟩
theorem PN_has_b (h : fx_H) (n : Nat) (s : Int32) : v_PN_has h n s = 0 ∨ v_PN_has h n s = 1 := by
  unfold v_PN_has
  split
  · exact Or.inr rfl
  · split
    · exact Or.inr rfl
    · exact Or.inl rfl
theorem sm_MI_add (h : fx_H) (m a : Nat) : fx_sm h (k_MI_add h m a) := by
  unfold k_MI_add
  split
  · split
    · split
      · rfl
      · exact fx_sm_t (h' := fx_wi (rset h (m + 2 + mS h m) (fx_i h a 0) (fx_i h a 1) (fx_i h a 2) (fx_i h a 3)) m 1 (fx_i (rset h (m + 2 + mS h m) (fx_i h a 0) (fx_i h a 1) (fx_i h a 2) (fx_i h a 3)) m 1 + 1)) rfl (sm_MI_joinNearest _ _)
    · rfl
  · rfl
def b_CO_rememberBefore (c : Nat) (i : Nat) (k : fx_H) : fx_H := rset (fx_wi k (c + 52) i (v_PN_has k (c + 44) (nI i))) (c + 76 + i) (fx_i (fx_wi k (c + 52) i (v_PN_has k (c + 44) (nI i))) (c + 1 + 3 + 4 * i + 3) 0) (fx_i (fx_wi k (c + 52) i (v_PN_has k (c + 44) (nI i))) (c + 1 + 3 + 4 * i + 3) 1) (fx_i (fx_wi k (c + 52) i (v_PN_has k (c + 44) (nI i))) (c + 1 + 3 + 4 * i + 3) 2) (fx_i (fx_wi k (c + 52) i (v_PN_has k (c + 44) (nI i))) (c + 1 + 3 + 4 * i + 3) 3)
def k_CO_rememberBefore (h : fx_H) (c _f _b : Nat) : fx_H := (it (b_CO_rememberBefore c) h 10)
set_option maxRecDepth 100000 in
set_option maxHeartbeats 600000 in
theorem c_CO_rememberBefore {g : fx_G} (ok : fx_ok g) (h : fx_H) (c f b : Nat) (hC : isC h c f b) : fx_C g mq_CO_rememberBefore [.ref c] h (fx_is none (k_CO_rememberBefore h c f b)) 0 0 := by
  refine fx_body (by decide +kernel) (Nat.le_of_ble_eq_true rfl) ?_
  show fx_X g mq_CO_rememberBefore 0 [(0, .ref c)] [] h _ 0 0
  refine fx_iconst (v := 0) dq_CO_rememberBefore_0 (by decide) ?_
  refine fx_istore_n dq_CO_rememberBefore_1 rfl (by decide) rfl ?_
  refine fx_for (fun i => [(1, .int (nI i)), (0, .ref c)]) (b_CO_rememberBefore c) h 10 (fun i hi hK2 => ?_) ?_
  · have e2b : fx_sm h (it (b_CO_rememberBefore c) h i) := fx_sm_t (h' := h) (rfl : fx_sm h h) (fx_sm_it (by intro _ _; unfold b_CO_rememberBefore; rfl) h i)
    generalize it (b_CO_rememberBefore c) h i = k at e2b hK2  ⊢
    refine fx_iload_n 0 dq_CO_rememberBefore_2 rfl rfl ?_
    refine fx_bipush (v := 10) dq_CO_rememberBefore_3 (by decide) ?_
    refine fx_icmp_ge (tgt := 49) dq_CO_rememberBefore_5 (by decide) (fun hc5 => absurd hc5 (nI_ge (b := 10) hi (by decide))) (fun hc5 => ?_)
    refine fx_aload_n 1 dq_CO_rememberBefore_8 rfl rfl ?_
    refine fx_getr ok fq_CO_25 ((fx_sm_s e2b _).trans hC.1) dq_CO_rememberBefore_9 (by decide) ((fx_sm_r e2b _ _).trans hC.2.2.2.2.2.1) ?_
    refine fx_iload_n 0 dq_CO_rememberBefore_12 rfl rfl ?_
    refine fx_aload_n 1 dq_CO_rememberBefore_13 rfl rfl ?_
    refine fx_getr ok fq_CO_21 ((fx_sm_s e2b _).trans hC.1) dq_CO_rememberBefore_14 (by decide) ((fx_sm_r e2b _ _).trans hC.2.2.2.1) ?_
    refine fx_iload_n 0 dq_CO_rememberBefore_17 rfl rfl ?_
    refine fx_Vi1 ok sq_CO_82 ((fx_sm_s e2b _).trans hC.2.2.2.2.1.1) (c_PN_has ok _ _ _ (by exact isN_sm e2b hC.2.2.2.2.1)) (by decide) (Nat.le_of_ble_eq_true rfl) dq_CO_rememberBefore_18 ?_
    refine fx_bsN ok ((fx_sm_s e2b _).trans hC.2.2.2.2.2.2.1) (PN_has_b _ _ _) ⟨hi, by decide⟩ dq_CO_rememberBefore_21 ?_
    have e21w : fx_sm h (fx_wi k (c + 52) i (v_PN_has k (c + 44) (nI i))) := fx_sm_t (h' := k) e2b rfl
    refine fx_aload_n 1 dq_CO_rememberBefore_22 rfl rfl ?_
    refine fx_getr ok fq_CO_31 ((fx_sm_s e21w _).trans hC.1) dq_CO_rememberBefore_23 (by decide) ((fx_sm_r e21w _ _).trans hC.2.2.2.2.2.2.2.1) ?_
    refine fx_iload_n 0 dq_CO_rememberBefore_26 rfl rfl ?_
    refine fx_aaN ok ((fx_sm_s e21w _).trans hC.2.2.2.2.2.2.2.2.1) (by decide) rfl rfl ⟨hi, by decide⟩ ((fx_sm_r e21w _ _).trans (hC.2.2.2.2.2.2.2.2.2.2.2.2.2.1 i hi).1) dq_CO_rememberBefore_27 ?_
    refine fx_aload_n 1 dq_CO_rememberBefore_28 rfl rfl ?_
    refine fx_getr ok fq_CO_12 ((fx_sm_s e21w _).trans hC.1) dq_CO_rememberBefore_29 (by decide) ((fx_sm_r e21w _ _).trans hC.2.1) ?_
    refine fx_getr ok fq_CO_86 ((fx_sm_s e21w _).trans hC.2.2.1.1) dq_CO_rememberBefore_32 (by decide) ((fx_sm_r e21w _ _).trans hC.2.2.1.2.1) ?_
    refine fx_iload_n 0 dq_CO_rememberBefore_35 rfl rfl ?_
    refine fx_aaN ok ((fx_sm_s e21w _).trans hC.2.2.1.2.2.1) (by decide) rfl rfl ⟨hi, by decide⟩ ((fx_sm_r e21w _ _).trans (hC.2.2.1.2.2.2.2.2 i hi).1) dq_CO_rememberBefore_36 ?_
    refine fx_getr ok fq_CO_90 ((fx_sm_s e21w _).trans (hC.2.2.1.2.2.2.2.2 i hi).2.1) dq_CO_rememberBefore_37 (by decide) ((fx_sm_r e21w _ _).trans (hC.2.2.1.2.2.2.2.2 i hi).2.2.2.2.2.2.1) ?_
    refine fx_Vv1 ok sq_CO_96 ((fx_sm_s e21w _).trans (hC.2.2.2.2.2.2.2.2.2.2.2.2.2.1 i hi).2) (cr_become ok _ _ _ (by exact (fx_sm_s e21w _).trans (hC.2.2.2.2.2.2.2.2.2.2.2.2.2.1 i hi).2) (by exact (fx_sm_s e21w _).trans (hC.2.2.1.2.2.2.2.2 i hi).2.2.2.2.2.2.2)) (by decide) (Nat.le_of_ble_eq_true rfl) dq_CO_rememberBefore_40 ?_
    have e40 : fx_sm h (rset (fx_wi k (c + 52) i (v_PN_has k (c + 44) (nI i))) (c + 76 + i) (fx_i (fx_wi k (c + 52) i (v_PN_has k (c + 44) (nI i))) (c + 1 + 3 + 4 * i + 3) 0) (fx_i (fx_wi k (c + 52) i (v_PN_has k (c + 44) (nI i))) (c + 1 + 3 + 4 * i + 3) 1) (fx_i (fx_wi k (c + 52) i (v_PN_has k (c + 44) (nI i))) (c + 1 + 3 + 4 * i + 3) 2) (fx_i (fx_wi k (c + 52) i (v_PN_has k (c + 44) (nI i))) (c + 1 + 3 + 4 * i + 3) 3)) := fx_sm_t (h' := (fx_wi k (c + 52) i (v_PN_has k (c + 44) (nI i)))) e21w (sm_rset _ _ _ _ _ _)
    refine fx_iinc 0 dq_CO_rememberBefore_43 rfl (jz_i _) (by decide) rfl ?_
    refine fx_goto (tgt := 2) dq_CO_rememberBefore_46 (by decide) ?_
    refine fx_sub [0, 1] rfl ?_
    exact hK2
  · have e2x : fx_sm h (it (b_CO_rememberBefore c) h 10) := fx_sm_t (h' := h) (rfl : fx_sm h h) (fx_sm_it (by intro _ _; unfold b_CO_rememberBefore; rfl) h 10)
    refine fx_iload_n 0 dq_CO_rememberBefore_2 rfl rfl ?_
    refine fx_bipush (v := 10) dq_CO_rememberBefore_3 (by decide) ?_
    refine fx_icmp_ge (tgt := 49) dq_CO_rememberBefore_5 (by decide) (fun hc5 => ?_) (fun hc5 => absurd (by decide) hc5)
    exact fx_vreturn rfl dq_CO_rememberBefore_49 ⟨rfl, rfl⟩
theorem out_CO_rememberBefore (h : fx_H) (c f b : Nat) : fx_out (c + 52) (c + 86) h (k_CO_rememberBefore h c f b) := by
  unfold k_CO_rememberBefore
  refine fx_out_itn 10 (fun n k hn => ?_) h 10 (Nat.le_refl _)
  unfold b_CO_rememberBefore
  exact fx_out_t (fx_out_wi _ _ _ _ _ _ (by omega)) (fx_out_rset _ _ _ _ _ _ _ _ (by omega))
def k_CO_startHole (h : fx_H) (c f b : Nat) (n : Int32) : fx_H := if (fx_i (fx_wi (fx_wi h c 9 n) c 10 (-1 : Int32)) c 9) < (fx_i (fx_wi (fx_wi h c 9 n) c 10 (-1 : Int32)) (b + 2) 1) then fx_wi (fx_wi h c 9 n) c 10 (-1 : Int32) else fx_wi (fx_wi (fx_wi (fx_wi h c 9 n) c 10 (-1 : Int32)) (b + 2) 1 (0 : Int32)) c 6 (2 : Int32)
set_option maxRecDepth 100000 in
set_option maxHeartbeats 600000 in
theorem c_CO_startHole {g : fx_G} (ok : fx_ok g) (h : fx_H) (c f b : Nat) (n : Int32) (hC : isC h c f b) : fx_C g mq_CO_startHole [.ref c, .int n] h (fx_is none (k_CO_startHole h c f b n)) 0 0 := by
  refine fx_body (by decide +kernel) (Nat.le_of_ble_eq_true rfl) ?_
  show fx_X g mq_CO_startHole 0 [(0, .ref c), (1, .int n)] [] h _ 0 0
  refine fx_aload_n 0 dq_CO_startHole_0 rfl rfl ?_
  refine fx_iload_n 1 dq_CO_startHole_1 rfl rfl ?_
  refine fx_puti ok fp_CO_111 hC.1 (by decide) dq_CO_startHole_2 (Or.inl (by decide)) ?_
  refine fx_aload_n 0 dq_CO_startHole_5 rfl rfl ?_
  refine fx_iconst (v := -1) dq_CO_startHole_6 (by decide) ?_
  refine fx_puti ok fp_CO_114 hC.1 (by decide) dq_CO_startHole_7 (Or.inl (by decide)) ?_
  refine fx_aload_n 0 dq_CO_startHole_10 rfl rfl ?_
  refine fx_geti ok fq_CO_111 hC.1 dq_CO_startHole_11 (by decide) ?_
  refine fx_aload_n 0 dq_CO_startHole_14 rfl rfl ?_
  refine fx_getr ok fq_CO_42 hC.1 dq_CO_startHole_15 (by decide) hC.2.2.2.2.2.2.2.2.2.2.2.1 ?_
  refine fx_getr ok fq_CO_102 hC.2.2.2.2.2.2.2.2.2.2.2.2.1.1 dq_CO_startHole_18 (by decide) hC.2.2.2.2.2.2.2.2.2.2.2.2.1.2.2.2.1 ?_
  refine fx_geti ok fq_CO_117 hC.2.2.2.2.2.2.2.2.2.2.2.2.1.2.2.2.2.1 dq_CO_startHole_21 (by decide) ?_
  refine fx_icmp_lt (tgt := 43) dq_CO_startHole_24 (by decide) (fun hc24 => ?_) (fun hc24 => ?_)
  · -- 24: jump
    exact fx_vreturn rfl dq_CO_startHole_43 ⟨rfl, by rw [k_CO_startHole, if_pos hc24]⟩
  · -- 24: fall
    refine fx_aload_n 0 dq_CO_startHole_27 rfl rfl ?_
    refine fx_getr ok fq_CO_42 hC.1 dq_CO_startHole_28 (by decide) hC.2.2.2.2.2.2.2.2.2.2.2.1 ?_
    refine fx_getr ok fq_CO_102 hC.2.2.2.2.2.2.2.2.2.2.2.2.1.1 dq_CO_startHole_31 (by decide) hC.2.2.2.2.2.2.2.2.2.2.2.2.1.2.2.2.1 ?_
    refine fx_iconst (v := 0) dq_CO_startHole_34 (by decide) ?_
    refine fx_puti ok fp_CO_117 hC.2.2.2.2.2.2.2.2.2.2.2.2.1.2.2.2.2.1 (by decide) dq_CO_startHole_35 (Or.inl (by decide)) ?_
    refine fx_aload_n 0 dq_CO_startHole_38 rfl rfl ?_
    refine fx_iconst (v := 2) dq_CO_startHole_39 (by decide) ?_
    refine fx_puti ok fp_CO_45 hC.1 (by decide) dq_CO_startHole_40 (Or.inl (by decide)) ?_
    exact fx_vreturn rfl dq_CO_startHole_43 ⟨rfl, by rw [k_CO_startHole, if_neg hc24]⟩
def v_CO_nextLevel (h : fx_H) (c f b a st : Nat) : Int32 := srch (fun i => decide (v_PN_has h (c + 44) (fx_i h (c + 1 + 2) i) = 0 ∧ ¬ rMeets h (c + 1 + 3 + 4 * pU h (c + 1) i + 3) a = 0)) (fun i => nI i) (fx_i h (c + 1) 2) st (pH h (c + 1) - st)
set_option maxRecDepth 100000 in
set_option maxHeartbeats 600000 in
theorem c_CO_nextLevel {g : fx_G} (ok : fx_ok g) (h : fx_H) (c f b a st : Nat) (hC : isC h c f b) (ha : fx_s h a = some (.inl 1)) (hk : pOk h (c + 1)) (hl : fx_i h c 10 + 1 = nI st) (hst : st ≤ pH h (c + 1)) : fx_C g mq_CO_nextLevel [.ref c, .ref a] h (fx_is (some (v_CO_nextLevel h c f b a st)) h) 0 0 := by
  refine fx_body (by decide +kernel) (Nat.le_of_ble_eq_true rfl) ?_
  show fx_X g mq_CO_nextLevel 0 [(0, .ref c), (1, .ref a)] [] h _ 0 0
  refine fx_aload_n 0 dq_CO_nextLevel_0 rfl rfl ?_
  refine fx_geti ok fq_CO_114 hC.1 dq_CO_nextLevel_1 (by decide) ?_
  refine fx_iconst (v := 1) dq_CO_nextLevel_4 (by decide) ?_
  refine fx_iadd dq_CO_nextLevel_5 ?_
  refine fx_istore_n dq_CO_nextLevel_6 rfl (by decide) rfl ?_
  refine fx_eqv (v' := nI st) hl ?_
  have hv7 : v_CO_nextLevel h c f b a st = srch (fun i => decide (v_PN_has h (c + 44) (fx_i h (c + 1 + 2) i) = 0 ∧ ¬ rMeets h (c + 1 + 3 + 4 * pU h (c + 1) i + 3) a = 0)) (fun i => nI i) (fx_i h (c + 1) 2) st (pH h (c + 1) - st) := rfl
  have key : ∀ nn i, i + nn = pH h (c + 1) → v_CO_nextLevel h c f b a st = srch (fun i => decide (v_PN_has h (c + 44) (fx_i h (c + 1 + 2) i) = 0 ∧ ¬ rMeets h (c + 1 + 3 + 4 * pU h (c + 1) i + 3) a = 0)) (fun i => nI i) (fx_i h (c + 1) 2) i nn → fx_X g mq_CO_nextLevel 7 [(2, .int (nI i)), (0, .ref c), (1, .ref a)] [] h (fx_is (some (v_CO_nextLevel h c f b a st)) h) 0 0 := by
    intro nn
    induction nn with
    | zero =>
      intro i hin hq
      have hiN : i = pH h (c + 1) := by omega
      refine fx_iload_n 0 dq_CO_nextLevel_7 rfl rfl ?_
      refine fx_aload_n 1 dq_CO_nextLevel_8 rfl rfl ?_
      refine fx_getr ok fq_CO_12 hC.1 dq_CO_nextLevel_9 (by decide) hC.2.1 ?_
      refine fx_geti ok fq_CO_141 hC.2.2.1.1 dq_CO_nextLevel_12 (by decide) ?_
      refine fx_icmp_ge (tgt := 66) dq_CO_nextLevel_15 (by decide) (fun hc15 => ?_) (fun hc15 => absurd (by rw [hiN]; exact pH_le hk) hc15)
      refine fx_aload_n 1 dq_CO_nextLevel_66 rfl rfl ?_
      refine fx_getr ok fq_CO_12 hC.1 dq_CO_nextLevel_67 (by decide) hC.2.1 ?_
      refine fx_geti ok fq_CO_141 hC.2.2.1.1 dq_CO_nextLevel_70 (by decide) ?_
      exact fx_ireturn rfl dq_CO_nextLevel_73 ⟨by rw [hq]; rfl, rfl⟩
    | succ nn ih =>
      intro i hin hq
      have hi : i < pH h (c + 1) := by omega
      refine fx_iload_n 0 dq_CO_nextLevel_7 rfl rfl ?_
      refine fx_aload_n 1 dq_CO_nextLevel_8 rfl rfl ?_
      refine fx_getr ok fq_CO_12 hC.1 dq_CO_nextLevel_9 (by decide) hC.2.1 ?_
      refine fx_geti ok fq_CO_141 hC.2.2.1.1 dq_CO_nextLevel_12 (by decide) ?_
      refine fx_icmp_ge (tgt := 66) dq_CO_nextLevel_15 (by decide) (fun hc15 => absurd hc15 (pH_ge hk hi)) (fun hc15 => ?_)
      refine fx_aload_n 1 dq_CO_nextLevel_18 rfl rfl ?_
      refine fx_getr ok fq_CO_12 hC.1 dq_CO_nextLevel_19 (by decide) hC.2.1 ?_
      refine fx_getr ok fq_CO_129 hC.2.2.1.1 dq_CO_nextLevel_22 (by decide) hC.2.2.1.2.2.2.1 ?_
      refine fx_iload_n 0 dq_CO_nextLevel_25 rfl rfl ?_
      refine fx_iaN ok hC.2.2.1.2.2.2.2.1 ⟨(Nat.lt_of_lt_of_le hi hk.1), by decide⟩ dq_CO_nextLevel_26 ?_
      refine fx_istore_n dq_CO_nextLevel_27 rfl (by decide) rfl ?_
      refine fx_aload_n 2 dq_CO_nextLevel_28 rfl rfl ?_
      refine fx_getr ok fq_CO_21 hC.1 dq_CO_nextLevel_29 (by decide) hC.2.2.2.1 ?_
      refine fx_iload_n 0 dq_CO_nextLevel_32 rfl rfl ?_
      refine fx_Vi1 ok sq_CO_82 hC.2.2.2.2.1.1 (c_PN_has ok _ _ _ (by exact hC.2.2.2.2.1)) (by decide) (Nat.le_of_ble_eq_true rfl) dq_CO_nextLevel_33 ?_
      refine fx_if_ne (tgt := 60) dq_CO_nextLevel_36 (by decide) (fun hc36 => ?_) (fun hc36 => ?_)
      · -- 36: jump
        refine fx_iinc 1 dq_CO_nextLevel_60 rfl (jz_i i) (by decide) rfl ?_
        refine fx_goto (tgt := 7) dq_CO_nextLevel_63 (by decide) ?_
        refine fx_sub [0, 2, 3] rfl ?_
        exact ih (i + 1) (by omega) (hq.trans (srch_no _ _ _ _ _ (by simp [hc36])))
      · -- 36: fall
        refine fx_aload_n 2 dq_CO_nextLevel_39 rfl rfl ?_
        refine fx_getr ok fq_CO_12 hC.1 dq_CO_nextLevel_40 (by decide) hC.2.1 ?_
        refine fx_getr ok fq_CO_86 hC.2.2.1.1 dq_CO_nextLevel_43 (by decide) hC.2.2.1.2.1 ?_
        refine fx_iload_n 0 dq_CO_nextLevel_46 rfl rfl ?_
        refine fx_aaload ok hC.2.2.1.2.2.1 (by decide) rfl rfl (pU_in hk (Nat.lt_of_lt_of_le hi hk.1)) (hC.2.2.1.2.2.2.2.2 (pU h (c + 1) i) (hk.2.2 i (Nat.lt_of_lt_of_le hi hk.1)).1).1 dq_CO_nextLevel_47 ?_
        refine fx_getr ok fq_CO_90 (hC.2.2.1.2.2.2.2.2 (pU h (c + 1) i) (hk.2.2 i (Nat.lt_of_lt_of_le hi hk.1)).1).2.1 dq_CO_nextLevel_48 (by decide) (hC.2.2.1.2.2.2.2.2 (pU h (c + 1) i) (hk.2.2 i (Nat.lt_of_lt_of_le hi hk.1)).1).2.2.2.2.2.2.1 ?_
        refine fx_aload_n 3 dq_CO_nextLevel_51 rfl rfl ?_
        refine fx_Vi1 ok sq_CO_144 (hC.2.2.1.2.2.2.2.2 (pU h (c + 1) i) (hk.2.2 i (Nat.lt_of_lt_of_le hi hk.1)).1).2.2.2.2.2.2.2 (cr_meets ok _ _ _ (by exact (hC.2.2.1.2.2.2.2.2 (pU h (c + 1) i) (hk.2.2 i (Nat.lt_of_lt_of_le hi hk.1)).1).2.2.2.2.2.2.2) (by exact ha)) (by decide) (Nat.le_of_ble_eq_true rfl) dq_CO_nextLevel_52 ?_
        refine fx_if_eq (tgt := 60) dq_CO_nextLevel_55 (by decide) (fun hc55 => ?_) (fun hc55 => ?_)
        · -- 55: jump
          refine fx_iinc 1 dq_CO_nextLevel_60 rfl (jz_i i) (by decide) rfl ?_
          refine fx_goto (tgt := 7) dq_CO_nextLevel_63 (by decide) ?_
          refine fx_sub [0, 2, 3] rfl ?_
          exact ih (i + 1) (by omega) (hq.trans (srch_no _ _ _ _ _ (by simp [hc36, hc55])))
        · -- 55: fall
          refine fx_iload_n 1 dq_CO_nextLevel_58 rfl rfl ?_
          exact fx_ireturn rfl dq_CO_nextLevel_59 ⟨by rw [hq, srch_yes _ _ _ _ _ (by simp [hc36, hc55])], rfl⟩
  exact key (pH h (c + 1) - st) st (by omega) hv7
