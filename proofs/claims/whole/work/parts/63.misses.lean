/-! ===== Misses ===== -/
def mS (h : fx_H) (m : Nat) : Nat := (fx_i h m 1).toNatClampNeg
def mOk (h : fx_H) (m : Nat) : Prop := mS h m ≤ 6 ∧ fx_i h m 1 = nI (mS h m)
theorem mS_ge {h : fx_H} {m i : Nat} (hk : mOk h m) (hi : i < mS h m) : ¬ fx_i h m 1 ≤ nI i := by
  have := hk.1
  rw [hk.2]
  exact nI_ge hi (by omega)
theorem mS_le {h : fx_H} {m : Nat} (hk : mOk h m) : fx_i h m 1 ≤ nI (mS h m) := iz_le.mpr (by rw [hk.2]; exact Int.le_refl _)
theorem mS_in {h : fx_H} {m : Nat} (hk : mOk h m) : vp_in (fx_i h m 1) 7 := by
  have := hk.1
  rw [hk.2]
  exact vp_in_nI (by omega) (by decide)
theorem mOk_of {k : fx_H} {m s : Nat} (e : fx_i k m 1 = nI s) (hs : s ≤ 6) : mOk k m := by
  unfold mOk mS
  rw [e, nI_clamp (by omega)]
  exact ⟨hs, rfl⟩
theorem mOk_out {lo hi m : Nat} {h k : fx_H} (e : fx_out lo hi h k) (hm : m < lo ∨ hi ≤ m) (ho : mOk h m) : mOk k m := by
  unfold mOk mS at ho ⊢
  rw [e.2 m hm]
  exact ho
def v_MI_isCovered (h : fx_H) (m a : Nat) : Int32 := srch (fun i => decide (¬ rIn h (m + 2 + i) a = 0)) (fun i => 1) (0) 0 (mS h m - 0)
set_option maxRecDepth 100000 in
set_option maxHeartbeats 600000 in
theorem c_MI_isCovered {g : fx_G} (ok : fx_ok g) (h : fx_H) (m a : Nat) (hm : isI h m) (ha : fx_s h a = some (.inl 1)) (hk : mOk h m) : fx_C g mq_MI_isCovered [.ref m, .ref a] h (fx_is (some (v_MI_isCovered h m a)) h) 0 0 := by
  refine fx_body (by decide +kernel) (Nat.le_of_ble_eq_true rfl) ?_
  show fx_X g mq_MI_isCovered 0 [(0, .ref m), (1, .ref a)] [] h _ 0 0
  have hz : mS h m ≤ 6 := hk.1
  refine fx_iconst (v := 0) dq_MI_isCovered_0 (by decide) ?_
  refine fx_istore_n dq_MI_isCovered_1 rfl (by decide) rfl ?_
  have hv2 : v_MI_isCovered h m a = srch (fun i => decide (¬ rIn h (m + 2 + i) a = 0)) (fun i => 1) (0) 0 (mS h m - 0) := rfl
  have key : ∀ nn i, i + nn = mS h m → v_MI_isCovered h m a = srch (fun i => decide (¬ rIn h (m + 2 + i) a = 0)) (fun i => 1) (0) i nn → fx_X g mq_MI_isCovered 2 [(2, .int (nI i)), (0, .ref m), (1, .ref a)] [] h (fx_is (some (v_MI_isCovered h m a)) h) 0 0 := by
    intro nn
    induction nn with
    | zero =>
      intro i hin hq
      have hiN : i = mS h m := by omega
      refine fx_iload_n 0 dq_MI_isCovered_2 rfl rfl ?_
      refine fx_aload_n 1 dq_MI_isCovered_3 rfl rfl ?_
      refine fx_geti ok fq_MI_26 hm.1 dq_MI_isCovered_4 (by decide) ?_
      refine fx_icmp_ge (tgt := 31) dq_MI_isCovered_7 (by decide) (fun hc7 => ?_) (fun hc7 => absurd (by rw [hiN]; exact mS_le hk) hc7)
      refine fx_iconst (v := 0) dq_MI_isCovered_31 (by decide) ?_
      exact fx_zreturn rfl (by decide) dq_MI_isCovered_32 ⟨by rw [hq]; rfl, rfl⟩
    | succ nn ih =>
      intro i hin hq
      have hi : i < mS h m := by omega
      refine fx_iload_n 0 dq_MI_isCovered_2 rfl rfl ?_
      refine fx_aload_n 1 dq_MI_isCovered_3 rfl rfl ?_
      refine fx_geti ok fq_MI_26 hm.1 dq_MI_isCovered_4 (by decide) ?_
      refine fx_icmp_ge (tgt := 31) dq_MI_isCovered_7 (by decide) (fun hc7 => absurd hc7 (mS_ge hk hi)) (fun hc7 => ?_)
      refine fx_aload_n 1 dq_MI_isCovered_10 rfl rfl ?_
      refine fx_getr ok fq_MI_11 hm.1 dq_MI_isCovered_11 (by decide) hm.2.1 ?_
      refine fx_iload_n 0 dq_MI_isCovered_14 rfl rfl ?_
      refine fx_aaN ok hm.2.2.1 (by decide) rfl rfl ⟨by have := hz; omega, by decide⟩ (hm.2.2.2 i (by have := hz; omega)).1 dq_MI_isCovered_15 ?_
      refine fx_aload_n 2 dq_MI_isCovered_16 rfl rfl ?_
      refine fx_Vi1 ok sq_MI_37 (hm.2.2.2 i (by have := hz; omega)).2 (cr_contains ok _ _ _ (by exact (hm.2.2.2 i (by have := hz; omega)).2) (by exact ha)) (by decide) (Nat.le_of_ble_eq_true rfl) dq_MI_isCovered_17 ?_
      refine fx_if_eq (tgt := 25) dq_MI_isCovered_20 (by decide) (fun hc20 => ?_) (fun hc20 => ?_)
      · -- 20: jump
        refine fx_iinc 0 dq_MI_isCovered_25 rfl (jz_i i) (by decide) rfl ?_
        refine fx_goto (tgt := 2) dq_MI_isCovered_28 (by decide) ?_
        refine fx_sub [0, 1, 2] rfl ?_
        exact ih (i + 1) (by omega) (hq.trans (srch_no _ _ _ _ _ (by simp [hc20])))
      · -- 20: fall
        refine fx_iconst (v := 1) dq_MI_isCovered_23 (by decide) ?_
        exact fx_zreturn rfl (by decide) dq_MI_isCovered_24 ⟨by rw [hq, srch_yes _ _ _ _ _ (by simp [hc20])], rfl⟩
  exact key (mS h m - 0) 0 (by omega) hv2
def b_MI_dropAt (m s n : Nat) (k : fx_H) : fx_H := rset k (m + 2 + (s + n)) (fx_i k (m + 2 + (s + n + 1)) 0) (fx_i k (m + 2 + (s + n + 1)) 1) (fx_i k (m + 2 + (s + n + 1)) 2) (fx_i k (m + 2 + (s + n + 1)) 3)
theorem sm_b_MI_dropAt (m s n : Nat) (k : fx_H) : fx_sm k (b_MI_dropAt m s n k) := rfl
theorem dr_m (m s n : Nat) (k : fx_H) (j : Nat) : fx_i (b_MI_dropAt m s n k) m j = fx_i k m j := by
  unfold b_MI_dropAt
  exact (fx_out_rset (m + 1) (m + 3 + (s + n)) k (m + 2 + (s + n)) _ _ _ _ (by omega)).2 m (by omega) j
def k_MI_dropAt (h : fx_H) (m s : Nat) : fx_H := (it (b_MI_dropAt m s) (fx_wi h m 1 ((fx_i h m 1) - (1 : Int32))) (6 - s))
set_option maxRecDepth 100000 in
set_option maxHeartbeats 600000 in
theorem c_MI_dropAt {g : fx_G} (ok : fx_ok g) (h : fx_H) (m s : Nat) (hm : isI h m) (hz : s ≤ 6) (hS : fx_i h m 1 = 7) : fx_C g mq_MI_dropAt [.ref m, .int (nI s)] h (fx_is none (k_MI_dropAt h m s)) 0 0 := by
  refine fx_body (by decide +kernel) (Nat.le_of_ble_eq_true rfl) ?_
  show fx_X g mq_MI_dropAt 0 [(0, .ref m), (1, .int (nI s))] [] h _ 0 0
  refine fx_aload_n 0 dq_MI_dropAt_0 rfl rfl ?_
  refine fx_dup dq_MI_dropAt_1 rfl ?_
  refine fx_geti ok fq_MI_26 hm.1 dq_MI_dropAt_2 (by decide) ?_
  refine fx_iconst (v := 1) dq_MI_dropAt_5 (by decide) ?_
  refine fx_isub dq_MI_dropAt_6 ?_
  refine fx_puti ok fp_MI_26 hm.1 (by decide) dq_MI_dropAt_7 (Or.inl (by decide)) ?_
  refine fx_iload_n 1 dq_MI_dropAt_10 rfl rfl ?_
  refine fx_istore_n dq_MI_dropAt_11 rfl (by decide) rfl ?_
  have hz0 : fx_i (fx_wi h m 1 (fx_i h m 1 - 1)) m 1 = 6 := by rw [fx_i_wi, if_pos ⟨rfl, rfl⟩, hS]; rfl
  refine fx_for (fun n => [(2, .int (nI (s + n))), (0, .ref m), (1, .int (nI s))]) (b_MI_dropAt m s) (fx_wi h m 1 ((fx_i h m 1) - (1 : Int32))) (6 - s) (fun n hn hK12 => ?_) ?_
  · have e12b : fx_sm h (it (b_MI_dropAt m s) (fx_wi h m 1 ((fx_i h m 1) - (1 : Int32))) n) := fx_sm_t (h' := (fx_wi h m 1 ((fx_i h m 1) - (1 : Int32)))) (rfl : fx_sm h (fx_wi h m 1 ((fx_i h m 1) - (1 : Int32)))) (fx_sm_it (sm_b_MI_dropAt m s) (fx_wi h m 1 ((fx_i h m 1) - (1 : Int32))) n)
    have hz9 := (it_keep (fun k => fx_i k m 1) (b_MI_dropAt m s) (fx_wi h m 1 (fx_i h m 1 - 1)) (fun n k => dr_m m s n k 1) n).trans hz0
    generalize it (b_MI_dropAt m s) (fx_wi h m 1 ((fx_i h m 1) - (1 : Int32))) n = k at e12b hK12 hz9 ⊢
    refine fx_iload_n 0 dq_MI_dropAt_12 rfl rfl ?_
    refine fx_aload_n 1 dq_MI_dropAt_13 rfl rfl ?_
    refine fx_geti ok fq_MI_26 ((fx_sm_s e12b _).trans hm.1) dq_MI_dropAt_14 (by decide) ?_
    refine fx_icmp_ge (tgt := 43) dq_MI_dropAt_17 (by decide) (fun hc17 => absurd hc17 (by rw [show fx_i k m 1 = nI 6 from hz9]; exact nI_ge (by omega) (by decide))) (fun hc17 => ?_)
    refine fx_aload_n 1 dq_MI_dropAt_20 rfl rfl ?_
    refine fx_getr ok fq_MI_11 ((fx_sm_s e12b _).trans hm.1) dq_MI_dropAt_21 (by decide) ((fx_sm_r e12b _ _).trans hm.2.1) ?_
    refine fx_iload_n 0 dq_MI_dropAt_24 rfl rfl ?_
    refine fx_aaN ok ((fx_sm_s e12b _).trans hm.2.2.1) (by decide) rfl rfl ⟨by omega, by decide⟩ ((fx_sm_r e12b _ _).trans (hm.2.2.2 (s + n) (by have := hz; omega)).1) dq_MI_dropAt_25 ?_
    refine fx_aload_n 1 dq_MI_dropAt_26 rfl rfl ?_
    refine fx_getr ok fq_MI_11 ((fx_sm_s e12b _).trans hm.1) dq_MI_dropAt_27 (by decide) ((fx_sm_r e12b _ _).trans hm.2.1) ?_
    refine fx_iload_n 0 dq_MI_dropAt_30 rfl rfl ?_
    refine fx_iconst (v := 1) dq_MI_dropAt_31 (by decide) ?_
    refine fx_iadd dq_MI_dropAt_32 ?_
    refine fx_aaload ok ((fx_sm_s e12b _).trans hm.2.2.1) (by decide) rfl rfl (by rw [← nI_succ]; exact vp_in_nI (by omega) (by decide)) ((fx_sm_r e12b _ _).trans ((congrArg (fx_r h (m + 1)) (show (nI (s + n) + 1).toNatClampNeg = s + n + 1 from by rw [← nI_succ]; exact nI_clamp (by omega))).trans (hm.2.2.2 (s + n + 1) (by omega)).1)) dq_MI_dropAt_33 ?_
    refine fx_Vv1 ok sq_MI_30 ((fx_sm_s e12b _).trans (hm.2.2.2 (s + n) (by have := hz; omega)).2) (cr_become ok _ _ _ (by exact (fx_sm_s e12b _).trans (hm.2.2.2 (s + n) (by have := hz; omega)).2) (by exact (fx_sm_s e12b _).trans (hm.2.2.2 (s + n + 1) (by omega)).2)) (by decide) (Nat.le_of_ble_eq_true rfl) dq_MI_dropAt_34 ?_
    have e34 : fx_sm h (rset k (m + 2 + (s + n)) (fx_i k (m + 2 + (s + n + 1)) 0) (fx_i k (m + 2 + (s + n + 1)) 1) (fx_i k (m + 2 + (s + n + 1)) 2) (fx_i k (m + 2 + (s + n + 1)) 3)) := fx_sm_t (h' := k) e12b (sm_rset _ _ _ _ _ _)
    refine fx_iinc 0 dq_MI_dropAt_37 rfl (jz_i _) (by decide) rfl ?_
    refine fx_goto (tgt := 12) dq_MI_dropAt_40 (by decide) ?_
    refine fx_sub [0, 1, 2] rfl ?_
    exact hK12
  · have e12x : fx_sm h (it (b_MI_dropAt m s) (fx_wi h m 1 ((fx_i h m 1) - (1 : Int32))) (6 - s)) := fx_sm_t (h' := (fx_wi h m 1 ((fx_i h m 1) - (1 : Int32)))) (rfl : fx_sm h (fx_wi h m 1 ((fx_i h m 1) - (1 : Int32)))) (fx_sm_it (sm_b_MI_dropAt m s) (fx_wi h m 1 ((fx_i h m 1) - (1 : Int32))) (6 - s))
    refine fx_iload_n 0 dq_MI_dropAt_12 rfl rfl ?_
    refine fx_aload_n 1 dq_MI_dropAt_13 rfl rfl ?_
    refine fx_geti ok fq_MI_26 ((fx_sm_s e12x _).trans hm.1) dq_MI_dropAt_14 (by decide) ?_
    refine fx_icmp_ge (tgt := 43) dq_MI_dropAt_17 (by decide) (fun hc17 => ?_) (fun hc17 => absurd (by rw [show fx_i (it (b_MI_dropAt m s) (fx_wi h m 1 (fx_i h m 1 - 1)) (6 - s)) m 1 = nI 6 from (it_keep (fun k => fx_i k m 1) (b_MI_dropAt m s) (fx_wi h m 1 (fx_i h m 1 - 1)) (fun n k => dr_m m s n k 1) (6 - s)).trans hz0]; exact nI_le (by omega) (by omega)) hc17)
    exact fx_vreturn rfl dq_MI_dropAt_43 ⟨rfl, rfl⟩
theorem sm_MI_dropAt (h : fx_H) (m s : Nat) : fx_sm h (k_MI_dropAt h m s) := by
  unfold k_MI_dropAt
  exact fx_sm_t (sm_wi _ _ _ _) (fx_sm_it (sm_b_MI_dropAt m s) _ _)
theorem out_MI_dropAt (h : fx_H) (m s : Nat) (hs : s ≤ 6) : fx_out m (m + 9) h (k_MI_dropAt h m s) := by
  unfold k_MI_dropAt
  refine fx_out_t (fx_out_wi _ _ _ _ _ _ (by omega)) (fx_out_itn (6 - s) (fun n k hn => ?_) _ _ (Nat.le_refl _))
  exact fx_out_rset _ _ _ _ _ _ _ _ (by omega)
theorem dr_size (h : fx_H) (m s : Nat) (hS : fx_i h m 1 = 7) : fx_i (k_MI_dropAt h m s) m 1 = nI 6 := by
  unfold k_MI_dropAt
  rw [it_keep (fun k => fx_i k m 1) (b_MI_dropAt m s) _ (fun n k => dr_m m s n k 1), fx_i_wi, if_pos ⟨rfl, rfl⟩, hS]
  rfl
/-- the pair that wastes least: (waste, first, second) -/
def jIn (h : fx_H) (m i n : Nat) (st : Int32 × Nat × Nat) : Int32 × Nat × Nat := if st.1 ≤ rWaste h (m + 2 + i) (m + 2 + (i + 1 + n)) then st else (rWaste h (m + 2 + i) (m + 2 + (i + 1 + n)), i, i + 1 + n)
def jOut (h : fx_H) (m i : Nat) (st : Int32 × Nat × Nat) : Int32 × Nat × Nat := itg (jIn h m i) st (6 - i)
def jR0 (h : fx_H) (m : Nat) : Int32 × Nat × Nat := (rWaste h (m + 2 + 0) (m + 2 + 1), 0, 1)
def jR (h : fx_H) (m : Nat) : Int32 × Nat × Nat := itg (jOut h m) (jR0 h m) 7
theorem jR_lt (h : fx_H) (m : Nat) : (jR h m).2.1 < (jR h m).2.2 ∧ (jR h m).2.2 ≤ 6 := by
  refine itg_inv (fun _ s => s.2.1 < s.2.2 ∧ s.2.2 ≤ 6) (jOut h m) (jR0 h m) (show (0 : Nat) < 1 ∧ (1 : Nat) ≤ 6 by decide) 7 (fun i s hi hs => ?_) 7 (Nat.le_refl _)
  unfold jOut
  refine itg_inv (fun _ s => s.2.1 < s.2.2 ∧ s.2.2 ≤ 6) (jIn h m i) s hs (6 - i) (fun n s hn hs => ?_) (6 - i) (Nat.le_refl _)
  unfold jIn
  split
  · exact hs
  · refine ⟨?_, ?_⟩
    · show i < i + 1 + n
      omega
    · show i + 1 + n ≤ 6
      omega
theorem rGrow_m (h : fx_H) (m i b j : Nat) : fx_i (rGrow h (m + 2 + i) b) m j = fx_i h m j := (fx_out_grow (m + 1) (m + 3 + i) h (m + 2 + i) b (by omega)).2 m (by omega) j
def k_MI_joinNearest (h : fx_H) (m : Nat) : fx_H := k_MI_dropAt (rGrow h (m + 2 + (jR h m).2.1) (m + 2 + (jR h m).2.2)) m (jR h m).2.2
set_option maxRecDepth 100000 in
set_option maxHeartbeats 600000 in
theorem c_MI_joinNearest {g : fx_G} (ok : fx_ok g) (h : fx_H) (m : Nat) (hm : isI h m) (hS : fx_i h m 1 = 7) : fx_C g mq_MI_joinNearest [.ref m] h (fx_is none (k_MI_joinNearest h m)) 0 0 := by
  refine fx_body (by decide +kernel) (Nat.le_of_ble_eq_true rfl) ?_
  show fx_X g mq_MI_joinNearest 0 [(0, .ref m)] [] h _ 0 0
  have hJ := jR_lt h m
  refine fx_iconst (v := 0) dq_MI_joinNearest_0 (by decide) ?_
  refine fx_istore_n dq_MI_joinNearest_1 rfl (by decide) rfl ?_
  refine fx_iconst (v := 1) dq_MI_joinNearest_2 (by decide) ?_
  refine fx_istore_n dq_MI_joinNearest_3 rfl (by decide) rfl ?_
  refine fx_aload_n 2 dq_MI_joinNearest_4 rfl rfl ?_
  refine fx_getr ok fq_MI_11 hm.1 dq_MI_joinNearest_5 (by decide) hm.2.1 ?_
  refine fx_iconst (v := 0) dq_MI_joinNearest_8 (by decide) ?_
  refine fx_aaload ok hm.2.2.1 (by decide) rfl rfl (by unfold vp_in; decide) (hm.2.2.2 0 (by omega)).1 dq_MI_joinNearest_9 ?_
  refine fx_aload_n 2 dq_MI_joinNearest_10 rfl rfl ?_
  refine fx_getr ok fq_MI_11 hm.1 dq_MI_joinNearest_11 (by decide) hm.2.1 ?_
  refine fx_iconst (v := 1) dq_MI_joinNearest_14 (by decide) ?_
  refine fx_aaload ok hm.2.2.1 (by decide) rfl rfl (by unfold vp_in; decide) (hm.2.2.2 1 (by omega)).1 dq_MI_joinNearest_15 ?_
  refine fx_Vi1 ok sq_MI_40 (hm.2.2.2 0 (by omega)).2 (cr_wasteWith ok _ _ _ (by exact (hm.2.2.2 0 (by omega)).2) (by exact (hm.2.2.2 1 (by omega)).2)) (by decide) (Nat.le_of_ble_eq_true rfl) dq_MI_joinNearest_16 ?_
  refine fx_istore_n dq_MI_joinNearest_19 rfl (by decide) rfl ?_
  refine fx_iconst (v := 0) dq_MI_joinNearest_20 (by decide) ?_
  refine fx_istore dq_MI_joinNearest_21 (by decide) rfl ?_
  refine fx_forv (fun i => [(4, .int (nI i)), (3, .int ((itg (jOut h m) (jR0 h m) i).1)), (2, .int (nI (itg (jOut h m) (jR0 h m) i).2.2)), (1, .int (nI (itg (jOut h m) (jR0 h m) i).2.1)), (0, .ref m)]) h 7 (fun i hi hK23 => ?_) ?_
  · skip
    refine fx_iload 0 dq_MI_joinNearest_23 rfl ?_
    refine fx_aload_n 4 dq_MI_joinNearest_25 rfl rfl ?_
    refine fx_geti ok fq_MI_26 hm.1 dq_MI_joinNearest_26 (by decide) ?_
    refine fx_icmp_ge (tgt := 93) dq_MI_joinNearest_29 (by decide) (fun hc29 => absurd hc29 (by rw [hS]; exact nI_ge (b := 7) hi (by decide))) (fun hc29 => ?_)
    refine fx_iload 0 dq_MI_joinNearest_32 rfl ?_
    refine fx_iconst (v := 1) dq_MI_joinNearest_34 (by decide) ?_
    refine fx_iadd dq_MI_joinNearest_35 ?_
    refine fx_istore dq_MI_joinNearest_36 (by decide) rfl ?_
    refine fx_eqv (v' := nI (i + 1 + 0)) (nI_succ i).symm ?_
    refine fx_forv (fun j => [(5, .int (nI (i + 1 + j))), (4, .int (nI i)), (3, .int ((itg (jIn h m i) (itg (jOut h m) (jR0 h m) i) j).1)), (2, .int (nI (itg (jIn h m i) (itg (jOut h m) (jR0 h m) i) j).2.2)), (1, .int (nI (itg (jIn h m i) (itg (jOut h m) (jR0 h m) i) j).2.1)), (0, .ref m)]) h (6 - i) (fun j hj hK38 => ?_) ?_
    · skip
      refine fx_iload 0 dq_MI_joinNearest_38 rfl ?_
      refine fx_aload_n 5 dq_MI_joinNearest_40 rfl rfl ?_
      refine fx_geti ok fq_MI_26 hm.1 dq_MI_joinNearest_41 (by decide) ?_
      refine fx_icmp_ge (tgt := 87) dq_MI_joinNearest_44 (by decide) (fun hc44 => absurd hc44 (by rw [hS]; exact nI_ge (b := 7) (by omega) (by decide))) (fun hc44 => ?_)
      refine fx_aload_n 5 dq_MI_joinNearest_47 rfl rfl ?_
      refine fx_getr ok fq_MI_11 hm.1 dq_MI_joinNearest_48 (by decide) hm.2.1 ?_
      refine fx_iload 1 dq_MI_joinNearest_51 rfl ?_
      refine fx_aaN ok hm.2.2.1 (by decide) rfl rfl ⟨by omega, by decide⟩ (hm.2.2.2 i (by omega)).1 dq_MI_joinNearest_53 ?_
      refine fx_aload_n 5 dq_MI_joinNearest_54 rfl rfl ?_
      refine fx_getr ok fq_MI_11 hm.1 dq_MI_joinNearest_55 (by decide) hm.2.1 ?_
      refine fx_iload 0 dq_MI_joinNearest_58 rfl ?_
      refine fx_aaN ok hm.2.2.1 (by decide) rfl rfl ⟨by omega, by decide⟩ (hm.2.2.2 (i + 1 + j) (by omega)).1 dq_MI_joinNearest_60 ?_
      refine fx_Vi1 ok sq_MI_40 (hm.2.2.2 i (by omega)).2 (cr_wasteWith ok _ _ _ (by exact (hm.2.2.2 i (by omega)).2) (by exact (hm.2.2.2 (i + 1 + j) (by omega)).2)) (by decide) (Nat.le_of_ble_eq_true rfl) dq_MI_joinNearest_61 ?_
      refine fx_istore dq_MI_joinNearest_64 (by decide) rfl ?_
      refine fx_iload 0 dq_MI_joinNearest_66 rfl ?_
      refine fx_iload_n 3 dq_MI_joinNearest_68 rfl rfl ?_
      refine fx_icmp_ge (tgt := 81) dq_MI_joinNearest_69 (by decide) (fun hc69 => ?_) (fun hc69 => ?_)
      · -- 69: jump
        refine fx_iinc 1 dq_MI_joinNearest_81 rfl (jz_i _) (by decide) rfl ?_
        refine fx_goto (tgt := 38) dq_MI_joinNearest_84 (by decide) ?_
        refine fx_sub [0, 2, 3, 4, 5, 6] rfl ?_
        rw [itg_s, jIn, if_pos hc69] at hK38
        exact hK38
      · -- 69: fall
        refine fx_iload 0 dq_MI_joinNearest_72 rfl ?_
        refine fx_istore_n dq_MI_joinNearest_74 rfl (by decide) rfl ?_
        refine fx_iload 3 dq_MI_joinNearest_75 rfl ?_
        refine fx_istore_n dq_MI_joinNearest_77 rfl (by decide) rfl ?_
        refine fx_iload 3 dq_MI_joinNearest_78 rfl ?_
        refine fx_istore_n dq_MI_joinNearest_80 rfl (by decide) rfl ?_
        refine fx_iinc 4 dq_MI_joinNearest_81 rfl (jz_i _) (by decide) rfl ?_
        refine fx_goto (tgt := 38) dq_MI_joinNearest_84 (by decide) ?_
        refine fx_sub [0, 5, 3, 1, 2, 6] rfl ?_
        rw [itg_s, jIn, if_neg hc69] at hK38
        exact hK38
    · skip
      refine fx_iload 0 dq_MI_joinNearest_38 rfl ?_
      refine fx_aload_n 5 dq_MI_joinNearest_40 rfl rfl ?_
      refine fx_geti ok fq_MI_26 hm.1 dq_MI_joinNearest_41 (by decide) ?_
      refine fx_icmp_ge (tgt := 87) dq_MI_joinNearest_44 (by decide) (fun hc44 => ?_) (fun hc44 => absurd (by rw [hS]; exact nI_le (a := 7) (by omega) (by omega)) hc44)
      refine fx_iinc 1 dq_MI_joinNearest_87 rfl (jz_i _) (by decide) rfl ?_
      refine fx_goto (tgt := 23) dq_MI_joinNearest_90 (by decide) ?_
      refine fx_sub [0, 2, 3, 4, 5] rfl ?_
      exact hK23
  · skip
    refine fx_iload 0 dq_MI_joinNearest_23 rfl ?_
    refine fx_aload_n 4 dq_MI_joinNearest_25 rfl rfl ?_
    refine fx_geti ok fq_MI_26 hm.1 dq_MI_joinNearest_26 (by decide) ?_
    refine fx_icmp_ge (tgt := 93) dq_MI_joinNearest_29 (by decide) (fun hc29 => ?_) (fun hc29 => absurd (by rw [hS]; decide) hc29)
    refine fx_aload_n 4 dq_MI_joinNearest_93 rfl rfl ?_
    refine fx_getr ok fq_MI_11 hm.1 dq_MI_joinNearest_94 (by decide) hm.2.1 ?_
    refine fx_iload_n 3 dq_MI_joinNearest_97 rfl rfl ?_
    refine fx_aaload ok hm.2.2.1 (by decide) rfl rfl (vp_in_nI (n := (jR h m).2.1) (by omega) (by decide)) ((congrArg (fx_r h (m + 1)) (nI_clamp (n := (jR h m).2.1) (by omega))).trans (hm.2.2.2 (jR h m).2.1 (by omega)).1) dq_MI_joinNearest_98 ?_
    refine fx_aload_n 4 dq_MI_joinNearest_99 rfl rfl ?_
    refine fx_getr ok fq_MI_11 hm.1 dq_MI_joinNearest_100 (by decide) hm.2.1 ?_
    refine fx_iload_n 2 dq_MI_joinNearest_103 rfl rfl ?_
    refine fx_aaload ok hm.2.2.1 (by decide) rfl rfl (vp_in_nI (n := (jR h m).2.2) (by omega) (by decide)) ((congrArg (fx_r h (m + 1)) (nI_clamp (n := (jR h m).2.2) (by omega))).trans (hm.2.2.2 (jR h m).2.2 (by omega)).1) dq_MI_joinNearest_104 ?_
    refine fx_Vv1 ok sq_MI_44 (hm.2.2.2 (jR h m).2.1 (by omega)).2 (cr_growOver ok _ _ _ (by exact (hm.2.2.2 (jR h m).2.1 (by omega)).2) (by exact (hm.2.2.2 (jR h m).2.2 (by omega)).2) (by omega)) (by decide) (Nat.le_of_ble_eq_true rfl) dq_MI_joinNearest_105 ?_
    refine fx_aload_n 4 dq_MI_joinNearest_108 rfl rfl ?_
    refine fx_iload_n 2 dq_MI_joinNearest_109 rfl rfl ?_
    refine fx_Vv1 ok sq_MI_47 hm.1 (c_MI_dropAt ok _ m (jR h m).2.2 (by exact hm) (by omega) (by rw [rGrow_m]; exact hS)) (by decide) (Nat.le_of_ble_eq_true rfl) dq_MI_joinNearest_110 ?_
    have e110 : fx_sm h (k_MI_dropAt (rGrow h (m + 2 + (jR h m).2.1) (m + 2 + (jR h m).2.2)) m (jR h m).2.2) := fx_sm_t (h' := (rGrow h (m + 2 + (jR h m).2.1) (m + 2 + (jR h m).2.2))) (rfl : fx_sm h (rGrow h (m + 2 + (jR h m).2.1) (m + 2 + (jR h m).2.2))) (sm_MI_dropAt _ _ _)
    exact fx_vreturn rfl dq_MI_joinNearest_113 ⟨rfl, rfl⟩
theorem sm_MI_joinNearest (h : fx_H) (m : Nat) : fx_sm h (k_MI_joinNearest h m) := by
  unfold k_MI_joinNearest
  exact fx_sm_t (h' := rGrow h (m + 2 + (jR h m).2.1) (m + 2 + (jR h m).2.2)) rfl (sm_MI_dropAt _ _ _)
theorem out_MI_joinNearest (h : fx_H) (m : Nat) : fx_out m (m + 9) h (k_MI_joinNearest h m) := by
  have hJ := jR_lt h m
  unfold k_MI_joinNearest
  exact fx_out_t (fx_out_grow _ _ _ _ _ (by omega)) (out_MI_dropAt _ _ _ (by omega))
theorem mS_7 (h : fx_H) (m a : Nat) (hk : mOk h m) (h6 : ¬ fx_i (fx_wi (rset h (m + 2 + mS h m) (fx_i h a 0) (fx_i h a 1) (fx_i h a 2) (fx_i h a 3)) m 1 (fx_i (rset h (m + 2 + mS h m) (fx_i h a 0) (fx_i h a 1) (fx_i h a 2) (fx_i h a 3)) m 1 + 1)) m 1 ≤ 6) : fx_i (fx_wi (rset h (m + 2 + mS h m) (fx_i h a 0) (fx_i h a 1) (fx_i h a 2) (fx_i h a 3)) m 1 (fx_i (rset h (m + 2 + mS h m) (fx_i h a 0) (fx_i h a 1) (fx_i h a 2) (fx_i h a 3)) m 1 + 1)) m 1 = 7 := by
  have e := (fx_out_rset (m + 1) (m + 3 + mS h m) h (m + 2 + mS h m) (fx_i h a 0) (fx_i h a 1) (fx_i h a 2) (fx_i h a 3) (by omega)).2 m (by omega) 1
  rw [fx_i_wi, if_pos ⟨rfl, rfl⟩, e, hk.2, ← nI_succ] at h6 ⊢
  have h1 := hk.1
  rw [iz_le, nI_toInt (by omega)] at h6
  have e0 : (6 : Int32).toInt = 6 := rfl
  have e1 : mS h m = 6 := by omega
  rw [e1]
  rfl
def k_MI_add (h : fx_H) (m a : Nat) : fx_H := if (rE h a) = 0 then if (v_MI_isCovered h m a) = 0 then if (fx_i (fx_wi (rset h (m + 2 + mS h m) (fx_i h a 0) (fx_i h a 1) (fx_i h a 2) (fx_i h a 3)) m 1 ((fx_i (rset h (m + 2 + mS h m) (fx_i h a 0) (fx_i h a 1) (fx_i h a 2) (fx_i h a 3)) m 1) + (1 : Int32))) m 1) ≤ (6 : Int32) then fx_wi (rset h (m + 2 + mS h m) (fx_i h a 0) (fx_i h a 1) (fx_i h a 2) (fx_i h a 3)) m 1 ((fx_i (rset h (m + 2 + mS h m) (fx_i h a 0) (fx_i h a 1) (fx_i h a 2) (fx_i h a 3)) m 1) + (1 : Int32)) else k_MI_joinNearest (fx_wi (rset h (m + 2 + mS h m) (fx_i h a 0) (fx_i h a 1) (fx_i h a 2) (fx_i h a 3)) m 1 ((fx_i (rset h (m + 2 + mS h m) (fx_i h a 0) (fx_i h a 1) (fx_i h a 2) (fx_i h a 3)) m 1) + (1 : Int32))) m else h else h
set_option maxRecDepth 100000 in
set_option maxHeartbeats 600000 in
theorem c_MI_add {g : fx_G} (ok : fx_ok g) (h : fx_H) (m a : Nat) (hm : isI h m) (ha : fx_s h a = some (.inl 1)) (hk : mOk h m) : fx_C g mq_MI_add [.ref m, .ref a] h (fx_is none (k_MI_add h m a)) 0 0 := by
  refine fx_body (by decide +kernel) (Nat.le_of_ble_eq_true rfl) ?_
  show fx_X g mq_MI_add 0 [(0, .ref m), (1, .ref a)] [] h _ 0 0
  refine fx_aload_n 1 dq_MI_add_0 rfl rfl ?_
  refine fx_Vi0 ok sq_MI_18 ha (cr_isEmpty ok _ _ (by exact ha)) (by decide) (Nat.le_of_ble_eq_true rfl) dq_MI_add_1 ?_
  refine fx_if_ne (tgt := 15) dq_MI_add_4 (by decide) (fun hc4 => ?_) (fun hc4 => ?_)
  · -- 4: jump
    exact fx_vreturn rfl dq_MI_add_15 ⟨rfl, by rw [k_MI_add, if_neg hc4]⟩
  · -- 4: fall
    refine fx_aload_n 0 dq_MI_add_7 rfl rfl ?_
    refine fx_aload_n 1 dq_MI_add_8 rfl rfl ?_
    refine fx_Vi1 ok sq_MI_22 hm.1 (c_MI_isCovered ok h m a hm ha hk) (by decide) (Nat.le_of_ble_eq_true rfl) dq_MI_add_9 ?_
    refine fx_if_eq (tgt := 16) dq_MI_add_12 (by decide) (fun hc12 => ?_) (fun hc12 => ?_)
    · -- 12: jump
      refine fx_aload_n 0 dq_MI_add_16 rfl rfl ?_
      refine fx_getr ok fq_MI_11 hm.1 dq_MI_add_17 (by decide) hm.2.1 ?_
      refine fx_aload_n 0 dq_MI_add_20 rfl rfl ?_
      refine fx_geti ok fq_MI_26 hm.1 dq_MI_add_21 (by decide) ?_
      refine fx_aaload ok hm.2.2.1 (by decide) rfl rfl (mS_in hk) (hm.2.2.2 (mS h m) (by have := hk.1; omega)).1 dq_MI_add_24 ?_
      refine fx_aload_n 1 dq_MI_add_25 rfl rfl ?_
      refine fx_Vv1 ok sq_MI_30 (hm.2.2.2 (mS h m) (by have := hk.1; omega)).2 (cr_become ok _ _ _ (by exact (hm.2.2.2 (mS h m) (by have := hk.1; omega)).2) (by exact ha)) (by decide) (Nat.le_of_ble_eq_true rfl) dq_MI_add_26 ?_
      refine fx_aload_n 0 dq_MI_add_29 rfl rfl ?_
      refine fx_dup dq_MI_add_30 rfl ?_
      refine fx_geti ok fq_MI_26 hm.1 dq_MI_add_31 (by decide) ?_
      refine fx_iconst (v := 1) dq_MI_add_34 (by decide) ?_
      refine fx_iadd dq_MI_add_35 ?_
      refine fx_puti ok fp_MI_26 hm.1 (by decide) dq_MI_add_36 (Or.inl (by decide)) ?_
      refine fx_aload_n 0 dq_MI_add_39 rfl rfl ?_
      refine fx_geti ok fq_MI_26 hm.1 dq_MI_add_40 (by decide) ?_
      refine fx_bipush (v := 6) dq_MI_add_43 (by decide) ?_
      refine fx_icmp_le (tgt := 52) dq_MI_add_45 (by decide) (fun hc45 => ?_) (fun hc45 => ?_)
      · -- 45: jump
        exact fx_vreturn rfl dq_MI_add_52 ⟨rfl, by rw [k_MI_add, if_pos hc4, if_pos hc12, if_pos hc45]⟩
      · -- 45: fall
        refine fx_aload_n 0 dq_MI_add_48 rfl rfl ?_
        refine fx_Vv0 ok sq_MI_34 hm.1 (c_MI_joinNearest ok _ m (by exact hm) (by exact mS_7 h m a hk hc45)) (by decide) (Nat.le_of_ble_eq_true rfl) dq_MI_add_49 ?_
        have e49 : fx_sm h (k_MI_joinNearest (fx_wi (rset h (m + 2 + mS h m) (fx_i h a 0) (fx_i h a 1) (fx_i h a 2) (fx_i h a 3)) m 1 ((fx_i (rset h (m + 2 + mS h m) (fx_i h a 0) (fx_i h a 1) (fx_i h a 2) (fx_i h a 3)) m 1) + (1 : Int32))) m) := fx_sm_t (h' := (fx_wi (rset h (m + 2 + mS h m) (fx_i h a 0) (fx_i h a 1) (fx_i h a 2) (fx_i h a 3)) m 1 ((fx_i (rset h (m + 2 + mS h m) (fx_i h a 0) (fx_i h a 1) (fx_i h a 2) (fx_i h a 3)) m 1) + (1 : Int32)))) (rfl : fx_sm h (fx_wi (rset h (m + 2 + mS h m) (fx_i h a 0) (fx_i h a 1) (fx_i h a 2) (fx_i h a 3)) m 1 ((fx_i (rset h (m + 2 + mS h m) (fx_i h a 0) (fx_i h a 1) (fx_i h a 2) (fx_i h a 3)) m 1) + (1 : Int32)))) (sm_MI_joinNearest _ _)
        exact fx_vreturn rfl dq_MI_add_52 ⟨rfl, by rw [k_MI_add, if_pos hc4, if_pos hc12, if_neg hc45]⟩
    · -- 12: fall
      exact fx_vreturn rfl dq_MI_add_15 ⟨rfl, by rw [k_MI_add, if_pos hc4, if_neg hc12]⟩
theorem out_MI_add (h : fx_H) (m a : Nat) (hk : mOk h m) : fx_out m (m + 9) h (k_MI_add h m a) := by
  have h1 := hk.1
  unfold k_MI_add
  split
  · split
    · split
      · exact fx_out_t (fx_out_rset _ _ _ _ _ _ _ _ (by omega)) (fx_out_wi _ _ _ _ _ _ (by omega))
      · exact fx_out_t (fx_out_t (fx_out_rset _ _ _ _ _ _ _ _ (by omega)) (fx_out_wi _ _ _ _ _ _ (by omega))) (out_MI_joinNearest _ _)
    · exact fx_out_rf _ _ _
  · exact fx_out_rf _ _ _
theorem mOk_add (h : fx_H) (m a : Nat) (hk : mOk h m) : mOk (k_MI_add h m a) m := by
  have h1 := hk.1
  unfold k_MI_add
  split
  · split
    · split
      · rename_i h6
        have e := (fx_out_rset (m + 1) (m + 3 + mS h m) h (m + 2 + mS h m) (fx_i h a 0) (fx_i h a 1) (fx_i h a 2) (fx_i h a 3) (by omega)).2 m (by omega) 1
        rw [fx_i_wi, if_pos ⟨rfl, rfl⟩, e, hk.2, ← nI_succ] at h6
        rw [iz_le, nI_toInt (by omega)] at h6
        have e0 : (6 : Int32).toInt = 6 := rfl
        refine mOk_of (s := mS h m + 1) ?_ (by omega)
        rw [fx_i_wi, if_pos ⟨rfl, rfl⟩, e, hk.2, ← nI_succ]
      · rename_i h6
        have e7 := mS_7 h m a hk h6
        have e6 : fx_i (k_MI_joinNearest (fx_wi (rset h (m + 2 + mS h m) (fx_i h a 0) (fx_i h a 1) (fx_i h a 2) (fx_i h a 3)) m 1 (fx_i (rset h (m + 2 + mS h m) (fx_i h a 0) (fx_i h a 1) (fx_i h a 2) (fx_i h a 3)) m 1 + 1)) m) m 1 = nI 6 := by
          unfold k_MI_joinNearest
          refine dr_size _ m _ ?_
          rw [rGrow_m]
          exact e7
        exact mOk_of e6 (by decide)
    · exact hk
  · exact hk
