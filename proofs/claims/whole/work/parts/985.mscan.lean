/-! ===== the Model: change, scan ===== -/
def ch1 (q i : Nat) (k : fx_H) : fx_H := fx_wi (fx_wi (fx_wi (fx_wi (k_MO_show (fx_wi (fx_wi k (q + 34) i (0 : Int32)) (q + 35) i (0 : Int32)) q ((20 : Int32) + (fx_i (fx_wi (fx_wi k (q + 34) i (0 : Int32)) (q + 35) i (0 : Int32)) (q + 26) i))) (q + 32) i (fx_i (k_MO_show (fx_wi (fx_wi k (q + 34) i (0 : Int32)) (q + 35) i (0 : Int32)) q ((20 : Int32) + (fx_i (fx_wi (fx_wi k (q + 34) i (0 : Int32)) (q + 35) i (0 : Int32)) (q + 26) i))) q 38)) (q + 33) i (fx_i (fx_wi (k_MO_show (fx_wi (fx_wi k (q + 34) i (0 : Int32)) (q + 35) i (0 : Int32)) q ((20 : Int32) + (fx_i (fx_wi (fx_wi k (q + 34) i (0 : Int32)) (q + 35) i (0 : Int32)) (q + 26) i))) (q + 32) i (fx_i (k_MO_show (fx_wi (fx_wi k (q + 34) i (0 : Int32)) (q + 35) i (0 : Int32)) q ((20 : Int32) + (fx_i (fx_wi (fx_wi k (q + 34) i (0 : Int32)) (q + 35) i (0 : Int32)) (q + 26) i))) q 38)) q 39)) (q + 34) i (fx_i (fx_wi (fx_wi (k_MO_show (fx_wi (fx_wi k (q + 34) i (0 : Int32)) (q + 35) i (0 : Int32)) q ((20 : Int32) + (fx_i (fx_wi (fx_wi k (q + 34) i (0 : Int32)) (q + 35) i (0 : Int32)) (q + 26) i))) (q + 32) i (fx_i (k_MO_show (fx_wi (fx_wi k (q + 34) i (0 : Int32)) (q + 35) i (0 : Int32)) q ((20 : Int32) + (fx_i (fx_wi (fx_wi k (q + 34) i (0 : Int32)) (q + 35) i (0 : Int32)) (q + 26) i))) q 38)) (q + 33) i (fx_i (fx_wi (k_MO_show (fx_wi (fx_wi k (q + 34) i (0 : Int32)) (q + 35) i (0 : Int32)) q ((20 : Int32) + (fx_i (fx_wi (fx_wi k (q + 34) i (0 : Int32)) (q + 35) i (0 : Int32)) (q + 26) i))) (q + 32) i (fx_i (k_MO_show (fx_wi (fx_wi k (q + 34) i (0 : Int32)) (q + 35) i (0 : Int32)) q ((20 : Int32) + (fx_i (fx_wi (fx_wi k (q + 34) i (0 : Int32)) (q + 35) i (0 : Int32)) (q + 26) i))) q 38)) q 39)) q 40)) (q + 35) i (fx_i (fx_wi (fx_wi (fx_wi (k_MO_show (fx_wi (fx_wi k (q + 34) i (0 : Int32)) (q + 35) i (0 : Int32)) q ((20 : Int32) + (fx_i (fx_wi (fx_wi k (q + 34) i (0 : Int32)) (q + 35) i (0 : Int32)) (q + 26) i))) (q + 32) i (fx_i (k_MO_show (fx_wi (fx_wi k (q + 34) i (0 : Int32)) (q + 35) i (0 : Int32)) q ((20 : Int32) + (fx_i (fx_wi (fx_wi k (q + 34) i (0 : Int32)) (q + 35) i (0 : Int32)) (q + 26) i))) q 38)) (q + 33) i (fx_i (fx_wi (k_MO_show (fx_wi (fx_wi k (q + 34) i (0 : Int32)) (q + 35) i (0 : Int32)) q ((20 : Int32) + (fx_i (fx_wi (fx_wi k (q + 34) i (0 : Int32)) (q + 35) i (0 : Int32)) (q + 26) i))) (q + 32) i (fx_i (k_MO_show (fx_wi (fx_wi k (q + 34) i (0 : Int32)) (q + 35) i (0 : Int32)) q ((20 : Int32) + (fx_i (fx_wi (fx_wi k (q + 34) i (0 : Int32)) (q + 35) i (0 : Int32)) (q + 26) i))) q 38)) q 39)) (q + 34) i (fx_i (fx_wi (fx_wi (k_MO_show (fx_wi (fx_wi k (q + 34) i (0 : Int32)) (q + 35) i (0 : Int32)) q ((20 : Int32) + (fx_i (fx_wi (fx_wi k (q + 34) i (0 : Int32)) (q + 35) i (0 : Int32)) (q + 26) i))) (q + 32) i (fx_i (k_MO_show (fx_wi (fx_wi k (q + 34) i (0 : Int32)) (q + 35) i (0 : Int32)) q ((20 : Int32) + (fx_i (fx_wi (fx_wi k (q + 34) i (0 : Int32)) (q + 35) i (0 : Int32)) (q + 26) i))) q 38)) (q + 33) i (fx_i (fx_wi (k_MO_show (fx_wi (fx_wi k (q + 34) i (0 : Int32)) (q + 35) i (0 : Int32)) q ((20 : Int32) + (fx_i (fx_wi (fx_wi k (q + 34) i (0 : Int32)) (q + 35) i (0 : Int32)) (q + 26) i))) (q + 32) i (fx_i (k_MO_show (fx_wi (fx_wi k (q + 34) i (0 : Int32)) (q + 35) i (0 : Int32)) q ((20 : Int32) + (fx_i (fx_wi (fx_wi k (q + 34) i (0 : Int32)) (q + 35) i (0 : Int32)) (q + 26) i))) q 38)) q 39)) q 40)) q 41)
def chPre (h : fx_H) (q : Nat) : Prop := ∀ i, i < 2 → 0 ≤ fx_i h (q + 26) i → vp_in (20 + fx_i h (q + 26) i) 30 ∧ ∀ k, mfr q [32, 33, 34, 35, 36, 37] [0, 23, 38, 39, 40, 41, 42, 43, 45] h k → (0 ≤ ((fx_i (ch1 q i k) q 40) * (fx_i (ch1 q i k) q 41)).toInt ∧ ((fx_i (ch1 q i k) q 40) * (fx_i (ch1 q i k) q 41)).toInt ≤ 24) ∧
  ∀ n, n < ((fx_i (ch1 q i k) q 40) * (fx_i (ch1 q i k) q 41)).toNatClampNeg → ¬ fx_i (ch1 q i k) q 40 = 0 ∧ pre_MO_pixelOf (ch1 q i k) q (20 + fx_i h (q + 26) i) (fx_i (ch1 q i k) q 38 + (nI n - nI n / fx_i (ch1 q i k) q 40 * fx_i (ch1 q i k) q 40)) (fx_i (ch1 q i k) q 39 + nI n / fx_i (ch1 q i k) q 40)
theorem mfr_ch1 (q i : Nat) (k : fx_H) : mfr q [32, 33, 34, 35] [38, 39, 40, 41] k (ch1 q i k) := by
  unfold ch1
  refine mfr_wi (mfr_wi (mfr_wi (mfr_wi (mfr_t ?_ (mfr_m (mfr_show _ _ _) (by decide) (by decide))) (by decide)) (by decide)) (by decide)) (by decide)
  exact mfr_wi (mfr_wi (mfr_rf _ _ _ _) (by decide)) (by decide)
theorem c48 {i n : Nat} (hi : i < 2) (hn : n < 24) : vp_in (24 * nI i + nI n) 48 := by
  have e0 : (24 : Int32).toInt = 24 := rfl
  have e1 : (nI i).toInt = i := nI_toInt (by omega)
  have e2 : (nI n).toInt = n := nI_toInt (by omega)
  have h1 : (24 * nI i).toInt = 24 * (i : Int) := by rw [iz_mul (by rw [e0, e1]; omega), e0, e1]
  have h2 : (24 * nI i + nI n).toInt = 24 * (i : Int) + n := by rw [iz_add (by rw [h1, e2]; omega), h1, e2]
  exact iz_in (by omega) (by omega)
theorem chPre_m {h k : fx_H} {q : Nat} (e : mfr q [32, 33, 34, 35, 36, 37] [0, 23, 38, 39, 40, 41, 42, 43, 45] h k) (hp : chPre h q) : chPre k q := by
  intro i hi h0
  rw [mfr_at e (by decide)] at h0 ⊢
  obtain ⟨h1, h2⟩ := hp i hi h0
  exact ⟨h1, fun k' hk => h2 k' (mfr_t e hk)⟩
def chI (q i : Nat) (n : Nat) (u : fx_H) : fx_H := fx_wi u (q + 36) (((24 : Int32) * (nI i)) + (nI n)).toNatClampNeg (v_MO_pixelOf u q ((20 : Int32) + (fx_i u (q + 26) i)) ((fx_i u q 38) + ((nI n) - (nI n) / (fx_i u q 40) * (fx_i u q 40))) ((fx_i u q 39) + ((nI n) / (fx_i u q 40))))
theorem on_chI (q i n : Nat) (u : fx_H) : fx_on (q + 36) u (chI q i n u) := by
  unfold chI
  exact fx_on_wi _ _ _ _
def b_MO_change (q : Nat) (i : Nat) (k : fx_H) : fx_H := if 0 ≤ (fx_i (fx_wi (fx_wi k (q + 34) i (0 : Int32)) (q + 35) i (0 : Int32)) (q + 26) i) then (its (chI q i) (ch1 q i k) (((fx_i (ch1 q i k) q 40) * (fx_i (ch1 q i k) q 41)).toNatClampNeg)) else fx_wi (fx_wi k (q + 34) i (0 : Int32)) (q + 35) i (0 : Int32)
theorem mfr_bch (q n : Nat) (k : fx_H) : mfr q [32, 33, 34, 35, 36] [38, 39, 40, 41] k (b_MO_change q n k) := by
  unfold b_MO_change
  split
  · exact mfr_t (mfr_m (mfr_ch1 q n k) (by decide) (by decide)) (mfr_m (mfr_on (on_its (fun u : fx_H => u) (chI q n) (ch1 q n k) (on_chI q n) _) (by decide)) (by decide) (by decide))
  · exact mfr_wi (mfr_wi (mfr_rf _ _ _ _) (by decide)) (by decide)
def k_MO_change (h : fx_H) (q : Nat) : fx_H := fx_wi (fx_wi (it (b_MO_change q) (fx_wi h q 23 ((1 : Int32) - (fx_i h q 23))) 2) q 44 (fx_i (it (b_MO_change q) (fx_wi h q 23 ((1 : Int32) - (fx_i h q 23))) 2) q 20)) q 22 (0 : Int32)
set_option maxRecDepth 100000 in
set_option maxHeartbeats 600000 in
theorem c_MO_change {g : fx_G} (ok : fx_ok g) (h : fx_H) (q : Nat) (hm : isM h q) (hch : chPre h q) : fx_C g mq_MO_change [.ref q] h (fx_is none (k_MO_change h q)) 0 0 := by
  refine fx_body (by decide +kernel) (Nat.le_of_ble_eq_true rfl) ?_
  show fx_X g mq_MO_change 0 [(0, .ref q)] [] h _ 0 0
  refine fx_aload_n 0 dq_MO_change_0 rfl rfl ?_
  refine fx_iconst (v := 1) dq_MO_change_1 (by decide) ?_
  refine fx_aload_n 0 dq_MO_change_2 rfl rfl ?_
  refine fx_geti ok fq_MO_68 hm.1 dq_MO_change_3 (by decide) ?_
  refine fx_isub dq_MO_change_6 ?_
  refine fx_puti ok fp_MO_68 hm.1 (by decide) dq_MO_change_7 (Or.inl (by decide)) ?_
  refine fx_iconst (v := 0) dq_MO_change_10 (by decide) ?_
  refine fx_istore_n dq_MO_change_11 rfl (by decide) rfl ?_
  refine fx_for (fun i => [(1, .int (nI i)), (0, .ref q)]) (b_MO_change q) (fx_wi h q 23 ((1 : Int32) - (fx_i h q 23))) 2 (fun i hi hK12 => ?_) ?_
  · have e12b : fx_sm h (it (b_MO_change q) (fx_wi h q 23 ((1 : Int32) - (fx_i h q 23))) i) := fx_sm_t (h' := (fx_wi h q 23 ((1 : Int32) - (fx_i h q 23)))) (rfl : fx_sm h (fx_wi h q 23 ((1 : Int32) - (fx_i h q 23)))) (fx_sm_it (fun n k => (mfr_bch q n k).1) (fx_wi h q 23 ((1 : Int32) - (fx_i h q 23))) i)
    have hfk := mfr_it (L := [32, 33, 34, 35, 36, 37]) (F := [0, 23, 38, 39, 40, 41, 42, 43, 45]) (fun n k => mfr_m (mfr_bch q n k) (by decide) (by decide)) (mfr_wf (j := 23) (v := (1 : Int32) - (fx_i h q 23)) (mfr_rf q _ _ h) (by decide)) i
    generalize it (b_MO_change q) (fx_wi h q 23 ((1 : Int32) - (fx_i h q 23))) i = k at e12b hK12 hfk ⊢
    refine fx_iload_n 0 dq_MO_change_12 rfl rfl ?_
    refine fx_iconst (v := 2) dq_MO_change_13 (by decide) ?_
    refine fx_icmp_ge (tgt := 169) dq_MO_change_14 (by decide) (fun hc14 => absurd hc14 (nI_ge (b := 2) hi (by decide))) (fun hc14 => ?_)
    refine fx_aload_n 1 dq_MO_change_17 rfl rfl ?_
    refine fx_getr ok fq_MO_114 ((fx_sm_s e12b _).trans hm.1) dq_MO_change_18 (by decide) ((fx_sm_r e12b _ _).trans (mo_setW hm).1) ?_
    refine fx_iload_n 0 dq_MO_change_21 rfl rfl ?_
    refine fx_iconst (v := 0) dq_MO_change_22 (by decide) ?_
    refine fx_isN ok ((fx_sm_s e12b _).trans (mo_setW hm).2) ⟨hi, by decide⟩ dq_MO_change_23 ?_
    have e23w : fx_sm h (fx_wi k (q + 34) i (0 : Int32)) := fx_sm_t (h' := k) e12b (sm_wi _ _ _ _)
    refine fx_aload_n 1 dq_MO_change_24 rfl rfl ?_
    refine fx_getr ok fq_MO_117 ((fx_sm_s e23w _).trans hm.1) dq_MO_change_25 (by decide) ((fx_sm_r e23w _ _).trans (mo_setH hm).1) ?_
    refine fx_iload_n 0 dq_MO_change_28 rfl rfl ?_
    refine fx_iconst (v := 0) dq_MO_change_29 (by decide) ?_
    refine fx_isN ok ((fx_sm_s e23w _).trans (mo_setH hm).2) ⟨hi, by decide⟩ dq_MO_change_30 ?_
    have e30w : fx_sm h (fx_wi (fx_wi k (q + 34) i (0 : Int32)) (q + 35) i (0 : Int32)) := fx_sm_t (h' := (fx_wi k (q + 34) i (0 : Int32))) e23w (sm_wi _ _ _ _)
    refine fx_aload_n 1 dq_MO_change_31 rfl rfl ?_
    refine fx_getr ok fq_MO_90 ((fx_sm_s e30w _).trans hm.1) dq_MO_change_32 (by decide) ((fx_sm_r e30w _ _).trans (mo_planes hm).1) ?_
    refine fx_iload_n 0 dq_MO_change_35 rfl rfl ?_
    refine fx_iaN ok ((fx_sm_s e30w _).trans (mo_planes hm).2) ⟨hi, by decide⟩ dq_MO_change_36 ?_
    refine fx_if_ge (tgt := 43) dq_MO_change_37 (by decide) (fun hc37 => ?_) (fun hc37 => ?_)
    · -- 37: jump
      have epl : fx_i (fx_wi (fx_wi k (q + 34) i (0 : Int32)) (q + 35) i (0 : Int32)) (q + 26) i = fx_i h (q + 26) i := (mfr_at (mfr_wi (L := [34, 35]) (F := []) (mfr_wi (mfr_rf q _ _ k) (by decide)) (by decide)) (by decide) i).trans (mfr_at hfk (by decide) i)
      have hp0 : 0 ≤ fx_i h (q + 26) i := by rw [← epl]; exact hc37
      refine fx_aload_n 1 dq_MO_change_43 rfl rfl ?_
      refine fx_bipush (v := 20) dq_MO_change_44 (by decide) ?_
      refine fx_aload_n 1 dq_MO_change_46 rfl rfl ?_
      refine fx_getr ok fq_MO_90 ((fx_sm_s e30w _).trans hm.1) dq_MO_change_47 (by decide) ((fx_sm_r e30w _ _).trans (mo_planes hm).1) ?_
      refine fx_iload_n 0 dq_MO_change_50 rfl rfl ?_
      refine fx_iaN ok ((fx_sm_s e30w _).trans (mo_planes hm).2) ⟨hi, by decide⟩ dq_MO_change_51 ?_
      refine fx_iadd dq_MO_change_52 ?_
      refine fx_Vv1 ok sq_MO_204 ((fx_sm_s e30w _).trans hm.1) (c_MO_show ok (fx_wi (fx_wi k (q + 34) i (0 : Int32)) (q + 35) i (0 : Int32)) q ((20 : Int32) + (fx_i (fx_wi (fx_wi k (q + 34) i (0 : Int32)) (q + 35) i (0 : Int32)) (q + 26) i)) (by exact isM_sm e30w hm) (by rw [epl]; exact (hch i hi hp0).1)) (by decide) (Nat.le_of_ble_eq_true rfl) dq_MO_change_53 ?_
      have e53 : fx_sm h (k_MO_show (fx_wi (fx_wi k (q + 34) i (0 : Int32)) (q + 35) i (0 : Int32)) q ((20 : Int32) + (fx_i (fx_wi (fx_wi k (q + 34) i (0 : Int32)) (q + 35) i (0 : Int32)) (q + 26) i))) := fx_sm_t (h' := (fx_wi (fx_wi k (q + 34) i (0 : Int32)) (q + 35) i (0 : Int32))) e30w (sm_MO_show (fx_wi (fx_wi k (q + 34) i (0 : Int32)) (q + 35) i (0 : Int32)) q ((20 : Int32) + (fx_i (fx_wi (fx_wi k (q + 34) i (0 : Int32)) (q + 35) i (0 : Int32)) (q + 26) i)))
      refine fx_aload_n 1 dq_MO_change_56 rfl rfl ?_
      refine fx_getr ok fq_MO_108 ((fx_sm_s e53 _).trans hm.1) dq_MO_change_57 (by decide) ((fx_sm_r e53 _ _).trans (mo_setX hm).1) ?_
      refine fx_iload_n 0 dq_MO_change_60 rfl rfl ?_
      refine fx_aload_n 1 dq_MO_change_61 rfl rfl ?_
      refine fx_geti ok fq_MO_141 ((fx_sm_s e53 _).trans hm.1) dq_MO_change_62 (by decide) ?_
      refine fx_isN ok ((fx_sm_s e53 _).trans (mo_setX hm).2) ⟨hi, by decide⟩ dq_MO_change_65 ?_
      have e65w : fx_sm h (fx_wi (k_MO_show (fx_wi (fx_wi k (q + 34) i (0 : Int32)) (q + 35) i (0 : Int32)) q ((20 : Int32) + (fx_i (fx_wi (fx_wi k (q + 34) i (0 : Int32)) (q + 35) i (0 : Int32)) (q + 26) i))) (q + 32) i (fx_i (k_MO_show (fx_wi (fx_wi k (q + 34) i (0 : Int32)) (q + 35) i (0 : Int32)) q ((20 : Int32) + (fx_i (fx_wi (fx_wi k (q + 34) i (0 : Int32)) (q + 35) i (0 : Int32)) (q + 26) i))) q 38)) := fx_sm_t (h' := (k_MO_show (fx_wi (fx_wi k (q + 34) i (0 : Int32)) (q + 35) i (0 : Int32)) q ((20 : Int32) + (fx_i (fx_wi (fx_wi k (q + 34) i (0 : Int32)) (q + 35) i (0 : Int32)) (q + 26) i)))) e53 (sm_wi _ _ _ _)
      refine fx_aload_n 1 dq_MO_change_66 rfl rfl ?_
      refine fx_getr ok fq_MO_111 ((fx_sm_s e65w _).trans hm.1) dq_MO_change_67 (by decide) ((fx_sm_r e65w _ _).trans (mo_setY hm).1) ?_
      refine fx_iload_n 0 dq_MO_change_70 rfl rfl ?_
      refine fx_aload_n 1 dq_MO_change_71 rfl rfl ?_
      refine fx_geti ok fq_MO_147 ((fx_sm_s e65w _).trans hm.1) dq_MO_change_72 (by decide) ?_
      refine fx_isN ok ((fx_sm_s e65w _).trans (mo_setY hm).2) ⟨hi, by decide⟩ dq_MO_change_75 ?_
      have e75w : fx_sm h (fx_wi (fx_wi (k_MO_show (fx_wi (fx_wi k (q + 34) i (0 : Int32)) (q + 35) i (0 : Int32)) q ((20 : Int32) + (fx_i (fx_wi (fx_wi k (q + 34) i (0 : Int32)) (q + 35) i (0 : Int32)) (q + 26) i))) (q + 32) i (fx_i (k_MO_show (fx_wi (fx_wi k (q + 34) i (0 : Int32)) (q + 35) i (0 : Int32)) q ((20 : Int32) + (fx_i (fx_wi (fx_wi k (q + 34) i (0 : Int32)) (q + 35) i (0 : Int32)) (q + 26) i))) q 38)) (q + 33) i (fx_i (fx_wi (k_MO_show (fx_wi (fx_wi k (q + 34) i (0 : Int32)) (q + 35) i (0 : Int32)) q ((20 : Int32) + (fx_i (fx_wi (fx_wi k (q + 34) i (0 : Int32)) (q + 35) i (0 : Int32)) (q + 26) i))) (q + 32) i (fx_i (k_MO_show (fx_wi (fx_wi k (q + 34) i (0 : Int32)) (q + 35) i (0 : Int32)) q ((20 : Int32) + (fx_i (fx_wi (fx_wi k (q + 34) i (0 : Int32)) (q + 35) i (0 : Int32)) (q + 26) i))) q 38)) q 39)) := fx_sm_t (h' := (fx_wi (k_MO_show (fx_wi (fx_wi k (q + 34) i (0 : Int32)) (q + 35) i (0 : Int32)) q ((20 : Int32) + (fx_i (fx_wi (fx_wi k (q + 34) i (0 : Int32)) (q + 35) i (0 : Int32)) (q + 26) i))) (q + 32) i (fx_i (k_MO_show (fx_wi (fx_wi k (q + 34) i (0 : Int32)) (q + 35) i (0 : Int32)) q ((20 : Int32) + (fx_i (fx_wi (fx_wi k (q + 34) i (0 : Int32)) (q + 35) i (0 : Int32)) (q + 26) i))) q 38))) e65w (sm_wi _ _ _ _)
      refine fx_aload_n 1 dq_MO_change_76 rfl rfl ?_
      refine fx_getr ok fq_MO_114 ((fx_sm_s e75w _).trans hm.1) dq_MO_change_77 (by decide) ((fx_sm_r e75w _ _).trans (mo_setW hm).1) ?_
      refine fx_iload_n 0 dq_MO_change_80 rfl rfl ?_
      refine fx_aload_n 1 dq_MO_change_81 rfl rfl ?_
      refine fx_geti ok fq_MO_144 ((fx_sm_s e75w _).trans hm.1) dq_MO_change_82 (by decide) ?_
      refine fx_isN ok ((fx_sm_s e75w _).trans (mo_setW hm).2) ⟨hi, by decide⟩ dq_MO_change_85 ?_
      have e85w : fx_sm h (fx_wi (fx_wi (fx_wi (k_MO_show (fx_wi (fx_wi k (q + 34) i (0 : Int32)) (q + 35) i (0 : Int32)) q ((20 : Int32) + (fx_i (fx_wi (fx_wi k (q + 34) i (0 : Int32)) (q + 35) i (0 : Int32)) (q + 26) i))) (q + 32) i (fx_i (k_MO_show (fx_wi (fx_wi k (q + 34) i (0 : Int32)) (q + 35) i (0 : Int32)) q ((20 : Int32) + (fx_i (fx_wi (fx_wi k (q + 34) i (0 : Int32)) (q + 35) i (0 : Int32)) (q + 26) i))) q 38)) (q + 33) i (fx_i (fx_wi (k_MO_show (fx_wi (fx_wi k (q + 34) i (0 : Int32)) (q + 35) i (0 : Int32)) q ((20 : Int32) + (fx_i (fx_wi (fx_wi k (q + 34) i (0 : Int32)) (q + 35) i (0 : Int32)) (q + 26) i))) (q + 32) i (fx_i (k_MO_show (fx_wi (fx_wi k (q + 34) i (0 : Int32)) (q + 35) i (0 : Int32)) q ((20 : Int32) + (fx_i (fx_wi (fx_wi k (q + 34) i (0 : Int32)) (q + 35) i (0 : Int32)) (q + 26) i))) q 38)) q 39)) (q + 34) i (fx_i (fx_wi (fx_wi (k_MO_show (fx_wi (fx_wi k (q + 34) i (0 : Int32)) (q + 35) i (0 : Int32)) q ((20 : Int32) + (fx_i (fx_wi (fx_wi k (q + 34) i (0 : Int32)) (q + 35) i (0 : Int32)) (q + 26) i))) (q + 32) i (fx_i (k_MO_show (fx_wi (fx_wi k (q + 34) i (0 : Int32)) (q + 35) i (0 : Int32)) q ((20 : Int32) + (fx_i (fx_wi (fx_wi k (q + 34) i (0 : Int32)) (q + 35) i (0 : Int32)) (q + 26) i))) q 38)) (q + 33) i (fx_i (fx_wi (k_MO_show (fx_wi (fx_wi k (q + 34) i (0 : Int32)) (q + 35) i (0 : Int32)) q ((20 : Int32) + (fx_i (fx_wi (fx_wi k (q + 34) i (0 : Int32)) (q + 35) i (0 : Int32)) (q + 26) i))) (q + 32) i (fx_i (k_MO_show (fx_wi (fx_wi k (q + 34) i (0 : Int32)) (q + 35) i (0 : Int32)) q ((20 : Int32) + (fx_i (fx_wi (fx_wi k (q + 34) i (0 : Int32)) (q + 35) i (0 : Int32)) (q + 26) i))) q 38)) q 39)) q 40)) := fx_sm_t (h' := (fx_wi (fx_wi (k_MO_show (fx_wi (fx_wi k (q + 34) i (0 : Int32)) (q + 35) i (0 : Int32)) q ((20 : Int32) + (fx_i (fx_wi (fx_wi k (q + 34) i (0 : Int32)) (q + 35) i (0 : Int32)) (q + 26) i))) (q + 32) i (fx_i (k_MO_show (fx_wi (fx_wi k (q + 34) i (0 : Int32)) (q + 35) i (0 : Int32)) q ((20 : Int32) + (fx_i (fx_wi (fx_wi k (q + 34) i (0 : Int32)) (q + 35) i (0 : Int32)) (q + 26) i))) q 38)) (q + 33) i (fx_i (fx_wi (k_MO_show (fx_wi (fx_wi k (q + 34) i (0 : Int32)) (q + 35) i (0 : Int32)) q ((20 : Int32) + (fx_i (fx_wi (fx_wi k (q + 34) i (0 : Int32)) (q + 35) i (0 : Int32)) (q + 26) i))) (q + 32) i (fx_i (k_MO_show (fx_wi (fx_wi k (q + 34) i (0 : Int32)) (q + 35) i (0 : Int32)) q ((20 : Int32) + (fx_i (fx_wi (fx_wi k (q + 34) i (0 : Int32)) (q + 35) i (0 : Int32)) (q + 26) i))) q 38)) q 39))) e75w (sm_wi _ _ _ _)
      refine fx_aload_n 1 dq_MO_change_86 rfl rfl ?_
      refine fx_getr ok fq_MO_117 ((fx_sm_s e85w _).trans hm.1) dq_MO_change_87 (by decide) ((fx_sm_r e85w _ _).trans (mo_setH hm).1) ?_
      refine fx_iload_n 0 dq_MO_change_90 rfl rfl ?_
      refine fx_aload_n 1 dq_MO_change_91 rfl rfl ?_
      refine fx_geti ok fq_MO_150 ((fx_sm_s e85w _).trans hm.1) dq_MO_change_92 (by decide) ?_
      refine fx_isN ok ((fx_sm_s e85w _).trans (mo_setH hm).2) ⟨hi, by decide⟩ dq_MO_change_95 ?_
      have e95w : fx_sm h (fx_wi (fx_wi (fx_wi (fx_wi (k_MO_show (fx_wi (fx_wi k (q + 34) i (0 : Int32)) (q + 35) i (0 : Int32)) q ((20 : Int32) + (fx_i (fx_wi (fx_wi k (q + 34) i (0 : Int32)) (q + 35) i (0 : Int32)) (q + 26) i))) (q + 32) i (fx_i (k_MO_show (fx_wi (fx_wi k (q + 34) i (0 : Int32)) (q + 35) i (0 : Int32)) q ((20 : Int32) + (fx_i (fx_wi (fx_wi k (q + 34) i (0 : Int32)) (q + 35) i (0 : Int32)) (q + 26) i))) q 38)) (q + 33) i (fx_i (fx_wi (k_MO_show (fx_wi (fx_wi k (q + 34) i (0 : Int32)) (q + 35) i (0 : Int32)) q ((20 : Int32) + (fx_i (fx_wi (fx_wi k (q + 34) i (0 : Int32)) (q + 35) i (0 : Int32)) (q + 26) i))) (q + 32) i (fx_i (k_MO_show (fx_wi (fx_wi k (q + 34) i (0 : Int32)) (q + 35) i (0 : Int32)) q ((20 : Int32) + (fx_i (fx_wi (fx_wi k (q + 34) i (0 : Int32)) (q + 35) i (0 : Int32)) (q + 26) i))) q 38)) q 39)) (q + 34) i (fx_i (fx_wi (fx_wi (k_MO_show (fx_wi (fx_wi k (q + 34) i (0 : Int32)) (q + 35) i (0 : Int32)) q ((20 : Int32) + (fx_i (fx_wi (fx_wi k (q + 34) i (0 : Int32)) (q + 35) i (0 : Int32)) (q + 26) i))) (q + 32) i (fx_i (k_MO_show (fx_wi (fx_wi k (q + 34) i (0 : Int32)) (q + 35) i (0 : Int32)) q ((20 : Int32) + (fx_i (fx_wi (fx_wi k (q + 34) i (0 : Int32)) (q + 35) i (0 : Int32)) (q + 26) i))) q 38)) (q + 33) i (fx_i (fx_wi (k_MO_show (fx_wi (fx_wi k (q + 34) i (0 : Int32)) (q + 35) i (0 : Int32)) q ((20 : Int32) + (fx_i (fx_wi (fx_wi k (q + 34) i (0 : Int32)) (q + 35) i (0 : Int32)) (q + 26) i))) (q + 32) i (fx_i (k_MO_show (fx_wi (fx_wi k (q + 34) i (0 : Int32)) (q + 35) i (0 : Int32)) q ((20 : Int32) + (fx_i (fx_wi (fx_wi k (q + 34) i (0 : Int32)) (q + 35) i (0 : Int32)) (q + 26) i))) q 38)) q 39)) q 40)) (q + 35) i (fx_i (fx_wi (fx_wi (fx_wi (k_MO_show (fx_wi (fx_wi k (q + 34) i (0 : Int32)) (q + 35) i (0 : Int32)) q ((20 : Int32) + (fx_i (fx_wi (fx_wi k (q + 34) i (0 : Int32)) (q + 35) i (0 : Int32)) (q + 26) i))) (q + 32) i (fx_i (k_MO_show (fx_wi (fx_wi k (q + 34) i (0 : Int32)) (q + 35) i (0 : Int32)) q ((20 : Int32) + (fx_i (fx_wi (fx_wi k (q + 34) i (0 : Int32)) (q + 35) i (0 : Int32)) (q + 26) i))) q 38)) (q + 33) i (fx_i (fx_wi (k_MO_show (fx_wi (fx_wi k (q + 34) i (0 : Int32)) (q + 35) i (0 : Int32)) q ((20 : Int32) + (fx_i (fx_wi (fx_wi k (q + 34) i (0 : Int32)) (q + 35) i (0 : Int32)) (q + 26) i))) (q + 32) i (fx_i (k_MO_show (fx_wi (fx_wi k (q + 34) i (0 : Int32)) (q + 35) i (0 : Int32)) q ((20 : Int32) + (fx_i (fx_wi (fx_wi k (q + 34) i (0 : Int32)) (q + 35) i (0 : Int32)) (q + 26) i))) q 38)) q 39)) (q + 34) i (fx_i (fx_wi (fx_wi (k_MO_show (fx_wi (fx_wi k (q + 34) i (0 : Int32)) (q + 35) i (0 : Int32)) q ((20 : Int32) + (fx_i (fx_wi (fx_wi k (q + 34) i (0 : Int32)) (q + 35) i (0 : Int32)) (q + 26) i))) (q + 32) i (fx_i (k_MO_show (fx_wi (fx_wi k (q + 34) i (0 : Int32)) (q + 35) i (0 : Int32)) q ((20 : Int32) + (fx_i (fx_wi (fx_wi k (q + 34) i (0 : Int32)) (q + 35) i (0 : Int32)) (q + 26) i))) q 38)) (q + 33) i (fx_i (fx_wi (k_MO_show (fx_wi (fx_wi k (q + 34) i (0 : Int32)) (q + 35) i (0 : Int32)) q ((20 : Int32) + (fx_i (fx_wi (fx_wi k (q + 34) i (0 : Int32)) (q + 35) i (0 : Int32)) (q + 26) i))) (q + 32) i (fx_i (k_MO_show (fx_wi (fx_wi k (q + 34) i (0 : Int32)) (q + 35) i (0 : Int32)) q ((20 : Int32) + (fx_i (fx_wi (fx_wi k (q + 34) i (0 : Int32)) (q + 35) i (0 : Int32)) (q + 26) i))) q 38)) q 39)) q 40)) q 41)) := fx_sm_t (h' := (fx_wi (fx_wi (fx_wi (k_MO_show (fx_wi (fx_wi k (q + 34) i (0 : Int32)) (q + 35) i (0 : Int32)) q ((20 : Int32) + (fx_i (fx_wi (fx_wi k (q + 34) i (0 : Int32)) (q + 35) i (0 : Int32)) (q + 26) i))) (q + 32) i (fx_i (k_MO_show (fx_wi (fx_wi k (q + 34) i (0 : Int32)) (q + 35) i (0 : Int32)) q ((20 : Int32) + (fx_i (fx_wi (fx_wi k (q + 34) i (0 : Int32)) (q + 35) i (0 : Int32)) (q + 26) i))) q 38)) (q + 33) i (fx_i (fx_wi (k_MO_show (fx_wi (fx_wi k (q + 34) i (0 : Int32)) (q + 35) i (0 : Int32)) q ((20 : Int32) + (fx_i (fx_wi (fx_wi k (q + 34) i (0 : Int32)) (q + 35) i (0 : Int32)) (q + 26) i))) (q + 32) i (fx_i (k_MO_show (fx_wi (fx_wi k (q + 34) i (0 : Int32)) (q + 35) i (0 : Int32)) q ((20 : Int32) + (fx_i (fx_wi (fx_wi k (q + 34) i (0 : Int32)) (q + 35) i (0 : Int32)) (q + 26) i))) q 38)) q 39)) (q + 34) i (fx_i (fx_wi (fx_wi (k_MO_show (fx_wi (fx_wi k (q + 34) i (0 : Int32)) (q + 35) i (0 : Int32)) q ((20 : Int32) + (fx_i (fx_wi (fx_wi k (q + 34) i (0 : Int32)) (q + 35) i (0 : Int32)) (q + 26) i))) (q + 32) i (fx_i (k_MO_show (fx_wi (fx_wi k (q + 34) i (0 : Int32)) (q + 35) i (0 : Int32)) q ((20 : Int32) + (fx_i (fx_wi (fx_wi k (q + 34) i (0 : Int32)) (q + 35) i (0 : Int32)) (q + 26) i))) q 38)) (q + 33) i (fx_i (fx_wi (k_MO_show (fx_wi (fx_wi k (q + 34) i (0 : Int32)) (q + 35) i (0 : Int32)) q ((20 : Int32) + (fx_i (fx_wi (fx_wi k (q + 34) i (0 : Int32)) (q + 35) i (0 : Int32)) (q + 26) i))) (q + 32) i (fx_i (k_MO_show (fx_wi (fx_wi k (q + 34) i (0 : Int32)) (q + 35) i (0 : Int32)) q ((20 : Int32) + (fx_i (fx_wi (fx_wi k (q + 34) i (0 : Int32)) (q + 35) i (0 : Int32)) (q + 26) i))) q 38)) q 39)) q 40))) e85w (sm_wi _ _ _ _)
      refine fx_eqh (h' := ch1 q i k) rfl ?_
      have e96f : fx_sm h (ch1 q i k) := e95w
      refine fx_iconst (v := 0) dq_MO_change_96 (by decide) ?_
      refine fx_istore_n dq_MO_change_97 rfl (by decide) rfl ?_
      obtain ⟨hr8, hq9⟩ := (hch i hi hp0).2 k hfk
      have hr9 : 0 ≤ ((fx_i (ch1 q i k) q 40) * (fx_i (ch1 q i k) q 41)).toInt ∧ ((fx_i (ch1 q i k) q 40) * (fx_i (ch1 q i k) q 41)).toInt ≤ 1000 := ⟨hr8.1, by omega⟩
      have hr7 : ((fx_i (ch1 q i k) q 40) * (fx_i (ch1 q i k) q 41)).toNatClampNeg ≤ 24 := by have := iz_nn hr8.1; omega
      have epl2 : fx_i (ch1 q i k) (q + 26) i = fx_i h (q + 26) i := (mfr_at (mfr_ch1 q i k) (by decide) i).trans (mfr_at hfk (by decide) i)
      refine fx_fors (σ := fx_H) (fun n u => [(2, .int (nI n)), (1, .int (nI i)), (0, .ref q)]) (fun u => u) (chI q i) (ch1 q i k) (((fx_i (ch1 q i k) q 40) * (fx_i (ch1 q i k) q 41)).toNatClampNeg) (fun n u hn hu hK98 => ?_) ?_
      · skip
        have o98b : fx_on (q + 36) (ch1 q i k) u := by rw [hu]; exact on_its (fun u : fx_H => u) (chI q i) (ch1 q i k) (on_chI q i) n
        have e98b : fx_sm h u := fx_sm_t (h' := (ch1 q i k)) e96f o98b.1
        refine fx_iload_n 0 dq_MO_change_98 rfl rfl ?_
        refine fx_aload_n 2 dq_MO_change_99 rfl rfl ?_
        refine fx_geti ok fq_MO_144 ((fx_sm_s e98b _).trans hm.1) dq_MO_change_100 (by decide) ?_
        refine fx_aload_n 2 dq_MO_change_103 rfl rfl ?_
        refine fx_geti ok fq_MO_150 ((fx_sm_s e98b _).trans hm.1) dq_MO_change_104 (by decide) ?_
        refine fx_imul dq_MO_change_107 ?_
        refine fx_icmp_ge (tgt := 163) dq_MO_change_108 (by decide) (fun hc108 => absurd hc108 (by rw [o98b.2 q (by omega), o98b.2 q (by omega)]; exact vI_ge hr9 hn)) (fun hc108 => ?_)
        refine fx_aload_n 2 dq_MO_change_111 rfl rfl ?_
        refine fx_getr ok fq_MO_120 ((fx_sm_s e98b _).trans hm.1) dq_MO_change_112 (by decide) ((fx_sm_r e98b _ _).trans (mo_setPixels hm).1) ?_
        refine fx_bipush (v := 24) dq_MO_change_115 (by decide) ?_
        refine fx_iload_n 1 dq_MO_change_117 rfl rfl ?_
        refine fx_imul dq_MO_change_118 ?_
        refine fx_iload_n 0 dq_MO_change_119 rfl rfl ?_
        refine fx_iadd dq_MO_change_120 ?_
        refine fx_aload_n 2 dq_MO_change_121 rfl rfl ?_
        refine fx_bipush (v := 20) dq_MO_change_122 (by decide) ?_
        refine fx_aload_n 2 dq_MO_change_124 rfl rfl ?_
        refine fx_getr ok fq_MO_90 ((fx_sm_s e98b _).trans hm.1) dq_MO_change_125 (by decide) ((fx_sm_r e98b _ _).trans (mo_planes hm).1) ?_
        refine fx_iload_n 1 dq_MO_change_128 rfl rfl ?_
        refine fx_iaN ok ((fx_sm_s e98b _).trans (mo_planes hm).2) ⟨hi, by decide⟩ dq_MO_change_129 ?_
        refine fx_iadd dq_MO_change_130 ?_
        refine fx_aload_n 2 dq_MO_change_131 rfl rfl ?_
        refine fx_geti ok fq_MO_141 ((fx_sm_s e98b _).trans hm.1) dq_MO_change_132 (by decide) ?_
        refine fx_iload_n 0 dq_MO_change_135 rfl rfl ?_
        refine fx_aload_n 2 dq_MO_change_136 rfl rfl ?_
        refine fx_geti ok fq_MO_144 ((fx_sm_s e98b _).trans hm.1) dq_MO_change_137 (by decide) ?_
        refine fx_irem dq_MO_change_140 (by rw [o98b.2 q (by omega)]; exact (hq9 n hn).1) ?_
        refine fx_iadd dq_MO_change_141 ?_
        refine fx_aload_n 2 dq_MO_change_142 rfl rfl ?_
        refine fx_geti ok fq_MO_147 ((fx_sm_s e98b _).trans hm.1) dq_MO_change_143 (by decide) ?_
        refine fx_iload_n 0 dq_MO_change_146 rfl rfl ?_
        refine fx_aload_n 2 dq_MO_change_147 rfl rfl ?_
        refine fx_geti ok fq_MO_144 ((fx_sm_s e98b _).trans hm.1) dq_MO_change_148 (by decide) ?_
        refine fx_idiv dq_MO_change_151 (by rw [o98b.2 q (by omega)]; exact (hq9 n hn).1) ?_
        refine fx_iadd dq_MO_change_152 ?_
        refine fx_Vi3 ok sq_MO_225 ((fx_sm_s e98b _).trans hm.1) (c_MO_pixelOf ok u q ((20 : Int32) + (fx_i u (q + 26) i)) ((fx_i u q 38) + ((nI n) - (nI n) / (fx_i u q 40) * (fx_i u q 40))) ((fx_i u q 39) + ((nI n) / (fx_i u q 40))) (by exact isM_sm e98b hm) (px_on o98b (by decide) (by rw [o98b.2 (q + 26) (by omega), epl2, o98b.2 q (by omega), o98b.2 q (by omega), o98b.2 q (by omega)]; exact (hq9 n hn).2))) (by decide) (Nat.le_of_ble_eq_true rfl) dq_MO_change_153 ?_
        refine fx_iastore ok ((fx_sm_s e98b _).trans (mo_setPixels hm).2) (c48 hi (Nat.lt_of_lt_of_le hn hr7)) dq_MO_change_156 ?_
        have e156w : fx_sm h (fx_wi u (q + 36) (((24 : Int32) * (nI i)) + (nI n)).toNatClampNeg (v_MO_pixelOf u q ((20 : Int32) + (fx_i u (q + 26) i)) ((fx_i u q 38) + ((nI n) - (nI n) / (fx_i u q 40) * (fx_i u q 40))) ((fx_i u q 39) + ((nI n) / (fx_i u q 40))))) := fx_sm_t (h' := u) e98b (sm_wi _ _ _ _)
        refine fx_iinc 0 dq_MO_change_157 rfl (jz_i _) (by decide) rfl ?_
        refine fx_goto (tgt := 98) dq_MO_change_160 (by decide) ?_
        refine fx_sub [0, 1, 2] rfl ?_
        exact hK98
      · show fx_X g mq_MO_change 98 [(2, .int (nI (((fx_i (ch1 q i k) q 40) * (fx_i (ch1 q i k) q 41)).toNatClampNeg))), (1, .int (nI i)), (0, .ref q)] [] (its (chI q i) (ch1 q i k) (((fx_i (ch1 q i k) q 40) * (fx_i (ch1 q i k) q 41)).toNatClampNeg)) _ 0 0
        have o98x : fx_on (q + 36) (ch1 q i k) (its (chI q i) (ch1 q i k) (((fx_i (ch1 q i k) q 40) * (fx_i (ch1 q i k) q 41)).toNatClampNeg)) := on_its (fun u : fx_H => u) (chI q i) (ch1 q i k) (on_chI q i) (((fx_i (ch1 q i k) q 40) * (fx_i (ch1 q i k) q 41)).toNatClampNeg)
        have e98x : fx_sm h (its (chI q i) (ch1 q i k) (((fx_i (ch1 q i k) q 40) * (fx_i (ch1 q i k) q 41)).toNatClampNeg)) := fx_sm_t (h' := (ch1 q i k)) e96f o98x.1
        refine fx_iload_n 0 dq_MO_change_98 rfl rfl ?_
        refine fx_aload_n 2 dq_MO_change_99 rfl rfl ?_
        refine fx_geti ok fq_MO_144 ((fx_sm_s e98x _).trans hm.1) dq_MO_change_100 (by decide) ?_
        refine fx_aload_n 2 dq_MO_change_103 rfl rfl ?_
        refine fx_geti ok fq_MO_150 ((fx_sm_s e98x _).trans hm.1) dq_MO_change_104 (by decide) ?_
        refine fx_imul dq_MO_change_107 ?_
        refine fx_icmp_ge (tgt := 163) dq_MO_change_108 (by decide) (fun hc108 => ?_) (fun hc108 => absurd (by rw [o98x.2 q (by omega), o98x.2 q (by omega)]; exact vI_le hr9) hc108)
        refine fx_iinc 1 dq_MO_change_163 rfl (jz_i _) (by decide) rfl ?_
        refine fx_goto (tgt := 12) dq_MO_change_166 (by decide) ?_
        refine fx_sub [0, 2] rfl ?_
        exact fx_eqh (by rw [b_MO_change, if_pos hc37]) hK12
    · -- 37: fall
      refine fx_goto (tgt := 163) dq_MO_change_40 (by decide) ?_
      refine fx_iinc 0 dq_MO_change_163 rfl (jz_i _) (by decide) rfl ?_
      refine fx_goto (tgt := 12) dq_MO_change_166 (by decide) ?_
      refine fx_sub [0, 1] rfl ?_
      exact fx_eqh (by rw [b_MO_change, if_neg hc37]) hK12
  · have e12x : fx_sm h (it (b_MO_change q) (fx_wi h q 23 ((1 : Int32) - (fx_i h q 23))) 2) := fx_sm_t (h' := (fx_wi h q 23 ((1 : Int32) - (fx_i h q 23)))) (rfl : fx_sm h (fx_wi h q 23 ((1 : Int32) - (fx_i h q 23)))) (fx_sm_it (fun n k => (mfr_bch q n k).1) (fx_wi h q 23 ((1 : Int32) - (fx_i h q 23))) 2)
    refine fx_iload_n 0 dq_MO_change_12 rfl rfl ?_
    refine fx_iconst (v := 2) dq_MO_change_13 (by decide) ?_
    refine fx_icmp_ge (tgt := 169) dq_MO_change_14 (by decide) (fun hc14 => ?_) (fun hc14 => absurd (by decide) hc14)
    refine fx_aload_n 1 dq_MO_change_169 rfl rfl ?_
    refine fx_aload_n 1 dq_MO_change_170 rfl rfl ?_
    refine fx_geti ok fq_MO_167 ((fx_sm_s e12x _).trans hm.1) dq_MO_change_171 (by decide) ?_
    refine fx_puti ok fp_MO_247 ((fx_sm_s e12x _).trans hm.1) (by decide) dq_MO_change_174 (Or.inl (by decide)) ?_
    have e174w : fx_sm h (fx_wi (it (b_MO_change q) (fx_wi h q 23 ((1 : Int32) - (fx_i h q 23))) 2) q 44 (fx_i (it (b_MO_change q) (fx_wi h q 23 ((1 : Int32) - (fx_i h q 23))) 2) q 20)) := fx_sm_t (h' := (it (b_MO_change q) (fx_wi h q 23 ((1 : Int32) - (fx_i h q 23))) 2)) e12x (sm_wi _ _ _ _)
    refine fx_aload_n 1 dq_MO_change_177 rfl rfl ?_
    refine fx_iconst (v := 0) dq_MO_change_178 (by decide) ?_
    refine fx_puti ok fp_MO_216 ((fx_sm_s e174w _).trans hm.1) (by decide) dq_MO_change_179 (Or.inl (by decide)) ?_
    have e179w : fx_sm h (fx_wi (fx_wi (it (b_MO_change q) (fx_wi h q 23 ((1 : Int32) - (fx_i h q 23))) 2) q 44 (fx_i (it (b_MO_change q) (fx_wi h q 23 ((1 : Int32) - (fx_i h q 23))) 2) q 20)) q 22 (0 : Int32)) := fx_sm_t (h' := (fx_wi (it (b_MO_change q) (fx_wi h q 23 ((1 : Int32) - (fx_i h q 23))) 2) q 44 (fx_i (it (b_MO_change q) (fx_wi h q 23 ((1 : Int32) - (fx_i h q 23))) 2) q 20))) e174w (sm_wi _ _ _ _)
    exact fx_vreturn rfl dq_MO_change_182 ⟨rfl, rfl⟩
theorem mfr_change (h : fx_H) (q : Nat) : mfr q [32, 33, 34, 35, 36] [22, 23, 38, 39, 40, 41, 44] h (k_MO_change h q) := by
  unfold k_MO_change
  exact mfr_wf (mfr_wf (mfr_it (fun n k => mfr_m (mfr_bch q n k) (by decide) (by decide)) (mfr_wf (mfr_rf _ _ _ _) (by decide)) 2) (by decide)) (by decide)
theorem lkPre_w {h : fx_H} {q j : Nat} {v : Int32} (hj : j ≠ 23) (hp : lkPre h q) : lkPre (fx_wi h q j v) q := by
  unfold lkPre at hp ⊢
  rw [fx_i_wi, if_neg (fun z => hj z.2.symm)]
  simp only [wi_q _ _ _ _ _ _ (show 0 < 32 by decide), wi_q _ _ _ _ _ _ (show 0 < 33 by decide), wi_q _ _ _ _ _ _ (show 0 < 34 by decide), wi_q _ _ _ _ _ _ (show 0 < 35 by decide)]
  exact hp
theorem sc_22 (h : fx_H) (q : Nat) : fx_i (k_MO_look (fx_wi (fx_wi h q 0 (0 : Int32)) q 42 (0 : Int32)) q) q 22 = fx_i h q 22 := by
  rw [mfr_f (mfr_look _ q) (by decide), fx_i_wi, if_neg (fun z => absurd z.2 (by decide)), fx_i_wi, if_neg (fun z => absurd z.2 (by decide))]
def v_MO_scan (h : fx_H) (q : Nat) : Int32 := if (10 : Int32) ≤ (fx_i (fx_wi h q 0 (0 : Int32)) q 42) then if (fx_i (k_MO_look (fx_wi (fx_wi h q 0 (0 : Int32)) q 42 (0 : Int32)) q) q 22) = (2 : Int32) then (-1 : Int32) else (-1 : Int32) else ((fx_i (fx_wi (fx_wi h q 0 (0 : Int32)) q 42 ((fx_i (fx_wi h q 0 (0 : Int32)) q 42) + (1 : Int32))) q 42) - (1 : Int32))
def k_MO_scan (h : fx_H) (q : Nat) : fx_H := if (10 : Int32) ≤ (fx_i (fx_wi h q 0 (0 : Int32)) q 42) then if (fx_i (k_MO_look (fx_wi (fx_wi h q 0 (0 : Int32)) q 42 (0 : Int32)) q) q 22) = (2 : Int32) then k_MO_change (k_MO_look (fx_wi (fx_wi h q 0 (0 : Int32)) q 42 (0 : Int32)) q) q else k_MO_look (fx_wi (fx_wi h q 0 (0 : Int32)) q 42 (0 : Int32)) q else fx_wi (fx_wi h q 0 (0 : Int32)) q 42 ((fx_i (fx_wi h q 0 (0 : Int32)) q 42) + (1 : Int32))
set_option maxRecDepth 100000 in
set_option maxHeartbeats 600000 in
theorem c_MO_scan {g : fx_G} (ok : fx_ok g) (h : fx_H) (q : Nat) (hm : isM h q) (hlk : lkPre h q) (hch : fx_i h q 22 = 2 → chPre h q) : fx_C g mq_MO_scan [.ref q] h (fx_is (some (v_MO_scan h q)) (k_MO_scan h q)) 0 0 := by
  refine fx_body (by decide +kernel) (Nat.le_of_ble_eq_true rfl) ?_
  show fx_X g mq_MO_scan 0 [(0, .ref q)] [] h _ 0 0
  refine fx_aload_n 0 dq_MO_scan_0 rfl rfl ?_
  refine fx_iconst (v := 0) dq_MO_scan_1 (by decide) ?_
  refine fx_puti ok fp_MO_126 hm.1 (by decide) dq_MO_scan_2 (Or.inl (by decide)) ?_
  refine fx_aload_n 0 dq_MO_scan_5 rfl rfl ?_
  refine fx_geti ok fq_MO_256 hm.1 dq_MO_scan_6 (by decide) ?_
  refine fx_bipush (v := 10) dq_MO_scan_9 (by decide) ?_
  refine fx_icmp_ge (tgt := 31) dq_MO_scan_11 (by decide) (fun hc11 => ?_) (fun hc11 => ?_)
  · -- 11: jump
    refine fx_aload_n 0 dq_MO_scan_31 rfl rfl ?_
    refine fx_iconst (v := 0) dq_MO_scan_32 (by decide) ?_
    refine fx_puti ok fp_MO_256 hm.1 (by decide) dq_MO_scan_33 (Or.inl (by decide)) ?_
    refine fx_aload_n 0 dq_MO_scan_36 rfl rfl ?_
    refine fx_Vv0 ok sq_MO_259 hm.1 (c_MO_look ok (fx_wi (fx_wi h q 0 (0 : Int32)) q 42 (0 : Int32)) q hm (lkPre_w (by decide) (lkPre_w (by decide) hlk))) (by decide) (Nat.le_of_ble_eq_true rfl) dq_MO_scan_37 ?_
    have e37 : fx_sm h (k_MO_look (fx_wi (fx_wi h q 0 (0 : Int32)) q 42 (0 : Int32)) q) := fx_sm_t (h' := (fx_wi (fx_wi h q 0 (0 : Int32)) q 42 (0 : Int32))) (rfl : fx_sm h (fx_wi (fx_wi h q 0 (0 : Int32)) q 42 (0 : Int32))) (mfr_look (fx_wi (fx_wi h q 0 (0 : Int32)) q 42 (0 : Int32)) q).1
    refine fx_aload_n 0 dq_MO_scan_40 rfl rfl ?_
    refine fx_geti ok fq_MO_216 ((fx_sm_s e37 _).trans hm.1) dq_MO_scan_41 (by decide) ?_
    refine fx_iconst (v := 2) dq_MO_scan_44 (by decide) ?_
    refine fx_icmp_ne (tgt := 52) dq_MO_scan_45 (by decide) (fun hc45 => ?_) (fun hc45 => ?_)
    · -- 45: jump
      refine fx_iconst (v := -1) dq_MO_scan_52 (by decide) ?_
      exact fx_ireturn rfl dq_MO_scan_53 ⟨by rw [v_MO_scan, if_pos hc11, if_neg hc45], by rw [k_MO_scan, if_pos hc11, if_neg hc45]⟩
    · -- 45: fall
      refine fx_aload_n 0 dq_MO_scan_48 rfl rfl ?_
      refine fx_Vv0 ok sq_MO_262 ((fx_sm_s e37 _).trans hm.1) (c_MO_change ok (k_MO_look (fx_wi (fx_wi h q 0 (0 : Int32)) q 42 (0 : Int32)) q) q (by exact isM_sm e37 hm) (chPre_m (mfr_t (mfr_wf (mfr_wf (mfr_rf _ _ _ _) (by decide)) (by decide)) (mfr_m (mfr_look _ _) (by decide) (by decide))) (hch ((sc_22 h q).symm.trans hc45)))) (by decide) (Nat.le_of_ble_eq_true rfl) dq_MO_scan_49 ?_
      have e49 : fx_sm h (k_MO_change (k_MO_look (fx_wi (fx_wi h q 0 (0 : Int32)) q 42 (0 : Int32)) q) q) := fx_sm_t (h' := (k_MO_look (fx_wi (fx_wi h q 0 (0 : Int32)) q 42 (0 : Int32)) q)) e37 (mfr_change (k_MO_look (fx_wi (fx_wi h q 0 (0 : Int32)) q 42 (0 : Int32)) q) q).1
      refine fx_iconst (v := -1) dq_MO_scan_52 (by decide) ?_
      exact fx_ireturn rfl dq_MO_scan_53 ⟨by rw [v_MO_scan, if_pos hc11, if_pos hc45], by rw [k_MO_scan, if_pos hc11, if_pos hc45]⟩
  · -- 11: fall
    refine fx_aload_n 0 dq_MO_scan_14 rfl rfl ?_
    refine fx_dup dq_MO_scan_15 rfl ?_
    refine fx_geti ok fq_MO_256 hm.1 dq_MO_scan_16 (by decide) ?_
    refine fx_iconst (v := 1) dq_MO_scan_19 (by decide) ?_
    refine fx_iadd dq_MO_scan_20 ?_
    refine fx_puti ok fp_MO_256 hm.1 (by decide) dq_MO_scan_21 (Or.inl (by decide)) ?_
    refine fx_aload_n 0 dq_MO_scan_24 rfl rfl ?_
    refine fx_geti ok fq_MO_256 hm.1 dq_MO_scan_25 (by decide) ?_
    refine fx_iconst (v := 1) dq_MO_scan_28 (by decide) ?_
    refine fx_isub dq_MO_scan_29 ?_
    exact fx_ireturn rfl dq_MO_scan_30 ⟨by rw [v_MO_scan, if_neg hc11], by rw [k_MO_scan, if_neg hc11]⟩
