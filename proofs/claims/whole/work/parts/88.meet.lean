/-! ===== the Model: meet ===== -/
def pre_MO_meet (h : fx_H) (q : Nat) (n : Int32) : Prop := (¬ (v_MO_nth h q 20 n) < 0 → (v_MO_isPlane (fx_wi h q 40 (0 : Int32)) q ((v_MO_nth h q 20 n) - (20 : Int32))) = 0 → vp_in (v_MO_nth h q 20 n) 30) ∧ (¬ (v_MO_nth h q 20 n) < 0 → (v_MO_isPlane (fx_wi h q 40 (0 : Int32)) q ((v_MO_nth h q 20 n) - (20 : Int32))) = 0 → ¬ (fx_i (k_MO_show (fx_wi h q 40 (0 : Int32)) q (v_MO_nth h q 20 n)) q 40) = 0 → vp_in (((7 : Int32) * (fx_i (k_MO_show (fx_wi h q 40 (0 : Int32)) q (v_MO_nth h q 20 n)) q 23)) + (fx_i (k_MO_show (fx_wi h q 40 (0 : Int32)) q (v_MO_nth h q 20 n)) q 31)) 14)
def k_MO_meet (h : fx_H) (q : Nat) (n : Int32) : fx_H := if (v_MO_nth h q 20 n) < 0 then fx_wi h q 40 (0 : Int32) else if (v_MO_isPlane (fx_wi h q 40 (0 : Int32)) q ((v_MO_nth h q 20 n) - (20 : Int32))) = 0 then if (fx_i (k_MO_show (fx_wi h q 40 (0 : Int32)) q (v_MO_nth h q 20 n)) q 40) = 0 then k_MO_show (fx_wi h q 40 (0 : Int32)) q (v_MO_nth h q 20 n) else k_MO_cut (k_MO_show (fx_wi h q 40 (0 : Int32)) q (v_MO_nth h q 20 n)) q (fx_i (k_MO_show (fx_wi h q 40 (0 : Int32)) q (v_MO_nth h q 20 n)) (q + 22) (((7 : Int32) * (fx_i (k_MO_show (fx_wi h q 40 (0 : Int32)) q (v_MO_nth h q 20 n)) q 23)) + (fx_i (k_MO_show (fx_wi h q 40 (0 : Int32)) q (v_MO_nth h q 20 n)) q 31)).toNatClampNeg) (fx_i (k_MO_show (fx_wi h q 40 (0 : Int32)) q (v_MO_nth h q 20 n)) (q + 23) (((7 : Int32) * (fx_i (k_MO_show (fx_wi h q 40 (0 : Int32)) q (v_MO_nth h q 20 n)) q 23)) + (fx_i (k_MO_show (fx_wi h q 40 (0 : Int32)) q (v_MO_nth h q 20 n)) q 31)).toNatClampNeg) ((fx_i (k_MO_show (fx_wi h q 40 (0 : Int32)) q (v_MO_nth h q 20 n)) (q + 22) (((7 : Int32) * (fx_i (k_MO_show (fx_wi h q 40 (0 : Int32)) q (v_MO_nth h q 20 n)) q 23)) + (fx_i (k_MO_show (fx_wi h q 40 (0 : Int32)) q (v_MO_nth h q 20 n)) q 31)).toNatClampNeg) + (fx_i (k_MO_show (fx_wi h q 40 (0 : Int32)) q (v_MO_nth h q 20 n)) (q + 24) (((7 : Int32) * (fx_i (k_MO_show (fx_wi h q 40 (0 : Int32)) q (v_MO_nth h q 20 n)) q 23)) + (fx_i (k_MO_show (fx_wi h q 40 (0 : Int32)) q (v_MO_nth h q 20 n)) q 31)).toNatClampNeg)) ((fx_i (k_MO_show (fx_wi h q 40 (0 : Int32)) q (v_MO_nth h q 20 n)) (q + 23) (((7 : Int32) * (fx_i (k_MO_show (fx_wi h q 40 (0 : Int32)) q (v_MO_nth h q 20 n)) q 23)) + (fx_i (k_MO_show (fx_wi h q 40 (0 : Int32)) q (v_MO_nth h q 20 n)) q 31)).toNatClampNeg) + (fx_i (k_MO_show (fx_wi h q 40 (0 : Int32)) q (v_MO_nth h q 20 n)) (q + 25) (((7 : Int32) * (fx_i (k_MO_show (fx_wi h q 40 (0 : Int32)) q (v_MO_nth h q 20 n)) q 23)) + (fx_i (k_MO_show (fx_wi h q 40 (0 : Int32)) q (v_MO_nth h q 20 n)) q 31)).toNatClampNeg)) else fx_wi h q 40 (0 : Int32)
set_option maxRecDepth 100000 in
set_option maxHeartbeats 600000 in
theorem c_MO_meet {g : fx_G} (ok : fx_ok g) (h : fx_H) (q : Nat) (n : Int32) (hm : isM h q) (hN : pre_MO_meet h q n) : fx_C g mq_MO_meet [.ref q, .int n] h (fx_is none (k_MO_meet h q n)) 0 0 := by
  refine fx_body (by decide +kernel) (Nat.le_of_ble_eq_true rfl) ?_
  show fx_X g mq_MO_meet 0 [(0, .ref q), (1, .int n)] [] h _ 0 0
  have hN0 := hN.1
  have hN1 := hN.2
  refine fx_aload_n 0 dq_MO_meet_0 rfl rfl ?_
  refine fx_bipush (v := 20) dq_MO_meet_1 (by decide) ?_
  refine fx_iload_n 1 dq_MO_meet_3 rfl rfl ?_
  refine fx_Vi2 ok sq_MO_201 hm.1 (c_MO_nth ok h q 20 n (by exact hm) (by decide)) (by decide) (Nat.le_of_ble_eq_true rfl) dq_MO_meet_4 ?_
  refine fx_istore_n dq_MO_meet_7 rfl (by decide) rfl ?_
  refine fx_aload_n 1 dq_MO_meet_8 rfl rfl ?_
  refine fx_iconst (v := 0) dq_MO_meet_9 (by decide) ?_
  refine fx_puti ok fp_MO_144 hm.1 (by decide) dq_MO_meet_10 (Or.inl (by decide)) ?_
  refine fx_iload_n 0 dq_MO_meet_13 rfl rfl ?_
  refine fx_if_lt (tgt := 28) dq_MO_meet_14 (by decide) (fun hc14 => ?_) (fun hc14 => ?_)
  · -- 14: jump
    exact fx_vreturn rfl dq_MO_meet_28 ⟨rfl, by rw [k_MO_meet, if_pos hc14]⟩
  · -- 14: fall
    refine fx_aload_n 1 dq_MO_meet_17 rfl rfl ?_
    refine fx_iload_n 0 dq_MO_meet_18 rfl rfl ?_
    refine fx_bipush (v := 20) dq_MO_meet_19 (by decide) ?_
    refine fx_isub dq_MO_meet_21 ?_
    refine fx_Vi1 ok sq_MO_207 hm.1 (c_MO_isPlane ok (fx_wi h q 40 (0 : Int32)) q ((v_MO_nth h q 20 n) - (20 : Int32)) (by exact hm)) (by decide) (Nat.le_of_ble_eq_true rfl) dq_MO_meet_22 ?_
    refine fx_if_eq (tgt := 29) dq_MO_meet_25 (by decide) (fun hc25 => ?_) (fun hc25 => ?_)
    · -- 25: jump
      refine fx_aload_n 1 dq_MO_meet_29 rfl rfl ?_
      refine fx_iload_n 0 dq_MO_meet_30 rfl rfl ?_
      refine fx_Vv1 ok sq_MO_204 hm.1 (c_MO_show ok (fx_wi h q 40 (0 : Int32)) q (v_MO_nth h q 20 n) (by exact hm) (hN0 hc14 hc25)) (by decide) (Nat.le_of_ble_eq_true rfl) dq_MO_meet_31 ?_
      have e31 : fx_sm h (k_MO_show (fx_wi h q 40 (0 : Int32)) q (v_MO_nth h q 20 n)) := fx_sm_t (h' := (fx_wi h q 40 (0 : Int32))) (rfl : fx_sm h (fx_wi h q 40 (0 : Int32))) (sm_MO_show (fx_wi h q 40 (0 : Int32)) q (v_MO_nth h q 20 n))
      refine fx_aload_n 1 dq_MO_meet_34 rfl rfl ?_
      refine fx_geti ok fq_MO_144 ((fx_sm_s e31 _).trans hm.1) dq_MO_meet_35 (by decide) ?_
      refine fx_if_ne (tgt := 42) dq_MO_meet_38 (by decide) (fun hc38 => ?_) (fun hc38 => ?_)
      · -- 38: jump
        refine fx_bipush (v := 7) dq_MO_meet_42 (by decide) ?_
        refine fx_aload_n 1 dq_MO_meet_44 rfl rfl ?_
        refine fx_geti ok fq_MO_68 ((fx_sm_s e31 _).trans hm.1) dq_MO_meet_45 (by decide) ?_
        refine fx_imul dq_MO_meet_48 ?_
        refine fx_aload_n 1 dq_MO_meet_49 rfl rfl ?_
        refine fx_geti ok fq_MO_219 ((fx_sm_s e31 _).trans hm.1) dq_MO_meet_50 (by decide) ?_
        refine fx_iadd dq_MO_meet_53 ?_
        refine fx_istore_n dq_MO_meet_54 rfl (by decide) rfl ?_
        refine fx_aload_n 2 dq_MO_meet_55 rfl rfl ?_
        refine fx_aload_n 2 dq_MO_meet_56 rfl rfl ?_
        refine fx_getr ok fq_MO_78 ((fx_sm_s e31 _).trans hm.1) dq_MO_meet_57 (by decide) ((fx_sm_r e31 _ _).trans (mo_mx hm).1) ?_
        refine fx_iload_n 0 dq_MO_meet_60 rfl rfl ?_
        refine fx_iaload ok ((fx_sm_s e31 _).trans (mo_mx hm).2) (hN1 hc14 hc25 hc38) dq_MO_meet_61 ?_
        refine fx_aload_n 2 dq_MO_meet_62 rfl rfl ?_
        refine fx_getr ok fq_MO_81 ((fx_sm_s e31 _).trans hm.1) dq_MO_meet_63 (by decide) ((fx_sm_r e31 _ _).trans (mo_my hm).1) ?_
        refine fx_iload_n 0 dq_MO_meet_66 rfl rfl ?_
        refine fx_iaload ok ((fx_sm_s e31 _).trans (mo_my hm).2) (hN1 hc14 hc25 hc38) dq_MO_meet_67 ?_
        refine fx_aload_n 2 dq_MO_meet_68 rfl rfl ?_
        refine fx_getr ok fq_MO_78 ((fx_sm_s e31 _).trans hm.1) dq_MO_meet_69 (by decide) ((fx_sm_r e31 _ _).trans (mo_mx hm).1) ?_
        refine fx_iload_n 0 dq_MO_meet_72 rfl rfl ?_
        refine fx_iaload ok ((fx_sm_s e31 _).trans (mo_mx hm).2) (hN1 hc14 hc25 hc38) dq_MO_meet_73 ?_
        refine fx_aload_n 2 dq_MO_meet_74 rfl rfl ?_
        refine fx_getr ok fq_MO_84 ((fx_sm_s e31 _).trans hm.1) dq_MO_meet_75 (by decide) ((fx_sm_r e31 _ _).trans (mo_mw hm).1) ?_
        refine fx_iload_n 0 dq_MO_meet_78 rfl rfl ?_
        refine fx_iaload ok ((fx_sm_s e31 _).trans (mo_mw hm).2) (hN1 hc14 hc25 hc38) dq_MO_meet_79 ?_
        refine fx_iadd dq_MO_meet_80 ?_
        refine fx_aload_n 2 dq_MO_meet_81 rfl rfl ?_
        refine fx_getr ok fq_MO_81 ((fx_sm_s e31 _).trans hm.1) dq_MO_meet_82 (by decide) ((fx_sm_r e31 _ _).trans (mo_my hm).1) ?_
        refine fx_iload_n 0 dq_MO_meet_85 rfl rfl ?_
        refine fx_iaload ok ((fx_sm_s e31 _).trans (mo_my hm).2) (hN1 hc14 hc25 hc38) dq_MO_meet_86 ?_
        refine fx_aload_n 2 dq_MO_meet_87 rfl rfl ?_
        refine fx_getr ok fq_MO_87 ((fx_sm_s e31 _).trans hm.1) dq_MO_meet_88 (by decide) ((fx_sm_r e31 _ _).trans (mo_mh hm).1) ?_
        refine fx_iload_n 0 dq_MO_meet_91 rfl rfl ?_
        refine fx_iaload ok ((fx_sm_s e31 _).trans (mo_mh hm).2) (hN1 hc14 hc25 hc38) dq_MO_meet_92 ?_
        refine fx_iadd dq_MO_meet_93 ?_
        refine fx_Vv4 ok sq_MO_174 ((fx_sm_s e31 _).trans hm.1) (c_MO_cut ok (k_MO_show (fx_wi h q 40 (0 : Int32)) q (v_MO_nth h q 20 n)) q (fx_i (k_MO_show (fx_wi h q 40 (0 : Int32)) q (v_MO_nth h q 20 n)) (q + 22) (((7 : Int32) * (fx_i (k_MO_show (fx_wi h q 40 (0 : Int32)) q (v_MO_nth h q 20 n)) q 23)) + (fx_i (k_MO_show (fx_wi h q 40 (0 : Int32)) q (v_MO_nth h q 20 n)) q 31)).toNatClampNeg) (fx_i (k_MO_show (fx_wi h q 40 (0 : Int32)) q (v_MO_nth h q 20 n)) (q + 23) (((7 : Int32) * (fx_i (k_MO_show (fx_wi h q 40 (0 : Int32)) q (v_MO_nth h q 20 n)) q 23)) + (fx_i (k_MO_show (fx_wi h q 40 (0 : Int32)) q (v_MO_nth h q 20 n)) q 31)).toNatClampNeg) ((fx_i (k_MO_show (fx_wi h q 40 (0 : Int32)) q (v_MO_nth h q 20 n)) (q + 22) (((7 : Int32) * (fx_i (k_MO_show (fx_wi h q 40 (0 : Int32)) q (v_MO_nth h q 20 n)) q 23)) + (fx_i (k_MO_show (fx_wi h q 40 (0 : Int32)) q (v_MO_nth h q 20 n)) q 31)).toNatClampNeg) + (fx_i (k_MO_show (fx_wi h q 40 (0 : Int32)) q (v_MO_nth h q 20 n)) (q + 24) (((7 : Int32) * (fx_i (k_MO_show (fx_wi h q 40 (0 : Int32)) q (v_MO_nth h q 20 n)) q 23)) + (fx_i (k_MO_show (fx_wi h q 40 (0 : Int32)) q (v_MO_nth h q 20 n)) q 31)).toNatClampNeg)) ((fx_i (k_MO_show (fx_wi h q 40 (0 : Int32)) q (v_MO_nth h q 20 n)) (q + 23) (((7 : Int32) * (fx_i (k_MO_show (fx_wi h q 40 (0 : Int32)) q (v_MO_nth h q 20 n)) q 23)) + (fx_i (k_MO_show (fx_wi h q 40 (0 : Int32)) q (v_MO_nth h q 20 n)) q 31)).toNatClampNeg) + (fx_i (k_MO_show (fx_wi h q 40 (0 : Int32)) q (v_MO_nth h q 20 n)) (q + 25) (((7 : Int32) * (fx_i (k_MO_show (fx_wi h q 40 (0 : Int32)) q (v_MO_nth h q 20 n)) q 23)) + (fx_i (k_MO_show (fx_wi h q 40 (0 : Int32)) q (v_MO_nth h q 20 n)) q 31)).toNatClampNeg)) (by exact isM_sm e31 hm)) (by decide) (Nat.le_of_ble_eq_true rfl) dq_MO_meet_94 ?_
        have e94 : fx_sm h (k_MO_cut (k_MO_show (fx_wi h q 40 (0 : Int32)) q (v_MO_nth h q 20 n)) q (fx_i (k_MO_show (fx_wi h q 40 (0 : Int32)) q (v_MO_nth h q 20 n)) (q + 22) (((7 : Int32) * (fx_i (k_MO_show (fx_wi h q 40 (0 : Int32)) q (v_MO_nth h q 20 n)) q 23)) + (fx_i (k_MO_show (fx_wi h q 40 (0 : Int32)) q (v_MO_nth h q 20 n)) q 31)).toNatClampNeg) (fx_i (k_MO_show (fx_wi h q 40 (0 : Int32)) q (v_MO_nth h q 20 n)) (q + 23) (((7 : Int32) * (fx_i (k_MO_show (fx_wi h q 40 (0 : Int32)) q (v_MO_nth h q 20 n)) q 23)) + (fx_i (k_MO_show (fx_wi h q 40 (0 : Int32)) q (v_MO_nth h q 20 n)) q 31)).toNatClampNeg) ((fx_i (k_MO_show (fx_wi h q 40 (0 : Int32)) q (v_MO_nth h q 20 n)) (q + 22) (((7 : Int32) * (fx_i (k_MO_show (fx_wi h q 40 (0 : Int32)) q (v_MO_nth h q 20 n)) q 23)) + (fx_i (k_MO_show (fx_wi h q 40 (0 : Int32)) q (v_MO_nth h q 20 n)) q 31)).toNatClampNeg) + (fx_i (k_MO_show (fx_wi h q 40 (0 : Int32)) q (v_MO_nth h q 20 n)) (q + 24) (((7 : Int32) * (fx_i (k_MO_show (fx_wi h q 40 (0 : Int32)) q (v_MO_nth h q 20 n)) q 23)) + (fx_i (k_MO_show (fx_wi h q 40 (0 : Int32)) q (v_MO_nth h q 20 n)) q 31)).toNatClampNeg)) ((fx_i (k_MO_show (fx_wi h q 40 (0 : Int32)) q (v_MO_nth h q 20 n)) (q + 23) (((7 : Int32) * (fx_i (k_MO_show (fx_wi h q 40 (0 : Int32)) q (v_MO_nth h q 20 n)) q 23)) + (fx_i (k_MO_show (fx_wi h q 40 (0 : Int32)) q (v_MO_nth h q 20 n)) q 31)).toNatClampNeg) + (fx_i (k_MO_show (fx_wi h q 40 (0 : Int32)) q (v_MO_nth h q 20 n)) (q + 25) (((7 : Int32) * (fx_i (k_MO_show (fx_wi h q 40 (0 : Int32)) q (v_MO_nth h q 20 n)) q 23)) + (fx_i (k_MO_show (fx_wi h q 40 (0 : Int32)) q (v_MO_nth h q 20 n)) q 31)).toNatClampNeg))) := fx_sm_t (h' := (k_MO_show (fx_wi h q 40 (0 : Int32)) q (v_MO_nth h q 20 n))) e31 (sm_MO_cut (k_MO_show (fx_wi h q 40 (0 : Int32)) q (v_MO_nth h q 20 n)) q (fx_i (k_MO_show (fx_wi h q 40 (0 : Int32)) q (v_MO_nth h q 20 n)) (q + 22) (((7 : Int32) * (fx_i (k_MO_show (fx_wi h q 40 (0 : Int32)) q (v_MO_nth h q 20 n)) q 23)) + (fx_i (k_MO_show (fx_wi h q 40 (0 : Int32)) q (v_MO_nth h q 20 n)) q 31)).toNatClampNeg) (fx_i (k_MO_show (fx_wi h q 40 (0 : Int32)) q (v_MO_nth h q 20 n)) (q + 23) (((7 : Int32) * (fx_i (k_MO_show (fx_wi h q 40 (0 : Int32)) q (v_MO_nth h q 20 n)) q 23)) + (fx_i (k_MO_show (fx_wi h q 40 (0 : Int32)) q (v_MO_nth h q 20 n)) q 31)).toNatClampNeg) ((fx_i (k_MO_show (fx_wi h q 40 (0 : Int32)) q (v_MO_nth h q 20 n)) (q + 22) (((7 : Int32) * (fx_i (k_MO_show (fx_wi h q 40 (0 : Int32)) q (v_MO_nth h q 20 n)) q 23)) + (fx_i (k_MO_show (fx_wi h q 40 (0 : Int32)) q (v_MO_nth h q 20 n)) q 31)).toNatClampNeg) + (fx_i (k_MO_show (fx_wi h q 40 (0 : Int32)) q (v_MO_nth h q 20 n)) (q + 24) (((7 : Int32) * (fx_i (k_MO_show (fx_wi h q 40 (0 : Int32)) q (v_MO_nth h q 20 n)) q 23)) + (fx_i (k_MO_show (fx_wi h q 40 (0 : Int32)) q (v_MO_nth h q 20 n)) q 31)).toNatClampNeg)) ((fx_i (k_MO_show (fx_wi h q 40 (0 : Int32)) q (v_MO_nth h q 20 n)) (q + 23) (((7 : Int32) * (fx_i (k_MO_show (fx_wi h q 40 (0 : Int32)) q (v_MO_nth h q 20 n)) q 23)) + (fx_i (k_MO_show (fx_wi h q 40 (0 : Int32)) q (v_MO_nth h q 20 n)) q 31)).toNatClampNeg) + (fx_i (k_MO_show (fx_wi h q 40 (0 : Int32)) q (v_MO_nth h q 20 n)) (q + 25) (((7 : Int32) * (fx_i (k_MO_show (fx_wi h q 40 (0 : Int32)) q (v_MO_nth h q 20 n)) q 23)) + (fx_i (k_MO_show (fx_wi h q 40 (0 : Int32)) q (v_MO_nth h q 20 n)) q 31)).toNatClampNeg)))
        exact fx_vreturn rfl dq_MO_meet_97 ⟨rfl, by rw [k_MO_meet, if_neg hc14, if_pos hc25, if_neg hc38]⟩
      · -- 38: fall
        exact fx_vreturn rfl dq_MO_meet_41 ⟨rfl, by rw [k_MO_meet, if_neg hc14, if_pos hc25, if_pos hc38]⟩
    · -- 25: fall
      exact fx_vreturn rfl dq_MO_meet_28 ⟨rfl, by rw [k_MO_meet, if_neg hc14, if_neg hc25]⟩
theorem sm_MO_meet (h : fx_H) (q : Nat) (n : Int32) : fx_sm h (k_MO_meet h q n) := by
  unfold k_MO_meet
  repeat' split
  all_goals first | with_reducible exact sm_wi _ _ _ _ | with_reducible exact fx_sm_t (sm_wi _ _ _ _) (sm_MO_show _ _ _) | with_reducible exact fx_sm_t (fx_sm_t (sm_wi _ _ _ _) (sm_MO_show _ _ _)) (sm_MO_cut _ _ _ _ _ _)
