/-! ===== the Model: commit ===== -/
theorem sm_MO_copyPicture (h : fx_H) (q : Nat) (a t : Int32) : fx_sm h (k_MO_copyPicture h q a t) := by
  unfold k_MO_copyPicture
  refine fx_sm_t (h' := cq10 h q a t) ?_ (fx_sm_it (by intro _ _; unfold b_MO_copyPicture; rfl) _ 96)
  rfl
theorem px_in {p i : Nat} (hp : p < 30) (hi : i < 96) : vp_in (96 * nI p + nI i) 2880 := by
  have e0 : (96 : Int32).toInt = 96 := rfl
  have e1 : (nI p).toInt = p := nI_toInt (by omega)
  have e2 : (nI i).toInt = i := nI_toInt (by omega)
  have h1 : (96 * nI p).toInt = 96 * (p : Int) := by rw [iz_mul (by rw [e0, e1]; omega), e0, e1]
  have h2 : (96 * nI p + nI i).toInt = 96 * (p : Int) + i := by rw [iz_add (by rw [h1, e2]; omega), h1, e2]
  exact iz_in (by omega) (by omega)
theorem jz_a {i : Nat} (hi : i < 10) : (10 : Int32) + nI i = nI (10 + i) := by
  have e0 : (10 : Int32).toInt = 10 := rfl
  have e1 : (nI i).toInt = i := nI_toInt (by omega)
  rw [iz_eq, iz_add (by rw [e0, e1]; omega), e0, e1, nI_toInt (by omega)]
  omega
def b_MO_commit (q : Nat) (cl : Int32) (i : Nat) (k : fx_H) : fx_H := if fx_i k (q + 1) i = 0 then k else if fx_i k (q + 2) i = cl then fx_wi (k_MO_copyPicture k q (nI i) (10 + nI i)) (q + 6) i (fx_i (k_MO_copyPicture k q (nI i) (10 + nI i)) (q + 5) i) else k
theorem sm_b_MO_commit (q : Nat) (cl : Int32) (i : Nat) (k : fx_H) : fx_sm k (b_MO_commit q cl i k) := by
  unfold b_MO_commit
  split
  · rfl
  · split
    · exact fx_sm_t (sm_MO_copyPicture k q (nI i) (10 + nI i)) (sm_wi _ _ _ _)
    · rfl
def v_MO_commit (h : fx_H) (q : Nat) (cl : Int32) : Int32 := if (v_MO_within h cl (0 : Int32) (3 : Int32)) = 0 then (0 : Int32) else if ((fx_i h q 19) - (fx_i h q 20)) = (6 : Int32) then (0 : Int32) else ((fx_i (fx_wi (it (b_MO_commit q cl) (fx_wi h q 0 (0 : Int32)) 10) (q + 19) cl.toNatClampNeg (1 : Int32)) q 19) + (1 : Int32))
def k_MO_commit (h : fx_H) (q : Nat) (cl : Int32) : fx_H := if (v_MO_within h cl (0 : Int32) (3 : Int32)) = 0 then fx_wi h q 0 (1 : Int32) else if ((fx_i h q 19) - (fx_i h q 20)) = (6 : Int32) then fx_wi h q 0 (2 : Int32) else fx_wi (fx_wi (it (b_MO_commit q cl) (fx_wi h q 0 (0 : Int32)) 10) (q + 19) cl.toNatClampNeg (1 : Int32)) q 19 ((fx_i (fx_wi (it (b_MO_commit q cl) (fx_wi h q 0 (0 : Int32)) 10) (q + 19) cl.toNatClampNeg (1 : Int32)) q 19) + (1 : Int32))
set_option maxRecDepth 100000 in
set_option maxHeartbeats 600000 in
theorem c_MO_commit {g : fx_G} (ok : fx_ok g) (h : fx_H) (q : Nat) (cl : Int32) (hm : isM h q) (hc : ¬ v_MO_within h cl 0 3 = 0 → vp_in cl 4) : fx_C g mq_MO_commit [.ref q, .int cl] h (fx_is (some (v_MO_commit h q cl)) (k_MO_commit h q cl)) 0 0 := by
  refine fx_body (by decide +kernel) (Nat.le_of_ble_eq_true rfl) ?_
  show fx_X g mq_MO_commit 0 [(0, .ref q), (1, .int cl)] [] h _ 0 0
  refine fx_aload_n 0 dq_MO_commit_0 rfl rfl ?_
  refine fx_iload_n 1 dq_MO_commit_1 rfl rfl ?_
  refine fx_iconst (v := 0) dq_MO_commit_2 (by decide) ?_
  refine fx_iconst (v := 3) dq_MO_commit_3 (by decide) ?_
  refine fx_Si3 ok sq_MO_129 (c_MO_within ok h cl (0 : Int32) (3 : Int32) ) (by decide) (Nat.le_of_ble_eq_true rfl) dq_MO_commit_4 ?_
  refine fx_if_ne (tgt := 14) dq_MO_commit_7 (by decide) (fun hc7 => ?_) (fun hc7 => ?_)
  · -- 7: jump
    refine fx_aload_n 0 dq_MO_commit_14 rfl rfl ?_
    refine fx_geti ok fq_MO_164 hm.1 dq_MO_commit_15 (by decide) ?_
    refine fx_aload_n 0 dq_MO_commit_18 rfl rfl ?_
    refine fx_geti ok fq_MO_167 hm.1 dq_MO_commit_19 (by decide) ?_
    refine fx_isub dq_MO_commit_22 ?_
    refine fx_bipush (v := 6) dq_MO_commit_23 (by decide) ?_
    refine fx_icmp_ne (tgt := 32) dq_MO_commit_25 (by decide) (fun hc25 => ?_) (fun hc25 => ?_)
    · -- 25: jump
      refine fx_iconst (v := 0) dq_MO_commit_32 (by decide) ?_
      refine fx_puti ok fp_MO_126 hm.1 (by decide) dq_MO_commit_33 (Or.inl (by decide)) ?_
      refine fx_aload_n 0 dq_MO_commit_36 rfl rfl ?_
      refine fx_geti ok fq_MO_126 hm.1 dq_MO_commit_37 (by decide) ?_
      refine fx_eqt (v' := (0 : Int32)) (by rw [fx_i_wi, if_pos ⟨rfl, rfl⟩]) ?_
      refine fx_if_eq (tgt := 45) dq_MO_commit_40 (by decide) (fun hc40 => ?_) (fun hc40 => absurd (by decide) hc40)
      refine fx_iconst (v := 0) dq_MO_commit_45 (by decide) ?_
      refine fx_istore_n dq_MO_commit_46 rfl (by decide) rfl ?_
      refine fx_for (fun i => [(2, .int (nI i)), (0, .ref q), (1, .int cl)]) (b_MO_commit q cl) (fx_wi h q 0 (0 : Int32)) 10 (fun i hi hK47 => ?_) ?_
      · have e47b : fx_sm h (it (b_MO_commit q cl) (fx_wi h q 0 (0 : Int32)) i) := fx_sm_t (h' := (fx_wi h q 0 (0 : Int32))) (rfl : fx_sm h (fx_wi h q 0 (0 : Int32))) (fx_sm_it (sm_b_MO_commit q cl) (fx_wi h q 0 (0 : Int32)) i)
        generalize it (b_MO_commit q cl) (fx_wi h q 0 (0 : Int32)) i = k at e47b hK47  ⊢
        refine fx_iload_n 0 dq_MO_commit_47 rfl rfl ?_
        refine fx_bipush (v := 10) dq_MO_commit_48 (by decide) ?_
        refine fx_icmp_ge (tgt := 102) dq_MO_commit_50 (by decide) (fun hc50 => absurd hc50 (nI_ge (b := 10) hi (by decide))) (fun hc50 => ?_)
        refine fx_aload_n 1 dq_MO_commit_53 rfl rfl ?_
        refine fx_getr ok fq_MO_7 ((fx_sm_s e47b _).trans hm.1) dq_MO_commit_54 (by decide) ((fx_sm_r e47b _ _).trans (mo_used hm).1) ?_
        refine fx_iload_n 0 dq_MO_commit_57 rfl rfl ?_
        refine fx_baN ok ((fx_sm_s e47b _).trans (mo_used hm).2) ⟨hi, by decide⟩ dq_MO_commit_58 ?_
        refine fx_if_eq (tgt := 96) dq_MO_commit_59 (by decide) (fun hc59 => ?_) (fun hc59 => ?_)
        · -- 59: jump
          refine fx_iinc 0 dq_MO_commit_96 rfl (jz_i _) (by decide) rfl ?_
          refine fx_goto (tgt := 47) dq_MO_commit_99 (by decide) ?_
          refine fx_sub [0, 1, 2] rfl ?_
          exact fx_eqh (by rw [b_MO_commit, if_pos hc59]) hK47
        · -- 59: fall
          refine fx_aload_n 1 dq_MO_commit_62 rfl rfl ?_
          refine fx_getr ok fq_MO_13 ((fx_sm_s e47b _).trans hm.1) dq_MO_commit_63 (by decide) ((fx_sm_r e47b _ _).trans (mo_client hm).1) ?_
          refine fx_iload_n 0 dq_MO_commit_66 rfl rfl ?_
          refine fx_iaN ok ((fx_sm_s e47b _).trans (mo_client hm).2) ⟨hi, by decide⟩ dq_MO_commit_67 ?_
          refine fx_iload_n 2 dq_MO_commit_68 rfl rfl ?_
          refine fx_icmp_eq (tgt := 75) dq_MO_commit_69 (by decide) (fun hc69 => ?_) (fun hc69 => ?_)
          · -- 69: jump
            refine fx_aload_n 1 dq_MO_commit_75 rfl rfl ?_
            refine fx_iload_n 0 dq_MO_commit_76 rfl rfl ?_
            refine fx_bipush (v := 10) dq_MO_commit_77 (by decide) ?_
            refine fx_iload_n 0 dq_MO_commit_79 rfl rfl ?_
            refine fx_iadd dq_MO_commit_80 ?_
            refine fx_Vv2 ok sq_MO_170 ((fx_sm_s e47b _).trans hm.1) (c_MO_copyPicture ok k q (nI i) (10 + nI i) (isM_sm e47b hm) (vp_in_nI (by omega) (by decide)) (by rw [jz_a hi]; exact vp_in_nI (by omega) (by decide)) (fun _ h9 => px_in (by omega) h9) (fun _ h9 => by rw [jz_a hi]; exact px_in (by omega) h9)) (by decide) (Nat.le_of_ble_eq_true rfl) dq_MO_commit_81 ?_
            have e81 : fx_sm h (k_MO_copyPicture k q (nI i) (10 + nI i)) := fx_sm_t (h' := k) e47b (sm_MO_copyPicture k q (nI i) (10 + nI i))
            refine fx_know (fx_bka i ((fx_sm_s e81 _).trans (mo_destroyed hm).2)) (fun hz => ?_)
            refine fx_aload_n 1 dq_MO_commit_84 rfl rfl ?_
            refine fx_getr ok fq_MO_26 ((fx_sm_s e81 _).trans hm.1) dq_MO_commit_85 (by decide) ((fx_sm_r e81 _ _).trans (mo_gone hm).1) ?_
            refine fx_iload_n 0 dq_MO_commit_88 rfl rfl ?_
            refine fx_aload_n 1 dq_MO_commit_89 rfl rfl ?_
            refine fx_getr ok fq_MO_23 ((fx_sm_s e81 _).trans hm.1) dq_MO_commit_90 (by decide) ((fx_sm_r e81 _ _).trans (mo_destroyed hm).1) ?_
            refine fx_iload_n 0 dq_MO_commit_93 rfl rfl ?_
            refine fx_baN ok ((fx_sm_s e81 _).trans (mo_destroyed hm).2) ⟨hi, by decide⟩ dq_MO_commit_94 ?_
            refine fx_bsN ok ((fx_sm_s e81 _).trans (mo_gone hm).2) hz ⟨hi, by decide⟩ dq_MO_commit_95 ?_
            have e95w : fx_sm h (fx_wi (k_MO_copyPicture k q (nI i) (10 + nI i)) (q + 6) i (fx_i (k_MO_copyPicture k q (nI i) (10 + nI i)) (q + 5) i)) := fx_sm_t (h' := (k_MO_copyPicture k q (nI i) (10 + nI i))) e81 (sm_wi _ _ _ _)
            refine fx_iinc 0 dq_MO_commit_96 rfl (jz_i _) (by decide) rfl ?_
            refine fx_goto (tgt := 47) dq_MO_commit_99 (by decide) ?_
            refine fx_sub [0, 1, 2] rfl ?_
            exact fx_eqh (by rw [b_MO_commit, if_neg hc59, if_pos hc69]) hK47
          · -- 69: fall
            refine fx_goto (tgt := 96) dq_MO_commit_72 (by decide) ?_
            refine fx_iinc 0 dq_MO_commit_96 rfl (jz_i _) (by decide) rfl ?_
            refine fx_goto (tgt := 47) dq_MO_commit_99 (by decide) ?_
            refine fx_sub [0, 1, 2] rfl ?_
            exact fx_eqh (by rw [b_MO_commit, if_neg hc59, if_neg hc69]) hK47
      · have e47x : fx_sm h (it (b_MO_commit q cl) (fx_wi h q 0 (0 : Int32)) 10) := fx_sm_t (h' := (fx_wi h q 0 (0 : Int32))) (rfl : fx_sm h (fx_wi h q 0 (0 : Int32))) (fx_sm_it (sm_b_MO_commit q cl) (fx_wi h q 0 (0 : Int32)) 10)
        refine fx_iload_n 0 dq_MO_commit_47 rfl rfl ?_
        refine fx_bipush (v := 10) dq_MO_commit_48 (by decide) ?_
        refine fx_icmp_ge (tgt := 102) dq_MO_commit_50 (by decide) (fun hc50 => ?_) (fun hc50 => absurd (by decide) hc50)
        refine fx_aload_n 1 dq_MO_commit_102 rfl rfl ?_
        refine fx_getr ok fq_MO_65 ((fx_sm_s e47x _).trans hm.1) dq_MO_commit_103 (by decide) ((fx_sm_r e47x _ _).trans (mo_committed hm).1) ?_
        refine fx_iload_n 2 dq_MO_commit_106 rfl rfl ?_
        refine fx_iconst (v := 1) dq_MO_commit_107 (by decide) ?_
        refine fx_bastore ok ((fx_sm_s e47x _).trans (mo_committed hm).2) (by decide) (hc hc7) dq_MO_commit_108 ?_
        have e108w : fx_sm h (fx_wi (it (b_MO_commit q cl) (fx_wi h q 0 (0 : Int32)) 10) (q + 19) cl.toNatClampNeg (1 : Int32)) := fx_sm_t (h' := (it (b_MO_commit q cl) (fx_wi h q 0 (0 : Int32)) 10)) e47x (sm_wi _ _ _ _)
        refine fx_aload_n 1 dq_MO_commit_109 rfl rfl ?_
        refine fx_dup dq_MO_commit_110 rfl ?_
        refine fx_geti ok fq_MO_164 ((fx_sm_s e108w _).trans hm.1) dq_MO_commit_111 (by decide) ?_
        refine fx_iconst (v := 1) dq_MO_commit_114 (by decide) ?_
        refine fx_iadd dq_MO_commit_115 ?_
        refine fx_puti ok fp_MO_164 ((fx_sm_s e108w _).trans hm.1) (by decide) dq_MO_commit_116 (Or.inl (by decide)) ?_
        have e116w : fx_sm h (fx_wi (fx_wi (it (b_MO_commit q cl) (fx_wi h q 0 (0 : Int32)) 10) (q + 19) cl.toNatClampNeg (1 : Int32)) q 19 ((fx_i (fx_wi (it (b_MO_commit q cl) (fx_wi h q 0 (0 : Int32)) 10) (q + 19) cl.toNatClampNeg (1 : Int32)) q 19) + (1 : Int32))) := fx_sm_t (h' := (fx_wi (it (b_MO_commit q cl) (fx_wi h q 0 (0 : Int32)) 10) (q + 19) cl.toNatClampNeg (1 : Int32))) e108w (sm_wi _ _ _ _)
        refine fx_aload_n 1 dq_MO_commit_119 rfl rfl ?_
        refine fx_geti ok fq_MO_164 ((fx_sm_s e116w _).trans hm.1) dq_MO_commit_120 (by decide) ?_
        refine fx_eqt (v' := ((fx_i (fx_wi (it (b_MO_commit q cl) (fx_wi h q 0 (0 : Int32)) 10) (q + 19) cl.toNatClampNeg (1 : Int32)) q 19) + (1 : Int32))) (by rw [fx_i_wi, if_pos ⟨rfl, rfl⟩]) ?_
        exact fx_ireturn rfl dq_MO_commit_123 ⟨by rw [v_MO_commit, if_neg hc7, if_neg hc25], by rw [k_MO_commit, if_neg hc7, if_neg hc25]⟩
    · -- 25: fall
      refine fx_iconst (v := 2) dq_MO_commit_28 (by decide) ?_
      refine fx_goto (tgt := 33) dq_MO_commit_29 (by decide) ?_
      refine fx_puti ok fp_MO_126 hm.1 (by decide) dq_MO_commit_33 (Or.inl (by decide)) ?_
      refine fx_aload_n 0 dq_MO_commit_36 rfl rfl ?_
      refine fx_geti ok fq_MO_126 hm.1 dq_MO_commit_37 (by decide) ?_
      refine fx_eqt (v' := (2 : Int32)) (by rw [fx_i_wi, if_pos ⟨rfl, rfl⟩]) ?_
      refine fx_if_eq (tgt := 45) dq_MO_commit_40 (by decide) (fun hc40 => absurd hc40 (by decide)) (fun hc40 => ?_)
      refine fx_iconst (v := 0) dq_MO_commit_43 (by decide) ?_
      exact fx_ireturn rfl dq_MO_commit_44 ⟨by rw [v_MO_commit, if_neg hc7, if_pos hc25], by rw [k_MO_commit, if_neg hc7, if_pos hc25]⟩
  · -- 7: fall
    refine fx_iconst (v := 1) dq_MO_commit_10 (by decide) ?_
    refine fx_goto (tgt := 33) dq_MO_commit_11 (by decide) ?_
    refine fx_puti ok fp_MO_126 hm.1 (by decide) dq_MO_commit_33 (Or.inl (by decide)) ?_
    refine fx_aload_n 0 dq_MO_commit_36 rfl rfl ?_
    refine fx_geti ok fq_MO_126 hm.1 dq_MO_commit_37 (by decide) ?_
    refine fx_eqt (v' := (1 : Int32)) (by rw [fx_i_wi, if_pos ⟨rfl, rfl⟩]) ?_
    refine fx_if_eq (tgt := 45) dq_MO_commit_40 (by decide) (fun hc40 => absurd hc40 (by decide)) (fun hc40 => ?_)
    refine fx_iconst (v := 0) dq_MO_commit_43 (by decide) ?_
    exact fx_ireturn rfl dq_MO_commit_44 ⟨by rw [v_MO_commit, if_pos hc7], by rw [k_MO_commit, if_pos hc7]⟩
