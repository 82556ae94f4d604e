/-! ===== the Model: free ===== -/
def fpS (h : fx_H) (q s : Nat) (n : Int32) : Int32 := if fx_i h (q + 1) s = 0 then n - 0 else n - fx_i h (q + 3) s * fx_i h (q + 4) s
def v_MO_freePixels (h : fx_H) (q : Nat)  : Int32 := (itg (fpS h q) 300 10)
set_option maxRecDepth 100000 in
set_option maxHeartbeats 600000 in
theorem c_MO_freePixels {g : fx_G} (ok : fx_ok g) (h : fx_H) (q : Nat)  (hm : isM h q)  : fx_C g mq_MO_freePixels [.ref q] h (fx_is (some (v_MO_freePixels h q)) h) 0 0 := by
  refine fx_body (by decide +kernel) (Nat.le_of_ble_eq_true rfl) ?_
  show fx_X g mq_MO_freePixels 0 [(0, .ref q)] [] h _ 0 0
  refine fx_sipush (v := 300) dq_MO_freePixels_0 (by decide) ?_
  refine fx_istore_n dq_MO_freePixels_3 rfl (by decide) rfl ?_
  refine fx_iconst (v := 0) dq_MO_freePixels_4 (by decide) ?_
  refine fx_istore_n dq_MO_freePixels_5 rfl (by decide) rfl ?_
  refine fx_forv (fun i => [(2, .int (nI i)), (1, .int (itg (fpS h q) 300 i)), (0, .ref q)]) h 10 (fun i hi hK6 => ?_) ?_
  · skip
    refine fx_iload_n 0 dq_MO_freePixels_6 rfl rfl ?_
    refine fx_bipush (v := 10) dq_MO_freePixels_7 (by decide) ?_
    refine fx_icmp_ge (tgt := 47) dq_MO_freePixels_9 (by decide) (fun hc9 => absurd hc9 (nI_ge (b := 10) hi (by decide))) (fun hc9 => ?_)
    refine fx_iload_n 1 dq_MO_freePixels_12 rfl rfl ?_
    refine fx_aload_n 2 dq_MO_freePixels_13 rfl rfl ?_
    refine fx_getr ok fq_MO_7 hm.1 dq_MO_freePixels_14 (by decide) (mo_used hm).1 ?_
    refine fx_iload_n 0 dq_MO_freePixels_17 rfl rfl ?_
    refine fx_baN ok (mo_used hm).2 ⟨hi, by decide⟩ dq_MO_freePixels_18 ?_
    refine fx_if_eq (tgt := 38) dq_MO_freePixels_19 (by decide) (fun hc19 => ?_) (fun hc19 => ?_)
    · -- 19: jump
      refine fx_iconst (v := 0) dq_MO_freePixels_38 (by decide) ?_
      refine fx_isub dq_MO_freePixels_39 ?_
      refine fx_istore_n dq_MO_freePixels_40 rfl (by decide) rfl ?_
      refine fx_iinc 1 dq_MO_freePixels_41 rfl (jz_i _) (by decide) rfl ?_
      refine fx_goto (tgt := 6) dq_MO_freePixels_44 (by decide) ?_
      refine fx_sub [0, 1, 2] rfl ?_
      rw [itg_s, fpS, if_pos hc19] at hK6
      exact hK6
    · -- 19: fall
      refine fx_aload_n 2 dq_MO_freePixels_22 rfl rfl ?_
      refine fx_getr ok fq_MO_17 hm.1 dq_MO_freePixels_23 (by decide) (mo_columns hm).1 ?_
      refine fx_iload_n 0 dq_MO_freePixels_26 rfl rfl ?_
      refine fx_iaN ok (mo_columns hm).2 ⟨hi, by decide⟩ dq_MO_freePixels_27 ?_
      refine fx_aload_n 2 dq_MO_freePixels_28 rfl rfl ?_
      refine fx_getr ok fq_MO_20 hm.1 dq_MO_freePixels_29 (by decide) (mo_rows hm).1 ?_
      refine fx_iload_n 0 dq_MO_freePixels_32 rfl rfl ?_
      refine fx_iaN ok (mo_rows hm).2 ⟨hi, by decide⟩ dq_MO_freePixels_33 ?_
      refine fx_imul dq_MO_freePixels_34 ?_
      refine fx_goto (tgt := 39) dq_MO_freePixels_35 (by decide) ?_
      refine fx_isub dq_MO_freePixels_39 ?_
      refine fx_istore_n dq_MO_freePixels_40 rfl (by decide) rfl ?_
      refine fx_iinc 1 dq_MO_freePixels_41 rfl (jz_i _) (by decide) rfl ?_
      refine fx_goto (tgt := 6) dq_MO_freePixels_44 (by decide) ?_
      refine fx_sub [0, 1, 2] rfl ?_
      rw [itg_s, fpS, if_neg hc19] at hK6
      exact hK6
  · skip
    refine fx_iload_n 0 dq_MO_freePixels_6 rfl rfl ?_
    refine fx_bipush (v := 10) dq_MO_freePixels_7 (by decide) ?_
    refine fx_icmp_ge (tgt := 47) dq_MO_freePixels_9 (by decide) (fun hc9 => ?_) (fun hc9 => absurd (by decide) hc9)
    refine fx_iload_n 1 dq_MO_freePixels_47 rfl rfl ?_
    exact fx_ireturn rfl dq_MO_freePixels_48 ⟨rfl, rfl⟩
def v_MO_free (h : fx_H) (q : Nat)  : Int32 := (v_MO_freePixels (fx_wi h q 0 (0 : Int32)) q )
def k_MO_free (h : fx_H) (q : Nat)  : fx_H := fx_wi h q 0 (0 : Int32)
set_option maxRecDepth 100000 in
set_option maxHeartbeats 600000 in
theorem c_MO_free {g : fx_G} (ok : fx_ok g) (h : fx_H) (q : Nat)  (hm : isM h q)  : fx_C g mq_MO_free [.ref q] h (fx_is (some (v_MO_free h q)) (k_MO_free h q)) 0 0 := by
  refine fx_body (by decide +kernel) (Nat.le_of_ble_eq_true rfl) ?_
  show fx_X g mq_MO_free 0 [(0, .ref q)] [] h _ 0 0
  refine fx_aload_n 0 dq_MO_free_0 rfl rfl ?_
  refine fx_iconst (v := 0) dq_MO_free_1 (by decide) ?_
  refine fx_puti ok fp_MO_126 hm.1 (by decide) dq_MO_free_2 (Or.inl (by decide)) ?_
  refine fx_aload_n 0 dq_MO_free_5 rfl rfl ?_
  refine fx_Vi0 ok sq_MO_133 hm.1 (c_MO_freePixels ok (fx_wi h q 0 (0 : Int32)) q  (by exact hm)) (by decide) (Nat.le_of_ble_eq_true rfl) dq_MO_free_6 ?_
  exact fx_ireturn rfl dq_MO_free_9 ⟨rfl, rfl⟩
