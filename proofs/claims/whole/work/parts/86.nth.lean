/-! ===== the Model: nth ===== -/
theorem jz_10 {k : Nat} (hk : k ≤ 20) : nI k + 10 = nI (k + 10) := by
  have e0 : (10 : Int32).toInt = 10 := rfl
  have e1 : (nI k).toInt = k := nI_toInt (by omega)
  rw [iz_eq, iz_add (by rw [e0, e1]; omega), e0, e1, nI_toInt (by omega)]
  omega
/-- one more picture below p? -/
def nthS (h : fx_H) (q kd p j : Nat) (c : Int32) : Int32 := if nI (kd + j) = nI p then c + 0 else if fx_i h (q + 7) (kd + j) = 0 then c + 0 else if v_MO_isAbove h q (nI p) (nI (kd + j)) = 0 then c + 0 else c + 1
def v_MO_nth (h : fx_H) (q kd : Nat) (m : Int32) : Int32 := srch (fun p => decide (¬ fx_i h (q + 7) p = 0 ∧ itg (nthS h q kd p) 0 10 = m)) (fun p => nI p) (-1) kd ((kd + 10) - kd)
set_option maxRecDepth 100000 in
set_option maxHeartbeats 600000 in
theorem c_MO_nth {g : fx_G} (ok : fx_ok g) (h : fx_H) (q kd : Nat) (m : Int32) (hm : isM h q) (hkd : kd ≤ 20) : fx_C g mq_MO_nth [.ref q, .int (nI kd), .int m] h (fx_is (some (v_MO_nth h q kd m)) h) 0 0 := by
  refine fx_body (by decide +kernel) (Nat.le_of_ble_eq_true rfl) ?_
  show fx_X g mq_MO_nth 0 [(0, .ref q), (1, .int (nI kd)), (2, .int m)] [] h _ 0 0
  refine fx_iload_n 1 dq_MO_nth_0 rfl rfl ?_
  refine fx_istore_n dq_MO_nth_1 rfl (by decide) rfl ?_
  have hv2 : v_MO_nth h q kd m = srch (fun p => decide (¬ fx_i h (q + 7) p = 0 ∧ itg (nthS h q kd p) 0 10 = m)) (fun p => nI p) (-1) kd ((kd + 10) - kd) := rfl
  have key : ∀ nn p, p + nn = (kd + 10) → v_MO_nth h q kd m = srch (fun p => decide (¬ fx_i h (q + 7) p = 0 ∧ itg (nthS h q kd p) 0 10 = m)) (fun p => nI p) (-1) p nn → fx_X g mq_MO_nth 2 [(3, .int (nI p)), (0, .ref q), (1, .int (nI kd)), (2, .int m)] [] h (fx_is (some (v_MO_nth h q kd m)) h) 0 0 := by
    intro nn
    induction nn with
    | zero =>
      intro p hin hq
      have hiN : p = (kd + 10) := by omega
      refine fx_iload_n 0 dq_MO_nth_2 rfl rfl ?_
      refine fx_iload_n 2 dq_MO_nth_3 rfl rfl ?_
      refine fx_bipush (v := 10) dq_MO_nth_4 (by decide) ?_
      refine fx_iadd dq_MO_nth_6 ?_
      refine fx_icmp_ge (tgt := 93) dq_MO_nth_7 (by decide) (fun hc7 => ?_) (fun hc7 => absurd (by rw [hiN, jz_10 hkd]; exact nI_le (Nat.le_refl _) (by omega)) hc7)
      refine fx_iconst (v := -1) dq_MO_nth_93 (by decide) ?_
      exact fx_ireturn rfl dq_MO_nth_94 ⟨by rw [hq]; rfl, rfl⟩
    | succ nn ih =>
      intro p hin hq
      have hp : p < (kd + 10) := by omega
      refine fx_iload_n 0 dq_MO_nth_2 rfl rfl ?_
      refine fx_iload_n 2 dq_MO_nth_3 rfl rfl ?_
      refine fx_bipush (v := 10) dq_MO_nth_4 (by decide) ?_
      refine fx_iadd dq_MO_nth_6 ?_
      refine fx_icmp_ge (tgt := 93) dq_MO_nth_7 (by decide) (fun hc7 => absurd hc7 (by rw [jz_10 hkd]; exact nI_ge (by omega) (by omega))) (fun hc7 => ?_)
      refine fx_aload_n 1 dq_MO_nth_10 rfl rfl ?_
      refine fx_getr ok fq_MO_29 hm.1 dq_MO_nth_11 (by decide) (mo_there hm).1 ?_
      refine fx_iload_n 0 dq_MO_nth_14 rfl rfl ?_
      refine fx_baN ok (mo_there hm).2 ⟨by omega, by decide⟩ dq_MO_nth_15 ?_
      refine fx_if_ne (tgt := 22) dq_MO_nth_16 (by decide) (fun hc16 => ?_) (fun hc16 => ?_)
      · -- 16: jump
        refine fx_iconst (v := 0) dq_MO_nth_22 (by decide) ?_
        refine fx_istore dq_MO_nth_23 (by decide) rfl ?_
        refine fx_iload_n 3 dq_MO_nth_25 rfl rfl ?_
        refine fx_istore dq_MO_nth_26 (by decide) rfl ?_
        refine fx_forv (fun j => [(5, .int (nI (kd + j))), (4, .int (itg (nthS h q kd p) 0 j)), (3, .int (nI p)), (0, .ref q), (1, .int (nI kd)), (2, .int m)]) h 10 (fun j hj hK28 => ?_) ?_
        · skip
          refine fx_iload 0 dq_MO_nth_28 rfl ?_
          refine fx_iload_n 4 dq_MO_nth_30 rfl rfl ?_
          refine fx_bipush (v := 10) dq_MO_nth_31 (by decide) ?_
          refine fx_iadd dq_MO_nth_33 ?_
          refine fx_icmp_ge (tgt := 79) dq_MO_nth_34 (by decide) (fun hc34 => absurd hc34 (by rw [jz_10 hkd]; exact nI_ge (by omega) (by omega))) (fun hc34 => ?_)
          refine fx_iload 1 dq_MO_nth_37 rfl ?_
          refine fx_iload 0 dq_MO_nth_39 rfl ?_
          refine fx_iload_n 2 dq_MO_nth_41 rfl rfl ?_
          refine fx_icmp_eq (tgt := 69) dq_MO_nth_42 (by decide) (fun hc42 => ?_) (fun hc42 => ?_)
          · -- 42: jump
            refine fx_iconst (v := 0) dq_MO_nth_69 (by decide) ?_
            refine fx_iadd dq_MO_nth_70 ?_
            refine fx_istore dq_MO_nth_71 (by decide) rfl ?_
            refine fx_iinc 1 dq_MO_nth_73 rfl (jz_i _) (by decide) rfl ?_
            refine fx_goto (tgt := 28) dq_MO_nth_76 (by decide) ?_
            refine fx_sub [0, 1, 2, 3, 4, 5] rfl ?_
            rw [itg_s, nthS, if_pos hc42] at hK28
            exact hK28
          · -- 42: fall
            refine fx_aload_n 3 dq_MO_nth_45 rfl rfl ?_
            refine fx_getr ok fq_MO_29 hm.1 dq_MO_nth_46 (by decide) (mo_there hm).1 ?_
            refine fx_iload 0 dq_MO_nth_49 rfl ?_
            refine fx_baN ok (mo_there hm).2 ⟨by omega, by decide⟩ dq_MO_nth_51 ?_
            refine fx_if_eq (tgt := 69) dq_MO_nth_52 (by decide) (fun hc52 => ?_) (fun hc52 => ?_)
            · -- 52: jump
              refine fx_iconst (v := 0) dq_MO_nth_69 (by decide) ?_
              refine fx_iadd dq_MO_nth_70 ?_
              refine fx_istore dq_MO_nth_71 (by decide) rfl ?_
              refine fx_iinc 1 dq_MO_nth_73 rfl (jz_i _) (by decide) rfl ?_
              refine fx_goto (tgt := 28) dq_MO_nth_76 (by decide) ?_
              refine fx_sub [0, 1, 2, 3, 4, 5] rfl ?_
              rw [itg_s, nthS, if_neg hc42, if_pos hc52] at hK28
              exact hK28
            · -- 52: fall
              refine fx_aload_n 3 dq_MO_nth_55 rfl rfl ?_
              refine fx_iload_n 2 dq_MO_nth_56 rfl rfl ?_
              refine fx_iload 0 dq_MO_nth_57 rfl ?_
              refine fx_Vi2 ok sq_MO_178 hm.1 (c_MO_isAbove ok h q (nI p) (nI (kd + j)) hm (vp_in_nI (by omega) (by decide)) (vp_in_nI (by omega) (by decide))) (by decide) (Nat.le_of_ble_eq_true rfl) dq_MO_nth_59 ?_
              refine fx_if_eq (tgt := 69) dq_MO_nth_62 (by decide) (fun hc62 => ?_) (fun hc62 => ?_)
              · -- 62: jump
                refine fx_iconst (v := 0) dq_MO_nth_69 (by decide) ?_
                refine fx_iadd dq_MO_nth_70 ?_
                refine fx_istore dq_MO_nth_71 (by decide) rfl ?_
                refine fx_iinc 1 dq_MO_nth_73 rfl (jz_i _) (by decide) rfl ?_
                refine fx_goto (tgt := 28) dq_MO_nth_76 (by decide) ?_
                refine fx_sub [0, 1, 2, 3, 4, 5] rfl ?_
                rw [itg_s, nthS, if_neg hc42, if_neg hc52, if_pos hc62] at hK28
                exact hK28
              · -- 62: fall
                refine fx_iconst (v := 1) dq_MO_nth_65 (by decide) ?_
                refine fx_goto (tgt := 70) dq_MO_nth_66 (by decide) ?_
                refine fx_iadd dq_MO_nth_70 ?_
                refine fx_istore dq_MO_nth_71 (by decide) rfl ?_
                refine fx_iinc 1 dq_MO_nth_73 rfl (jz_i _) (by decide) rfl ?_
                refine fx_goto (tgt := 28) dq_MO_nth_76 (by decide) ?_
                refine fx_sub [0, 1, 2, 3, 4, 5] rfl ?_
                rw [itg_s, nthS, if_neg hc42, if_neg hc52, if_neg hc62] at hK28
                exact hK28
        · skip
          refine fx_iload 0 dq_MO_nth_28 rfl ?_
          refine fx_iload_n 4 dq_MO_nth_30 rfl rfl ?_
          refine fx_bipush (v := 10) dq_MO_nth_31 (by decide) ?_
          refine fx_iadd dq_MO_nth_33 ?_
          refine fx_icmp_ge (tgt := 79) dq_MO_nth_34 (by decide) (fun hc34 => ?_) (fun hc34 => absurd (by rw [jz_10 hkd]; exact nI_le (Nat.le_refl _) (by omega)) hc34)
          refine fx_iload 1 dq_MO_nth_79 rfl ?_
          refine fx_iload_n 5 dq_MO_nth_81 rfl rfl ?_
          refine fx_icmp_ne (tgt := 87) dq_MO_nth_82 (by decide) (fun hc82 => ?_) (fun hc82 => ?_)
          · -- 82: jump
            refine fx_iinc 2 dq_MO_nth_87 rfl (jz_i p) (by decide) rfl ?_
            refine fx_goto (tgt := 2) dq_MO_nth_90 (by decide) ?_
            refine fx_sub [0, 3, 4, 5] rfl ?_
            exact ih (p + 1) (by omega) (hq.trans (srch_no _ _ _ _ _ (by simp [hc16, hc82])))
          · -- 82: fall
            refine fx_iload_n 2 dq_MO_nth_85 rfl rfl ?_
            exact fx_ireturn rfl dq_MO_nth_86 ⟨by rw [hq, srch_yes _ _ _ _ _ (by simp [hc16, hc82])], rfl⟩
      · -- 16: fall
        refine fx_goto (tgt := 87) dq_MO_nth_19 (by decide) ?_
        refine fx_iinc 0 dq_MO_nth_87 rfl (jz_i p) (by decide) rfl ?_
        refine fx_goto (tgt := 2) dq_MO_nth_90 (by decide) ?_
        refine fx_sub [0, 1, 2, 3] rfl ?_
        exact ih (p + 1) (by omega) (hq.trans (srch_no _ _ _ _ _ (by simp [hc16])))
  exact key ((kd + 10) - kd) kd (by omega) hv2
