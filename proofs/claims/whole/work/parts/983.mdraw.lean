/-! ===== the Model: draw ===== -/
theorem mOk2_begin {h : fx_H} {q : Nat} (hms : mOk2 h q) : mOk2 (k_MO_begin h q) q := by
  have h1 := mb_ms h q hms 10
  unfold k_MO_begin
  refine mOk2_wf (mOk2_wf (mOk2_wf (mOk2_wf ?_)))
  unfold mbE
  refine mOk2_mfr (L := [19]) (F := []) (mfr_it (fun n k => mfr_b5 q n k) (mfr_rf _ _ _ _) 4) (by decide) ?_
  refine mOk2_mfr (L := [1, 7]) (F := []) (mfr_it (fun n k => mfr_b4 q n k) (mfr_rf _ _ _ _) 10) (by decide) ?_
  exact h1
theorem fsPre_begin {h : fx_H} {q : Nat} (hb : vp_in (fx_i h q 23) 2) (hms : mOk2 h q) : fsPre (k_MO_begin h q) q := by
  have e1 : fx_i (k_MO_begin h q) q 23 = fx_i h q 23 := mfr_f (mfr_begin h q) (by decide)
  have e2 : fx_i (k_MO_begin h q) q 31 = 0 := by
    unfold k_MO_begin
    simp [fx_i_wi]
  have e3 : fx_i (k_MO_begin h q) q 32 = 0 := by
    unfold k_MO_begin
    simp [fx_i_wi]
  unfold fsPre
  rw [e1, e2, e3]
  exact ⟨hb, (mOk2_begin hms _ (vp_in_lt hb)).2, by decide, by decide, by decide⟩
theorem mCl_w {h : fx_H} {q j : Nat} {v : Int32} (hcl : mCl h q) : mCl (fx_wi h q j v) q := by
  intro s hs
  rw [wi_q _ _ _ _ _ _ (by decide), wi_q _ _ _ _ _ _ (by decide)]
  exact hcl s hs
theorem dr_n {h : fx_H} {n : Int32} (hn : ¬ v_MO_within h n 0 200 = 0) : (0 : Int32).toInt + (n.toNatClampNeg : Int) = n.toInt := by
  have h1 := (wi_b hn).1
  have e0 : (0 : Int32).toInt = 0 := rfl
  rw [iz_nn (by omega), e0]
  omega
theorem dr_200 {h : fx_H} {n : Int32} (hn : ¬ v_MO_within h n 0 200 = 0) : n.toInt ≤ 200 := by
  have h1 := (wi_b hn).2
  have e0 : (200 : Int32).toInt = 200 := rfl
  omega
def drI (q : Nat) (n : Int32) (y : Int32 × fx_H) : Option (Int32 × fx_H) := if n ≤ y.1 then none else if (fx_i y.2 q 22) = (1 : Int32) then some ((y.1 + Int32.ofInt (1)), k_MO_make y.2 q) else none
theorem hP_drI (h : fx_H) (q : Nat) (n : Int32) (I : fx_H → Prop) (hn : n.toInt ≤ 200) (hI : ∀ u, I u → fx_i u q 22 = 1 → mkPre u q ∧ I (k_MO_make u q)) : ∀ (m : Nat) (y z : Int32 × fx_H), (fx_sm h y.2 ∧ I y.2 ∧ 0 ≤ y.1.toInt ∧ y.1.toInt + m = n.toInt) → drI q n y = some z → ∃ m' : Nat, m = m' + 1 ∧ (fx_sm h z.2 ∧ I z.2 ∧ 0 ≤ z.1.toInt ∧ z.1.toInt + m' = n.toInt) := by
  intro m y z hy hz
  obtain ⟨hs, hi, h0, h1⟩ := hy
  have e1 : (Int32.ofInt 1).toInt = 1 := rfl
  unfold drI at hz
  repeat' split at hz
  all_goals cases hz
  rename_i h2 h3
  rw [iz_le] at h2
  have e2 : (y.1 + Int32.ofInt 1).toInt = y.1.toInt + 1 := by rw [iz_add (by rw [e1]; omega), e1]
  refine ⟨m - 1, by omega, fx_sm_t hs (mfr_make _ _).1, (hI _ hi h3).2, ?_, ?_⟩
  · show 0 ≤ (y.1 + Int32.ofInt 1).toInt
    omega
  · show (y.1 + Int32.ofInt 1).toInt + ((m - 1 : Nat) : Int) = n.toInt
    omega
def v_MO_draw (h : fx_H) (q : Nat) (n : Int32) : Int32 := if (v_MO_within h n (0 : Int32) (200 : Int32)) = 0 then (0 : Int32) else if (fx_i (fx_wi h q 0 (0 : Int32)) q 22) = 0 then if n ≤ 0 then ((lp (drI q n) n.toNatClampNeg ((0 : Int32), fx_wi h q 0 (0 : Int32))).1) else if (fx_i (fx_wi h q 0 (0 : Int32)) q 19) ≤ (fx_i (fx_wi h q 0 (0 : Int32)) q 20) then ((lp (drI q n) n.toNatClampNeg ((0 : Int32), fx_wi h q 0 (0 : Int32))).1) else ((lp (drI q n) n.toNatClampNeg ((0 : Int32), k_MO_findStep (k_MO_begin (fx_wi h q 0 (0 : Int32)) q) q)).1) else ((lp (drI q n) n.toNatClampNeg ((0 : Int32), fx_wi h q 0 (0 : Int32))).1)
def k_MO_draw (h : fx_H) (q : Nat) (n : Int32) : fx_H := if (v_MO_within h n (0 : Int32) (200 : Int32)) = 0 then fx_wi h q 0 (1 : Int32) else if (fx_i (fx_wi h q 0 (0 : Int32)) q 22) = 0 then if n ≤ 0 then (lp (drI q n) n.toNatClampNeg ((0 : Int32), fx_wi h q 0 (0 : Int32))).2 else if (fx_i (fx_wi h q 0 (0 : Int32)) q 19) ≤ (fx_i (fx_wi h q 0 (0 : Int32)) q 20) then (lp (drI q n) n.toNatClampNeg ((0 : Int32), fx_wi h q 0 (0 : Int32))).2 else (lp (drI q n) n.toNatClampNeg ((0 : Int32), k_MO_findStep (k_MO_begin (fx_wi h q 0 (0 : Int32)) q) q)).2 else (lp (drI q n) n.toNatClampNeg ((0 : Int32), fx_wi h q 0 (0 : Int32))).2
set_option maxRecDepth 100000 in
set_option maxHeartbeats 600000 in
theorem c_MO_draw {g : fx_G} (ok : fx_ok g) (h : fx_H) (q : Nat) (n : Int32) (hm : isM h q) (hcl : mCl h q) (hms : mOk2 h q) (hbk : vp_in (fx_i h q 23) 2) (I : fx_H → Prop) (hI : ∀ u, I u → fx_i u q 22 = 1 → mkPre u q ∧ I (k_MO_make u q)) (h0 : I (fx_wi h q 0 (0 : Int32))) (h1 : (fx_i (fx_wi h q 0 (0 : Int32)) q 22) = 0 → ¬ n ≤ 0 → ¬ (fx_i (fx_wi h q 0 (0 : Int32)) q 19) ≤ (fx_i (fx_wi h q 0 (0 : Int32)) q 20) → I (k_MO_findStep (k_MO_begin (fx_wi h q 0 (0 : Int32)) q) q)) : fx_C g mq_MO_draw [.ref q, .int n] h (fx_is (some (v_MO_draw h q n)) (k_MO_draw h q n)) 0 0 := by
  refine fx_body (by decide +kernel) (Nat.le_of_ble_eq_true rfl) ?_
  show fx_X g mq_MO_draw 0 [(0, .ref q), (1, .int n)] [] h _ 0 0
  refine fx_aload_n 0 dq_MO_draw_0 rfl rfl ?_
  refine fx_iload_n 1 dq_MO_draw_1 rfl rfl ?_
  refine fx_iconst (v := 0) dq_MO_draw_2 (by decide) ?_
  refine fx_sipush (v := 200) dq_MO_draw_3 (by decide) ?_
  refine fx_Si3 ok sq_MO_129 (c_MO_within ok h n (0 : Int32) (200 : Int32) ) (by decide) (Nat.le_of_ble_eq_true rfl) dq_MO_draw_6 ?_
  refine fx_if_eq (tgt := 16) dq_MO_draw_9 (by decide) (fun hc9 => ?_) (fun hc9 => ?_)
  · -- 9: jump
    refine fx_iconst (v := 1) dq_MO_draw_16 (by decide) ?_
    refine fx_puti ok fp_MO_126 hm.1 (by decide) dq_MO_draw_17 (Or.inl (by decide)) ?_
    refine fx_aload_n 0 dq_MO_draw_20 rfl rfl ?_
    refine fx_geti ok fq_MO_126 hm.1 dq_MO_draw_21 (by decide) ?_
    refine fx_eqt (v' := (1 : Int32)) (by rw [fx_i_wi, if_pos ⟨rfl, rfl⟩]) ?_
    refine fx_if_eq (tgt := 29) dq_MO_draw_24 (by decide) (fun hc24 => absurd hc24 (by decide)) (fun hc24 => ?_)
    refine fx_iconst (v := 0) dq_MO_draw_27 (by decide) ?_
    exact fx_ireturn rfl dq_MO_draw_28 ⟨by rw [v_MO_draw, if_pos hc9], by rw [k_MO_draw, if_pos hc9]⟩
  · -- 9: fall
    refine fx_iconst (v := 0) dq_MO_draw_12 (by decide) ?_
    refine fx_goto (tgt := 17) dq_MO_draw_13 (by decide) ?_
    refine fx_puti ok fp_MO_126 hm.1 (by decide) dq_MO_draw_17 (Or.inl (by decide)) ?_
    refine fx_aload_n 0 dq_MO_draw_20 rfl rfl ?_
    refine fx_geti ok fq_MO_126 hm.1 dq_MO_draw_21 (by decide) ?_
    refine fx_eqt (v' := (0 : Int32)) (by rw [fx_i_wi, if_pos ⟨rfl, rfl⟩]) ?_
    refine fx_if_eq (tgt := 29) dq_MO_draw_24 (by decide) (fun hc24 => ?_) (fun hc24 => absurd (by decide) hc24)
    refine fx_aload_n 0 dq_MO_draw_29 rfl rfl ?_
    refine fx_geti ok fq_MO_216 hm.1 dq_MO_draw_30 (by decide) ?_
    refine fx_if_ne (tgt := 59) dq_MO_draw_33 (by decide) (fun hc33 => ?_) (fun hc33 => ?_)
    · -- 33: jump
      refine fx_iconst (v := 0) dq_MO_draw_59 (by decide) ?_
      refine fx_istore_n dq_MO_draw_60 rfl (by decide) rfl ?_
      refine fx_lp (σ := Int32 × fx_H) (ex := 84) (fun y => [(2, .int y.1), (0, .ref q), (1, .int n)]) (fun y => y.2) (drI q n) (fun m y => fx_sm h y.2 ∧ I y.2 ∧ 0 ≤ y.1.toInt ∧ y.1.toInt + m = n.toInt) ((0 : Int32), fx_wi h q 0 (0 : Int32)) n.toNatClampNeg ⟨(rfl : fx_sm h (fx_wi h q 0 (0 : Int32))), h0, Int.le_refl 0, dr_n hc9⟩ (hP_drI h q n I (dr_200 hc9) hI) (fun m61 y hp61 hb61 hx61 hz61 => ?_) (fun m61 hp61 hn61 => ?_)
      · skip
        refine fx_iload_n 0 dq_MO_draw_61 rfl rfl ?_
        refine fx_iload_n 2 dq_MO_draw_62 rfl rfl ?_
        refine fx_icmp_ge (tgt := 84) dq_MO_draw_63 (by decide) (fun hc63 => ?_) (fun hc63 => ?_)
        · -- 63: jump
          refine fx_sub [0, 1, 2] rfl ?_
          exact hx61 (by rw [drI, if_pos hc63])
        · -- 63: fall
          refine fx_aload_n 1 dq_MO_draw_66 rfl rfl ?_
          refine fx_geti ok fq_MO_216 ((fx_sm_s hp61.1 _).trans hm.1) dq_MO_draw_67 (by decide) ?_
          refine fx_iconst (v := 1) dq_MO_draw_70 (by decide) ?_
          refine fx_icmp_ne (tgt := 84) dq_MO_draw_71 (by decide) (fun hc71 => ?_) (fun hc71 => ?_)
          · -- 71: jump
            refine fx_sub [0, 1, 2] rfl ?_
            exact hx61 (by rw [drI, if_neg hc63, if_neg hc71])
          · -- 71: fall
            refine fx_aload_n 1 dq_MO_draw_74 rfl rfl ?_
            refine fx_Vv0 ok sq_MO_244 ((fx_sm_s hp61.1 _).trans hm.1) (c_MO_make ok y.2 q (by exact isM_sm hp61.1 hm) (hI _ hp61.2.1 hc71).1) (by decide) (Nat.le_of_ble_eq_true rfl) dq_MO_draw_75 ?_
            have e75 : fx_sm h (k_MO_make y.2 q) := fx_sm_t (h' := y.2) hp61.1 (mfr_make y.2 q).1
            refine fx_iinc 0 dq_MO_draw_78 rfl rfl (by decide) rfl ?_
            refine fx_goto (tgt := 61) dq_MO_draw_81 (by decide) ?_
            refine fx_sub [0, 1, 2] rfl ?_
            exact hb61 ((y.1 + Int32.ofInt (1)), k_MO_make y.2 q) (by rw [drI, if_neg hc63, if_pos hc71])
      · show fx_X g mq_MO_draw 84 [(2, .int ((lp (drI q n) n.toNatClampNeg ((0 : Int32), fx_wi h q 0 (0 : Int32))).1)), (0, .ref q), (1, .int n)] [] ((lp (drI q n) n.toNatClampNeg ((0 : Int32), fx_wi h q 0 (0 : Int32))).2) _ 0 0
        have e61x : fx_sm h ((lp (drI q n) n.toNatClampNeg ((0 : Int32), fx_wi h q 0 (0 : Int32))).2) := hp61.1
        refine fx_iload_n 0 dq_MO_draw_84 rfl rfl ?_
        exact fx_ireturn rfl dq_MO_draw_85 ⟨by rw [v_MO_draw, if_neg hc9, if_neg hc33], by rw [k_MO_draw, if_neg hc9, if_neg hc33]⟩
    · -- 33: fall
      refine fx_iload_n 1 dq_MO_draw_36 rfl rfl ?_
      refine fx_if_le (tgt := 59) dq_MO_draw_37 (by decide) (fun hc37 => ?_) (fun hc37 => ?_)
      · -- 37: jump
        refine fx_iconst (v := 0) dq_MO_draw_59 (by decide) ?_
        refine fx_istore_n dq_MO_draw_60 rfl (by decide) rfl ?_
        refine fx_lp (σ := Int32 × fx_H) (ex := 84) (fun y => [(2, .int y.1), (0, .ref q), (1, .int n)]) (fun y => y.2) (drI q n) (fun m y => fx_sm h y.2 ∧ I y.2 ∧ 0 ≤ y.1.toInt ∧ y.1.toInt + m = n.toInt) ((0 : Int32), fx_wi h q 0 (0 : Int32)) n.toNatClampNeg ⟨(rfl : fx_sm h (fx_wi h q 0 (0 : Int32))), h0, Int.le_refl 0, dr_n hc9⟩ (hP_drI h q n I (dr_200 hc9) hI) (fun m61 y hp61 hb61 hx61 hz61 => ?_) (fun m61 hp61 hn61 => ?_)
        · skip
          refine fx_iload_n 0 dq_MO_draw_61 rfl rfl ?_
          refine fx_iload_n 2 dq_MO_draw_62 rfl rfl ?_
          refine fx_icmp_ge (tgt := 84) dq_MO_draw_63 (by decide) (fun hc63 => ?_) (fun hc63 => ?_)
          · -- 63: jump
            refine fx_sub [0, 1, 2] rfl ?_
            exact hx61 (by rw [drI, if_pos hc63])
          · -- 63: fall
            refine fx_aload_n 1 dq_MO_draw_66 rfl rfl ?_
            refine fx_geti ok fq_MO_216 ((fx_sm_s hp61.1 _).trans hm.1) dq_MO_draw_67 (by decide) ?_
            refine fx_iconst (v := 1) dq_MO_draw_70 (by decide) ?_
            refine fx_icmp_ne (tgt := 84) dq_MO_draw_71 (by decide) (fun hc71 => ?_) (fun hc71 => ?_)
            · -- 71: jump
              refine fx_sub [0, 1, 2] rfl ?_
              exact hx61 (by rw [drI, if_neg hc63, if_neg hc71])
            · -- 71: fall
              refine fx_aload_n 1 dq_MO_draw_74 rfl rfl ?_
              refine fx_Vv0 ok sq_MO_244 ((fx_sm_s hp61.1 _).trans hm.1) (c_MO_make ok y.2 q (by exact isM_sm hp61.1 hm) (hI _ hp61.2.1 hc71).1) (by decide) (Nat.le_of_ble_eq_true rfl) dq_MO_draw_75 ?_
              have e75 : fx_sm h (k_MO_make y.2 q) := fx_sm_t (h' := y.2) hp61.1 (mfr_make y.2 q).1
              refine fx_iinc 0 dq_MO_draw_78 rfl rfl (by decide) rfl ?_
              refine fx_goto (tgt := 61) dq_MO_draw_81 (by decide) ?_
              refine fx_sub [0, 1, 2] rfl ?_
              exact hb61 ((y.1 + Int32.ofInt (1)), k_MO_make y.2 q) (by rw [drI, if_neg hc63, if_pos hc71])
        · show fx_X g mq_MO_draw 84 [(2, .int ((lp (drI q n) n.toNatClampNeg ((0 : Int32), fx_wi h q 0 (0 : Int32))).1)), (0, .ref q), (1, .int n)] [] ((lp (drI q n) n.toNatClampNeg ((0 : Int32), fx_wi h q 0 (0 : Int32))).2) _ 0 0
          have e61x : fx_sm h ((lp (drI q n) n.toNatClampNeg ((0 : Int32), fx_wi h q 0 (0 : Int32))).2) := hp61.1
          refine fx_iload_n 0 dq_MO_draw_84 rfl rfl ?_
          exact fx_ireturn rfl dq_MO_draw_85 ⟨by rw [v_MO_draw, if_neg hc9, if_pos hc33, if_pos hc37], by rw [k_MO_draw, if_neg hc9, if_pos hc33, if_pos hc37]⟩
      · -- 37: fall
        refine fx_aload_n 0 dq_MO_draw_40 rfl rfl ?_
        refine fx_geti ok fq_MO_164 hm.1 dq_MO_draw_41 (by decide) ?_
        refine fx_aload_n 0 dq_MO_draw_44 rfl rfl ?_
        refine fx_geti ok fq_MO_167 hm.1 dq_MO_draw_45 (by decide) ?_
        refine fx_icmp_le (tgt := 59) dq_MO_draw_48 (by decide) (fun hc48 => ?_) (fun hc48 => ?_)
        · -- 48: jump
          refine fx_iconst (v := 0) dq_MO_draw_59 (by decide) ?_
          refine fx_istore_n dq_MO_draw_60 rfl (by decide) rfl ?_
          refine fx_lp (σ := Int32 × fx_H) (ex := 84) (fun y => [(2, .int y.1), (0, .ref q), (1, .int n)]) (fun y => y.2) (drI q n) (fun m y => fx_sm h y.2 ∧ I y.2 ∧ 0 ≤ y.1.toInt ∧ y.1.toInt + m = n.toInt) ((0 : Int32), fx_wi h q 0 (0 : Int32)) n.toNatClampNeg ⟨(rfl : fx_sm h (fx_wi h q 0 (0 : Int32))), h0, Int.le_refl 0, dr_n hc9⟩ (hP_drI h q n I (dr_200 hc9) hI) (fun m61 y hp61 hb61 hx61 hz61 => ?_) (fun m61 hp61 hn61 => ?_)
          · skip
            refine fx_iload_n 0 dq_MO_draw_61 rfl rfl ?_
            refine fx_iload_n 2 dq_MO_draw_62 rfl rfl ?_
            refine fx_icmp_ge (tgt := 84) dq_MO_draw_63 (by decide) (fun hc63 => ?_) (fun hc63 => ?_)
            · -- 63: jump
              refine fx_sub [0, 1, 2] rfl ?_
              exact hx61 (by rw [drI, if_pos hc63])
            · -- 63: fall
              refine fx_aload_n 1 dq_MO_draw_66 rfl rfl ?_
              refine fx_geti ok fq_MO_216 ((fx_sm_s hp61.1 _).trans hm.1) dq_MO_draw_67 (by decide) ?_
              refine fx_iconst (v := 1) dq_MO_draw_70 (by decide) ?_
              refine fx_icmp_ne (tgt := 84) dq_MO_draw_71 (by decide) (fun hc71 => ?_) (fun hc71 => ?_)
              · -- 71: jump
                refine fx_sub [0, 1, 2] rfl ?_
                exact hx61 (by rw [drI, if_neg hc63, if_neg hc71])
              · -- 71: fall
                refine fx_aload_n 1 dq_MO_draw_74 rfl rfl ?_
                refine fx_Vv0 ok sq_MO_244 ((fx_sm_s hp61.1 _).trans hm.1) (c_MO_make ok y.2 q (by exact isM_sm hp61.1 hm) (hI _ hp61.2.1 hc71).1) (by decide) (Nat.le_of_ble_eq_true rfl) dq_MO_draw_75 ?_
                have e75 : fx_sm h (k_MO_make y.2 q) := fx_sm_t (h' := y.2) hp61.1 (mfr_make y.2 q).1
                refine fx_iinc 0 dq_MO_draw_78 rfl rfl (by decide) rfl ?_
                refine fx_goto (tgt := 61) dq_MO_draw_81 (by decide) ?_
                refine fx_sub [0, 1, 2] rfl ?_
                exact hb61 ((y.1 + Int32.ofInt (1)), k_MO_make y.2 q) (by rw [drI, if_neg hc63, if_pos hc71])
          · show fx_X g mq_MO_draw 84 [(2, .int ((lp (drI q n) n.toNatClampNeg ((0 : Int32), fx_wi h q 0 (0 : Int32))).1)), (0, .ref q), (1, .int n)] [] ((lp (drI q n) n.toNatClampNeg ((0 : Int32), fx_wi h q 0 (0 : Int32))).2) _ 0 0
            have e61x : fx_sm h ((lp (drI q n) n.toNatClampNeg ((0 : Int32), fx_wi h q 0 (0 : Int32))).2) := hp61.1
            refine fx_iload_n 0 dq_MO_draw_84 rfl rfl ?_
            exact fx_ireturn rfl dq_MO_draw_85 ⟨by rw [v_MO_draw, if_neg hc9, if_pos hc33, if_neg hc37, if_pos hc48], by rw [k_MO_draw, if_neg hc9, if_pos hc33, if_neg hc37, if_pos hc48]⟩
        · -- 48: fall
          refine fx_aload_n 0 dq_MO_draw_51 rfl rfl ?_
          refine fx_Vv0 ok sq_MO_241 hm.1 (c_MO_begin ok (fx_wi h q 0 (0 : Int32)) q hm (mCl_w hcl) (mOk2_wf hms)) (by decide) (Nat.le_of_ble_eq_true rfl) dq_MO_draw_52 ?_
          have e52 : fx_sm h (k_MO_begin (fx_wi h q 0 (0 : Int32)) q) := fx_sm_t (h' := (fx_wi h q 0 (0 : Int32))) (rfl : fx_sm h (fx_wi h q 0 (0 : Int32))) (mfr_begin (fx_wi h q 0 (0 : Int32)) q).1
          refine fx_aload_n 0 dq_MO_draw_55 rfl rfl ?_
          refine fx_Vv0 ok sq_MO_238 ((fx_sm_s e52 _).trans hm.1) (c_MO_findStep ok (k_MO_begin (fx_wi h q 0 (0 : Int32)) q) q (by exact isM_sm e52 hm) (fsPre_begin (by rw [fx_i_wi, if_neg (fun z => absurd z.2 (by decide))]; exact hbk) (mOk2_wf hms))) (by decide) (Nat.le_of_ble_eq_true rfl) dq_MO_draw_56 ?_
          have e56 : fx_sm h (k_MO_findStep (k_MO_begin (fx_wi h q 0 (0 : Int32)) q) q) := fx_sm_t (h' := (k_MO_begin (fx_wi h q 0 (0 : Int32)) q)) e52 (mfr_findStep (k_MO_begin (fx_wi h q 0 (0 : Int32)) q) q).1
          refine fx_iconst (v := 0) dq_MO_draw_59 (by decide) ?_
          refine fx_istore_n dq_MO_draw_60 rfl (by decide) rfl ?_
          refine fx_lp (σ := Int32 × fx_H) (ex := 84) (fun y => [(2, .int y.1), (0, .ref q), (1, .int n)]) (fun y => y.2) (drI q n) (fun m y => fx_sm h y.2 ∧ I y.2 ∧ 0 ≤ y.1.toInt ∧ y.1.toInt + m = n.toInt) ((0 : Int32), k_MO_findStep (k_MO_begin (fx_wi h q 0 (0 : Int32)) q) q) n.toNatClampNeg ⟨e56, (h1 hc33 hc37 hc48), Int.le_refl 0, dr_n hc9⟩ (hP_drI h q n I (dr_200 hc9) hI) (fun m61 y hp61 hb61 hx61 hz61 => ?_) (fun m61 hp61 hn61 => ?_)
          · skip
            refine fx_iload_n 0 dq_MO_draw_61 rfl rfl ?_
            refine fx_iload_n 2 dq_MO_draw_62 rfl rfl ?_
            refine fx_icmp_ge (tgt := 84) dq_MO_draw_63 (by decide) (fun hc63 => ?_) (fun hc63 => ?_)
            · -- 63: jump
              refine fx_sub [0, 1, 2] rfl ?_
              exact hx61 (by rw [drI, if_pos hc63])
            · -- 63: fall
              refine fx_aload_n 1 dq_MO_draw_66 rfl rfl ?_
              refine fx_geti ok fq_MO_216 ((fx_sm_s hp61.1 _).trans hm.1) dq_MO_draw_67 (by decide) ?_
              refine fx_iconst (v := 1) dq_MO_draw_70 (by decide) ?_
              refine fx_icmp_ne (tgt := 84) dq_MO_draw_71 (by decide) (fun hc71 => ?_) (fun hc71 => ?_)
              · -- 71: jump
                refine fx_sub [0, 1, 2] rfl ?_
                exact hx61 (by rw [drI, if_neg hc63, if_neg hc71])
              · -- 71: fall
                refine fx_aload_n 1 dq_MO_draw_74 rfl rfl ?_
                refine fx_Vv0 ok sq_MO_244 ((fx_sm_s hp61.1 _).trans hm.1) (c_MO_make ok y.2 q (by exact isM_sm hp61.1 hm) (hI _ hp61.2.1 hc71).1) (by decide) (Nat.le_of_ble_eq_true rfl) dq_MO_draw_75 ?_
                have e75 : fx_sm h (k_MO_make y.2 q) := fx_sm_t (h' := y.2) hp61.1 (mfr_make y.2 q).1
                refine fx_iinc 0 dq_MO_draw_78 rfl rfl (by decide) rfl ?_
                refine fx_goto (tgt := 61) dq_MO_draw_81 (by decide) ?_
                refine fx_sub [0, 1, 2] rfl ?_
                exact hb61 ((y.1 + Int32.ofInt (1)), k_MO_make y.2 q) (by rw [drI, if_neg hc63, if_pos hc71])
          · show fx_X g mq_MO_draw 84 [(2, .int ((lp (drI q n) n.toNatClampNeg ((0 : Int32), k_MO_findStep (k_MO_begin (fx_wi h q 0 (0 : Int32)) q) q)).1)), (0, .ref q), (1, .int n)] [] ((lp (drI q n) n.toNatClampNeg ((0 : Int32), k_MO_findStep (k_MO_begin (fx_wi h q 0 (0 : Int32)) q) q)).2) _ 0 0
            have e61x : fx_sm h ((lp (drI q n) n.toNatClampNeg ((0 : Int32), k_MO_findStep (k_MO_begin (fx_wi h q 0 (0 : Int32)) q) q)).2) := hp61.1
            refine fx_iload_n 0 dq_MO_draw_84 rfl rfl ?_
            exact fx_ireturn rfl dq_MO_draw_85 ⟨by rw [v_MO_draw, if_neg hc9, if_pos hc33, if_neg hc37, if_neg hc48], by rw [k_MO_draw, if_neg hc9, if_pos hc33, if_neg hc37, if_neg hc48]⟩
