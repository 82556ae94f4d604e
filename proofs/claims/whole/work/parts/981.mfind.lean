/-! ===== the Model: findStep ===== -/
def fsPre (h : fx_H) (q : Nat) : Prop := vp_in (fx_i h q 23) 2 ∧ (fx_i h (q + 21) (fx_i h q 23).toNatClampNeg).toInt ≤ 6 ∧ 0 ≤ (fx_i h q 31).toInt ∧ 0 ≤ (fx_i h q 32).toInt ∧ (fx_i h q 32).toInt ≤ 11
theorem fs_14 {h : fx_H} {q : Nat} (hf : fsPre h q) (hl : ¬ fx_i h (q + 21) (fx_i h q 23).toNatClampNeg ≤ fx_i h q 31) : vp_in (7 * fx_i h q 23 + fx_i h q 31) 14 := by
  obtain ⟨h1, h2, h3, -⟩ := hf
  obtain ⟨m, hm, e⟩ := vp_in_of h1 (by decide)
  rw [iz_le] at hl
  rw [e]
  exact l14 hm (by omega)
theorem fs_14u {h u : fx_H} {q : Nat} (hf : fsPre h q) (hl : ¬ fx_i h (q + 21) (fx_i h q 23).toNatClampNeg ≤ fx_i h q 31) (e : mfr q [] [32, 38, 39, 40, 41] h u) : vp_in (7 * fx_i u q 23 + fx_i u q 31) 14 := by
  rw [mfr_f e (by decide), mfr_f e (by decide)]
  exact fs_14 hf hl
theorem fs_b {h k : fx_H} {q : Nat} {v v' : Int32} (e : mfr q [] [32, 38, 39, 40, 41] h k) (hb : vp_in (fx_i h q 23) 2) : vp_in (fx_i (fx_wi (fx_wi k q 31 v) q 32 v') q 23) 2 := by
  rw [fx_i_wi, if_neg (fun z => absurd z.2 (by decide)), fx_i_wi, if_neg (fun z => absurd z.2 (by decide)), mfr_f e (by decide)]
  exact hb
theorem fs_n {h : fx_H} {q : Nat} (hf : fsPre h q) : (fx_i h q 32).toInt + ((12 - (fx_i h q 32).toNatClampNeg : Nat) : Int) = 12 := by
  have e := iz_nn hf.2.2.2.1
  have := hf.2.2.2.2
  omega
def fsI (q : Nat) (y : Int32 × fx_H) : Option (Int32 × fx_H) := if y.1 = 0 then if (10 : Int32) < (fx_i y.2 q 32) then none else if (fx_i (k_MO_meet y.2 q ((fx_i y.2 q 32) - (1 : Int32))) q 40) ≤ 0 then some ((0 : Int32), fx_wi (k_MO_meet y.2 q ((fx_i y.2 q 32) - (1 : Int32))) q 32 ((fx_i (k_MO_meet y.2 q ((fx_i y.2 q 32) - (1 : Int32))) q 32) + (1 : Int32))) else some ((1 : Int32), k_MO_meet y.2 q ((fx_i y.2 q 32) - (1 : Int32))) else none
theorem hP_fsI (h : fx_H) (q : Nat) : ∀ (m : Nat) (y z : Int32 × fx_H), (fx_sm h y.2 ∧ mfr q [] [32, 38, 39, 40, 41] h y.2 ∧ 0 ≤ (fx_i y.2 q 32).toInt ∧ (y.1 = 0 → (fx_i y.2 q 32).toInt + m = 12)) → fsI q y = some z → ∃ m' : Nat, m = m' + 1 ∧ (fx_sm h z.2 ∧ mfr q [] [32, 38, 39, 40, 41] h z.2 ∧ 0 ≤ (fx_i z.2 q 32).toInt ∧ (z.1 = 0 → (fx_i z.2 q 32).toInt + m' = 12)) := by
  intro m y z hy hz
  obtain ⟨hs, hf, h0, h1⟩ := hy
  have e10 : (10 : Int32).toInt = 10 := rfl
  have e1 : (1 : Int32).toInt = 1 := rfl
  have hm : mfr q [] [32, 38, 39, 40, 41] h (k_MO_meet y.2 q (fx_i y.2 q 32 - 1)) := mfr_t hf (mfr_m (mfr_meet _ _ _) (by decide) (by decide))
  have hst : fx_i (k_MO_meet y.2 q (fx_i y.2 q 32 - 1)) q 32 = fx_i y.2 q 32 := (mfr_meet y.2 q (fx_i y.2 q 32 - 1)).2.2 32 (by decide)
  unfold fsI at hz
  split at hz
  · rename_i hy0
    have h2 := h1 hy0
    split at hz
    · exact absurd hz (by intro w; cases w)
    · rename_i h3
      rw [iz_lt, e10] at h3
      split at hz
      · cases hz
        have e2 : (fx_i (k_MO_meet y.2 q (fx_i y.2 q 32 - 1)) q 32 + 1).toInt = (fx_i y.2 q 32).toInt + 1 := by rw [hst, iz_add (by omega), e1]
        have e3 : fx_i (fx_wi (k_MO_meet y.2 q (fx_i y.2 q 32 - 1)) q 32 (fx_i (k_MO_meet y.2 q (fx_i y.2 q 32 - 1)) q 32 + 1)) q 32 = fx_i (k_MO_meet y.2 q (fx_i y.2 q 32 - 1)) q 32 + 1 := by rw [fx_i_wi, if_pos ⟨rfl, rfl⟩]
        have hw := mfr_wf (j := 32) (v := fx_i (k_MO_meet y.2 q (fx_i y.2 q 32 - 1)) q 32 + 1) hm (by decide)
        refine ⟨m - 1, by omega, hw.1, hw, ?_, fun _ => ?_⟩
        · show 0 ≤ (fx_i (fx_wi (k_MO_meet y.2 q (fx_i y.2 q 32 - 1)) q 32 (fx_i (k_MO_meet y.2 q (fx_i y.2 q 32 - 1)) q 32 + 1)) q 32).toInt
          rw [e3, e2]
          omega
        · show (fx_i (fx_wi (k_MO_meet y.2 q (fx_i y.2 q 32 - 1)) q 32 (fx_i (k_MO_meet y.2 q (fx_i y.2 q 32 - 1)) q 32 + 1)) q 32).toInt + ((m - 1 : Nat) : Int) = 12
          rw [e3, e2]
          omega
      · cases hz
        refine ⟨m - 1, by omega, hm.1, hm, ?_, fun w => absurd (show (1 : Int32) = 0 from w) (by decide)⟩
        show 0 ≤ (fx_i (k_MO_meet y.2 q (fx_i y.2 q 32 - 1)) q 32).toInt
        rw [hst]
        exact h0
  · exact absurd hz (by intro w; cases w)
def fsL (h : fx_H) (q : Nat) : Int32 × fx_H := lp (fsI q) (12 - (fx_i h q 32).toNatClampNeg) ((0 : Int32), h)
def k_MO_findStep (h : fx_H) (q : Nat) : fx_H := if (fx_i h (q + 21) (fx_i h q 23).toNatClampNeg) ≤ (fx_i h q 31) then fx_wi (fx_wi h (q + 21) (fx_i h q 23).toNatClampNeg (0 : Int32)) q 22 (2 : Int32) else if (fx_i h q 32) = 0 then h else if ((fsL h q).1) = 0 then if (fx_i (fx_wi (fx_wi ((fsL h q).2) q 31 ((fx_i ((fsL h q).2) q 31) + (1 : Int32))) q 32 (0 : Int32)) (q + 21) (fx_i (fx_wi (fx_wi ((fsL h q).2) q 31 ((fx_i ((fsL h q).2) q 31) + (1 : Int32))) q 32 (0 : Int32)) q 23).toNatClampNeg) ≤ (fx_i (fx_wi (fx_wi ((fsL h q).2) q 31 ((fx_i ((fsL h q).2) q 31) + (1 : Int32))) q 32 (0 : Int32)) q 31) then fx_wi (fx_wi (fx_wi (fx_wi ((fsL h q).2) q 31 ((fx_i ((fsL h q).2) q 31) + (1 : Int32))) q 32 (0 : Int32)) (q + 21) (fx_i (fx_wi (fx_wi ((fsL h q).2) q 31 ((fx_i ((fsL h q).2) q 31) + (1 : Int32))) q 32 (0 : Int32)) q 23).toNatClampNeg (0 : Int32)) q 22 (2 : Int32) else fx_wi (fx_wi ((fsL h q).2) q 31 ((fx_i ((fsL h q).2) q 31) + (1 : Int32))) q 32 (0 : Int32) else (fsL h q).2
set_option maxRecDepth 100000 in
set_option maxHeartbeats 600000 in
theorem c_MO_findStep {g : fx_G} (ok : fx_ok g) (h : fx_H) (q : Nat) (hm : isM h q) (hpre : fsPre h q) : fx_C g mq_MO_findStep [.ref q] h (fx_is none (k_MO_findStep h q)) 0 0 := by
  refine fx_body (by decide +kernel) (Nat.le_of_ble_eq_true rfl) ?_
  show fx_X g mq_MO_findStep 0 [(0, .ref q)] [] h _ 0 0
  refine fx_iconst (v := 0) dq_MO_findStep_0 (by decide) ?_
  refine fx_istore_n dq_MO_findStep_1 rfl (by decide) rfl ?_
  refine fx_iload_n 0 dq_MO_findStep_2 rfl rfl ?_
  refine fx_if_ne (tgt := 113) dq_MO_findStep_3 (by decide) (fun hc3 => absurd (by decide) hc3) (fun hc3 => ?_)
  refine fx_aload_n 1 dq_MO_findStep_6 rfl rfl ?_
  refine fx_geti ok fq_MO_219 hm.1 dq_MO_findStep_7 (by decide) ?_
  refine fx_aload_n 1 dq_MO_findStep_10 rfl rfl ?_
  refine fx_getr ok fq_MO_75 hm.1 dq_MO_findStep_11 (by decide) (mo_misses hm).1 ?_
  refine fx_aload_n 1 dq_MO_findStep_14 rfl rfl ?_
  refine fx_geti ok fq_MO_68 hm.1 dq_MO_findStep_15 (by decide) ?_
  refine fx_iaload ok (mo_misses hm).2 hpre.1 dq_MO_findStep_18 ?_
  refine fx_icmp_ge (tgt := 113) dq_MO_findStep_19 (by decide) (fun hc19 => ?_) (fun hc19 => ?_)
  · -- 19: jump
    refine fx_iload_n 0 dq_MO_findStep_113 rfl rfl ?_
    refine fx_if_eq (tgt := 118) dq_MO_findStep_114 (by decide) (fun hc114 => ?_) (fun hc114 => absurd (by decide) hc114)
    refine fx_aload_n 1 dq_MO_findStep_118 rfl rfl ?_
    refine fx_getr ok fq_MO_75 hm.1 dq_MO_findStep_119 (by decide) (mo_misses hm).1 ?_
    refine fx_aload_n 1 dq_MO_findStep_122 rfl rfl ?_
    refine fx_geti ok fq_MO_68 hm.1 dq_MO_findStep_123 (by decide) ?_
    refine fx_iconst (v := 0) dq_MO_findStep_126 (by decide) ?_
    refine fx_iastore ok (mo_misses hm).2 hpre.1 dq_MO_findStep_127 ?_
    refine fx_aload_n 1 dq_MO_findStep_128 rfl rfl ?_
    refine fx_iconst (v := 2) dq_MO_findStep_129 (by decide) ?_
    refine fx_puti ok fp_MO_216 hm.1 (by decide) dq_MO_findStep_130 (Or.inl (by decide)) ?_
    exact fx_vreturn rfl dq_MO_findStep_133 ⟨rfl, by rw [k_MO_findStep, if_pos hc19]⟩
  · -- 19: fall
    refine fx_aload_n 1 dq_MO_findStep_22 rfl rfl ?_
    refine fx_geti ok fq_MO_222 hm.1 dq_MO_findStep_23 (by decide) ?_
    refine fx_if_ne (tgt := 33) dq_MO_findStep_26 (by decide) (fun hc26 => ?_) (fun hc26 => ?_)
    · -- 26: jump
      refine fx_iconst (v := 0) dq_MO_findStep_33 (by decide) ?_
      refine fx_istore_n dq_MO_findStep_34 rfl (by decide) rfl ?_
      refine fx_lp (σ := Int32 × fx_H) (ex := 88) (fun y => [(1, .int y.1), (0, .ref q)]) (fun y => y.2) (fsI q) (fun m y => fx_sm h y.2 ∧ mfr q [] [32, 38, 39, 40, 41] h y.2 ∧ 0 ≤ (fx_i y.2 q 32).toInt ∧ (y.1 = 0 → (fx_i y.2 q 32).toInt + m = 12)) ((0 : Int32), h) (12 - (fx_i h q 32).toNatClampNeg) ⟨rfl, mfr_rf _ _ _ _, hpre.2.2.2.1, fun _ => fs_n hpre⟩ (hP_fsI h q) (fun m35 y hp35 hb35 hx35 hz35 => ?_) (fun m35 hp35 hn35 => ?_)
      · skip
        refine fx_iload_n 0 dq_MO_findStep_35 rfl rfl ?_
        refine fx_if_ne (tgt := 88) dq_MO_findStep_36 (by decide) (fun hc36 => ?_) (fun hc36 => ?_)
        · -- 36: jump
          refine fx_sub [0, 1] rfl ?_
          exact hx35 (by rw [fsI, if_neg hc36])
        · -- 36: fall
          refine fx_aload_n 1 dq_MO_findStep_39 rfl rfl ?_
          refine fx_geti ok fq_MO_222 ((fx_sm_s hp35.1 _).trans hm.1) dq_MO_findStep_40 (by decide) ?_
          refine fx_bipush (v := 10) dq_MO_findStep_43 (by decide) ?_
          refine fx_icmp_gt (tgt := 88) dq_MO_findStep_45 (by decide) (fun hc45 => ?_) (fun hc45 => ?_)
          · -- 45: jump
            refine fx_sub [0, 1] rfl ?_
            exact hx35 (by rw [fsI, if_pos hc36, if_pos hc45])
          · -- 45: fall
            refine fx_aload_n 1 dq_MO_findStep_48 rfl rfl ?_
            refine fx_aload_n 1 dq_MO_findStep_49 rfl rfl ?_
            refine fx_geti ok fq_MO_222 ((fx_sm_s hp35.1 _).trans hm.1) dq_MO_findStep_50 (by decide) ?_
            refine fx_iconst (v := 1) dq_MO_findStep_53 (by decide) ?_
            refine fx_isub dq_MO_findStep_54 ?_
            refine fx_Vv1 ok sq_MO_232 ((fx_sm_s hp35.1 _).trans hm.1) (c_MO_meet ok y.2 q ((fx_i y.2 q 32) - (1 : Int32)) (by exact isM_sm hp35.1 hm) (meet_pre (fs_14u hpre hc19 hp35.2.1))) (by decide) (Nat.le_of_ble_eq_true rfl) dq_MO_findStep_55 ?_
            have e55 : fx_sm h (k_MO_meet y.2 q ((fx_i y.2 q 32) - (1 : Int32))) := fx_sm_t (h' := y.2) hp35.1 (sm_MO_meet y.2 q ((fx_i y.2 q 32) - (1 : Int32)))
            refine fx_aload_n 1 dq_MO_findStep_58 rfl rfl ?_
            refine fx_geti ok fq_MO_144 ((fx_sm_s e55 _).trans hm.1) dq_MO_findStep_59 (by decide) ?_
            refine fx_if_le (tgt := 69) dq_MO_findStep_62 (by decide) (fun hc62 => ?_) (fun hc62 => ?_)
            · -- 62: jump
              refine fx_iconst (v := 0) dq_MO_findStep_69 (by decide) ?_
              refine fx_istore_n dq_MO_findStep_70 rfl (by decide) rfl ?_
              refine fx_iload_n 0 dq_MO_findStep_71 rfl rfl ?_
              refine fx_if_ne (tgt := 35) dq_MO_findStep_72 (by decide) (fun hc72 => absurd (by decide) hc72) (fun hc72 => ?_)
              refine fx_aload_n 1 dq_MO_findStep_75 rfl rfl ?_
              refine fx_dup dq_MO_findStep_76 rfl ?_
              refine fx_geti ok fq_MO_222 ((fx_sm_s e55 _).trans hm.1) dq_MO_findStep_77 (by decide) ?_
              refine fx_iconst (v := 1) dq_MO_findStep_80 (by decide) ?_
              refine fx_iadd dq_MO_findStep_81 ?_
              refine fx_puti ok fp_MO_222 ((fx_sm_s e55 _).trans hm.1) (by decide) dq_MO_findStep_82 (Or.inl (by decide)) ?_
              have e82w : fx_sm h (fx_wi (k_MO_meet y.2 q ((fx_i y.2 q 32) - (1 : Int32))) q 32 ((fx_i (k_MO_meet y.2 q ((fx_i y.2 q 32) - (1 : Int32))) q 32) + (1 : Int32))) := fx_sm_t (h' := (k_MO_meet y.2 q ((fx_i y.2 q 32) - (1 : Int32)))) e55 (sm_wi _ _ _ _)
              refine fx_goto (tgt := 35) dq_MO_findStep_85 (by decide) ?_
              refine fx_sub [0, 1] rfl ?_
              exact hb35 ((0 : Int32), fx_wi (k_MO_meet y.2 q ((fx_i y.2 q 32) - (1 : Int32))) q 32 ((fx_i (k_MO_meet y.2 q ((fx_i y.2 q 32) - (1 : Int32))) q 32) + (1 : Int32))) (by rw [fsI, if_pos hc36, if_neg hc45, if_pos hc62])
            · -- 62: fall
              refine fx_iconst (v := 1) dq_MO_findStep_65 (by decide) ?_
              refine fx_goto (tgt := 70) dq_MO_findStep_66 (by decide) ?_
              refine fx_istore_n dq_MO_findStep_70 rfl (by decide) rfl ?_
              refine fx_iload_n 0 dq_MO_findStep_71 rfl rfl ?_
              refine fx_if_ne (tgt := 35) dq_MO_findStep_72 (by decide) (fun hc72 => ?_) (fun hc72 => absurd hc72 (by decide))
              refine fx_sub [0, 1] rfl ?_
              exact hb35 ((1 : Int32), k_MO_meet y.2 q ((fx_i y.2 q 32) - (1 : Int32))) (by rw [fsI, if_pos hc36, if_neg hc45, if_neg hc62])
      · show fx_X g mq_MO_findStep 88 [(1, .int ((fsL h q).1)), (0, .ref q)] [] ((fsL h q).2) _ 0 0
        have e35x : fx_sm h ((fsL h q).2) := hp35.1
        have hpL := (show mfr q [] [32, 38, 39, 40, 41] h (fsL h q).2 from hp35.2.1)
        refine fx_iload_n 0 dq_MO_findStep_88 rfl rfl ?_
        refine fx_if_eq (tgt := 95) dq_MO_findStep_89 (by decide) (fun hc89 => ?_) (fun hc89 => ?_)
        · -- 89: jump
          refine fx_aload_n 1 dq_MO_findStep_95 rfl rfl ?_
          refine fx_dup dq_MO_findStep_96 rfl ?_
          refine fx_geti ok fq_MO_219 ((fx_sm_s e35x _).trans hm.1) dq_MO_findStep_97 (by decide) ?_
          refine fx_iconst (v := 1) dq_MO_findStep_100 (by decide) ?_
          refine fx_iadd dq_MO_findStep_101 ?_
          refine fx_puti ok fp_MO_219 ((fx_sm_s e35x _).trans hm.1) (by decide) dq_MO_findStep_102 (Or.inl (by decide)) ?_
          have e102w : fx_sm h (fx_wi ((fsL h q).2) q 31 ((fx_i ((fsL h q).2) q 31) + (1 : Int32))) := fx_sm_t (h' := ((fsL h q).2)) e35x (sm_wi _ _ _ _)
          refine fx_aload_n 1 dq_MO_findStep_105 rfl rfl ?_
          refine fx_iconst (v := 0) dq_MO_findStep_106 (by decide) ?_
          refine fx_puti ok fp_MO_222 ((fx_sm_s e102w _).trans hm.1) (by decide) dq_MO_findStep_107 (Or.inl (by decide)) ?_
          have e107w : fx_sm h (fx_wi (fx_wi ((fsL h q).2) q 31 ((fx_i ((fsL h q).2) q 31) + (1 : Int32))) q 32 (0 : Int32)) := fx_sm_t (h' := (fx_wi ((fsL h q).2) q 31 ((fx_i ((fsL h q).2) q 31) + (1 : Int32)))) e102w (sm_wi _ _ _ _)
          refine fx_goto (tgt := 2) dq_MO_findStep_110 (by decide) ?_
          refine fx_iload_n 0 dq_MO_findStep_2 rfl rfl ?_
          refine fx_if_ne (tgt := 113) dq_MO_findStep_3 (by decide) (fun hc3 => absurd hc89 hc3) (fun hc3 => ?_)
          refine fx_aload_n 1 dq_MO_findStep_6 rfl rfl ?_
          refine fx_geti ok fq_MO_219 ((fx_sm_s e107w _).trans hm.1) dq_MO_findStep_7 (by decide) ?_
          refine fx_aload_n 1 dq_MO_findStep_10 rfl rfl ?_
          refine fx_getr ok fq_MO_75 ((fx_sm_s e107w _).trans hm.1) dq_MO_findStep_11 (by decide) ((fx_sm_r e107w _ _).trans (mo_misses hm).1) ?_
          refine fx_aload_n 1 dq_MO_findStep_14 rfl rfl ?_
          refine fx_geti ok fq_MO_68 ((fx_sm_s e107w _).trans hm.1) dq_MO_findStep_15 (by decide) ?_
          refine fx_iaload ok ((fx_sm_s e107w _).trans (mo_misses hm).2) (fs_b hpL hpre.1) dq_MO_findStep_18 ?_
          refine fx_icmp_ge (tgt := 113) dq_MO_findStep_19 (by decide) (fun hc19b => ?_) (fun hc19b => ?_)
          · -- 19: jump
            refine fx_iload_n 0 dq_MO_findStep_113 rfl rfl ?_
            refine fx_if_eq (tgt := 118) dq_MO_findStep_114 (by decide) (fun hc114 => ?_) (fun hc114 => absurd hc89 hc114)
            refine fx_aload_n 1 dq_MO_findStep_118 rfl rfl ?_
            refine fx_getr ok fq_MO_75 ((fx_sm_s e107w _).trans hm.1) dq_MO_findStep_119 (by decide) ((fx_sm_r e107w _ _).trans (mo_misses hm).1) ?_
            refine fx_aload_n 1 dq_MO_findStep_122 rfl rfl ?_
            refine fx_geti ok fq_MO_68 ((fx_sm_s e107w _).trans hm.1) dq_MO_findStep_123 (by decide) ?_
            refine fx_iconst (v := 0) dq_MO_findStep_126 (by decide) ?_
            refine fx_iastore ok ((fx_sm_s e107w _).trans (mo_misses hm).2) (fs_b hpL hpre.1) dq_MO_findStep_127 ?_
            have e127w : fx_sm h (fx_wi (fx_wi (fx_wi ((fsL h q).2) q 31 ((fx_i ((fsL h q).2) q 31) + (1 : Int32))) q 32 (0 : Int32)) (q + 21) (fx_i (fx_wi (fx_wi ((fsL h q).2) q 31 ((fx_i ((fsL h q).2) q 31) + (1 : Int32))) q 32 (0 : Int32)) q 23).toNatClampNeg (0 : Int32)) := fx_sm_t (h' := (fx_wi (fx_wi ((fsL h q).2) q 31 ((fx_i ((fsL h q).2) q 31) + (1 : Int32))) q 32 (0 : Int32))) e107w (sm_wi _ _ _ _)
            refine fx_aload_n 1 dq_MO_findStep_128 rfl rfl ?_
            refine fx_iconst (v := 2) dq_MO_findStep_129 (by decide) ?_
            refine fx_puti ok fp_MO_216 ((fx_sm_s e127w _).trans hm.1) (by decide) dq_MO_findStep_130 (Or.inl (by decide)) ?_
            have e130w : fx_sm h (fx_wi (fx_wi (fx_wi (fx_wi ((fsL h q).2) q 31 ((fx_i ((fsL h q).2) q 31) + (1 : Int32))) q 32 (0 : Int32)) (q + 21) (fx_i (fx_wi (fx_wi ((fsL h q).2) q 31 ((fx_i ((fsL h q).2) q 31) + (1 : Int32))) q 32 (0 : Int32)) q 23).toNatClampNeg (0 : Int32)) q 22 (2 : Int32)) := fx_sm_t (h' := (fx_wi (fx_wi (fx_wi ((fsL h q).2) q 31 ((fx_i ((fsL h q).2) q 31) + (1 : Int32))) q 32 (0 : Int32)) (q + 21) (fx_i (fx_wi (fx_wi ((fsL h q).2) q 31 ((fx_i ((fsL h q).2) q 31) + (1 : Int32))) q 32 (0 : Int32)) q 23).toNatClampNeg (0 : Int32))) e127w (sm_wi _ _ _ _)
            exact fx_vreturn rfl dq_MO_findStep_133 ⟨rfl, by rw [k_MO_findStep, if_neg hc19, if_neg hc26, if_pos hc89, if_pos hc19b]⟩
          · -- 19: fall
            refine fx_aload_n 1 dq_MO_findStep_22 rfl rfl ?_
            refine fx_geti ok fq_MO_222 ((fx_sm_s e107w _).trans hm.1) dq_MO_findStep_23 (by decide) ?_
            refine fx_eqt (v' := (0 : Int32)) (by rw [fx_i_wi, if_pos ⟨rfl, rfl⟩]) ?_
            refine fx_if_ne (tgt := 33) dq_MO_findStep_26 (by decide) (fun hc26b => absurd (by decide) hc26b) (fun hc26b => ?_)
            refine fx_iconst (v := 1) dq_MO_findStep_29 (by decide) ?_
            refine fx_goto (tgt := 34) dq_MO_findStep_30 (by decide) ?_
            refine fx_istore_n dq_MO_findStep_34 rfl (by decide) rfl ?_
            refine fx_iload_n 0 dq_MO_findStep_35 rfl rfl ?_
            refine fx_if_ne (tgt := 88) dq_MO_findStep_36 (by decide) (fun hc36 => ?_) (fun hc36 => absurd hc36 (by decide))
            refine fx_iload_n 0 dq_MO_findStep_88 rfl rfl ?_
            refine fx_if_eq (tgt := 95) dq_MO_findStep_89 (by decide) (fun hc89b => absurd hc89b (by decide)) (fun hc89b => ?_)
            refine fx_goto (tgt := 2) dq_MO_findStep_92 (by decide) ?_
            refine fx_iload_n 0 dq_MO_findStep_2 rfl rfl ?_
            refine fx_if_ne (tgt := 113) dq_MO_findStep_3 (by decide) (fun hc3 => ?_) (fun hc3 => absurd hc3 (by decide))
            refine fx_iload_n 0 dq_MO_findStep_113 rfl rfl ?_
            refine fx_if_eq (tgt := 118) dq_MO_findStep_114 (by decide) (fun hc114 => absurd hc114 (by decide)) (fun hc114 => ?_)
            exact fx_vreturn rfl dq_MO_findStep_117 ⟨rfl, by rw [k_MO_findStep, if_neg hc19, if_neg hc26, if_pos hc89, if_neg hc19b]⟩
        · -- 89: fall
          refine fx_goto (tgt := 2) dq_MO_findStep_92 (by decide) ?_
          refine fx_iload_n 0 dq_MO_findStep_2 rfl rfl ?_
          refine fx_if_ne (tgt := 113) dq_MO_findStep_3 (by decide) (fun hc3 => ?_) (fun hc3 => absurd hc3 hc89)
          refine fx_iload_n 0 dq_MO_findStep_113 rfl rfl ?_
          refine fx_if_eq (tgt := 118) dq_MO_findStep_114 (by decide) (fun hc114 => absurd hc114 hc89) (fun hc114 => ?_)
          exact fx_vreturn rfl dq_MO_findStep_117 ⟨rfl, by rw [k_MO_findStep, if_neg hc19, if_neg hc26, if_neg hc89]⟩
    · -- 26: fall
      refine fx_iconst (v := 1) dq_MO_findStep_29 (by decide) ?_
      refine fx_goto (tgt := 34) dq_MO_findStep_30 (by decide) ?_
      refine fx_istore_n dq_MO_findStep_34 rfl (by decide) rfl ?_
      refine fx_iload_n 0 dq_MO_findStep_35 rfl rfl ?_
      refine fx_if_ne (tgt := 88) dq_MO_findStep_36 (by decide) (fun hc36 => ?_) (fun hc36 => absurd hc36 (by decide))
      refine fx_iload_n 0 dq_MO_findStep_88 rfl rfl ?_
      refine fx_if_eq (tgt := 95) dq_MO_findStep_89 (by decide) (fun hc89 => absurd hc89 (by decide)) (fun hc89 => ?_)
      refine fx_goto (tgt := 2) dq_MO_findStep_92 (by decide) ?_
      refine fx_iload_n 0 dq_MO_findStep_2 rfl rfl ?_
      refine fx_if_ne (tgt := 113) dq_MO_findStep_3 (by decide) (fun hc3 => ?_) (fun hc3 => absurd hc3 (by decide))
      refine fx_iload_n 0 dq_MO_findStep_113 rfl rfl ?_
      refine fx_if_eq (tgt := 118) dq_MO_findStep_114 (by decide) (fun hc114 => absurd hc114 (by decide)) (fun hc114 => ?_)
      exact fx_vreturn rfl dq_MO_findStep_117 ⟨rfl, by rw [k_MO_findStep, if_neg hc19, if_pos hc26]⟩
